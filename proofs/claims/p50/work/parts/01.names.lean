-- ===== PART A: goes FIRST, ahead of the names: the tables' words, and 'selects' of the private methods out of them =====
/-- a private method of a class that the tables say can be made, by its rows of tables_1 -/
def lw_okq (q : MethodName × Nat) : Prop := (q.1.cls ≠ "java/lang/invoke/MethodHandle" ∧ q.1.cls ≠ "java/lang/invoke/VarHandle") ∧ Cond.instantiable q.1.cls q.2 ∈ tables_1 ∧ Cond.privateMethod q.1 ∈ tables_1 ∧ Cond.instanceMethod q.1 ∈ tables_1
theorem lw_p0 : lw_okq (⟨"java/lang/Throwable", "fillInStackTrace", "(I)Ljava/lang/Throwable;"⟩, 6) := ⟨⟨by decide +kernel, by decide +kernel⟩, List.mem_of_getElem? (i := 185) (by decide +kernel), List.mem_of_getElem? (i := 183) (by decide +kernel), List.mem_of_getElem? (i := 184) (by decide +kernel)⟩
theorem lw_p1 : lw_okq (⟨"ZoneCalendar", "needPlace", "(I)LZoneCalendar$Place;"⟩, 8) := ⟨⟨by decide +kernel, by decide +kernel⟩, List.mem_of_getElem? (i := 18) (by decide +kernel), List.mem_of_getElem? (i := 236) (by decide +kernel), List.mem_of_getElem? (i := 237) (by decide +kernel)⟩
theorem lw_p2 : lw_okq (⟨"ZoneCalendar", "needPattern", "(I)LZoneCalendar$Pattern;"⟩, 8) := ⟨⟨by decide +kernel, by decide +kernel⟩, List.mem_of_getElem? (i := 18) (by decide +kernel), List.mem_of_getElem? (i := 256) (by decide +kernel), List.mem_of_getElem? (i := 257) (by decide +kernel)⟩
theorem lw_p3 : lw_okq (⟨"ZoneCalendar$Place", "addPiece", "(II)V"⟩, 7) := ⟨⟨by decide +kernel, by decide +kernel⟩, List.mem_of_getElem? (i := 55) (by decide +kernel), List.mem_of_getElem? (i := 310) (by decide +kernel), List.mem_of_getElem? (i := 311) (by decide +kernel)⟩
theorem lw_p4 : lw_okq (⟨"ZoneCalendar$Place", "tellTurns", "(I)V"⟩, 7) := ⟨⟨by decide +kernel, by decide +kernel⟩, List.mem_of_getElem? (i := 55) (by decide +kernel), List.mem_of_getElem? (i := 318) (by decide +kernel), List.mem_of_getElem? (i := 319) (by decide +kernel)⟩
theorem lw_p5 : lw_okq (⟨"ZoneCalendar$Pattern", "numberTold", "(II)I"⟩, 3) := ⟨⟨by decide +kernel, by decide +kernel⟩, List.mem_of_getElem? (i := 344) (by decide +kernel), List.mem_of_getElem? (i := 342) (by decide +kernel), List.mem_of_getElem? (i := 343) (by decide +kernel)⟩
theorem lw_p6 : lw_okq (⟨"ZoneCalendar$Place", "takeEarliest", "()I"⟩, 7) := ⟨⟨by decide +kernel, by decide +kernel⟩, List.mem_of_getElem? (i := 55) (by decide +kernel), List.mem_of_getElem? (i := 350) (by decide +kernel), List.mem_of_getElem? (i := 351) (by decide +kernel)⟩
theorem lw_p7 : lw_okq (⟨"ZoneCalendar$Series", "findCounting", "(LZoneCalendar$DayRow;)V"⟩, 18) := ⟨⟨by decide +kernel, by decide +kernel⟩, List.mem_of_getElem? (i := 366) (by decide +kernel), List.mem_of_getElem? (i := 466) (by decide +kernel), List.mem_of_getElem? (i := 467) (by decide +kernel)⟩
theorem lw_p8 : lw_okq (⟨"ZoneCalendar$Series", "spanBegin", "(I)I"⟩, 18) := ⟨⟨by decide +kernel, by decide +kernel⟩, List.mem_of_getElem? (i := 366) (by decide +kernel), List.mem_of_getElem? (i := 470) (by decide +kernel), List.mem_of_getElem? (i := 471) (by decide +kernel)⟩
theorem lw_p9 : lw_okq (⟨"ZoneCalendar$Series", "markTold", "(LZoneCalendar$DayRow;LZoneCalendar$Pattern;)V"⟩, 18) := ⟨⟨by decide +kernel, by decide +kernel⟩, List.mem_of_getElem? (i := 366) (by decide +kernel), List.mem_of_getElem? (i := 486) (by decide +kernel), List.mem_of_getElem? (i := 487) (by decide +kernel)⟩
theorem lw_p10 : lw_okq (⟨"ZoneCalendar$Series", "rightWeekdays", "()I"⟩, 18) := ⟨⟨by decide +kernel, by decide +kernel⟩, List.mem_of_getElem? (i := 366) (by decide +kernel), List.mem_of_getElem? (i := 490) (by decide +kernel), List.mem_of_getElem? (i := 491) (by decide +kernel)⟩
theorem lw_p11 : lw_okq (⟨"ZoneCalendar$Series", "takeSpan", "(LZoneCalendar$DayRow;II)V"⟩, 18) := ⟨⟨by decide +kernel, by decide +kernel⟩, List.mem_of_getElem? (i := 366) (by decide +kernel), List.mem_of_getElem? (i := 513) (by decide +kernel), List.mem_of_getElem? (i := 514) (by decide +kernel)⟩
theorem lw_p12 : lw_okq (⟨"ZoneCalendar$Series", "chosen", "(LZoneCalendar$DayRow;II)I"⟩, 18) := ⟨⟨by decide +kernel, by decide +kernel⟩, List.mem_of_getElem? (i := 366) (by decide +kernel), List.mem_of_getElem? (i := 517) (by decide +kernel), List.mem_of_getElem? (i := 518) (by decide +kernel)⟩
theorem lw_p13 : lw_okq (⟨"ZoneCalendar$Series", "takeDay", "(I)V"⟩, 18) := ⟨⟨by decide +kernel, by decide +kernel⟩, List.mem_of_getElem? (i := 366) (by decide +kernel), List.mem_of_getElem? (i := 528) (by decide +kernel), List.mem_of_getElem? (i := 529) (by decide +kernel)⟩
theorem lw_p14 : lw_okq (⟨"ZoneCalendar", "needSeries", "(I)LZoneCalendar$Series;"⟩, 8) := ⟨⟨by decide +kernel, by decide +kernel⟩, List.mem_of_getElem? (i := 18) (by decide +kernel), List.mem_of_getElem? (i := 540) (by decide +kernel), List.mem_of_getElem? (i := 541) (by decide +kernel)⟩
theorem lw_p15 : lw_okq (⟨"ZoneCalendar", "digestPatterns", "(J)J"⟩, 8) := ⟨⟨by decide +kernel, by decide +kernel⟩, List.mem_of_getElem? (i := 18) (by decide +kernel), List.mem_of_getElem? (i := 606) (by decide +kernel), List.mem_of_getElem? (i := 607) (by decide +kernel)⟩
def lw_privs_1 : List (MethodName × Nat) := [(⟨"java/lang/Throwable", "fillInStackTrace", "(I)Ljava/lang/Throwable;"⟩, 6), (⟨"ZoneCalendar", "needPlace", "(I)LZoneCalendar$Place;"⟩, 8), (⟨"ZoneCalendar", "needPattern", "(I)LZoneCalendar$Pattern;"⟩, 8), (⟨"ZoneCalendar$Place", "addPiece", "(II)V"⟩, 7), (⟨"ZoneCalendar$Place", "tellTurns", "(I)V"⟩, 7), (⟨"ZoneCalendar$Pattern", "numberTold", "(II)I"⟩, 3), (⟨"ZoneCalendar$Place", "takeEarliest", "()I"⟩, 7), (⟨"ZoneCalendar$Series", "findCounting", "(LZoneCalendar$DayRow;)V"⟩, 18), (⟨"ZoneCalendar$Series", "spanBegin", "(I)I"⟩, 18), (⟨"ZoneCalendar$Series", "markTold", "(LZoneCalendar$DayRow;LZoneCalendar$Pattern;)V"⟩, 18), (⟨"ZoneCalendar$Series", "rightWeekdays", "()I"⟩, 18), (⟨"ZoneCalendar$Series", "takeSpan", "(LZoneCalendar$DayRow;II)V"⟩, 18), (⟨"ZoneCalendar$Series", "chosen", "(LZoneCalendar$DayRow;II)I"⟩, 18), (⟨"ZoneCalendar$Series", "takeDay", "(I)V"⟩, 18), (⟨"ZoneCalendar", "needSeries", "(I)LZoneCalendar$Series;"⟩, 8), (⟨"ZoneCalendar", "digestPatterns", "(J)J"⟩, 8)]
theorem lw_r1 : ∀ q ∈ lw_privs_1, lw_okq q := List.forall_mem_cons.mpr ⟨lw_p0, List.forall_mem_cons.mpr ⟨lw_p1, List.forall_mem_cons.mpr ⟨lw_p2, List.forall_mem_cons.mpr ⟨lw_p3, List.forall_mem_cons.mpr ⟨lw_p4, List.forall_mem_cons.mpr ⟨lw_p5, List.forall_mem_cons.mpr ⟨lw_p6, List.forall_mem_cons.mpr ⟨lw_p7, List.forall_mem_cons.mpr ⟨lw_p8, List.forall_mem_cons.mpr ⟨lw_p9, List.forall_mem_cons.mpr ⟨lw_p10, List.forall_mem_cons.mpr ⟨lw_p11, List.forall_mem_cons.mpr ⟨lw_p12, List.forall_mem_cons.mpr ⟨lw_p13, List.forall_mem_cons.mpr ⟨lw_p14, List.forall_mem_cons.mpr ⟨lw_p15, fun _ h => absurd h List.not_mem_nil⟩⟩⟩⟩⟩⟩⟩⟩⟩⟩⟩⟩⟩⟩⟩⟩
theorem lw_p16 : lw_okq (⟨"ZoneCalendar", "digestPlaces", "(J)J"⟩, 8) := ⟨⟨by decide +kernel, by decide +kernel⟩, List.mem_of_getElem? (i := 18) (by decide +kernel), List.mem_of_getElem? (i := 626) (by decide +kernel), List.mem_of_getElem? (i := 627) (by decide +kernel)⟩
theorem lw_p17 : lw_okq (⟨"ZoneCalendar$Place", "pieceSaving", "(I)I"⟩, 7) := ⟨⟨by decide +kernel, by decide +kernel⟩, List.mem_of_getElem? (i := 55) (by decide +kernel), List.mem_of_getElem? (i := 644) (by decide +kernel), List.mem_of_getElem? (i := 645) (by decide +kernel)⟩
theorem lw_p18 : lw_okq (⟨"ZoneCalendar$Place", "latest", "(I)J"⟩, 7) := ⟨⟨by decide +kernel, by decide +kernel⟩, List.mem_of_getElem? (i := 55) (by decide +kernel), List.mem_of_getElem? (i := 661) (by decide +kernel), List.mem_of_getElem? (i := 662) (by decide +kernel)⟩
theorem lw_p19 : lw_okq (⟨"ZoneCalendar$Place", "earliest", "(I)J"⟩, 7) := ⟨⟨by decide +kernel, by decide +kernel⟩, List.mem_of_getElem? (i := 55) (by decide +kernel), List.mem_of_getElem? (i := 665) (by decide +kernel), List.mem_of_getElem? (i := 666) (by decide +kernel)⟩
theorem lw_p20 : lw_okq (⟨"ZoneCalendar$Place", "shownIn", "(II)I"⟩, 7) := ⟨⟨by decide +kernel, by decide +kernel⟩, List.mem_of_getElem? (i := 55) (by decide +kernel), List.mem_of_getElem? (i := 670) (by decide +kernel), List.mem_of_getElem? (i := 671) (by decide +kernel)⟩
theorem lw_p21 : lw_okq (⟨"ZoneCalendar$Place", "momentPassing", "(III)I"⟩, 7) := ⟨⟨by decide +kernel, by decide +kernel⟩, List.mem_of_getElem? (i := 55) (by decide +kernel), List.mem_of_getElem? (i := 682) (by decide +kernel), List.mem_of_getElem? (i := 683) (by decide +kernel)⟩
theorem lw_p22 : lw_okq (⟨"ZoneCalendar", "digestSeries", "(J)J"⟩, 8) := ⟨⟨by decide +kernel, by decide +kernel⟩, List.mem_of_getElem? (i := 18) (by decide +kernel), List.mem_of_getElem? (i := 690) (by decide +kernel), List.mem_of_getElem? (i := 691) (by decide +kernel)⟩
theorem lw_p23 : lw_okq (⟨"ZoneCalendar", "digestDates", "(JLZoneCalendar$Series;)J"⟩, 8) := ⟨⟨by decide +kernel, by decide +kernel⟩, List.mem_of_getElem? (i := 18) (by decide +kernel), List.mem_of_getElem? (i := 699) (by decide +kernel), List.mem_of_getElem? (i := 700) (by decide +kernel)⟩
theorem lw_p24 : lw_okq (⟨"ZoneCalendar", "digestWork", "(J)J"⟩, 8) := ⟨⟨by decide +kernel, by decide +kernel⟩, List.mem_of_getElem? (i := 18) (by decide +kernel), List.mem_of_getElem? (i := 709) (by decide +kernel), List.mem_of_getElem? (i := 710) (by decide +kernel)⟩
theorem lw_p25 : lw_okq (⟨"ZoneCalendar$Work", "findFeast", "(LZoneCalendar$Feast;III)V"⟩, 8) := ⟨⟨by decide +kernel, by decide +kernel⟩, List.mem_of_getElem? (i := 49) (by decide +kernel), List.mem_of_getElem? (i := 727) (by decide +kernel), List.mem_of_getElem? (i := 728) (by decide +kernel)⟩
theorem lw_p26 : lw_okq (⟨"ZoneCalendar$Work", "moved", "(III)I"⟩, 8) := ⟨⟨by decide +kernel, by decide +kernel⟩, List.mem_of_getElem? (i := 49) (by decide +kernel), List.mem_of_getElem? (i := 732) (by decide +kernel), List.mem_of_getElem? (i := 733) (by decide +kernel)⟩
theorem lw_p27 : lw_okq (⟨"ZoneCalendar$Work", "takes", "(III)Z"⟩, 8) := ⟨⟨by decide +kernel, by decide +kernel⟩, List.mem_of_getElem? (i := 49) (by decide +kernel), List.mem_of_getElem? (i := 736) (by decide +kernel), List.mem_of_getElem? (i := 737) (by decide +kernel)⟩
theorem lw_p28 : lw_okq (⟨"ZoneCalendar$Work", "localMinutes", "(II)I"⟩, 8) := ⟨⟨by decide +kernel, by decide +kernel⟩, List.mem_of_getElem? (i := 49) (by decide +kernel), List.mem_of_getElem? (i := 778) (by decide +kernel), List.mem_of_getElem? (i := 779) (by decide +kernel)⟩
def lw_privs_2 : List (MethodName × Nat) := [(⟨"ZoneCalendar", "digestPlaces", "(J)J"⟩, 8), (⟨"ZoneCalendar$Place", "pieceSaving", "(I)I"⟩, 7), (⟨"ZoneCalendar$Place", "latest", "(I)J"⟩, 7), (⟨"ZoneCalendar$Place", "earliest", "(I)J"⟩, 7), (⟨"ZoneCalendar$Place", "shownIn", "(II)I"⟩, 7), (⟨"ZoneCalendar$Place", "momentPassing", "(III)I"⟩, 7), (⟨"ZoneCalendar", "digestSeries", "(J)J"⟩, 8), (⟨"ZoneCalendar", "digestDates", "(JLZoneCalendar$Series;)J"⟩, 8), (⟨"ZoneCalendar", "digestWork", "(J)J"⟩, 8), (⟨"ZoneCalendar$Work", "findFeast", "(LZoneCalendar$Feast;III)V"⟩, 8), (⟨"ZoneCalendar$Work", "moved", "(III)I"⟩, 8), (⟨"ZoneCalendar$Work", "takes", "(III)Z"⟩, 8), (⟨"ZoneCalendar$Work", "localMinutes", "(II)I"⟩, 8)]
theorem lw_r2 : ∀ q ∈ lw_privs_2, lw_okq q := List.forall_mem_cons.mpr ⟨lw_p16, List.forall_mem_cons.mpr ⟨lw_p17, List.forall_mem_cons.mpr ⟨lw_p18, List.forall_mem_cons.mpr ⟨lw_p19, List.forall_mem_cons.mpr ⟨lw_p20, List.forall_mem_cons.mpr ⟨lw_p21, List.forall_mem_cons.mpr ⟨lw_p22, List.forall_mem_cons.mpr ⟨lw_p23, List.forall_mem_cons.mpr ⟨lw_p24, List.forall_mem_cons.mpr ⟨lw_p25, List.forall_mem_cons.mpr ⟨lw_p26, List.forall_mem_cons.mpr ⟨lw_p27, List.forall_mem_cons.mpr ⟨lw_p28, fun _ h => absurd h List.not_mem_nil⟩⟩⟩⟩⟩⟩⟩⟩⟩⟩⟩⟩⟩
def lw_privs : List (MethodName × Nat) := lw_privs_1 ++ (lw_privs_2)
def lw_tbl : List Cond := k2_sels lw_privs ++ tables_1
theorem lw_privs_ok : ∀ q ∈ lw_privs, lw_okq q := by
  show ∀ q ∈ lw_privs_1 ++ (lw_privs_2), lw_okq q
  exact List.forall_mem_append.mpr ⟨lw_r1, lw_r2⟩
/-- the streams that the claim lets the run draw from -/
abbrev lw_cs : List Choice := [Jvm.Choice.named "NaN.bits"]
theorem lw_bits : nanBits ∈ lw_cs := by first | decide | exact List.mem_cons_self | simp [lw_cs, nanBits]
-- ===== end of PART A; then your names; then what follows =====
/-! ===== BEGIN words of one list among another's, by their places ===== -/
theorem goodIn_r {big : List Cond} (ws : List Cond) (ps : List Nat) (hp : ws = ps.filterMap (fun i => big[i]?)) (h : ws.all goodWord = true) : GoodIn big ws := by
  intro w hw
  have h1 := List.all_eq_true.mp h w hw
  rw [hp] at hw
  obtain ⟨i, -, hi⟩ := List.mem_filterMap.mp hw
  have hm : w ∈ big := by first | exact List.mem_of_getElem? hi | exact List.getElem?_mem hi
  exact ⟨hm, good_of_word h1⟩
theorem goodIn_app {big a b : List Cond} (ha : GoodIn big a) (hb : GoodIn big b) : GoodIn big (a ++ b) := fun w h => (List.mem_append.mp h).elim (ha w) (hb w)
theorem goodIn_ca {big a b : List Cond} {c : Cond} (ha : GoodIn big (c :: a)) (hb : GoodIn big b) : GoodIn big (c :: (a ++ b)) := fun w h => (List.mem_cons.mp h).elim (fun e => ha w (List.mem_cons.mpr (Or.inl e))) (fun h => (List.mem_append.mp h).elim (fun h => ha w (List.mem_cons.mpr (Or.inr h))) (hb w))
theorem goodIn_sub {big ws : List Cond} (hm : ∀ w ∈ ws, w ∈ big) (h : ws.all goodWord = true) : GoodIn big ws := fun w hw => ⟨hm w hw, good_of_word (List.all_eq_true.mp h w hw)⟩
/-! ===== END ===== -/

/-! ===== BEGIN exceptions that leave a method, and their catching by the caller (launches without stack traces) ===== -/
section VXA
/-! The laws vx_back, vx_callV, vx_callS, vx_callSW, vx_throw0, vx_throwS follow proofs of the library, with one case more: JvmDerived/Free/Laws.lean (Back.of_free), Shelf42/LK1.lean (callV, callS), Shelf/KitTraced.lean (throwNew0V, throwNewS). -/
/-- where a method has thrown q: the class by its name, the cell, what was written, the world -/
def vx_T (XC : String → State → State → Prop) (st : State) (q : Addr) (t : State) (mc ms : Nat) (free : Addr → Prop) : Prop :=
  ∃ (E : String) (ce : Cell) (L : List Loc), XC E st t ∧ t.heap[q]? = some ce ∧ ce.vm = .none ∧ st.vm.findClass E = some ce.cls ∧ st.WarmedH t.vm ∧ st.sameButNew ({ t with vm := st.vm } : State) L mc ms ∧ ∀ z ∈ L, free z.base
def vx_Q (Qc : Array Value → State → Outcome → State → Prop) (XC : String → State → State → Prop) (mc ms : Nat) (free : Addr → Prop) : Array Value → State → Outcome → State → Prop := fun a st o t =>
  (Qc a st o t ∧ ∃ L, FrameEnd st o t L mc ms ∧ ∀ q ∈ L, free q.base) ∨ ∃ q, o = .threw q ∧ vx_T XC st q t mc ms free
/-- a callee that returns or throws -/
def vx_Met (l : Launch) (y : MethodName) (ws : List Cond) (rm : Room) (Pc : Array Value → State → Prop) (Qc : Array Value → State → Outcome → State → Prop) (XC : String → State → State → Prop) (mc ms : Nat) (free : Addr → Prop) : Prop :=
  MetFree l y (headSpec ws rm) Pc (fun _ _ _ _ _ => True) (vx_Q Qc XC mc ms free)
def vx_Post (XC : String → State → State → Prop) (mc ms : Nat) (free : Addr → Prop) : Pt → Array Value → Addr → Pt → Prop := fun A a q B =>
  ∃ (g : JFrame) (mk : MethodId) (t : State) (L : List Loc) (E : String) (ce : Cell), B.U.heap = t.heap ∧ B.U.vm = t.vm ∧ XC E (A.U.calling g mk a) t ∧ t.heap[q]? = some ce ∧ ce.vm = .none ∧ A.U.vm.findClass E = some ce.cls ∧ B.locs = A.locs ++ L ∧ (∀ z ∈ L, free z.base) ∧ B.cells = A.cells + mc ∧ B.slots = A.slots + ms
def vx_Back (l : Launch) (R : Room) (p : Program) (e : Env) (below : List Frame) (s : State) (sargs : Array Value) (y : MethodName) (len W9 : Nat)
    (Pre : Pt → Array Value → Prop) (Post : Pt → Array Value → Option Value → Pt → Prop) (PostX : Pt → Array Value → Addr → Pt → Prop) : Prop :=
  ∀ (m : MethodId) (meth : Method) (c : Code) (A : Pt) (g : JFrame) (ig : Instr) (mk : MethodId) (a : Array Value),
    Stand p l e R s m sargs below meth c A.U A.locs A.cells A.slots → g.method = m → g.locals.size = c.maxLocals → decode c.code g.pc = .ok (ig, len) →
    2 * g.monitorRoom + (g.stack.map fun v => v.category).sum ≤ W9 → A.U.methodNamed? y = some mk → Pre A a →
    (∃ (v : Option Value) (B : Pt), Stand p l e R s m sargs below meth c B.U B.locs B.cells B.slots ∧ Post A a v B ∧
      Steps p.tables e below (doInvoke e (A.U.setTop g) [] mk a).1 (B.U.setTop { g with pc := g.pc + len, stack := v.toList ++ g.stack })) ∨
    (∃ (q : Addr) (B : Pt), Stand p l e R s m sargs below meth c B.U B.locs B.cells B.slots ∧ PostX A a q B ∧
      Steps p.tables e below (doInvoke e (A.U.setTop g) [] mk a).1 ((B.U.setTop g).pushFrame (.throwing q)))
section Payer
variable {l : Launch} {R : Room} {p : Program} {e : Env} {below : List Frame} {s : State} {sargs : Array Value} {y : MethodName} {len W9 : Nat}
theorem vx_back {ws : List Cond} {rm : Room} {Pc : Array Value → State → Prop} {Qc : Array Value → State → Outcome → State → Prop} {XC : String → State → State → Prop} {mc ms : Nat} {free : Addr → Prop} {bytes : ByteArray} {maxL : Nat} {ret : Option FieldType}
    (hM : vx_Met l y ws rm Pc Qc XC mc ms free) (hblind : FrameBlind Pc) (hrc : rm.cells = mc) (hrs : rm.slots = ms)
    (hframes : rm.frames + 1 ≤ R.frames) (hlocals : W9 + (maxL + 11) + rm.locals ≤ R.locals)
    (hws : ∀ w ∈ ws, ∀ a' U, s.WarmedH U.vm → w.before a' U = true) (hcode : Cond.code y bytes maxL ret ∈ ws) (hinit : ∀ a' U, s.WarmedH U.vm → (Cond.initialized y.cls).before a' U = true) :
    vx_Back l R p e below s sargs y len W9 (PreOf R mc ms Pc) (PostOf Qc mc ms free) (vx_Post XC mc ms free) := by
  intro m meth c A g ig mk a X hg hsize hdg hW hn hp
  have h1 : (headSpec ws rm).pre.before a A.U = true := atoms_intro fun w hw => hws w hw _ _ X.warmed
  have h2 : (Cond.code y bytes maxL ret).before a A.U = true := hws _ hcode _ _ X.warmed
  have h3 : (Cond.initialized y.cls).before a A.U = true := hinit _ _ X.warmed
  have h4 : A.cells + (headSpec ws rm).room.cells ≤ R.cells := by rw [show (headSpec ws rm).room.cells = mc from hrc]; exact hp.1
  have h5 : A.slots + (headSpec ws rm).room.slots ≤ R.slots := by rw [show (headSpec ws rm).room.slots = ms from hrs]; exact hp.2.1
  have hPc : Pc a (A.U.calling g mk a) := hblind _ _ _ _ hp.2.2
  obtain ⟨U, Ls, c0, s0⟩ := A
  dsimp only [Pt.U, Pt.locs, Pt.cells, Pt.slots] at h1 h2 h3 h4 h5 X hn hPc ⊢
  obtain ⟨methY, cY, hmY, hcY, -, hlY, -, -, -, -⟩ := Cond.code_spec hn h2
  obtain ⟨kY, hkY, -⟩ := className_of_methodNamed hn
  have hinitY : kY.init = .initialized := Cond.initialized_spec (findClass_of_methodNamed hn) hkY h3
  have h : At U g.method c below := by rw [hg]; exact X.here
  have hlocals9 : W9 + (maxL + 11) + (headSpec ws rm).room.locals ≤ R.locals := hlocals
  have happ : (headSpec ws rm).appliesLoose y e.platform (U.calling g mk a) = true :=
    Spec.appliesLoose_calling (g := g) h hdg hn hkY hinitY
      (X.room_calling (g := g) (R' := (headSpec ws rm).room) hsize hmY hcY hframes (by rw [hlY]; omega) h4 h5) h1
  obtain ⟨mid, hmid⟩ := h.above
  have hfr : (U.setTop g).frames = (.java g :: mid) ++ below := by rw [State.frames_setTop' g h.top, hmid]; rfl
  obtain ⟨o, s₂, hsteps, -, hend, hq⟩ := Steps.callFree hM p X.admits X.cas X.clock (acts := []) hfr happ hPc trivial
  have hq' : vx_Q Qc XC mc ms free a (U.calling g mk a) o s₂ := hq
  rw [State.frames_setTop' g h.top] at hend
  obtain ⟨g₀, hg0⟩ := Option.isSome_iff_exists.mp h.top
  obtain ⟨r, hr⟩ := State.topJava?_eq_some.mp hg0
  have hr' : (({ U with heap := s₂.heap, slotsUsed := s₂.slotsUsed } : State).setVm s₂.vm).frames = .java g₀ :: r := hr
  rcases hq' with ⟨hqc, L, hfe, hL⟩ | ⟨q, rfl, E, ce, L, hx, hce, hcv, hcl, hW₂, hsm, hL⟩
  · obtain ⟨⟨v, rfl⟩, hW₂, e2, q2, q3, q4, q5, q6⟩ := id hfe
    have e3 : s₂ = ({ (U.calling g mk a).setFrames s₂.frames with heap := s₂.heap, slotsUsed := s₂.slotsUsed } : State).setVm s₂.vm := by
      have : s₂ = ({ s₂ with vm := (U.calling g mk a).vm } : State).setVm s₂.vm := rfl
      rw [e2] at this
      exact this
    obtain ⟨c₂, i₂, len₂, hc₂, hd₂, hf₂⟩ := hend
    have hW' : U.WarmedH s₂.vm := hW₂
    have hcc : c₂ = c := by
      have h1 : s₂.code? g.method = U.code? g.method := by
        rw [State.code?_eq, State.code?_eq, hW'.alike.method?]
      exact Option.some.inj (hc₂.symm.trans (h1.trans h.code))
    subst hcc
    have hlen : len₂ = len := by rw [hdg] at hd₂; cases hd₂; rfl
    subst hlen
    have hs₂ : s₂ = (({ U with heap := s₂.heap, slotsUsed := s₂.slotsUsed } : State).setVm s₂.vm).setTop { g with pc := g.pc + len₂, stack := v.toList ++ g.stack } := by
      refine e3.trans ?_
      rw [hf₂, State.calling_eq h.top, State.setFrames_setFrames, State.setTop_of_frames _ hr', hr]
      rfl
    have hsame : U.sameButNew ({ U with heap := s₂.heap, slotsUsed := s₂.slotsUsed } : State) L mc ms := by
      refine ⟨?_, q2, q3, q4, q5, q6⟩
      obtain ⟨t, ht, -⟩ := State.frames_cons hr
      show ({ U with heap := s₂.heap, slotsUsed := s₂.slotsUsed } : State) = { U.setFrames U.frames with heap := s₂.heap, slotsUsed := s₂.slotsUsed }
      rw [State.setFrames_self ht]
    subst hg
    refine Or.inl ⟨v, ⟨(({ U with heap := s₂.heap, slotsUsed := s₂.slotsUsed } : State).setVm s₂.vm), Ls ++ L, c0 + mc, s0 + ms⟩,
      ⟨X.admits, X.cas, X.clock, X.frames, X.room, X.hears, X.method, X.code, (X.here.setHeapUsed s₂.heap s₂.slotsUsed).setVm hW'.alike, X.tail, State.WarmedH.trans X.warmed hW', X.limits, X.bytes, X.same.trans (hsame.setVm s.vm)⟩,
      ⟨g, mk, s₂, L, rfl, rfl, hqc, rfl, hL, rfl, rfl⟩, ?_⟩
    show Steps p.tables e below _ ((({ U with heap := s₂.heap, slotsUsed := s₂.slotsUsed } : State).setVm s₂.vm).setTop { g with pc := g.pc + len₂, stack := v.toList ++ g.stack })
    rw [← hs₂]
    exact hsteps
  · obtain ⟨e2, q2, q3, q4, q5, q6⟩ := id hsm
    have e3 : s₂ = ({ (U.calling g mk a).setFrames s₂.frames with heap := s₂.heap, slotsUsed := s₂.slotsUsed } : State).setVm s₂.vm := by
      have : s₂ = ({ s₂ with vm := (U.calling g mk a).vm } : State).setVm s₂.vm := rfl
      rw [e2] at this
      exact this
    have hf₂ : s₂.frames = .throwing q :: .java g :: U.frames.tail := hend
    have hW' : U.WarmedH s₂.vm := hW₂
    have hs₂ : s₂ = ((({ U with heap := s₂.heap, slotsUsed := s₂.slotsUsed } : State).setVm s₂.vm).setTop g).pushFrame (.throwing q) := by
      refine e3.trans ?_
      rw [hf₂, State.calling_eq h.top, State.setFrames_setFrames, State.pushFrame, State.frames_setTop _ hr', State.setTop_of_frames _ hr', State.setFrames_setFrames, hr]
      rfl
    have hsame : U.sameButNew ({ U with heap := s₂.heap, slotsUsed := s₂.slotsUsed } : State) L mc ms := by
      refine ⟨?_, q2, q3, q4, q5, q6⟩
      obtain ⟨t, ht, -⟩ := State.frames_cons hr
      show ({ U with heap := s₂.heap, slotsUsed := s₂.slotsUsed } : State) = { U.setFrames U.frames with heap := s₂.heap, slotsUsed := s₂.slotsUsed }
      rw [State.setFrames_self ht]
    subst hg
    refine Or.inr ⟨q, ⟨(({ U with heap := s₂.heap, slotsUsed := s₂.slotsUsed } : State).setVm s₂.vm), Ls ++ L, c0 + mc, s0 + ms⟩,
      ⟨X.admits, X.cas, X.clock, X.frames, X.room, X.hears, X.method, X.code, (X.here.setHeapUsed s₂.heap s₂.slotsUsed).setVm hW'.alike, X.tail, State.WarmedH.trans X.warmed hW', X.limits, X.bytes, X.same.trans (hsame.setVm s.vm)⟩,
      ⟨g, mk, s₂, L, E, ce, rfl, rfl, hx, hce, hcv, hcl, rfl, hL, rfl, rfl⟩, ?_⟩
    show Steps p.tables e below _ (((({ U with heap := s₂.heap, slotsUsed := s₂.slotsUsed } : State).setVm s₂.vm).setTop g).pushFrame (.throwing q))
    rw [← hs₂]
    exact hsteps
end Payer
section Calls
variable {p : Program} {l : Launch} {e : Env} {R : Room} {s : State} {m : MethodId} {args : Array Value} {below : List Frame} {meth : Method} {c : Code} {T : State} {locs : List Loc} {cells slots : Nat}
theorem vx_callV (X : Stand p l e R s m args below meth c T locs cells slots) (hexec : p.tables.exec = Jvm.exec) {own C : String} {index : Nat} {y : MethodName} {bytes : ByteArray} {maxL : Nat} {ret : Option FieldType}
    (hown : s.vm.findClass own = some m.cls) (hlink : (Cond.methodLink own index y).before args s = true) (hinst : (Cond.instanceMethod y).before args s = true) (hsel : (Cond.selects C y y).before args s = true)
    (hcode : (Cond.code y bytes maxL ret).before args s = true) (hy : y.cls ≠ "java/lang/invoke/MethodHandle" ∧ y.cls ≠ "java/lang/invoke/VarHandle")
    {W9 : Nat} {Pre : Pt → Array Value → Prop} {Post : Pt → Array Value → Option Value → Pt → Prop} {PostX : Pt → Array Value → Addr → Pt → Prop} (hK : vx_Back l R p e below s args y 3 W9 Pre Post PostX)
    {b : Addr} {cellB : Cell} (hcell : T.heap[b]? = some cellB) (hobj : cellB.vm.isStatics = false) (hcls : s.vm.findClass C = some cellB.cls)
    {g : JFrame} (hg : g.method = m) (hsize : g.locals.size = c.maxLocals) {argsL rest : List Value} (hlen : ∀ sig, parseMethodDescriptor y.desc = some sig → argsL.length = sig.parameters.length)
    (hstack : g.stack = argsL.reverse ++ .ref b :: rest) (hW : 2 * g.monitorRoom + (rest.map fun v => v.category).sum ≤ W9) (hdg : decode c.code g.pc = .ok (.invokevirtual index, 3))
    (hpre : ∀ vm₁, s.WarmedH vm₁ → Pre ⟨T.setVm vm₁, locs, cells, slots⟩ (Value.ref b :: argsL).toArray) :
    (∃ (v : Option Value) (vm₁ : Vm) (B : Pt), s.WarmedH vm₁ ∧ Stand p l e R s m args below meth c B.U B.locs B.cells B.slots ∧ Post ⟨T.setVm vm₁, locs, cells, slots⟩ (Value.ref b :: argsL).toArray v B ∧
      ∀ target, Steps p.tables e below (B.U.setTop { g with pc := g.pc + 3, stack := v.toList ++ rest }) target → Steps p.tables e below (T.setTop g) target) ∨
    (∃ (q : Addr) (vm₁ : Vm) (B : Pt), s.WarmedH vm₁ ∧ Stand p l e R s m args below meth c B.U B.locs B.cells B.slots ∧ PostX ⟨T.setVm vm₁, locs, cells, slots⟩ (Value.ref b :: argsL).toArray q B ∧
      Steps p.tables e below (T.setTop g) ((B.U.setTop { g with stack := rest }).pushFrame (.throwing q))) := by
  obtain ⟨mk, methM, hnamed, hmethM, hstM, habM⟩ := Cond.instanceMethod_spec hinst
  obtain ⟨methM', cM, hmethM', -, -, -, -, -, -, hsigM⟩ := Cond.code_spec hnamed hcode
  cases hmethM.symm.trans hmethM'
  obtain ⟨c2, r2, m2, q1, q2, q3, q4, kP, hkP, hkPi⟩ := Cond.selects_spec hsel
  cases hcls.symm.trans q1
  cases (State.methodFound?_of_named hnamed hy).symm.trans q2
  cases hnamed.symm.trans q3
  have hselP : selectMethod e.platform s.vm cellB.cls mk = .method mk := by rw [Launch.admits_selectMethod X.admits]; exact q4
  obtain ⟨vm₁, X₁, hstep₁⟩ := X.invokevirtual hexec hown hlink hnamed hmethM hstM hkP hkPi hy (a := b) (cell := cellB) hcell
    (fun z h => by rw [h] at hobj; cases hobj) hselP hmethM habM hkP hkPi (g := g) hg (argsL := argsL) (rest := rest) (hlen _ hsigM) hstack hdg
  rcases hK m meth c ⟨T.setVm vm₁, locs, cells, slots⟩ { g with stack := rest } (.invokevirtual index) mk (Value.ref b :: argsL).toArray X₁ hg hsize hdg hW (X₁.named hnamed) (hpre vm₁ X₁.warmed) with ⟨v, B, X', hpost, hsteps⟩ | ⟨q, B, X', hpost, hsteps⟩
  · exact Or.inl ⟨v, vm₁, B, X₁.warmed, X', hpost, fun target h => hstep₁ _ fun acts => by rw [doInvoke_state]; exact hsteps.trans h⟩
  · exact Or.inr ⟨q, vm₁, B, X₁.warmed, X', hpost, hstep₁ _ fun acts => by rw [doInvoke_state]; exact hsteps⟩
theorem vx_callS (X : Stand p l e R s m args below meth c T locs cells slots) (hexec : p.tables.exec = Jvm.exec) {own : String} {index : Nat} {y : MethodName} {bytes : ByteArray} {maxL : Nat} {ret : Option FieldType}
    (hown : s.vm.findClass own = some m.cls) (hlink : (Cond.methodLink own index y).before args s = true) (hstat : (Cond.static y).before args s = true) (hinit : (Cond.initialized y.cls).before args s = true)
    (hcode : (Cond.code y bytes maxL ret).before args s = true) (hy : y.cls ≠ "java/lang/invoke/MethodHandle" ∧ y.cls ≠ "java/lang/invoke/VarHandle")
    {W9 : Nat} {Pre : Pt → Array Value → Prop} {Post : Pt → Array Value → Option Value → Pt → Prop} {PostX : Pt → Array Value → Addr → Pt → Prop} (hK : vx_Back l R p e below s args y 3 W9 Pre Post PostX)
    {g : JFrame} (hg : g.method = m) (hsize : g.locals.size = c.maxLocals) {argsL rest : List Value} (hlen : ∀ sig, parseMethodDescriptor y.desc = some sig → argsL.length = sig.parameters.length)
    (hstack : g.stack = argsL.reverse ++ rest) (hW : 2 * g.monitorRoom + (rest.map fun v => v.category).sum ≤ W9) (hdg : decode c.code g.pc = .ok (.invokestatic index, 3))
    (hpre : ∀ vm₁, s.WarmedH vm₁ → Pre ⟨T.setVm vm₁, locs, cells, slots⟩ argsL.toArray) :
    (∃ (v : Option Value) (vm₁ : Vm) (B : Pt), s.WarmedH vm₁ ∧ Stand p l e R s m args below meth c B.U B.locs B.cells B.slots ∧ Post ⟨T.setVm vm₁, locs, cells, slots⟩ argsL.toArray v B ∧
      ∀ target, Steps p.tables e below (B.U.setTop { g with pc := g.pc + 3, stack := v.toList ++ rest }) target → Steps p.tables e below (T.setTop g) target) ∨
    (∃ (q : Addr) (vm₁ : Vm) (B : Pt), s.WarmedH vm₁ ∧ Stand p l e R s m args below meth c B.U B.locs B.cells B.slots ∧ PostX ⟨T.setVm vm₁, locs, cells, slots⟩ argsL.toArray q B ∧
      Steps p.tables e below (T.setTop g) ((B.U.setTop { g with stack := rest }).pushFrame (.throwing q))) := by
  obtain ⟨mk, hnamed⟩ := Cond.code_named hcode
  obtain ⟨methM, cM, hmethM, -, -, -, -, -, -, hsigM⟩ := Cond.code_spec hnamed hcode
  have hstatic : methM.isStatic = true := Cond.static_spec hnamed hmethM hstat
  obtain ⟨kP, hkP, -⟩ := className_of_methodNamed hnamed
  have hinitP : kP.init = .initialized := Cond.initialized_spec (findClass_of_methodNamed hnamed) hkP hinit
  obtain ⟨vm₁, X₁, hstep₁⟩ := X.invokestatic hexec hown hlink hnamed hmethM hstatic hkP hinitP hy (g := g) hg (argsL := argsL) (rest := rest) (hlen _ hsigM) hstack hdg
  rcases hK m meth c ⟨T.setVm vm₁, locs, cells, slots⟩ { g with stack := rest } (.invokestatic index) mk argsL.toArray X₁ hg hsize hdg hW (X₁.named hnamed) (hpre vm₁ X₁.warmed) with ⟨v, B, X', hpost, hsteps⟩ | ⟨q, B, X', hpost, hsteps⟩
  · exact Or.inl ⟨v, vm₁, B, X₁.warmed, X', hpost, fun target h => hstep₁ _ fun acts => by rw [doInvoke_state]; exact hsteps.trans h⟩
  · exact Or.inr ⟨q, vm₁, B, X₁.warmed, X', hpost, hstep₁ _ fun acts => by rw [doInvoke_state]; exact hsteps⟩
end Calls
theorem vx_cls {s : State} {T : State} {vm₁ : Vm} {E : String} {k : ClassId} (hW : s.WarmedH vm₁) (h : (T.setVm vm₁).vm.findClass E = some k) : s.vm.findClass E = some k := by
  have h1 : vm₁.findClass E = some k := h
  rw [hW.alike.findClass] at h1
  exact h1
/-- the method's frame g, with q thrown over it -/
def vx_W (p : Program) (l : Launch) (e : Env) (R : Room) (s : State) (m : MethodId) (args : Array Value) (below : List Frame) (meth : Method) (c : Code) (H : Heap) (locs : List Loc) (cells slots : Nat) (Q : State → Prop) (g : JFrame) (q : Addr) : Prop :=
  ∀ T : State, T.heap = H → Stand p l e R s m args below meth c T locs cells slots → ∃ t, Steps p.tables e below ((T.setTop g).pushFrame (.throwing q)) t ∧ Q t
def vx_Run (p : Program) (l : Launch) (e : Env) (R : Room) (s : State) (m : MethodId) (args : Array Value) (below : List Frame) (meth : Method) (c : Code) (H : Heap) (locs : List Loc) (cells slots mc ms : Nat) (g : JFrame) (rest : List Value) (Qa : State → Outcome → State → Prop) (XC : String → State → State → Prop) (free : Addr → Prop) : Prop :=
  ∀ T : State, T.heap = H → Stand p l e R s m args below meth c T locs cells slots →
    (∃ (v : Option Value) (st₀ t T' : State) (L : List Loc), st₀.heap = H ∧ Stand p l e R s m args below meth c T' (locs ++ L) (cells + mc) (slots + ms) ∧ (∀ q ∈ L, free q.base) ∧ T'.heap = t.heap ∧ T'.vm = t.vm ∧ Qa st₀ (.returned v) t ∧
      Goes p e below T g T' { g with pc := g.pc + 3, stack := v.toList ++ rest }) ∨
    (∃ (q : Addr) (st₀ t T' : State) (L : List Loc) (E : String) (ce : Cell), st₀.heap = H ∧ Stand p l e R s m args below meth c T' (locs ++ L) (cells + mc) (slots + ms) ∧ (∀ z ∈ L, free z.base) ∧ T'.heap = t.heap ∧ T'.vm = t.vm ∧ XC E st₀ t ∧ t.heap[q]? = some ce ∧ ce.vm = .none ∧ s.vm.findClass E = some ce.cls ∧
      Steps p.tables e below (T.setTop g) ((T'.setTop { g with stack := rest }).pushFrame (.throwing q)))
def vx_X {S : Type} (px : S → Prop) (B : String → S → State → Prop) (A : Nat → Prop) : String → State → State → Prop := fun E st t => ∃ u : S, px u ∧ B E u t ∧ va_F A st t
section Runs
variable {p : Program} {l : Launch} {e : Env} {R : Room} {s : State} {m : MethodId} {args : Array Value} {below : List Frame} {meth : Method} {c : Code} {H : Heap} {locs : List Loc} {cells slots : Nat}
variable {y : MethodName} {bytes cc : ByteArray} {maxL nL mc ms n index : Nat} {ret : Option FieldType} {ws : List Cond} {rm : Room} {Pc : Array Value → State → Prop} {Qc : Array Value → State → Outcome → State → Prop} {XC : String → State → State → Prop} {free : Addr → Prop} {Ts : List Cond} {own C : String} {b : Addr} {As rest : List Value} {g : JFrame}
theorem vx_callBack (cb : CallB R s args own index y bytes maxL ret ws rm mc ms n) (hM : vx_Met l y ws rm Pc Qc XC mc ms free) (hbl : FrameBlind Pc) : vx_Back l R p e below s args y 3 8 (PreOf R mc ms Pc) (PostOf Qc mc ms free) (vx_Post XC mc ms free) := by
  obtain ⟨hrc, hrs, hfr, hlo, hws, hcw, -, hini, -⟩ := cb
  exact vx_back (bytes := bytes) (maxL := maxL) (ret := ret) hM hbl hrc hrs hfr hlo hws hcw (fun a' U hW => word_at hW (Or.inl (by first | rfl | simp [Cond.onTables, Cond.keeps, Cond.steady])) hini)
theorem vx_runV (S : CallFix p m c cc nL s args Ts own) (hM : vx_Met l y ws rm Pc Qc XC mc ms free) (cw : CallW R s args own C index y bytes maxL ret ws rm mc ms n) (hp : PreV s H C b Pc As)
    (hg : g.method = m) (hn : As.length = n) (hsize : g.locals.size = nL) (hstack : g.stack = As.reverse ++ .ref b :: rest) (hW : 2 * g.monitorRoom + (rest.map fun v => v.category).sum ≤ 8) (hdg : decode cc g.pc = .ok (.invokevirtual index, 3)) (hf : cells + mc ≤ R.cells ∧ slots + ms ≤ R.slots) :
    vx_Run p l e R s m args below meth c H locs cells slots mc ms g rest (Qc (Value.ref b :: As).toArray) XC free := by
  have hK : vx_Back l R p e below s args y 3 8 (PreOf R mc ms Pc) (PostOf Qc mc ms free) (vx_Post XC mc ms free) := vx_callBack cw.1 hM hp.1
  obtain ⟨⟨-, -, -, -, -, -, hcode, -, hy, hlen, hl⟩, hin, hse⟩ := cw
  obtain ⟨hx, hb, hml, ho, -⟩ := S
  obtain ⟨-, ⟨cellB, hcB, hoB, hclB⟩, hPc⟩ := hp
  intro T hT X
  rcases vx_callV X hx (C := C) (bytes := bytes) (maxL := maxL) (ret := ret) ho hl hin hse hcode hy hK (by rw [hT]; exact hcB) hoB hclB hg (hsize.trans hml.symm) (argsL := As) (rest := rest) (fun sig h => hn.trans (hlen sig h)) hstack hW (by rw [hb]; exact hdg)
    (fun vm₁ hW₁ => ⟨hf.1, hf.2, hPc (T.setVm vm₁) hT hW₁⟩) with ⟨v, vm₁, ⟨U', l2, c2, s2⟩, hW₁, X', ⟨g', mk, t, L, e1, e2, hq, h1, hL, h2, h3⟩, st⟩ | ⟨q, vm₁, ⟨U', l2, c2, s2⟩, hW₁, X', ⟨g', mk, t, L, E, ce, e1, e2, hq, hce, hcv, hcl, h1, hL, h2, h3⟩, st⟩
  · dsimp only [Pt.U, Pt.locs, Pt.cells, Pt.slots] at X' e1 e2 h1 h2 h3 st
    subst h1; subst h2; subst h3
    exact Or.inl ⟨v, (T.setVm vm₁).calling g' mk (Value.ref b :: As).toArray, t, U', L, hT, X', hL, e1, e2, hq, st⟩
  · dsimp only [Pt.U, Pt.locs, Pt.cells, Pt.slots] at X' e1 e2 h1 h2 h3 st hcl
    subst h1; subst h2; subst h3
    exact Or.inr ⟨q, (T.setVm vm₁).calling g' mk (Value.ref b :: As).toArray, t, U', L, E, ce, hT, X', hL, e1, e2, hq, hce, hcv, vx_cls hW₁ hcl, st⟩
theorem vx_runS (S : CallFix p m c cc nL s args Ts own) (hM : vx_Met l y ws rm Pc Qc XC mc ms free) (cw : CallB R s args own index y bytes maxL ret ws rm mc ms n ∧ (Cond.static y).before args s = true) (hp : PreS s H Pc As)
    (hg : g.method = m) (hn : As.length = n) (hsize : g.locals.size = nL) (hstack : g.stack = As.reverse ++ rest) (hW : 2 * g.monitorRoom + (rest.map fun v => v.category).sum ≤ 8) (hdg : decode cc g.pc = .ok (.invokestatic index, 3)) (hf : cells + mc ≤ R.cells ∧ slots + ms ≤ R.slots) :
    vx_Run p l e R s m args below meth c H locs cells slots mc ms g rest (Qc As.toArray) XC free := by
  have hK : vx_Back l R p e below s args y 3 8 (PreOf R mc ms Pc) (PostOf Qc mc ms free) (vx_Post XC mc ms free) := vx_callBack cw.1 hM hp.1
  obtain ⟨⟨-, -, -, -, -, -, hcode, hini, hy, hlen, hl⟩, hstt⟩ := cw
  obtain ⟨hx, hb, hml, ho, -⟩ := S
  intro T hT X
  rcases vx_callS X hx (bytes := bytes) (maxL := maxL) (ret := ret) ho hl hstt hini hcode hy hK hg (hsize.trans hml.symm) (argsL := As) (rest := rest) (fun sig h => hn.trans (hlen sig h)) hstack hW (by rw [hb]; exact hdg)
    (fun vm₁ hW₁ => ⟨hf.1, hf.2, hp.2 (T.setVm vm₁) hT hW₁⟩) with ⟨v, vm₁, ⟨U', l2, c2, s2⟩, hW₁, X', ⟨g', mk, t, L, e1, e2, hq, h1, hL, h2, h3⟩, st⟩ | ⟨q, vm₁, ⟨U', l2, c2, s2⟩, hW₁, X', ⟨g', mk, t, L, E, ce, e1, e2, hq, hce, hcv, hcl, h1, hL, h2, h3⟩, st⟩
  · dsimp only [Pt.U, Pt.locs, Pt.cells, Pt.slots] at X' e1 e2 h1 h2 h3 st
    subst h1; subst h2; subst h3
    exact Or.inl ⟨v, (T.setVm vm₁).calling g' mk As.toArray, t, U', L, hT, X', hL, e1, e2, hq, st⟩
  · dsimp only [Pt.U, Pt.locs, Pt.cells, Pt.slots] at X' e1 e2 h1 h2 h3 st hcl
    subst h1; subst h2; subst h3
    exact Or.inr ⟨q, (T.setVm vm₁).calling g' mk As.toArray, t, U', L, E, ce, hT, X', hL, e1, e2, hq, hce, hcv, vx_cls hW₁ hcl, st⟩
end Runs
section Rows
variable {p : Program} {l : Launch} {e : Env} {R : Room} {s : State} {m : MethodId} {args : Array Value} {below : List Frame} {meth : Method} {c : Code} {H : Heap} {locs : List Loc} {cells slots : Nat} {Q : State → Prop}
variable {mc ms : Nat} {free : Addr → Prop} {A0 A1 : Nat → Prop} {H0 : Heap} {a : Array Value} {pc : Nat} {ls : Array Slot} {st0 rest : List Value}
theorem vx_keep {st₀ t T' : State} {L : List Loc} (h0 : st₀.heap = H) (e1 : T'.heap = t.heap) (hS : va_S A0 H0 H locs) (hA : ∀ q, q < H.size → A1 q → A0 q) (hf : ∀ q, free q → A0 q) (hL : ∀ q ∈ L, free q.base) (hF : va_F A1 st₀ t) :
    H.size ≤ T'.heap.size ∧ (∀ q : Nat, q < H.size → ¬ A1 q → T'.heap[q]? = H[q]?) ∧ va_S A0 H0 T'.heap (locs ++ L) := by
  obtain ⟨hz, hk⟩ := hF
  rw [h0] at hz hk
  exact ⟨by rw [e1]; exact hz, fun q h1 h2 => by rw [e1]; exact hk q h1 h2,
    ⟨Nat.le_trans hS.1 (by rw [e1]; exact hz), fun q h1 h2 => by rw [e1, hk q (Nat.lt_of_lt_of_le h1 hS.1) (fun z => h2 (hA q (Nat.lt_of_lt_of_le h1 hS.1) z))]; exact hS.2.1 q h1 h2, fun q hq => by
      rcases List.mem_append.mp hq with h | h
      · exact hS.2.2 q h
      · exact hf _ (hL q h)⟩⟩
theorem vx_calli {S SX : Type} {post : Int32 → S → Prop} {px : SX → Prop} {B : S → State → Prop} {BX : String → SX → State → Prop} {AX : Nat → Prop} (hr : vx_Run p l e R s m args below meth c H locs cells slots mc ms (F0 m pc ls st0) rest (va_Qi post B A1 a) (vx_X px BX AX) free) (hS : va_S A0 H0 H locs) (hA : ∀ q, q < H.size → A1 q → A0 q) (hf : ∀ q, free q → A0 q) (hAX : ∀ q, q < H.size → AX q → A0 q)
    (kx : ∀ (E : String) (ce : Cell) (q9 : Addr) (u : SX) (t : State) (H1 : Heap) (locs1 : List Loc), t.heap = H1 → s.vm.Alike t.vm → px u → BX E u t → H.size ≤ H1.size → (∀ q : Nat, q < H.size → ¬ AX q → H1[q]? = H[q]?) → va_S A0 H0 H1 locs1 → H1[q9]? = some ce → ce.vm = .none → s.vm.findClass E = some ce.cls → vx_W p l e R s m args below meth c H1 locs1 (cells + mc) (slots + ms) Q (F0 m pc ls rest) q9)
    (kk : ∀ (r : Int32) (u : S) (t : State) (H1 : Heap) (locs1 : List Loc), t.heap = H1 → s.vm.Alike t.vm → post r u → B u t → H.size ≤ H1.size → (∀ q : Nat, q < H.size → ¬ A1 q → H1[q]? = H[q]?) → va_S A0 H0 H1 locs1 → W p l e R s m args below meth c H1 locs1 (cells + mc) (slots + ms) Q (F0 m (pc + 3) ls (.int r :: rest))) : W p l e R s m args below meth c H locs cells slots Q (F0 m pc ls st0) := by
  intro T hT X
  rcases hr T hT X with ⟨v, st₀, t, T', L, h0, X', hL, e1, e2, ⟨⟨r, u, hv, hp, hb⟩, hF⟩, st⟩ | ⟨q, st₀, t, T', L, E, ce, h0, X', hL, e1, e2, ⟨u, hp, hb, hF⟩, hce, hcv, hcl, st⟩
  · cases hv
    obtain ⟨k1, k2, k3⟩ := vx_keep h0 e1 hS hA hf hL hF
    obtain ⟨t2, a1, b1⟩ := kk r u t T'.heap (locs ++ L) e1.symm (by rw [← e2]; exact X'.warmed.alike) hp hb k1 k2 k3 T' rfl X'
    exact ⟨t2, st t2 a1, b1⟩
  · obtain ⟨k1, k2, k3⟩ := vx_keep h0 e1 hS hAX hf hL hF
    obtain ⟨t2, a1, b1⟩ := kx E ce q u t T'.heap (locs ++ L) e1.symm (by rw [← e2]; exact X'.warmed.alike) hp hb k1 k2 k3 (by rw [e1]; exact hce) hcv hcl T' rfl X'
    exact ⟨t2, st.trans a1, b1⟩
theorem vx_calll {S SX : Type} {post : Int64 → S → Prop} {px : SX → Prop} {B : S → State → Prop} {BX : String → SX → State → Prop} {AX : Nat → Prop} (hr : vx_Run p l e R s m args below meth c H locs cells slots mc ms (F0 m pc ls st0) rest (va_Ql post B A1 a) (vx_X px BX AX) free) (hS : va_S A0 H0 H locs) (hA : ∀ q, q < H.size → A1 q → A0 q) (hf : ∀ q, free q → A0 q) (hAX : ∀ q, q < H.size → AX q → A0 q)
    (kx : ∀ (E : String) (ce : Cell) (q9 : Addr) (u : SX) (t : State) (H1 : Heap) (locs1 : List Loc), t.heap = H1 → s.vm.Alike t.vm → px u → BX E u t → H.size ≤ H1.size → (∀ q : Nat, q < H.size → ¬ AX q → H1[q]? = H[q]?) → va_S A0 H0 H1 locs1 → H1[q9]? = some ce → ce.vm = .none → s.vm.findClass E = some ce.cls → vx_W p l e R s m args below meth c H1 locs1 (cells + mc) (slots + ms) Q (F0 m pc ls rest) q9)
    (kk : ∀ (r : Int64) (u : S) (t : State) (H1 : Heap) (locs1 : List Loc), t.heap = H1 → s.vm.Alike t.vm → post r u → B u t → H.size ≤ H1.size → (∀ q : Nat, q < H.size → ¬ A1 q → H1[q]? = H[q]?) → va_S A0 H0 H1 locs1 → W p l e R s m args below meth c H1 locs1 (cells + mc) (slots + ms) Q (F0 m (pc + 3) ls (.long r :: rest))) : W p l e R s m args below meth c H locs cells slots Q (F0 m pc ls st0) := by
  intro T hT X
  rcases hr T hT X with ⟨v, st₀, t, T', L, h0, X', hL, e1, e2, ⟨⟨r, u, hv, hp, hb⟩, hF⟩, st⟩ | ⟨q, st₀, t, T', L, E, ce, h0, X', hL, e1, e2, ⟨u, hp, hb, hF⟩, hce, hcv, hcl, st⟩
  · cases hv
    obtain ⟨k1, k2, k3⟩ := vx_keep h0 e1 hS hA hf hL hF
    obtain ⟨t2, a1, b1⟩ := kk r u t T'.heap (locs ++ L) e1.symm (by rw [← e2]; exact X'.warmed.alike) hp hb k1 k2 k3 T' rfl X'
    exact ⟨t2, st t2 a1, b1⟩
  · obtain ⟨k1, k2, k3⟩ := vx_keep h0 e1 hS hAX hf hL hF
    obtain ⟨t2, a1, b1⟩ := kx E ce q u t T'.heap (locs ++ L) e1.symm (by rw [← e2]; exact X'.warmed.alike) hp hb k1 k2 k3 (by rw [e1]; exact hce) hcv hcl T' rfl X'
    exact ⟨t2, st.trans a1, b1⟩
theorem vx_callf {S SX : Type} {post : UInt32 → S → Prop} {px : SX → Prop} {B : S → State → Prop} {BX : String → SX → State → Prop} {AX : Nat → Prop} (hr : vx_Run p l e R s m args below meth c H locs cells slots mc ms (F0 m pc ls st0) rest (va_Qf post B A1 a) (vx_X px BX AX) free) (hS : va_S A0 H0 H locs) (hA : ∀ q, q < H.size → A1 q → A0 q) (hf : ∀ q, free q → A0 q) (hAX : ∀ q, q < H.size → AX q → A0 q)
    (kx : ∀ (E : String) (ce : Cell) (q9 : Addr) (u : SX) (t : State) (H1 : Heap) (locs1 : List Loc), t.heap = H1 → s.vm.Alike t.vm → px u → BX E u t → H.size ≤ H1.size → (∀ q : Nat, q < H.size → ¬ AX q → H1[q]? = H[q]?) → va_S A0 H0 H1 locs1 → H1[q9]? = some ce → ce.vm = .none → s.vm.findClass E = some ce.cls → vx_W p l e R s m args below meth c H1 locs1 (cells + mc) (slots + ms) Q (F0 m pc ls rest) q9)
    (kk : ∀ (r : UInt32) (u : S) (t : State) (H1 : Heap) (locs1 : List Loc), t.heap = H1 → s.vm.Alike t.vm → post r u → B u t → H.size ≤ H1.size → (∀ q : Nat, q < H.size → ¬ A1 q → H1[q]? = H[q]?) → va_S A0 H0 H1 locs1 → W p l e R s m args below meth c H1 locs1 (cells + mc) (slots + ms) Q (F0 m (pc + 3) ls (.float r :: rest))) : W p l e R s m args below meth c H locs cells slots Q (F0 m pc ls st0) := by
  intro T hT X
  rcases hr T hT X with ⟨v, st₀, t, T', L, h0, X', hL, e1, e2, ⟨⟨r, u, hv, hp, hb⟩, hF⟩, st⟩ | ⟨q, st₀, t, T', L, E, ce, h0, X', hL, e1, e2, ⟨u, hp, hb, hF⟩, hce, hcv, hcl, st⟩
  · cases hv
    obtain ⟨k1, k2, k3⟩ := vx_keep h0 e1 hS hA hf hL hF
    obtain ⟨t2, a1, b1⟩ := kk r u t T'.heap (locs ++ L) e1.symm (by rw [← e2]; exact X'.warmed.alike) hp hb k1 k2 k3 T' rfl X'
    exact ⟨t2, st t2 a1, b1⟩
  · obtain ⟨k1, k2, k3⟩ := vx_keep h0 e1 hS hAX hf hL hF
    obtain ⟨t2, a1, b1⟩ := kx E ce q u t T'.heap (locs ++ L) e1.symm (by rw [← e2]; exact X'.warmed.alike) hp hb k1 k2 k3 (by rw [e1]; exact hce) hcv hcl T' rfl X'
    exact ⟨t2, st.trans a1, b1⟩
theorem vx_calld {S SX : Type} {post : UInt64 → S → Prop} {px : SX → Prop} {B : S → State → Prop} {BX : String → SX → State → Prop} {AX : Nat → Prop} (hr : vx_Run p l e R s m args below meth c H locs cells slots mc ms (F0 m pc ls st0) rest (va_Qd post B A1 a) (vx_X px BX AX) free) (hS : va_S A0 H0 H locs) (hA : ∀ q, q < H.size → A1 q → A0 q) (hf : ∀ q, free q → A0 q) (hAX : ∀ q, q < H.size → AX q → A0 q)
    (kx : ∀ (E : String) (ce : Cell) (q9 : Addr) (u : SX) (t : State) (H1 : Heap) (locs1 : List Loc), t.heap = H1 → s.vm.Alike t.vm → px u → BX E u t → H.size ≤ H1.size → (∀ q : Nat, q < H.size → ¬ AX q → H1[q]? = H[q]?) → va_S A0 H0 H1 locs1 → H1[q9]? = some ce → ce.vm = .none → s.vm.findClass E = some ce.cls → vx_W p l e R s m args below meth c H1 locs1 (cells + mc) (slots + ms) Q (F0 m pc ls rest) q9)
    (kk : ∀ (r : UInt64) (u : S) (t : State) (H1 : Heap) (locs1 : List Loc), t.heap = H1 → s.vm.Alike t.vm → post r u → B u t → H.size ≤ H1.size → (∀ q : Nat, q < H.size → ¬ A1 q → H1[q]? = H[q]?) → va_S A0 H0 H1 locs1 → W p l e R s m args below meth c H1 locs1 (cells + mc) (slots + ms) Q (F0 m (pc + 3) ls (.double r :: rest))) : W p l e R s m args below meth c H locs cells slots Q (F0 m pc ls st0) := by
  intro T hT X
  rcases hr T hT X with ⟨v, st₀, t, T', L, h0, X', hL, e1, e2, ⟨⟨r, u, hv, hp, hb⟩, hF⟩, st⟩ | ⟨q, st₀, t, T', L, E, ce, h0, X', hL, e1, e2, ⟨u, hp, hb, hF⟩, hce, hcv, hcl, st⟩
  · cases hv
    obtain ⟨k1, k2, k3⟩ := vx_keep h0 e1 hS hA hf hL hF
    obtain ⟨t2, a1, b1⟩ := kk r u t T'.heap (locs ++ L) e1.symm (by rw [← e2]; exact X'.warmed.alike) hp hb k1 k2 k3 T' rfl X'
    exact ⟨t2, st t2 a1, b1⟩
  · obtain ⟨k1, k2, k3⟩ := vx_keep h0 e1 hS hAX hf hL hF
    obtain ⟨t2, a1, b1⟩ := kx E ce q u t T'.heap (locs ++ L) e1.symm (by rw [← e2]; exact X'.warmed.alike) hp hb k1 k2 k3 (by rw [e1]; exact hce) hcv hcl T' rfl X'
    exact ⟨t2, st.trans a1, b1⟩
theorem vx_callv {S SX : Type} {post : S → Prop} {px : SX → Prop} {B : S → State → Prop} {BX : String → SX → State → Prop} {AX : Nat → Prop} (hr : vx_Run p l e R s m args below meth c H locs cells slots mc ms (F0 m pc ls st0) rest (va_Qv post B A1 a) (vx_X px BX AX) free) (hS : va_S A0 H0 H locs) (hA : ∀ q, q < H.size → A1 q → A0 q) (hf : ∀ q, free q → A0 q) (hAX : ∀ q, q < H.size → AX q → A0 q)
    (kx : ∀ (E : String) (ce : Cell) (q9 : Addr) (u : SX) (t : State) (H1 : Heap) (locs1 : List Loc), t.heap = H1 → s.vm.Alike t.vm → px u → BX E u t → H.size ≤ H1.size → (∀ q : Nat, q < H.size → ¬ AX q → H1[q]? = H[q]?) → va_S A0 H0 H1 locs1 → H1[q9]? = some ce → ce.vm = .none → s.vm.findClass E = some ce.cls → vx_W p l e R s m args below meth c H1 locs1 (cells + mc) (slots + ms) Q (F0 m pc ls rest) q9)
    (kk : ∀ (u : S) (t : State) (H1 : Heap) (locs1 : List Loc), t.heap = H1 → s.vm.Alike t.vm → post u → B u t → H.size ≤ H1.size → (∀ q : Nat, q < H.size → ¬ A1 q → H1[q]? = H[q]?) → va_S A0 H0 H1 locs1 → W p l e R s m args below meth c H1 locs1 (cells + mc) (slots + ms) Q (F0 m (pc + 3) ls (rest))) : W p l e R s m args below meth c H locs cells slots Q (F0 m pc ls st0) := by
  intro T hT X
  rcases hr T hT X with ⟨v, st₀, t, T', L, h0, X', hL, e1, e2, ⟨⟨u, hv, hp, hb⟩, hF⟩, st⟩ | ⟨q, st₀, t, T', L, E, ce, h0, X', hL, e1, e2, ⟨u, hp, hb, hF⟩, hce, hcv, hcl, st⟩
  · cases hv
    obtain ⟨k1, k2, k3⟩ := vx_keep h0 e1 hS hA hf hL hF
    obtain ⟨t2, a1, b1⟩ := kk u t T'.heap (locs ++ L) e1.symm (by rw [← e2]; exact X'.warmed.alike) hp hb k1 k2 k3 T' rfl X'
    exact ⟨t2, st t2 a1, b1⟩
  · obtain ⟨k1, k2, k3⟩ := vx_keep h0 e1 hS hAX hf hL hF
    obtain ⟨t2, a1, b1⟩ := kx E ce q u t T'.heap (locs ++ L) e1.symm (by rw [← e2]; exact X'.warmed.alike) hp hb k1 k2 k3 (by rw [e1]; exact hce) hcv hcl T' rfl X'
    exact ⟨t2, st.trans a1, b1⟩
/-- caught by the row x of this method's table; the rows ahead don't take it -/
theorem vx_catch {own name : String} {E : String} {ce : Cell} {q : Addr} (hown : s.vm.findClass own = some m.cls) (pre : List ExceptionTableEntry) (x : ExceptionTableEntry) (suf : List ExceptionTableEntry) (hsplit : c.exceptionTable.toList = pre ++ x :: suf)
    (hpass : ∀ z ∈ pre, covers z pc = false ∨ (z.catchType ≠ 0 ∧ ∃ nm : String, (Cond.classLink own z.catchType nm).before args s = true ∧ va_Nc E nm s)) (hx : covers x pc = true) (h0 : x.catchType ≠ 0)
    (hlink : (Cond.classLink own x.catchType name).before args s = true) (hcast : (Cond.castable E name).before args s = true) (hcell : H[q]? = some ce) (hv : ce.vm = .none) (hcl : s.vm.findClass E = some ce.cls)
    (kk : W p l e R s m args below meth c H locs cells slots Q (F0 m x.handlerPc ls [.ref q])) : vx_W p l e R s m args below meth c H locs cells slots Q (F0 m pc ls rest) q := by
  intro T hT X
  have hpl : e.platform.magicAccessors = ({} : Platform).magicAccessors := by rw [X.admits.platform]
  obtain ⟨c3, c4, hc3, hc4, hasg⟩ := Cond.castable_spec hcast
  cases Option.some.inj (hc3.symm.trans hcl)
  obtain ⟨c5, hc5, hcl5⟩ := Cond.classLink_spec hown hlink e.platform hpl
  cases Option.some.inj (hc4.symm.trans hc5)
  obtain ⟨vm', X', st⟩ := X.thenCaughtThrough q (g := F0 m pc ls rest) rfl (Steps.refl _) (by rw [hT]; exact hcell) (by rw [hv]; rfl) (by obtain ⟨k9, h9, -⟩ := Vm.findClass_spec hcl; exact ⟨k9, h9⟩) pre x suf hsplit
    (fun z hz => by
      rcases hpass z hz with h | ⟨hz0, nm, hl1, hn1⟩
      · exact Or.inl h
      · obtain ⟨c6, hc6, hcl6⟩ := Cond.classLink_spec hown hl1 e.platform hpl
        obtain ⟨a8, b8, h1, h2, h3⟩ := hn1
        cases Option.some.inj (h1.symm.trans hcl)
        cases Option.some.inj (h2.symm.trans hc6)
        exact Or.inr ⟨hz0, _, hcl6, h3⟩) hx (Or.inr ⟨h0, c4, hcl5, hasg⟩)
  obtain ⟨t, a1, b1⟩ := kk (T.setVm vm') hT X'
  exact ⟨t, st.trans a1, b1⟩
end Rows
section Ends
variable {p : Program} {l : Launch} {e : Env} {R : Room} {s : State} {m : MethodId} {args : Array Value} {below : List Frame} {meth : Method} {c : Code} {H : Heap} {locs : List Loc} {cells slots : Nat} {Q : State → Prop}
variable {mc ms : Nat} {free : Addr → Prop} {A0 A1 : Nat → Prop} {H0 : Heap} {a : Array Value} {ls : Array Slot} {st0 rest : List Value}
variable {Qc : Array Value → State → Outcome → State → Prop} {XC : String → State → State → Prop}
/-- what a body that may throw owes at its end -/
def vx_MQ (below : List Frame) (Qc : Array Value → State → Outcome → State → Prop) (XC : String → State → State → Prop) (a : Array Value) (s : State) (mc ms : Nat) (free : Addr → Prop) : State → Prop := fun t =>
  ∃ o, t.status = .running ∧ Ended t below o ∧ vx_Q Qc XC mc ms free a s o t
theorem vx_ret {g : JFrame} {mc ms : Nat} (k : W p l e R s m args below meth c H locs cells slots (MQ below Qc args s mc ms free) g) : W p l e R s m args below meth c H locs cells slots (vx_MQ below Qc XC args s mc ms free) g := by
  intro T hT X
  obtain ⟨t, a1, o, b1, b2, b3, b4⟩ := k T hT X
  exact ⟨t, a1, o, b1, b2, Or.inl ⟨b3, b4⟩⟩
/-- not caught here: it goes on to the caller -/
theorem vx_widen {g : JFrame} {q : Addr} {k n : Nat} (h1 : cells ≤ k) (h2 : slots ≤ n) (kk : vx_W p l e R s m args below meth c H locs k n Q g q) : vx_W p l e R s m args below meth c H locs cells slots Q g q := fun T hT X => kk T hT (stand_widen X h1 h2)
theorem vx_out {pc : Nat} {E : String} {ce : Cell} {q : Addr} {mc ms : Nat} (hout : ∀ x ∈ c.exceptionTable.toList, covers x pc = false) (hlocks : meth.locks = false) (hcell : H[q]? = some ce) (hv : ce.vm = .none) (hcl : s.vm.findClass E = some ce.cls)
    (hx : ∀ t : State, t.heap = H → s.vm.Alike t.vm → XC E s t) (hf : ∀ z ∈ locs, free z.base) (hc : cells ≤ mc) (hs : slots ≤ ms) :
    vx_W p l e R s m args below meth c H locs cells slots (vx_MQ below Qc XC args s mc ms free) (F0 m pc ls rest) q := by
  intro T hT X
  obtain ⟨st1, hrun, hend, hW, hsm⟩ := X.leaveThrown q (g := F0 m pc ls rest) rfl rfl rfl hout hlocks
  have hcell9 : (T.setFrames (.throwing q :: below)).heap[q]? = some ce := by
    show T.heap[q]? = some ce
    rw [hT]; exact hcell
  exact ⟨_, st1, .threw q, hrun, hend, Or.inr ⟨q, rfl, E, ce, locs, hx _ hT hW.alike, hcell9, hv, hcl, hW, hsm.mono hc hs, hf⟩⟩
theorem vx_frame {U : State} {k n : Nat} (h : s.sameButNew ({ U with vm := s.vm } : State) locs k n) : s.heap.size ≤ U.heap.size ∧ ∀ q : Nat, q < s.heap.size → (∀ z ∈ locs, z.base ≠ q) → U.heap[q]? = s.heap[q]? := by
  obtain ⟨-, h2, -, -, -, h6⟩ := h
  refine ⟨h2, fun q hq hz => ?_⟩
  obtain ⟨c9, e1, e2, e3, e4⟩ := h6 q _ (Array.getElem?_eq_getElem hq)
  have hs : c9.slots = (s.heap[q]).slots := Array.ext_getElem? fun i => e4 i fun hm => hz _ hm rfl
  have h9 : c9 = s.heap[q] := by
    rw [hs] at e2
    exact e2
  have e5 : U.heap[q]? = some c9 := e1
  rw [e5, h9, Array.getElem?_eq_getElem hq]
/-- the words of a throw but the four that speak of the heap -/
def vx_no (w : Cond) : Bool := decide (w ≠ .isRef (.static Bundle.tN "UNASSIGNED_STACK" Bundle.steD)) && decide (w ≠ .isRef (.static Bundle.tN "SUPPRESSED_SENTINEL" Bundle.listD)) && decide (w ≠ .laysStatic Bundle.tN "UNASSIGNED_STACK" Bundle.steD) && decide (w ≠ .laysStatic Bundle.tN "SUPPRESSED_SENTINEL" Bundle.listD)
def vx_at0 (own : String) (ic : Nat) (X : String) (names : List String) : List Cond := (Bundle.ownAtoms0 own ic X names).filter vx_no
def vx_atS (own : String) (ic : Nat) (X : String) (names : List String) : List Cond := (Bundle.ownAtoms own ic X names).filter vx_no
/-- a word that the tables alone decide, or a good one -/
def vx_ot (w : Cond) : Bool := w.onTables || goodWord w
theorem vx_ot_at {args a' : Array Value} {s U : State} {w : Cond} (hW : s.WarmedH U.vm) (hvm : s.vm = U.vm) (hg : vx_ot w = true) (h : w.before args s = true) : w.before a' U = true := by
  simp only [vx_ot, Bool.or_eq_true] at hg
  rcases hg with hg | hg
  · exact va_tabs hg hvm h
  · exact word_at hW (good_of_word hg) h
/-- a list's words: the good ones out of the method's own list, the others by premises of their own -/
theorem vx_hat {args : Array Value} {s : State} {L B : List Cond} (h1 : ∀ w ∈ L.filter goodWord, w.before args s = true) (h2 : ∀ w ∈ L.filter (fun w => !goodWord w), w ∈ B) (h3 : ∀ w ∈ B, w.before args s = true) : ∀ w ∈ L, w.before args s = true := by
  intro w hw
  by_cases g : goodWord w = true
  · exact h1 w (List.mem_filter.mpr ⟨hw, g⟩)
  · refine h3 w (h2 w (List.mem_filter.mpr ⟨hw, ?_⟩))
    show (!goodWord w) = true
    cases hgw : goodWord w
    · rfl
    · exact absurd hgw g
theorem vx_c {args : Array Value} {s : State} {w : Cond} {B : List Cond} (h : w.before args s = true) (t : ∀ w ∈ B, w.before args s = true) : ∀ w' ∈ w :: B, w'.before args s = true := fun w' h' => (List.mem_cons.mp h').elim (fun e => by rw [e]; exact h) (t w')
theorem vx_n {args : Array Value} {s : State} : ∀ w ∈ ([] : List Cond), w.before args s = true := fun _ h => nomatch h
theorem vx_own {args : Array Value} {s : State} {L : List Cond} (h1 : ∀ w ∈ L.filter vx_no, w.before args s = true)
    (hU : (Cond.isRef (.static Bundle.tN "UNASSIGNED_STACK" Bundle.steD)).before args s = true) (hN : (Cond.isRef (.static Bundle.tN "SUPPRESSED_SENTINEL" Bundle.listD)).before args s = true)
    (lU : (Cond.laysStatic Bundle.tN "UNASSIGNED_STACK" Bundle.steD).before args s = true) (lN : (Cond.laysStatic Bundle.tN "SUPPRESSED_SENTINEL" Bundle.listD).before args s = true) : ∀ w ∈ L, w.before args s = true := by
  intro w hw
  by_cases e1 : w = .isRef (.static Bundle.tN "UNASSIGNED_STACK" Bundle.steD)
  · rw [e1]; exact hU
  · by_cases e2 : w = .isRef (.static Bundle.tN "SUPPRESSED_SENTINEL" Bundle.listD)
    · rw [e2]; exact hN
    · by_cases e3 : w = .laysStatic Bundle.tN "UNASSIGNED_STACK" Bundle.steD
      · rw [e3]; exact lU
      · by_cases e4 : w = .laysStatic Bundle.tN "SUPPRESSED_SENTINEL" Bundle.listD
        · rw [e4]; exact lN
        · exact h1 w (List.mem_filter.mpr ⟨hw, by unfold vx_no; rw [decide_eq_true e1, decide_eq_true e2, decide_eq_true e3, decide_eq_true e4]; rfl⟩)
/-- where a static field lies, its class's statics cell in H -/
def vx_L (C n d : String) (A : Nat → Prop) (U : State) (H : Heap) : Prop := ∃ (c : ClassId) (k : Class) (i : Nat) (f : Field) (a : Nat) (cell : Cell), U.vm.findClass C = some c ∧ U.fieldFound? C n d = some (c, k, i, f) ∧ f.isStatic = true ∧ k.statics = some a ∧ H[a]? = some cell ∧ cell.vm.isStatics = true ∧ cell.cls = c ∧ f.slot < cell.slots.size ∧ k.staticTypes[f.slot]? = some f.type ∧ ¬ A a
theorem vx_L.moved {C n d : String} {A : Nat → Prop} {u U : State} {H : Heap} (hvm : u.vm.Alike U.vm) (h : vx_L C n d A u H) : vx_L C n d A U H := by
  obtain ⟨c, k, i, f, a, cell, h1, h2, h3, h4, h5, h6, h7, h8, h9, h10⟩ := h
  obtain ⟨k', hi', he⟩ := State.fieldFound?_setVm hvm h2
  exact ⟨c, k', i, f, a, cell, by rw [hvm.findClass]; exact h1, hi', h3, by rw [he]; exact h4, h5, h6, h7, h8, by rw [he]; exact h9, h10⟩
theorem vx_L.kept {C n d : String} {A : Nat → Prop} {U : State} {H H1 : Heap} (h : vx_L C n d A U H) (hq : ∀ a : Nat, a < H.size → ¬ A a → H1[a]? = H[a]?) : vx_L C n d A U H1 := by
  obtain ⟨c, k, i, f, a, cell, h1, h2, h3, h4, h5, h6, h7, h8, h9, h10⟩ := h
  exact ⟨c, k, i, f, a, cell, h1, h2, h3, h4, by rw [hq a (Array.getElem?_eq_some_iff.mp h5).1 h10]; exact h5, h6, h7, h8, h9, h10⟩
theorem vx_L.narrow {C n d : String} {A B : Nat → Prop} {U : State} {H : Heap} (h : vx_L C n d A U H) (hAB : ∀ q, B q → A q) : vx_L C n d B U H := by
  obtain ⟨c, k, i, f, a, cell, h1, h2, h3, h4, h5, h6, h7, h8, h9, h10⟩ := h
  exact ⟨c, k, i, f, a, cell, h1, h2, h3, h4, h5, h6, h7, h8, h9, fun z => h10 (hAB _ z)⟩
theorem vx_L.word {C n d : String} {A : Nat → Prop} {s : State} {args : Array Value} (h : vx_L C n d A s s.heap) : (Cond.laysStatic C n d).before args s = true := by
  obtain ⟨c, k, i, f, a, cell, h1, h2, h3, h4, h5, h6, h7, h8, h9, -⟩ := h
  show (Cond.laysStatic C n d).holds args s none s [] = true
  exact Cond.laysStatic_of h1 h2 h3 h4 h5 h6 h7 h8 h9
/-- .. and what it holds: null or some reference -/
def vx_Zq (C n d : String) (A : Nat → Prop) (U : State) (H : Heap) : Prop := va_Zq C n d A U H ∧ vx_L C n d A U H
theorem vx_Zq.moved {C n d : String} {A : Nat → Prop} {u U : State} {H : Heap} (hvm : u.vm.Alike U.vm) (h : vx_Zq C n d A u H) : vx_Zq C n d A U H := ⟨va_Zq.moved hvm h.1, vx_L.moved hvm h.2⟩
theorem vx_Zq.kept {C n d : String} {A : Nat → Prop} {U : State} {H H1 : Heap} (h : vx_Zq C n d A U H) (hq : ∀ a : Nat, a < H.size → ¬ A a → H1[a]? = H[a]?) : vx_Zq C n d A U H1 := ⟨va_Zq.kept h.1 hq, vx_L.kept h.2 hq⟩
theorem vx_Zq.narrow {C n d : String} {A B : Nat → Prop} {U : State} {H : Heap} (h : vx_Zq C n d A U H) (hAB : ∀ q, B q → A q) : vx_Zq C n d B U H := ⟨va_Zq.narrow h.1 hAB, vx_L.narrow h.2 hAB⟩
theorem vx_Zqof {args : Array Value} {s : State} {C n d : String} {A : Nat → Prop} (hl : (Cond.laysStatic C n d).before args s = true) (hini : (Cond.initialized C).before args s = true) (h : (Cond.isRef (.static C n d)).before args s = true) (hA : ∀ a : Nat, a < s.heap.size → ¬ A a) : vx_Zq C n d A s s.heap := by
  refine ⟨va_Zqof hl hini h hA, ?_⟩
  obtain ⟨c, k, i, f, a, cell, h1, h2, h3, h4, h5, h6, h7, h8, h9⟩ := Cond.laysStatic_spec hl
  exact ⟨c, k, i, f, a, cell, h1, h2, h3, h4, h5, h6, h7, h8, h9, hA a (Array.getElem?_eq_some_iff.mp h5).1⟩
theorem vx_isRef {C n d : String} {v : Value} {A : Nat → Prop} {s : State} {args : Array Value} (h : va_Z C n d v A s s.heap) (hv : v.isRef = true) : (Cond.isRef (.static C n d)).before args s = true := by
  obtain ⟨cf, kf, fi, f, a, cell, h1, h2, h3, h4, h5, h6, h7, -⟩ := h
  have he : (Term.static C n d).eval args s none [] s = some v := by
    simp [Term.eval, State.fieldNamed?, h1, h2, h4, h5, h6, h7]
  simp only [Cond.before, Cond.holds, Cond.value, he]
  cases v <;> simp_all [Value.isRef]
theorem vx_isRefq {C n d : String} {A : Nat → Prop} {s : State} {args : Array Value} (h : va_Zq C n d A s s.heap) : (Cond.isRef (.static C n d)).before args s = true := by
  rcases h with h | ⟨t, h⟩
  · exact vx_isRef h rfl
  · exact vx_isRef h rfl
/-- the same frame, seen from here: as if the method were called anew in this heap -/
theorem vx_rebase {T : State} (X : Stand p l e R s m args below meth c T locs cells slots) {R' : Room} (hf : R'.frames ≤ R.frames) (hl : R'.locals ≤ R.locals) (hc : cells + R'.cells ≤ R.cells) (hs : slots + R'.slots ≤ R.slots) :
    Stand p l e R' ((T.setVm s.vm).setFrames (.invoking m args :: below)) m args below meth c T [] 0 0 := by
  have htop : (T.setVm s.vm).topJava?.isSome := X.here.top
  have hF : ((T.setVm s.vm).setFrames (.invoking m args :: below)).frames = .invoking m args :: below := State.frames_setFrames _ (State.cur_lt_of_top htop)
  obtain ⟨g₀, hg0⟩ := Option.isSome_iff_exists.mp htop
  obtain ⟨r, hr⟩ := State.topJava?_eq_some.mp hg0
  have hl9 : e.platform.stackLimits (T.setVm s.vm).me = e.platform.stackLimits s.me := X.limits
  have hb9 : (T.setVm s.vm).me.stackBytes = s.me.stackBytes := X.bytes
  refine ⟨X.admits, X.cas, X.clock, hF, ?_, X.hears, X.method, X.code, X.here, X.tail, X.warmed, ?_, ?_, ?_⟩
  · have h := X.room
    have hU : ((T.setVm s.vm).setFrames (.invoking m args :: below)).localsInUse = s.localsInUse := by
      rw [State.localsInUse_invoking hF (meth := meth) (c := c) X.method X.code, State.localsInUse_invoking X.frames X.method X.code]
    simp only [State.hasRoom, Bool.and_eq_true, decide_eq_true_eq] at h ⊢
    obtain ⟨⟨⟨⟨h1, h2, h3, h4, h5, h6⟩, h7⟩, h8⟩, h9⟩ := h
    rw [X.frames, List.length_cons] at h2 h3
    have q1 := X.heapSize
    have q2 := X.used
    simp only [hF, hU, List.length_cons, State.stackLimits_setFrames, State.stackBytes_setFrames, hl9, hb9]
    refine ⟨⟨⟨⟨by omega, by omega, by omega, by omega, by omega, h6⟩, ?_⟩, ?_⟩, X.book⟩
    · show T.heap.size + R'.cells ≤ e.platform.maxCells
      omega
    · show T.slotsUsed + R'.slots ≤ e.platform.maxSlots
      omega
  · rw [State.stackLimits_setFrames]; rfl
  · rw [State.stackBytes_setFrames]; rfl
  · refine ⟨?_, Nat.le_refl _, Nat.le_refl _, ?_, ?_, fun a c9 h9 => ⟨c9, h9, rfl, rfl, fun _ _ => rfl⟩⟩
    · obtain ⟨t, ht, -⟩ := State.frames_cons hr
      show T.setVm s.vm = { ((T.setVm s.vm).setFrames (.invoking m args :: below)).setFrames (T.setVm s.vm).frames with heap := T.heap, slotsUsed := T.slotsUsed }
      rw [State.setFrames_setFrames, State.setFrames_self ht]
      rfl
    · show T.slotsUsed = T.slotsUsed + ((T.heap.toList.drop T.heap.size).map (·.slots.size)).sum
      rw [List.drop_eq_nil_of_le (Nat.le_of_eq Array.length_toList)]
      rfl
    · show ((T.heap.toList.drop T.heap.size).map (·.slots.size)).sum ≤ 0
      rw [List.drop_eq_nil_of_le (Nat.le_of_eq Array.length_toList)]
      exact Nat.le_refl _
/-- 'throw new E()': new; dup; invokespecial; athrow -/
theorem vx_throw0 {cc : ByteArray} {pc : Nat} (hexec : p.tables.exec = Jvm.exec) (hb : c.code = cc) (hl : l.stackTraces = false) {own cls : String} {names : List String} {ik ic mc ms : Nat} {A : Nat → Prop}
    (hown : s.vm.findClass own = some m.cls) (hcls : Bundle.fit cls = true) (hnames : ∀ n ∈ names, Bundle.fit n = true)
    (hk : (Cond.classLink own ik cls).before args s = true) (hini : (Cond.initialized cls).before args s = true) (hat : ∀ w ∈ vx_at0 own ic cls names, w.before args s = true)
    (hgood : ∀ w ∈ Cond.classLink own ik cls :: Cond.initialized cls :: vx_at0 own ic cls names, vx_ot w = true)
    (hU : vx_Zq Bundle.tN "UNASSIGNED_STACK" Bundle.steD A s s.heap) (hN : vx_Zq Bundle.tN "SUPPRESSED_SENTINEL" Bundle.listD A s s.heap) (hS : va_S A s.heap H locs) (hsize : ls.size = c.maxLocals)
    (d0 : decode cc pc = .ok (.new ik, 3)) (d3 : decode cc (pc + 3) = .ok (.dup, 1)) (d4 : decode cc (pc + 4) = .ok (.invokespecial ic, 3)) (d7 : decode cc (pc + 7) = .ok (.athrow, 1))
    (hout : ∀ x ∈ c.exceptionTable.toList, covers x (pc + 7) = false)
    (hRframes : names.length + 3 < R.frames) (hRlocals : (rest.map fun v => v.category).sum + (13 * (names.length + 1) + 42) ≤ R.locals) (hRcells : cells + 1 ≤ R.cells) (hRslots : slots + 6 ≤ R.slots) (hlocks : meth.locks = false)
    (hx : ∀ t : State, s.vm.Alike t.vm → H.size ≤ t.heap.size → (∀ q : Nat, q < H.size → t.heap[q]? = H[q]?) → XC cls s t)
    (hf : ∀ z ∈ locs, free z.base) (hc : cells + 1 ≤ mc) (hs : slots + 6 ≤ ms) :
    W p l e R s m args below meth c H locs cells slots (vx_MQ below Qc XC args s mc ms free) (F0 m pc ls rest) := by
  intro T hT X
  have htr : e.platform.stackTraces = false := (show e.platform.stackTraces = l.stackTraces by rw [X.admits.platform]).trans hl
  have Y := vx_rebase X (R' := { frames := R.frames, locals := R.locals, cells := 1, slots := 6 }) (Nat.le_refl _) (Nat.le_refl _) hRcells hRslots
  obtain ⟨s', hA⟩ : ∃ z, z = (T.setVm s.vm).setFrames (.invoking m args :: below) := ⟨_, rfl⟩
  rw [← hA] at Y
  have hvm : s'.vm = s.vm := by rw [hA]; rfl
  have hhp : s'.heap = H := by rw [hA]; exact hT
  have hW0 : s.WarmedH s'.vm := by rw [hvm]; exact State.WarmedH.refl s
  have hat' : ∀ w ∈ vx_at0 own ic cls names, w.before args s' = true := fun w hw => vx_ot_at hW0 hvm.symm (hgood w (List.mem_cons_of_mem _ (List.mem_cons_of_mem _ hw))) (hat w hw)
  have hk' : (Cond.classLink own ik cls).before args s' = true := vx_ot_at hW0 hvm.symm (hgood _ List.mem_cons_self) hk
  have hini' : (Cond.initialized cls).before args s' = true := vx_ot_at hW0 hvm.symm (hgood _ (List.mem_cons_of_mem _ List.mem_cons_self)) hini
  have hU' : vx_Zq Bundle.tN "UNASSIGNED_STACK" Bundle.steD A s' s'.heap := by rw [hhp]; exact vx_Zq.moved hW0.alike (hU.kept hS.2.1)
  have hN' : vx_Zq Bundle.tN "SUPPRESSED_SENTINEL" Bundle.listD A s' s'.heap := by rw [hhp]; exact vx_Zq.moved hW0.alike (hN.kept hS.2.1)
  have h : ∀ w ∈ Bundle.ownAtoms0 own ic cls names, w.before args s' = true := vx_own hat' (vx_isRefq hU'.1) (vx_isRefq hN'.1) hU'.2.word hN'.2.word
  have hown' : s'.vm.findClass own = some m.cls := by rw [hvm]; exact hown
  have hins : (Cond.instantiable cls 6).before args s' = true := h _ (by simp [Bundle.ownAtoms0])
  obtain ⟨vm₁, cX, kX, hfX, hkX, -, -, X₁, st1⟩ := Y.newCold hexec (own := own) (C := cls) (index := ik) (n := 6) hown' hk' hins hini'
    (g := F0 m pc ls rest) rfl (by rw [hb]; exact d0) (Nat.le_refl _) (Nat.le_refl _)
  generalize hT1 : (T.setVm vm₁).pushCell { cls := cX, slots := kX.instanceTypes.map defaultValue, vm := .none } = T1 at X₁ st1
  have hcat : (Value.ref T.heap.size).category = 1 := rfl
  have hcellA : T1.heap[T.heap.size]? = some (freshCell cX kX) := by rw [← hT1]; exact State.heap_pushCell_size _ _
  have d3' : decode c.code (pc + 3) = .ok (.dup, 1) := by rw [hb]; exact d3
  obtain ⟨U, hsteps, hrun, hend, hW, hsame, ce, hce, hO⟩ := X₁.ctorThrow0 hexec htr (own := own) (cls := cls) (names := names) (ic := ic) hown' hcls hnames h (fun x hx => nomatch hx) hfX hkX hcellA (by rw [hhp, hT]; exact Nat.le_refl _)
    (g := { method := m, pc := pc + 4, locals := ls, stack := .ref T.heap.size :: .ref T.heap.size :: rest, locked := none }) rfl hsize rfl rfl (rest := rest) rfl
    (by rw [hb]; exact d4) (by rw [hb]; exact d7) hout hRframes (by simp only [List.map_cons, List.sum_cons, hcat]; omega) hlocks
  obtain ⟨f1, f2⟩ := vx_frame hsame
  rw [hhp] at f1 f2
  have hWs : s.WarmedH U.vm := State.WarmedH.trans hW0 hW
  have hcl : s.vm.findClass cls = some ce.cls := by
    have h9 := hO.cls
    rw [hvm] at h9
    exact h9
  have hall : s.sameButNew ({ U with vm := s.vm } : State) locs mc ms := by
    subst hA
    obtain ⟨e1, e2⟩ := hsame
    rw [State.setFrames_setFrames] at e1
    have h2 : (T.setVm s.vm).sameButNew ({ U with vm := s.vm } : State) [] (0 + 1) (0 + 6) := ⟨e1, e2⟩
    have h3 := X.same.trans h2
    rw [List.append_nil] at h3
    exact h3.mono hc hs
  refine ⟨U, ?_, .threw T.heap.size, hrun, hend, Or.inr ⟨T.heap.size, rfl, cls, ce, locs, hx U hWs.alike f1 (fun q hq => f2 q hq (fun z hz => nomatch hz)), hce, hO.vm, hcl, hWs, hall, hf⟩⟩
  refine st1 _ ?_
  show Steps p.tables e below (T1.setTop { method := m, pc := pc + 3, locals := ls, stack := .ref T.heap.size :: rest, locked := none }) _
  jvm_step X₁.here [X₁.here.top, hexec, d3', Value.category]
  exact hsteps
/-- 'throw new E("text")': new; dup; ldc; invokespecial; athrow -/
theorem vx_throwS {cc : ByteArray} {pc : Nat} (hexec : p.tables.exec = Jvm.exec) (hb : c.code = cc) (hl : l.stackTraces = false) {own cls text : String} {names : List String} {ik is ic mc ms sa : Nat} {A : Nat → Prop}
    (hown : s.vm.findClass own = some m.cls) (hcls : Bundle.fit cls = true) (hnames : ∀ n ∈ names, Bundle.fit n = true)
    (hk : (Cond.classLink own ik cls).before args s = true) (hini : (Cond.initialized cls).before args s = true) (hstr : vk_R own is text sa s) (hat : ∀ w ∈ vx_atS own ic cls names, w.before args s = true)
    (hgood : ∀ w ∈ Cond.classLink own ik cls :: Cond.initialized cls :: vx_atS own ic cls names, vx_ot w = true)
    (hU : vx_Zq Bundle.tN "UNASSIGNED_STACK" Bundle.steD A s s.heap) (hN : vx_Zq Bundle.tN "SUPPRESSED_SENTINEL" Bundle.listD A s s.heap) (hS : va_S A s.heap H locs) (hsize : ls.size = c.maxLocals)
    (d0 : decode cc pc = .ok (.new ik, 3)) (d3 : decode cc (pc + 3) = .ok (.dup, 1)) (d4 : decode cc (pc + 4) = .ok (.ldc is, 2)) (d6 : decode cc (pc + 6) = .ok (.invokespecial ic, 3)) (d9 : decode cc (pc + 9) = .ok (.athrow, 1))
    (hout : ∀ x ∈ c.exceptionTable.toList, covers x (pc + 9) = false)
    (hRframes : names.length + 3 < R.frames) (hRlocals : (rest.map fun v => v.category).sum + (13 * (names.length + 1) + 43) ≤ R.locals) (hRcells : cells + 1 ≤ R.cells) (hRslots : slots + 6 ≤ R.slots) (hlocks : meth.locks = false)
    (hx : ∀ t : State, s.vm.Alike t.vm → H.size ≤ t.heap.size → (∀ q : Nat, q < H.size → t.heap[q]? = H[q]?) → XC cls s t)
    (hf : ∀ z ∈ locs, free z.base) (hc : cells + 1 ≤ mc) (hs : slots + 6 ≤ ms) :
    W p l e R s m args below meth c H locs cells slots (vx_MQ below Qc XC args s mc ms free) (F0 m pc ls rest) := by
  intro T hT X
  have htr : e.platform.stackTraces = false := (show e.platform.stackTraces = l.stackTraces by rw [X.admits.platform]).trans hl
  have Y := vx_rebase X (R' := { frames := R.frames, locals := R.locals, cells := 1, slots := 6 }) (Nat.le_refl _) (Nat.le_refl _) hRcells hRslots
  obtain ⟨s', hA⟩ : ∃ z, z = (T.setVm s.vm).setFrames (.invoking m args :: below) := ⟨_, rfl⟩
  rw [← hA] at Y
  have hvm : s'.vm = s.vm := by rw [hA]; rfl
  have hhp : s'.heap = H := by rw [hA]; exact hT
  have hW0 : s.WarmedH s'.vm := by rw [hvm]; exact State.WarmedH.refl s
  have hat' : ∀ w ∈ vx_atS own ic cls names, w.before args s' = true := fun w hw => vx_ot_at hW0 hvm.symm (hgood w (List.mem_cons_of_mem _ (List.mem_cons_of_mem _ hw))) (hat w hw)
  have hk' : (Cond.classLink own ik cls).before args s' = true := vx_ot_at hW0 hvm.symm (hgood _ List.mem_cons_self) hk
  have hini' : (Cond.initialized cls).before args s' = true := vx_ot_at hW0 hvm.symm (hgood _ (List.mem_cons_of_mem _ List.mem_cons_self)) hini
  have hU' : vx_Zq Bundle.tN "UNASSIGNED_STACK" Bundle.steD A s' s'.heap := by rw [hhp]; exact vx_Zq.moved hW0.alike (hU.kept hS.2.1)
  have hN' : vx_Zq Bundle.tN "SUPPRESSED_SENTINEL" Bundle.listD A s' s'.heap := by rw [hhp]; exact vx_Zq.moved hW0.alike (hN.kept hS.2.1)
  have h : ∀ w ∈ Bundle.ownAtoms own ic cls names, w.before args s' = true := vx_own hat' (vx_isRefq hU'.1) (vx_isRefq hN'.1) hU'.2.word hN'.2.word
  have hown' : s'.vm.findClass own = some m.cls := by rw [hvm]; exact hown
  have hins : (Cond.instantiable cls 6).before args s' = true := h _ (by simp [Bundle.ownAtoms])
  obtain ⟨vm₁, cX, kX, hfX, hkX, -, -, X₁, st1⟩ := Y.newCold hexec (own := own) (C := cls) (index := ik) (n := 6) hown' hk' hins hini'
    (g := F0 m pc ls rest) rfl (by rw [hb]; exact d0) (Nat.le_refl _) (Nat.le_refl _)
  generalize hT1 : (T.setVm vm₁).pushCell { cls := cX, slots := kX.instanceTypes.map defaultValue, vm := .none } = T1 at X₁ st1
  have hcat : (Value.ref T.heap.size).category = 1 := rfl
  have hcellA : T1.heap[T.heap.size]? = some (freshCell cX kX) := by rw [← hT1]; exact State.heap_pushCell_size _ _
  have d3' : decode c.code (pc + 3) = .ok (.dup, 1) := by rw [hb]; exact d3
  have d4' : decode c.code (pc + 4) = .ok (.ldc is, 2) := by rw [hb]; exact d4
  have hstr' : vk_R own is text sa s' := vk_R.warm hW0 hstr
  obtain ⟨U, hsteps, hrun, hend, hW, hsame, ce, hce, hO⟩ := X₁.ctorThrowS hexec htr (own := own) (cls := cls) (names := names) (ic := ic) hown' hcls hnames h (fun x hx => nomatch hx) hfX hkX hcellA (by rw [hhp, hT]; exact Nat.le_refl _) (msg := .ref sa) rfl
    (g := { method := m, pc := pc + 6, locals := ls, stack := .ref sa :: .ref T.heap.size :: .ref T.heap.size :: rest, locked := none }) rfl hsize rfl rfl (rest := rest) rfl
    (by rw [hb]; exact d6) (by rw [hb]; exact d9) hout hRframes (by simp only [List.map_cons, List.sum_cons, hcat]; omega) hlocks
  obtain ⟨f1, f2⟩ := vx_frame hsame
  rw [hhp] at f1 f2
  have hWs : s.WarmedH U.vm := State.WarmedH.trans hW0 hW
  have hcl : s.vm.findClass cls = some ce.cls := by
    have h9 := hO.cls
    rw [hvm] at h9
    exact h9
  have hall : s.sameButNew ({ U with vm := s.vm } : State) locs mc ms := by
    subst hA
    obtain ⟨e1, e2⟩ := hsame
    rw [State.setFrames_setFrames] at e1
    have h2 : (T.setVm s.vm).sameButNew ({ U with vm := s.vm } : State) [] (0 + 1) (0 + 6) := ⟨e1, e2⟩
    have h3 := X.same.trans h2
    rw [List.append_nil] at h3
    exact h3.mono hc hs
  refine ⟨U, ?_, .threw T.heap.size, hrun, hend, Or.inr ⟨T.heap.size, rfl, cls, ce, locs, hx U hWs.alike f1 (fun q hq => f2 q hq (fun z hz => nomatch hz)), hce, hO.vm, hcl, hWs, hall, hf⟩⟩
  refine st1 _ ?_
  show Steps p.tables e below (T1.setTop { method := m, pc := pc + 3, locals := ls, stack := .ref T.heap.size :: rest, locked := none }) _
  jvm_step X₁.here [X₁.here.top, hexec, d3', Value.category]
  exact X₁.ldcString hexec (own := own) (text := text) (index := is) (a := sa) hown' hstr'.1 hstr'.2
    (g := { method := m, pc := pc + 4, locals := ls, stack := .ref T.heap.size :: .ref T.heap.size :: rest, locked := none }) rfl d4' _ hsteps
/-- 'throw new E("text")', the text by a wide index -/
theorem vx_throwSW {cc : ByteArray} {pc : Nat} (hexec : p.tables.exec = Jvm.exec) (hb : c.code = cc) (hl : l.stackTraces = false) {own cls text : String} {names : List String} {ik is ic mc ms sa : Nat} {A : Nat → Prop}
    (hown : s.vm.findClass own = some m.cls) (hcls : Bundle.fit cls = true) (hnames : ∀ n ∈ names, Bundle.fit n = true)
    (hk : (Cond.classLink own ik cls).before args s = true) (hini : (Cond.initialized cls).before args s = true) (hstr : vk_R own is text sa s) (hat : ∀ w ∈ vx_atS own ic cls names, w.before args s = true)
    (hgood : ∀ w ∈ Cond.classLink own ik cls :: Cond.initialized cls :: vx_atS own ic cls names, vx_ot w = true)
    (hU : vx_Zq Bundle.tN "UNASSIGNED_STACK" Bundle.steD A s s.heap) (hN : vx_Zq Bundle.tN "SUPPRESSED_SENTINEL" Bundle.listD A s s.heap) (hS : va_S A s.heap H locs) (hsize : ls.size = c.maxLocals)
    (d0 : decode cc pc = .ok (.new ik, 3)) (d3 : decode cc (pc + 3) = .ok (.dup, 1)) (d4 : decode cc (pc + 4) = .ok (.ldc_w is, 3)) (d7 : decode cc (pc + 7) = .ok (.invokespecial ic, 3)) (d10 : decode cc (pc + 10) = .ok (.athrow, 1))
    (hout : ∀ x ∈ c.exceptionTable.toList, covers x (pc + 10) = false)
    (hRframes : names.length + 3 < R.frames) (hRlocals : (rest.map fun v => v.category).sum + (13 * (names.length + 1) + 43) ≤ R.locals) (hRcells : cells + 1 ≤ R.cells) (hRslots : slots + 6 ≤ R.slots) (hlocks : meth.locks = false)
    (hx : ∀ t : State, s.vm.Alike t.vm → H.size ≤ t.heap.size → (∀ q : Nat, q < H.size → t.heap[q]? = H[q]?) → XC cls s t)
    (hf : ∀ z ∈ locs, free z.base) (hc : cells + 1 ≤ mc) (hs : slots + 6 ≤ ms) :
    W p l e R s m args below meth c H locs cells slots (vx_MQ below Qc XC args s mc ms free) (F0 m pc ls rest) := by
  intro T hT X
  have htr : e.platform.stackTraces = false := (show e.platform.stackTraces = l.stackTraces by rw [X.admits.platform]).trans hl
  have Y := vx_rebase X (R' := { frames := R.frames, locals := R.locals, cells := 1, slots := 6 }) (Nat.le_refl _) (Nat.le_refl _) hRcells hRslots
  obtain ⟨s', hA⟩ : ∃ z, z = (T.setVm s.vm).setFrames (.invoking m args :: below) := ⟨_, rfl⟩
  rw [← hA] at Y
  have hvm : s'.vm = s.vm := by rw [hA]; rfl
  have hhp : s'.heap = H := by rw [hA]; exact hT
  have hW0 : s.WarmedH s'.vm := by rw [hvm]; exact State.WarmedH.refl s
  have hat' : ∀ w ∈ vx_atS own ic cls names, w.before args s' = true := fun w hw => vx_ot_at hW0 hvm.symm (hgood w (List.mem_cons_of_mem _ (List.mem_cons_of_mem _ hw))) (hat w hw)
  have hk' : (Cond.classLink own ik cls).before args s' = true := vx_ot_at hW0 hvm.symm (hgood _ List.mem_cons_self) hk
  have hini' : (Cond.initialized cls).before args s' = true := vx_ot_at hW0 hvm.symm (hgood _ (List.mem_cons_of_mem _ List.mem_cons_self)) hini
  have hU' : vx_Zq Bundle.tN "UNASSIGNED_STACK" Bundle.steD A s' s'.heap := by rw [hhp]; exact vx_Zq.moved hW0.alike (hU.kept hS.2.1)
  have hN' : vx_Zq Bundle.tN "SUPPRESSED_SENTINEL" Bundle.listD A s' s'.heap := by rw [hhp]; exact vx_Zq.moved hW0.alike (hN.kept hS.2.1)
  have h : ∀ w ∈ Bundle.ownAtoms own ic cls names, w.before args s' = true := vx_own hat' (vx_isRefq hU'.1) (vx_isRefq hN'.1) hU'.2.word hN'.2.word
  have hown' : s'.vm.findClass own = some m.cls := by rw [hvm]; exact hown
  have hins : (Cond.instantiable cls 6).before args s' = true := h _ (by simp [Bundle.ownAtoms])
  obtain ⟨vm₁, cX, kX, hfX, hkX, -, -, X₁, st1⟩ := Y.newCold hexec (own := own) (C := cls) (index := ik) (n := 6) hown' hk' hins hini'
    (g := F0 m pc ls rest) rfl (by rw [hb]; exact d0) (Nat.le_refl _) (Nat.le_refl _)
  generalize hT1 : (T.setVm vm₁).pushCell { cls := cX, slots := kX.instanceTypes.map defaultValue, vm := .none } = T1 at X₁ st1
  have hcat : (Value.ref T.heap.size).category = 1 := rfl
  have hcellA : T1.heap[T.heap.size]? = some (freshCell cX kX) := by rw [← hT1]; exact State.heap_pushCell_size _ _
  have d3' : decode c.code (pc + 3) = .ok (.dup, 1) := by rw [hb]; exact d3
  have d4' : decode c.code (pc + 4) = .ok (.ldc_w is, 3) := by rw [hb]; exact d4
  have hstr' : vk_R own is text sa s' := vk_R.warm hW0 hstr
  obtain ⟨U, hsteps, hrun, hend, hW, hsame, ce, hce, hO⟩ := X₁.ctorThrowS hexec htr (own := own) (cls := cls) (names := names) (ic := ic) hown' hcls hnames h (fun x hx => nomatch hx) hfX hkX hcellA (by rw [hhp, hT]; exact Nat.le_refl _) (msg := .ref sa) rfl
    (g := { method := m, pc := pc + 7, locals := ls, stack := .ref sa :: .ref T.heap.size :: .ref T.heap.size :: rest, locked := none }) rfl hsize rfl rfl (rest := rest) rfl
    (by rw [hb]; exact d7) (by rw [hb]; exact d10) hout hRframes (by simp only [List.map_cons, List.sum_cons, hcat]; omega) hlocks
  obtain ⟨f1, f2⟩ := vx_frame hsame
  rw [hhp] at f1 f2
  have hWs : s.WarmedH U.vm := State.WarmedH.trans hW0 hW
  have hcl : s.vm.findClass cls = some ce.cls := by
    have h9 := hO.cls
    rw [hvm] at h9
    exact h9
  have hall : s.sameButNew ({ U with vm := s.vm } : State) locs mc ms := by
    subst hA
    obtain ⟨e1, e2⟩ := hsame
    rw [State.setFrames_setFrames] at e1
    have h2 : (T.setVm s.vm).sameButNew ({ U with vm := s.vm } : State) [] (0 + 1) (0 + 6) := ⟨e1, e2⟩
    have h3 := X.same.trans h2
    rw [List.append_nil] at h3
    exact h3.mono hc hs
  refine ⟨U, ?_, .threw T.heap.size, hrun, hend, Or.inr ⟨T.heap.size, rfl, cls, ce, locs, hx U hWs.alike f1 (fun q hq => f2 q hq (fun z hz => nomatch hz)), hce, hO.vm, hcl, hWs, hall, hf⟩⟩
  refine st1 _ ?_
  show Steps p.tables e below (T1.setTop { method := m, pc := pc + 3, locals := ls, stack := .ref T.heap.size :: rest, locked := none }) _
  jvm_step X₁.here [X₁.here.top, hexec, d3', Value.category]
  exact X₁.ldcStringW hexec (own := own) (text := text) (index := is) (a := sa) hown' hstr'.1 hstr'.2
    (g := { method := m, pc := pc + 4, locals := ls, stack := .ref T.heap.size :: .ref T.heap.size :: rest, locked := none }) rfl d4' _ hsteps
end Ends
section Bodies
variable {l : Launch}
theorem vx_ofW {y : MethodName} {ws ws' : List Cond} {rm : Room} {Pc : Array Value → State → Prop} {Qc : Array Value → State → Outcome → State → Prop} {XC : String → State → State → Prop} {mc ms : Nat} {free : Addr → Prop} {cc : ByteArray} {maxL : Nat} {ret : Option FieldType}
    (hy : plainName y.cls = true) (hw : ws = Cond.code y cc maxL ret :: ws')
    (body : ∀ p e s m args below meth c s₁, BodyLoose p l y (headSpec ws rm) cc maxL ret e s m args below meth c s₁ → c.maxLocals = maxL → (∀ x ∈ c.exceptionTable.toList, False) → Pc args s →
      W p l e (headSpec ws rm).room s m args below meth c s.heap [] 0 0 (vx_MQ below Qc XC args s mc ms free) (entryFrame m args maxL)) : vx_Met l y ws rm Pc Qc XC mc ms free := by
  refine MetFree.of_bodyS (code := cc) (maxLocals := maxL) (ret := ret) hy ?_ ?_
  · intro args s m h hn
    obtain ⟨meth, c, h1, h2, h3, h4, h5, h6, -, -⟩ := Cond.code_spec hn (atoms_spec (ws := ws) h _ (by rw [hw]; exact List.mem_cons_self))
    exact ⟨meth, c, h1, h2, h3, h4, h5, h6⟩
  · intro p e s m args below meth c s₁ B hml hP _
    have hh0 : s₁.heap = s.heap := by rw [B.state]; rfl
    have ht : ∀ x ∈ c.exceptionTable.toList, False := by
      obtain ⟨meth9, c9, h1, h2, -, -, -, -, h7, -⟩ := Cond.code_spec B.named (atoms_spec (ws := ws) B.pre _ (by rw [hw]; exact List.mem_cons_self))
      cases Option.some.inj (h1.symm.trans B.method)
      cases Option.some.inj (h2.symm.trans (Stand.of_body B).code)
      intro x hx
      rw [Array.isEmpty_iff.mp h7] at hx
      cases hx
    obtain ⟨t, a1, o, b1, b2, b3⟩ := body p e s m args below meth c s₁ B hml ht hP s₁ hh0 (Stand.of_body B)
    exact ⟨t, o, a1, b1, b2, b3⟩
/-- the table of a body with handlers -/
theorem vx_table {p : Program} {x y : MethodName} {S : Spec} {cc bytes : ByteArray} {maxL maxL' : Nat} {ret ret' : Option FieldType} {e : Env} {s s₁ : State} {m : MethodId} {args : Array Value} {below : List Frame} {meth : Method} {c : Code} {hh : List (Nat × Nat × Nat × Nat)}
    (B : BodyLoose p l y S cc maxL ret e s m args below meth c s₁) (h : (Cond.codeWith y bytes maxL' ret' hh).before args s = true) : c.exceptionTable.toList = tableOf hh := by
  obtain ⟨m9, meth9, c9, hn9, h1, h2, -, -, h6, -⟩ := Cond.codeWith_spec h
  cases Option.some.inj (hn9.symm.trans B.named)
  cases Option.some.inj (h1.symm.trans B.method)
  cases Option.some.inj (h2.symm.trans (Stand.of_body B).code)
  rw [← h6, table_eq]
end Bodies
end VXA
/-! ===== END ===== -/
/-! ===== BEGIN a static call of a method with an exception table ===== -/
section VXS
variable {p : Program} {l : Launch} {e : Env} {R : Room} {s : State} {m : MethodId} {args : Array Value} {below : List Frame} {meth : Method} {c : Code} {T : State} {H : Heap} {locs : List Loc} {cells slots : Nat}
abbrev vx_CSW (R : Room) (s : State) (args : Array Value) (own : String) (index : Nat) (y : MethodName) (bytes : ByteArray) (maxL : Nat) (ret : Option FieldType) (hh : List (Nat × Nat × Nat × Nat)) (ws : List Cond) (rm : Room) (mc ms n : Nat) : Prop :=
  (rm.cells = mc ∧ rm.slots = ms ∧ rm.frames + 1 ≤ R.frames ∧ 8 + (maxL + 11) + rm.locals ≤ R.locals ∧ (∀ w ∈ ws, ∀ (a' : Array Value) (U : State), s.WarmedH U.vm → w.before a' U = true) ∧ Cond.codeWith y bytes maxL ret hh ∈ ws) ∧
  (Cond.codeWith y bytes maxL ret hh).before args s = true ∧ (Cond.initialized y.cls).before args s = true ∧ (y.cls ≠ "java/lang/invoke/MethodHandle" ∧ y.cls ≠ "java/lang/invoke/VarHandle") ∧
  (∀ sig, parseMethodDescriptor y.desc = some sig → n = sig.parameters.length) ∧ (Cond.methodLink own index y).before args s = true ∧ (Cond.static y).before args s = true
theorem vx_cwSW {own : String} {index maxL mc ms : Nat} {y : MethodName} {bytes : ByteArray} {ret : Option FieldType} {hh : List (Nat × Nat × Nat × Nat)} {Ts ws ws' : List Cond} {rm : Room} (n : Nat) (ht : ∀ w ∈ Ts, w.before args s = true) (hT : GoodIn Ts (va_wsS own index y ws)) (hw : ws = Cond.codeWith y bytes maxL ret hh :: ws') (hrc : rm.cells = mc) (hrs : rm.slots = ms)
    (hd : y.cls ≠ "java/lang/invoke/MethodHandle" ∧ y.cls ≠ "java/lang/invoke/VarHandle" ∧ (parseMethodDescriptor y.desc).map (fun d => d.parameters.length) = some n) (hR : rm.frames + 1 ≤ R.frames ∧ 8 + (maxL + 11) + rm.locals ≤ R.locals) :
    vx_CSW R s args own index y bytes maxL ret hh ws rm mc ms n := by
  have ok : ∀ w ∈ va_wsS own index y ws, w.before args s = true := fun w h => ht w (hT w h).1
  have hG : GoodIn Ts ws := fun w h => hT w (by unfold va_wsS; exact List.mem_append_right _ h)
  have hc : Cond.codeWith y bytes maxL ret hh ∈ ws := by rw [hw]; exact List.mem_cons_self
  refine ⟨⟨hrc, hrs, hR.1, hR.2, pay_in ht hG, hc⟩, ht _ (hG _ hc).1, ok _ (by simp [va_wsS]), ⟨hd.1, hd.2.1⟩, fun sig h => ?_, ok _ (by simp [va_wsS]), ok _ (by simp [va_wsS])⟩
  have h2 := hd.2.2
  rw [h] at h2
  exact (Option.some.inj h2).symm
theorem vx_callSW (X : Stand p l e R s m args below meth c T locs cells slots) (hexec : p.tables.exec = Jvm.exec) {own : String} {index : Nat} {y : MethodName} {bytes : ByteArray} {maxL : Nat} {ret : Option FieldType} {hh : List (Nat × Nat × Nat × Nat)}
    (hown : s.vm.findClass own = some m.cls) (hlink : (Cond.methodLink own index y).before args s = true) (hstat : (Cond.static y).before args s = true) (hinit : (Cond.initialized y.cls).before args s = true)
    (hcode : (Cond.codeWith y bytes maxL ret hh).before args s = true) (hy : y.cls ≠ "java/lang/invoke/MethodHandle" ∧ y.cls ≠ "java/lang/invoke/VarHandle")
    {W9 : Nat} {Pre : Pt → Array Value → Prop} {Post : Pt → Array Value → Option Value → Pt → Prop} (hK : Back l R p e below s args y 3 W9 Pre Post)
    {g : JFrame} (hg : g.method = m) (hsize : g.locals.size = c.maxLocals) {argsL rest : List Value} (hlen : ∀ sig, parseMethodDescriptor y.desc = some sig → argsL.length = sig.parameters.length)
    (hstack : g.stack = argsL.reverse ++ rest) (hW : 2 * g.monitorRoom + (rest.map fun v => v.category).sum ≤ W9) (hdg : decode c.code g.pc = .ok (.invokestatic index, 3))
    (hpre : ∀ vm₁, s.WarmedH vm₁ → Pre ⟨T.setVm vm₁, locs, cells, slots⟩ argsL.toArray) :
    ∃ (v : Option Value) (vm₁ : Vm) (B : Pt), s.WarmedH vm₁ ∧ Stand p l e R s m args below meth c B.U B.locs B.cells B.slots ∧ Post ⟨T.setVm vm₁, locs, cells, slots⟩ argsL.toArray v B ∧
      ∀ target, Steps p.tables e below (B.U.setTop { g with pc := g.pc + 3, stack := v.toList ++ rest }) target → Steps p.tables e below (T.setTop g) target := by
  obtain ⟨mk, methM, cM, hnamed, hmethM, -, -, -, -, -, -, hsigM⟩ := Cond.codeWith_spec hcode
  have hstatic : methM.isStatic = true := Cond.static_spec hnamed hmethM hstat
  obtain ⟨kP, hkP, -⟩ := className_of_methodNamed hnamed
  have hinitP : kP.init = .initialized := Cond.initialized_spec (findClass_of_methodNamed hnamed) hkP hinit
  obtain ⟨vm₁, X₁, hstep₁⟩ := X.invokestatic hexec hown hlink hnamed hmethM hstatic hkP hinitP hy (g := g) hg (argsL := argsL) (rest := rest) (hlen _ hsigM) hstack hdg
  obtain ⟨v, B, X', hpost, hsteps⟩ := hK m meth c ⟨T.setVm vm₁, locs, cells, slots⟩ { g with stack := rest } (.invokestatic index) mk argsL.toArray X₁ hg hsize hdg hW (X₁.named hnamed) (hpre vm₁ X₁.warmed)
  exact ⟨v, vm₁, B, X₁.warmed, X', hpost, fun target h => hstep₁ _ fun acts => by rw [doInvoke_state]; exact hsteps.trans h⟩
theorem vx_runSW {y : MethodName} {bytes cc : ByteArray} {maxL nL mc ms n index : Nat} {ret : Option FieldType} {hh : List (Nat × Nat × Nat × Nat)} {ws : List Cond} {rm : Room} {Pc : Array Value → State → Prop} {Qc : Array Value → State → Outcome → State → Prop} {free : Addr → Prop} {Ts : List Cond} {own : String} {As rest : List Value} {g : JFrame}
    (S : CallFix p m c cc nL s args Ts own) (hM : Met l y ws rm Pc Qc mc ms free) (cw : vx_CSW R s args own index y bytes maxL ret hh ws rm mc ms n) (hp : PreS s H Pc As)
    (hg : g.method = m) (hn : As.length = n) (hsize : g.locals.size = nL) (hstack : g.stack = As.reverse ++ rest) (hW : 2 * g.monitorRoom + (rest.map fun v => v.category).sum ≤ 8) (hdg : decode cc g.pc = .ok (.invokestatic index, 3)) (hf : cells + mc ≤ R.cells ∧ slots + ms ≤ R.slots) :
    va_Run p l e R s m args below meth c H locs cells slots mc ms g rest (Qc As.toArray) (free) := by
  obtain ⟨⟨hrc, hrs, hfr, hlo, hws, hcw⟩, hcode, hini, hy, hlen, hl, hstt⟩ := cw
  have hK : Back l R p e below s args y 3 8 (PreOf R mc ms Pc) (PostOf Qc mc ms free) := va_backW (hh := hh) (bytes := bytes) (maxL := maxL) (ret := ret) hM hp.1 hrc hrs hfr hlo hws hcw (fun a' U hW => word_at hW (Or.inl (by first | rfl | simp [Cond.onTables, Cond.keeps, Cond.steady])) hini)
  obtain ⟨hx, hb, hml, ho, -⟩ := S
  intro T hT X
  obtain ⟨v, vm₁, ⟨U', l2, c2, s2⟩, hW₁, X', ⟨g', mk, t, L, e1, e2, hq, h1, hL, h2, h3⟩, st⟩ := vx_callSW X hx (hh := hh) (bytes := bytes) (maxL := maxL) (ret := ret) ho hl hstt hini hcode hy hK hg (hsize.trans hml.symm) (argsL := As) (rest := rest) (fun sig h => hn.trans (hlen sig h)) hstack hW (by rw [hb]; exact hdg)
    (fun vm₁ hW₁ => ⟨hf.1, hf.2, hp.2 (T.setVm vm₁) hT hW₁⟩)
  dsimp only [Pt.U, Pt.locs, Pt.cells, Pt.slots] at X' e1 e2 h1 h2 h3 st
  subst h1; subst h2; subst h3
  exact ⟨v, (T.setVm vm₁).calling g' mk As.toArray, t, U', L, hT, X', hL, e1, e2, hq, st⟩
/-- not caught here, past rows that name other classes: it goes on to the caller -/
theorem vx_outP {p : Program} {l : Launch} {e : Env} {R : Room} {s : State} {m : MethodId} {args : Array Value} {below : List Frame} {meth : Method} {c : Code} {H : Heap} {locs : List Loc} {cells slots : Nat} {free : Addr → Prop} {ls : Array Slot} {rest : List Value} {Qc : Array Value → State → Outcome → State → Prop} {XC : String → State → State → Prop}
    {pc : Nat} {own E : String} {ce : Cell} {q : Addr} {mc ms : Nat} (hown : s.vm.findClass own = some m.cls) (hlocks : meth.locks = false)
    (hpass : ∀ z ∈ c.exceptionTable.toList, covers z pc = false ∨ (z.catchType ≠ 0 ∧ ∃ nm : String, (Cond.classLink own z.catchType nm).before args s = true ∧ va_Nc E nm s)) (hcell : H[q]? = some ce) (hv : ce.vm = .none) (hcl : s.vm.findClass E = some ce.cls)
    (hx : ∀ t : State, t.heap = H → s.vm.Alike t.vm → XC E s t) (hf : ∀ z ∈ locs, free z.base) (hc : cells ≤ mc) (hs : slots ≤ ms) :
    vx_W p l e R s m args below meth c H locs cells slots (vx_MQ below Qc XC args s mc ms free) (F0 m pc ls rest) q := by
  intro T hT X
  have hpl : e.platform.magicAccessors = ({} : Platform).magicAccessors := by rw [X.admits.platform]
  obtain ⟨vm', hW', X', st⟩ := X.outThrough hlocks q (g := F0 m pc ls rest) rfl rfl rfl (cell := ce) (by rw [hT]; exact hcell) (by rw [hv]; rfl)
    (by obtain ⟨k9, h9, -⟩ := Vm.findClass_spec hcl; exact ⟨k9, h9⟩) (fun z hz => by
      rcases hpass z hz with h | ⟨hz0, nm, hl1, hn1⟩
      · exact Or.inl h
      · obtain ⟨c6, hc6, hcl6⟩ := Cond.classLink_spec hown hl1 e.platform hpl
        obtain ⟨a8, b8, h1, h2, h3⟩ := hn1
        cases Option.some.inj (h1.symm.trans hcl)
        cases Option.some.inj (h2.symm.trans hc6)
        exact Or.inr ⟨hz0, _, hcl6, h3⟩)
  obtain ⟨g₀, hfr⟩ := X'.frames_eq
  have hcell9 : ((T.setVm vm').setFrames (.throwing q :: below)).heap[q]? = some ce := by
    show T.heap[q]? = some ce
    rw [hT]; exact hcell
  have hend : Ended ((T.setVm vm').setFrames (.throwing q :: below)) below (.threw q) := State.frames_setFrames _ (State.cur_lt_of_frames hfr)
  refine ⟨(T.setVm vm').setFrames (.throwing q :: below), ?_, .threw q, X'.here.running, hend, Or.inr ⟨q, rfl, E, ce, locs, hx _ hT (X'.ends _).1.alike, hcell9, hv, hcl, (X'.ends _).1, (X'.ends _).2.mono hc hs, hf⟩⟩
  rw [X.pushThrowing_eq]
  exact st
/-- a thing of a world lies in the heap -/
theorem vx_lt {D : va_G} {cl : List vw_C} {ws : va_W} {H1 : Heap} (h : va_P D cl ws H1) {k : Nat} {q : Nat × va_E} (hk : ws[k]? = some q) : q.1 < H1.size := (h k q hk).lt
end VXS
/-! ===== END ===== -/
/-! ===== BEGIN methods with a table of their own: called by a name, returning or throwing ===== -/
section VXH
/-! vx_backW, vx_callVX, vx_callSX, vx_callVW, vx_runVW, vx_runVX, vx_runSX, vx_ofWH follow the same proofs as their sisters above (Free/Laws.lean, Shelf42/LK1.lean); vx_outP calls Shelf42/NT130.lean (outThrough). -/
section
variable {l : Launch} {R : Room} {p : Program} {e : Env} {below : List Frame} {s : State} {sargs : Array Value} {y : MethodName} {len W9 : Nat}
theorem vx_backW {ws : List Cond} {rm : Room} {Pc : Array Value → State → Prop} {Qc : Array Value → State → Outcome → State → Prop} {XC : String → State → State → Prop} {mc ms : Nat} {free : Addr → Prop} {bytes : ByteArray} {maxL : Nat} {ret : Option FieldType} {hh : List (Nat × Nat × Nat × Nat)}
    (hM : vx_Met l y ws rm Pc Qc XC mc ms free) (hblind : FrameBlind Pc) (hrc : rm.cells = mc) (hrs : rm.slots = ms)
    (hframes : rm.frames + 1 ≤ R.frames) (hlocals : W9 + (maxL + 11) + rm.locals ≤ R.locals)
    (hws : ∀ w ∈ ws, ∀ a' U, s.WarmedH U.vm → w.before a' U = true) (hcode : Cond.codeWith y bytes maxL ret hh ∈ ws) (hinit : ∀ a' U, s.WarmedH U.vm → (Cond.initialized y.cls).before a' U = true) :
    vx_Back l R p e below s sargs y len W9 (PreOf R mc ms Pc) (PostOf Qc mc ms free) (vx_Post XC mc ms free) := by
  intro m meth c A g ig mk a X hg hsize hdg hW hn hp
  have h1 : (headSpec ws rm).pre.before a A.U = true := atoms_intro fun w hw => hws w hw _ _ X.warmed
  have h2 : (Cond.codeWith y bytes maxL ret hh).before a A.U = true := hws _ hcode _ _ X.warmed
  have h3 : (Cond.initialized y.cls).before a A.U = true := hinit _ _ X.warmed
  have h4 : A.cells + (headSpec ws rm).room.cells ≤ R.cells := by rw [show (headSpec ws rm).room.cells = mc from hrc]; exact hp.1
  have h5 : A.slots + (headSpec ws rm).room.slots ≤ R.slots := by rw [show (headSpec ws rm).room.slots = ms from hrs]; exact hp.2.1
  have hPc : Pc a (A.U.calling g mk a) := hblind _ _ _ _ hp.2.2
  obtain ⟨U, Ls, c0, s0⟩ := A
  dsimp only [Pt.U, Pt.locs, Pt.cells, Pt.slots] at h1 h2 h3 h4 h5 X hn hPc ⊢
  obtain ⟨m9, methY, cY, hn9, hmY, hcY, -, hlY, -⟩ := Cond.codeWith_spec h2
  cases Option.some.inj (hn9.symm.trans hn)
  obtain ⟨kY, hkY, -⟩ := className_of_methodNamed hn
  have hinitY : kY.init = .initialized := Cond.initialized_spec (findClass_of_methodNamed hn) hkY h3
  have h : At U g.method c below := by rw [hg]; exact X.here
  have hlocals9 : W9 + (maxL + 11) + (headSpec ws rm).room.locals ≤ R.locals := hlocals
  have happ : (headSpec ws rm).appliesLoose y e.platform (U.calling g mk a) = true :=
    Spec.appliesLoose_calling (g := g) h hdg hn hkY hinitY
      (X.room_calling (g := g) (R' := (headSpec ws rm).room) hsize hmY hcY hframes (by rw [hlY]; omega) h4 h5) h1
  obtain ⟨mid, hmid⟩ := h.above
  have hfr : (U.setTop g).frames = (.java g :: mid) ++ below := by rw [State.frames_setTop' g h.top, hmid]; rfl
  obtain ⟨o, s₂, hsteps, -, hend, hq⟩ := Steps.callFree hM p X.admits X.cas X.clock (acts := []) hfr happ hPc trivial
  have hq' : vx_Q Qc XC mc ms free a (U.calling g mk a) o s₂ := hq
  rw [State.frames_setTop' g h.top] at hend
  obtain ⟨g₀, hg0⟩ := Option.isSome_iff_exists.mp h.top
  obtain ⟨r, hr⟩ := State.topJava?_eq_some.mp hg0
  have hr' : (({ U with heap := s₂.heap, slotsUsed := s₂.slotsUsed } : State).setVm s₂.vm).frames = .java g₀ :: r := hr
  rcases hq' with ⟨hqc, L, hfe, hL⟩ | ⟨q, rfl, E, ce, L, hx, hce, hcv, hcl, hW₂, hsm, hL⟩
  · obtain ⟨⟨v, rfl⟩, hW₂, e2, q2, q3, q4, q5, q6⟩ := id hfe
    have e3 : s₂ = ({ (U.calling g mk a).setFrames s₂.frames with heap := s₂.heap, slotsUsed := s₂.slotsUsed } : State).setVm s₂.vm := by
      have : s₂ = ({ s₂ with vm := (U.calling g mk a).vm } : State).setVm s₂.vm := rfl
      rw [e2] at this
      exact this
    obtain ⟨c₂, i₂, len₂, hc₂, hd₂, hf₂⟩ := hend
    have hW' : U.WarmedH s₂.vm := hW₂
    have hcc : c₂ = c := by
      have h1 : s₂.code? g.method = U.code? g.method := by
        rw [State.code?_eq, State.code?_eq, hW'.alike.method?]
      exact Option.some.inj (hc₂.symm.trans (h1.trans h.code))
    subst hcc
    have hlen : len₂ = len := by rw [hdg] at hd₂; cases hd₂; rfl
    subst hlen
    have hs₂ : s₂ = (({ U with heap := s₂.heap, slotsUsed := s₂.slotsUsed } : State).setVm s₂.vm).setTop { g with pc := g.pc + len₂, stack := v.toList ++ g.stack } := by
      refine e3.trans ?_
      rw [hf₂, State.calling_eq h.top, State.setFrames_setFrames, State.setTop_of_frames _ hr', hr]
      rfl
    have hsame : U.sameButNew ({ U with heap := s₂.heap, slotsUsed := s₂.slotsUsed } : State) L mc ms := by
      refine ⟨?_, q2, q3, q4, q5, q6⟩
      obtain ⟨t, ht, -⟩ := State.frames_cons hr
      show ({ U with heap := s₂.heap, slotsUsed := s₂.slotsUsed } : State) = { U.setFrames U.frames with heap := s₂.heap, slotsUsed := s₂.slotsUsed }
      rw [State.setFrames_self ht]
    subst hg
    refine Or.inl ⟨v, ⟨(({ U with heap := s₂.heap, slotsUsed := s₂.slotsUsed } : State).setVm s₂.vm), Ls ++ L, c0 + mc, s0 + ms⟩,
      ⟨X.admits, X.cas, X.clock, X.frames, X.room, X.hears, X.method, X.code, (X.here.setHeapUsed s₂.heap s₂.slotsUsed).setVm hW'.alike, X.tail, State.WarmedH.trans X.warmed hW', X.limits, X.bytes, X.same.trans (hsame.setVm s.vm)⟩,
      ⟨g, mk, s₂, L, rfl, rfl, hqc, rfl, hL, rfl, rfl⟩, ?_⟩
    show Steps p.tables e below _ ((({ U with heap := s₂.heap, slotsUsed := s₂.slotsUsed } : State).setVm s₂.vm).setTop { g with pc := g.pc + len₂, stack := v.toList ++ g.stack })
    rw [← hs₂]
    exact hsteps
  · obtain ⟨e2, q2, q3, q4, q5, q6⟩ := id hsm
    have e3 : s₂ = ({ (U.calling g mk a).setFrames s₂.frames with heap := s₂.heap, slotsUsed := s₂.slotsUsed } : State).setVm s₂.vm := by
      have : s₂ = ({ s₂ with vm := (U.calling g mk a).vm } : State).setVm s₂.vm := rfl
      rw [e2] at this
      exact this
    have hf₂ : s₂.frames = .throwing q :: .java g :: U.frames.tail := hend
    have hW' : U.WarmedH s₂.vm := hW₂
    have hs₂ : s₂ = ((({ U with heap := s₂.heap, slotsUsed := s₂.slotsUsed } : State).setVm s₂.vm).setTop g).pushFrame (.throwing q) := by
      refine e3.trans ?_
      rw [hf₂, State.calling_eq h.top, State.setFrames_setFrames, State.pushFrame, State.frames_setTop _ hr', State.setTop_of_frames _ hr', State.setFrames_setFrames, hr]
      rfl
    have hsame : U.sameButNew ({ U with heap := s₂.heap, slotsUsed := s₂.slotsUsed } : State) L mc ms := by
      refine ⟨?_, q2, q3, q4, q5, q6⟩
      obtain ⟨t, ht, -⟩ := State.frames_cons hr
      show ({ U with heap := s₂.heap, slotsUsed := s₂.slotsUsed } : State) = { U.setFrames U.frames with heap := s₂.heap, slotsUsed := s₂.slotsUsed }
      rw [State.setFrames_self ht]
    subst hg
    refine Or.inr ⟨q, ⟨(({ U with heap := s₂.heap, slotsUsed := s₂.slotsUsed } : State).setVm s₂.vm), Ls ++ L, c0 + mc, s0 + ms⟩,
      ⟨X.admits, X.cas, X.clock, X.frames, X.room, X.hears, X.method, X.code, (X.here.setHeapUsed s₂.heap s₂.slotsUsed).setVm hW'.alike, X.tail, State.WarmedH.trans X.warmed hW', X.limits, X.bytes, X.same.trans (hsame.setVm s.vm)⟩,
      ⟨g, mk, s₂, L, E, ce, rfl, rfl, hx, hce, hcv, hcl, rfl, hL, rfl, rfl⟩, ?_⟩
    show Steps p.tables e below _ (((({ U with heap := s₂.heap, slotsUsed := s₂.slotsUsed } : State).setVm s₂.vm).setTop g).pushFrame (.throwing q))
    rw [← hs₂]
    exact hsteps
end
variable {p : Program} {l : Launch} {e : Env} {R : Room} {s : State} {m : MethodId} {args : Array Value} {below : List Frame} {meth : Method} {c : Code} {T : State} {H : Heap} {locs : List Loc} {cells slots : Nat}
theorem vx_callVX (X : Stand p l e R s m args below meth c T locs cells slots) (hexec : p.tables.exec = Jvm.exec) {own C : String} {index : Nat} {y : MethodName} {bytes : ByteArray} {maxL : Nat} {ret : Option FieldType} {hh : List (Nat × Nat × Nat × Nat)}
    (hown : s.vm.findClass own = some m.cls) (hlink : (Cond.methodLink own index y).before args s = true) (hinst : (Cond.instanceMethod y).before args s = true) (hsel : (Cond.selects C y y).before args s = true)
    (hcode : (Cond.codeWith y bytes maxL ret hh).before args s = true) (hy : y.cls ≠ "java/lang/invoke/MethodHandle" ∧ y.cls ≠ "java/lang/invoke/VarHandle")
    {W9 : Nat} {Pre : Pt → Array Value → Prop} {Post : Pt → Array Value → Option Value → Pt → Prop} {PostX : Pt → Array Value → Addr → Pt → Prop} (hK : vx_Back l R p e below s args y 3 W9 Pre Post PostX)
    {b : Addr} {cellB : Cell} (hcell : T.heap[b]? = some cellB) (hobj : cellB.vm.isStatics = false) (hcls : s.vm.findClass C = some cellB.cls)
    {g : JFrame} (hg : g.method = m) (hsize : g.locals.size = c.maxLocals) {argsL rest : List Value} (hlen : ∀ sig, parseMethodDescriptor y.desc = some sig → argsL.length = sig.parameters.length)
    (hstack : g.stack = argsL.reverse ++ .ref b :: rest) (hW : 2 * g.monitorRoom + (rest.map fun v => v.category).sum ≤ W9) (hdg : decode c.code g.pc = .ok (.invokevirtual index, 3))
    (hpre : ∀ vm₁, s.WarmedH vm₁ → Pre ⟨T.setVm vm₁, locs, cells, slots⟩ (Value.ref b :: argsL).toArray) :
    (∃ (v : Option Value) (vm₁ : Vm) (B : Pt), s.WarmedH vm₁ ∧ Stand p l e R s m args below meth c B.U B.locs B.cells B.slots ∧ Post ⟨T.setVm vm₁, locs, cells, slots⟩ (Value.ref b :: argsL).toArray v B ∧
      ∀ target, Steps p.tables e below (B.U.setTop { g with pc := g.pc + 3, stack := v.toList ++ rest }) target → Steps p.tables e below (T.setTop g) target) ∨
    (∃ (q : Addr) (vm₁ : Vm) (B : Pt), s.WarmedH vm₁ ∧ Stand p l e R s m args below meth c B.U B.locs B.cells B.slots ∧ PostX ⟨T.setVm vm₁, locs, cells, slots⟩ (Value.ref b :: argsL).toArray q B ∧
      Steps p.tables e below (T.setTop g) ((B.U.setTop { g with stack := rest }).pushFrame (.throwing q))) := by
  obtain ⟨mk, methM, hnamed, hmethM, hstM, habM⟩ := Cond.instanceMethod_spec hinst
  obtain ⟨m8, methM', cM, hn8, hmethM', -, -, -, -, -, -, hsigM⟩ := Cond.codeWith_spec hcode
  cases Option.some.inj (hn8.symm.trans hnamed)
  cases hmethM.symm.trans hmethM'
  obtain ⟨c2, r2, m2, q1, q2, q3, q4, kP, hkP, hkPi⟩ := Cond.selects_spec hsel
  cases hcls.symm.trans q1
  cases (State.methodFound?_of_named hnamed hy).symm.trans q2
  cases hnamed.symm.trans q3
  have hselP : selectMethod e.platform s.vm cellB.cls mk = .method mk := by rw [Launch.admits_selectMethod X.admits]; exact q4
  obtain ⟨vm₁, X₁, hstep₁⟩ := X.invokevirtual hexec hown hlink hnamed hmethM hstM hkP hkPi hy (a := b) (cell := cellB) hcell
    (fun z h => by rw [h] at hobj; cases hobj) hselP hmethM habM hkP hkPi (g := g) hg (argsL := argsL) (rest := rest) (hlen _ hsigM) hstack hdg
  rcases hK m meth c ⟨T.setVm vm₁, locs, cells, slots⟩ { g with stack := rest } (.invokevirtual index) mk (Value.ref b :: argsL).toArray X₁ hg hsize hdg hW (X₁.named hnamed) (hpre vm₁ X₁.warmed) with ⟨v, B, X', hpost, hsteps⟩ | ⟨q, B, X', hpost, hsteps⟩
  · exact Or.inl ⟨v, vm₁, B, X₁.warmed, X', hpost, fun target h => hstep₁ _ fun acts => by rw [doInvoke_state]; exact hsteps.trans h⟩
  · exact Or.inr ⟨q, vm₁, B, X₁.warmed, X', hpost, hstep₁ _ fun acts => by rw [doInvoke_state]; exact hsteps⟩
theorem vx_callSX (X : Stand p l e R s m args below meth c T locs cells slots) (hexec : p.tables.exec = Jvm.exec) {own : String} {index : Nat} {y : MethodName} {bytes : ByteArray} {maxL : Nat} {ret : Option FieldType} {hh : List (Nat × Nat × Nat × Nat)}
    (hown : s.vm.findClass own = some m.cls) (hlink : (Cond.methodLink own index y).before args s = true) (hstat : (Cond.static y).before args s = true) (hinit : (Cond.initialized y.cls).before args s = true)
    (hcode : (Cond.codeWith y bytes maxL ret hh).before args s = true) (hy : y.cls ≠ "java/lang/invoke/MethodHandle" ∧ y.cls ≠ "java/lang/invoke/VarHandle")
    {W9 : Nat} {Pre : Pt → Array Value → Prop} {Post : Pt → Array Value → Option Value → Pt → Prop} {PostX : Pt → Array Value → Addr → Pt → Prop} (hK : vx_Back l R p e below s args y 3 W9 Pre Post PostX)
    {g : JFrame} (hg : g.method = m) (hsize : g.locals.size = c.maxLocals) {argsL rest : List Value} (hlen : ∀ sig, parseMethodDescriptor y.desc = some sig → argsL.length = sig.parameters.length)
    (hstack : g.stack = argsL.reverse ++ rest) (hW : 2 * g.monitorRoom + (rest.map fun v => v.category).sum ≤ W9) (hdg : decode c.code g.pc = .ok (.invokestatic index, 3))
    (hpre : ∀ vm₁, s.WarmedH vm₁ → Pre ⟨T.setVm vm₁, locs, cells, slots⟩ argsL.toArray) :
    (∃ (v : Option Value) (vm₁ : Vm) (B : Pt), s.WarmedH vm₁ ∧ Stand p l e R s m args below meth c B.U B.locs B.cells B.slots ∧ Post ⟨T.setVm vm₁, locs, cells, slots⟩ argsL.toArray v B ∧
      ∀ target, Steps p.tables e below (B.U.setTop { g with pc := g.pc + 3, stack := v.toList ++ rest }) target → Steps p.tables e below (T.setTop g) target) ∨
    (∃ (q : Addr) (vm₁ : Vm) (B : Pt), s.WarmedH vm₁ ∧ Stand p l e R s m args below meth c B.U B.locs B.cells B.slots ∧ PostX ⟨T.setVm vm₁, locs, cells, slots⟩ argsL.toArray q B ∧
      Steps p.tables e below (T.setTop g) ((B.U.setTop { g with stack := rest }).pushFrame (.throwing q))) := by
  obtain ⟨mk, methM, cM, hnamed, hmethM, -, -, -, -, -, -, hsigM⟩ := Cond.codeWith_spec hcode
  have hstatic : methM.isStatic = true := Cond.static_spec hnamed hmethM hstat
  obtain ⟨kP, hkP, -⟩ := className_of_methodNamed hnamed
  have hinitP : kP.init = .initialized := Cond.initialized_spec (findClass_of_methodNamed hnamed) hkP hinit
  obtain ⟨vm₁, X₁, hstep₁⟩ := X.invokestatic hexec hown hlink hnamed hmethM hstatic hkP hinitP hy (g := g) hg (argsL := argsL) (rest := rest) (hlen _ hsigM) hstack hdg
  rcases hK m meth c ⟨T.setVm vm₁, locs, cells, slots⟩ { g with stack := rest } (.invokestatic index) mk argsL.toArray X₁ hg hsize hdg hW (X₁.named hnamed) (hpre vm₁ X₁.warmed) with ⟨v, B, X', hpost, hsteps⟩ | ⟨q, B, X', hpost, hsteps⟩
  · exact Or.inl ⟨v, vm₁, B, X₁.warmed, X', hpost, fun target h => hstep₁ _ fun acts => by rw [doInvoke_state]; exact hsteps.trans h⟩
  · exact Or.inr ⟨q, vm₁, B, X₁.warmed, X', hpost, hstep₁ _ fun acts => by rw [doInvoke_state]; exact hsteps⟩
theorem vx_callVW (X : Stand p l e R s m args below meth c T locs cells slots) (hexec : p.tables.exec = Jvm.exec) {own C : String} {index : Nat} {y : MethodName} {bytes : ByteArray} {maxL : Nat} {ret : Option FieldType} {hh : List (Nat × Nat × Nat × Nat)}
    (hown : s.vm.findClass own = some m.cls) (hlink : (Cond.methodLink own index y).before args s = true) (hinst : (Cond.instanceMethod y).before args s = true) (hsel : (Cond.selects C y y).before args s = true)
    (hcode : (Cond.codeWith y bytes maxL ret hh).before args s = true) (hy : y.cls ≠ "java/lang/invoke/MethodHandle" ∧ y.cls ≠ "java/lang/invoke/VarHandle")
    {W9 : Nat} {Pre : Pt → Array Value → Prop} {Post : Pt → Array Value → Option Value → Pt → Prop} (hK : Back l R p e below s args y 3 W9 Pre Post)
    {b : Addr} {cellB : Cell} (hcell : T.heap[b]? = some cellB) (hobj : cellB.vm.isStatics = false) (hcls : s.vm.findClass C = some cellB.cls)
    {g : JFrame} (hg : g.method = m) (hsize : g.locals.size = c.maxLocals) {argsL rest : List Value} (hlen : ∀ sig, parseMethodDescriptor y.desc = some sig → argsL.length = sig.parameters.length)
    (hstack : g.stack = argsL.reverse ++ .ref b :: rest) (hW : 2 * g.monitorRoom + (rest.map fun v => v.category).sum ≤ W9) (hdg : decode c.code g.pc = .ok (.invokevirtual index, 3))
    (hpre : ∀ vm₁, s.WarmedH vm₁ → Pre ⟨T.setVm vm₁, locs, cells, slots⟩ (Value.ref b :: argsL).toArray) :
    ∃ (v : Option Value) (vm₁ : Vm) (B : Pt), s.WarmedH vm₁ ∧ Stand p l e R s m args below meth c B.U B.locs B.cells B.slots ∧ Post ⟨T.setVm vm₁, locs, cells, slots⟩ (Value.ref b :: argsL).toArray v B ∧
      ∀ target, Steps p.tables e below (B.U.setTop { g with pc := g.pc + 3, stack := v.toList ++ rest }) target → Steps p.tables e below (T.setTop g) target := by
  obtain ⟨mk, methM, hnamed, hmethM, hstM, habM⟩ := Cond.instanceMethod_spec hinst
  obtain ⟨m8, methM', cM, hn8, hmethM', -, -, -, -, -, -, hsigM⟩ := Cond.codeWith_spec hcode
  cases Option.some.inj (hn8.symm.trans hnamed)
  cases hmethM.symm.trans hmethM'
  obtain ⟨c2, r2, m2, q1, q2, q3, q4, kP, hkP, hkPi⟩ := Cond.selects_spec hsel
  cases hcls.symm.trans q1
  cases (State.methodFound?_of_named hnamed hy).symm.trans q2
  cases hnamed.symm.trans q3
  have hselP : selectMethod e.platform s.vm cellB.cls mk = .method mk := by rw [Launch.admits_selectMethod X.admits]; exact q4
  obtain ⟨vm₁, X₁, hstep₁⟩ := X.invokevirtual hexec hown hlink hnamed hmethM hstM hkP hkPi hy (a := b) (cell := cellB) hcell
    (fun z h => by rw [h] at hobj; cases hobj) hselP hmethM habM hkP hkPi (g := g) hg (argsL := argsL) (rest := rest) (hlen _ hsigM) hstack hdg
  obtain ⟨v, B, X', hpost, hsteps⟩ := hK m meth c ⟨T.setVm vm₁, locs, cells, slots⟩ { g with stack := rest } (.invokevirtual index) mk (Value.ref b :: argsL).toArray X₁ hg hsize hdg hW (X₁.named hnamed) (hpre vm₁ X₁.warmed)
  exact ⟨v, vm₁, B, X₁.warmed, X', hpost, fun target h => hstep₁ _ fun acts => by rw [doInvoke_state]; exact hsteps.trans h⟩
abbrev vx_CVW (R : Room) (s : State) (args : Array Value) (own C : String) (index : Nat) (y : MethodName) (bytes : ByteArray) (maxL : Nat) (ret : Option FieldType) (hh : List (Nat × Nat × Nat × Nat)) (ws : List Cond) (rm : Room) (mc ms n : Nat) : Prop :=
  (rm.cells = mc ∧ rm.slots = ms ∧ rm.frames + 1 ≤ R.frames ∧ 8 + (maxL + 11) + rm.locals ≤ R.locals ∧ (∀ w ∈ ws, ∀ (a' : Array Value) (U : State), s.WarmedH U.vm → w.before a' U = true) ∧ Cond.codeWith y bytes maxL ret hh ∈ ws) ∧
  (Cond.codeWith y bytes maxL ret hh).before args s = true ∧ (Cond.initialized y.cls).before args s = true ∧ (y.cls ≠ "java/lang/invoke/MethodHandle" ∧ y.cls ≠ "java/lang/invoke/VarHandle") ∧
  (∀ sig, parseMethodDescriptor y.desc = some sig → n = sig.parameters.length) ∧ (Cond.methodLink own index y).before args s = true ∧ (Cond.instanceMethod y).before args s = true ∧ (Cond.selects C y y).before args s = true
theorem vx_cwVW {own C : String} {index maxL mc ms : Nat} {y : MethodName} {bytes : ByteArray} {ret : Option FieldType} {hh : List (Nat × Nat × Nat × Nat)} {Ts ws ws' : List Cond} {rm : Room} (n : Nat) (ht : ∀ w ∈ Ts, w.before args s = true) (hT : GoodIn Ts (wsV own index C y ws)) (hw : ws = Cond.codeWith y bytes maxL ret hh :: ws') (hrc : rm.cells = mc) (hrs : rm.slots = ms)
    (hd : y.cls = C ∧ y.cls ≠ "java/lang/invoke/MethodHandle" ∧ y.cls ≠ "java/lang/invoke/VarHandle" ∧ (parseMethodDescriptor y.desc).map (fun d => d.parameters.length) = some n) (hR : rm.frames + 1 ≤ R.frames ∧ 8 + (maxL + 11) + rm.locals ≤ R.locals) :
    vx_CVW R s args own C index y bytes maxL ret hh ws rm mc ms n := by
  obtain ⟨hC, hd⟩ := hd
  subst hC
  have ok : ∀ w ∈ wsV own index y.cls y ws, w.before args s = true := fun w h => ht w (hT w h).1
  have hG : GoodIn Ts ws := fun w h => hT w (by unfold wsV; exact List.mem_append_right _ h)
  have hc : Cond.codeWith y bytes maxL ret hh ∈ ws := by rw [hw]; exact List.mem_cons_self
  refine ⟨⟨hrc, hrs, hR.1, hR.2, pay_in ht hG, hc⟩, ht _ (hG _ hc).1, ok _ (by simp [wsV]), ⟨hd.1, hd.2.1⟩, fun sig h => ?_, ok _ (by simp [wsV]), ok _ (by simp [wsV]), ok _ (by simp [wsV])⟩
  have h2 := hd.2.2
  rw [h] at h2
  exact (Option.some.inj h2).symm
theorem vx_runVW {y : MethodName} {bytes cc : ByteArray} {maxL nL mc ms n index : Nat} {ret : Option FieldType} {hh : List (Nat × Nat × Nat × Nat)} {ws : List Cond} {rm : Room} {Pc : Array Value → State → Prop} {Qc : Array Value → State → Outcome → State → Prop} {free : Addr → Prop} {Ts : List Cond} {own C : String} {b : Addr} {As rest : List Value} {g : JFrame}
    (S : CallFix p m c cc nL s args Ts own) (hM : Met l y ws rm Pc Qc mc ms free) (cw : vx_CVW R s args own C index y bytes maxL ret hh ws rm mc ms n) (hp : PreV s H C b Pc As)
    (hg : g.method = m) (hn : As.length = n) (hsize : g.locals.size = nL) (hstack : g.stack = As.reverse ++ .ref b :: rest) (hW : 2 * g.monitorRoom + (rest.map fun v => v.category).sum ≤ 8) (hdg : decode cc g.pc = .ok (.invokevirtual index, 3)) (hf : cells + mc ≤ R.cells ∧ slots + ms ≤ R.slots) :
    va_Run p l e R s m args below meth c H locs cells slots mc ms g rest (Qc (Value.ref b :: As).toArray) free := by
  obtain ⟨⟨hrc, hrs, hfr, hlo, hws, hcw⟩, hcode, hini, hy, hlen, hl, hin, hse⟩ := cw
  have hK : Back l R p e below s args y 3 8 (PreOf R mc ms Pc) (PostOf Qc mc ms free) := va_backW (hh := hh) (bytes := bytes) (maxL := maxL) (ret := ret) hM hp.1 hrc hrs hfr hlo hws hcw (fun a' U hW => word_at hW (Or.inl (by first | rfl | simp [Cond.onTables, Cond.keeps, Cond.steady])) hini)
  obtain ⟨hx, hb, hml, ho, -⟩ := S
  obtain ⟨-, ⟨cellB, hcB, hoB, hclB⟩, hPc⟩ := hp
  intro T hT X
  obtain ⟨v, vm₁, ⟨U', l2, c2, s2⟩, hW₁, X', ⟨g', mk, t, L, e1, e2, hq, h1, hL, h2, h3⟩, st⟩ := vx_callVW X hx (C := C) (hh := hh) (bytes := bytes) (maxL := maxL) (ret := ret) ho hl hin hse hcode hy hK (by rw [hT]; exact hcB) hoB hclB hg (hsize.trans hml.symm) (argsL := As) (rest := rest) (fun sig h => hn.trans (hlen sig h)) hstack hW (by rw [hb]; exact hdg)
    (fun vm₁ hW₁ => ⟨hf.1, hf.2, hPc (T.setVm vm₁) hT hW₁⟩)
  dsimp only [Pt.U, Pt.locs, Pt.cells, Pt.slots] at X' e1 e2 h1 h2 h3 st
  subst h1; subst h2; subst h3
  exact ⟨v, (T.setVm vm₁).calling g' mk (Value.ref b :: As).toArray, t, U', L, hT, X', hL, e1, e2, hq, st⟩
section
variable {y : MethodName} {bytes cc : ByteArray} {maxL nL mc ms n index : Nat} {ret : Option FieldType} {ws : List Cond} {rm : Room} {Pc : Array Value → State → Prop} {Qc : Array Value → State → Outcome → State → Prop} {XC : String → State → State → Prop} {free : Addr → Prop} {Ts : List Cond} {own C : String} {b : Addr} {As rest : List Value} {g : JFrame}
theorem vx_runVX {hh : List (Nat × Nat × Nat × Nat)} (S : CallFix p m c cc nL s args Ts own) (hM : vx_Met l y ws rm Pc Qc XC mc ms free) (cw : vx_CVW R s args own C index y bytes maxL ret hh ws rm mc ms n) (hp : PreV s H C b Pc As)
    (hg : g.method = m) (hn : As.length = n) (hsize : g.locals.size = nL) (hstack : g.stack = As.reverse ++ .ref b :: rest) (hW : 2 * g.monitorRoom + (rest.map fun v => v.category).sum ≤ 8) (hdg : decode cc g.pc = .ok (.invokevirtual index, 3)) (hf : cells + mc ≤ R.cells ∧ slots + ms ≤ R.slots) :
    vx_Run p l e R s m args below meth c H locs cells slots mc ms g rest (Qc (Value.ref b :: As).toArray) XC free := by
  obtain ⟨⟨hrc, hrs, hfr, hlo, hws, hcw⟩, hcode, hini, hy, hlen, hl, hin, hse⟩ := cw
  have hK : vx_Back l R p e below s args y 3 8 (PreOf R mc ms Pc) (PostOf Qc mc ms free) (vx_Post XC mc ms free) := vx_backW (hh := hh) (bytes := bytes) (maxL := maxL) (ret := ret) hM hp.1 hrc hrs hfr hlo hws hcw (fun a' U hW => word_at hW (Or.inl (by first | rfl | simp [Cond.onTables, Cond.keeps, Cond.steady])) hini)
  obtain ⟨hx, hb, hml, ho, -⟩ := S
  obtain ⟨-, ⟨cellB, hcB, hoB, hclB⟩, hPc⟩ := hp
  intro T hT X
  rcases vx_callVX X hx (C := C) (hh := hh) (bytes := bytes) (maxL := maxL) (ret := ret) ho hl hin hse hcode hy hK (by rw [hT]; exact hcB) hoB hclB hg (hsize.trans hml.symm) (argsL := As) (rest := rest) (fun sig h => hn.trans (hlen sig h)) hstack hW (by rw [hb]; exact hdg)
    (fun vm₁ hW₁ => ⟨hf.1, hf.2, hPc (T.setVm vm₁) hT hW₁⟩) with ⟨v, vm₁, ⟨U', l2, c2, s2⟩, hW₁, X', ⟨g', mk, t, L, e1, e2, hq, h1, hL, h2, h3⟩, st⟩ | ⟨q, vm₁, ⟨U', l2, c2, s2⟩, hW₁, X', ⟨g', mk, t, L, E, ce, e1, e2, hq, hce, hcv, hcl, h1, hL, h2, h3⟩, st⟩
  · dsimp only [Pt.U, Pt.locs, Pt.cells, Pt.slots] at X' e1 e2 h1 h2 h3 st
    subst h1; subst h2; subst h3
    exact Or.inl ⟨v, (T.setVm vm₁).calling g' mk (Value.ref b :: As).toArray, t, U', L, hT, X', hL, e1, e2, hq, st⟩
  · dsimp only [Pt.U, Pt.locs, Pt.cells, Pt.slots] at X' e1 e2 h1 h2 h3 st hcl
    subst h1; subst h2; subst h3
    exact Or.inr ⟨q, (T.setVm vm₁).calling g' mk (Value.ref b :: As).toArray, t, U', L, E, ce, hT, X', hL, e1, e2, hq, hce, hcv, vx_cls hW₁ hcl, st⟩
theorem vx_runSX {hh : List (Nat × Nat × Nat × Nat)} (S : CallFix p m c cc nL s args Ts own) (hM : vx_Met l y ws rm Pc Qc XC mc ms free) (cw : vx_CSW R s args own index y bytes maxL ret hh ws rm mc ms n) (hp : PreS s H Pc As)
    (hg : g.method = m) (hn : As.length = n) (hsize : g.locals.size = nL) (hstack : g.stack = As.reverse ++ rest) (hW : 2 * g.monitorRoom + (rest.map fun v => v.category).sum ≤ 8) (hdg : decode cc g.pc = .ok (.invokestatic index, 3)) (hf : cells + mc ≤ R.cells ∧ slots + ms ≤ R.slots) :
    vx_Run p l e R s m args below meth c H locs cells slots mc ms g rest (Qc As.toArray) XC free := by
  obtain ⟨⟨hrc, hrs, hfr, hlo, hws, hcw⟩, hcode, hini, hy, hlen, hl, hstt⟩ := cw
  have hK : vx_Back l R p e below s args y 3 8 (PreOf R mc ms Pc) (PostOf Qc mc ms free) (vx_Post XC mc ms free) := vx_backW (hh := hh) (bytes := bytes) (maxL := maxL) (ret := ret) hM hp.1 hrc hrs hfr hlo hws hcw (fun a' U hW => word_at hW (Or.inl (by first | rfl | simp [Cond.onTables, Cond.keeps, Cond.steady])) hini)
  obtain ⟨hx, hb, hml, ho, -⟩ := S
  intro T hT X
  rcases vx_callSX X hx (hh := hh) (bytes := bytes) (maxL := maxL) (ret := ret) ho hl hstt hini hcode hy hK hg (hsize.trans hml.symm) (argsL := As) (rest := rest) (fun sig h => hn.trans (hlen sig h)) hstack hW (by rw [hb]; exact hdg)
    (fun vm₁ hW₁ => ⟨hf.1, hf.2, hp.2 (T.setVm vm₁) hT hW₁⟩) with ⟨v, vm₁, ⟨U', l2, c2, s2⟩, hW₁, X', ⟨g', mk, t, L, e1, e2, hq, h1, hL, h2, h3⟩, st⟩ | ⟨q, vm₁, ⟨U', l2, c2, s2⟩, hW₁, X', ⟨g', mk, t, L, E, ce, e1, e2, hq, hce, hcv, hcl, h1, hL, h2, h3⟩, st⟩
  · dsimp only [Pt.U, Pt.locs, Pt.cells, Pt.slots] at X' e1 e2 h1 h2 h3 st
    subst h1; subst h2; subst h3
    exact Or.inl ⟨v, (T.setVm vm₁).calling g' mk As.toArray, t, U', L, hT, X', hL, e1, e2, hq, st⟩
  · dsimp only [Pt.U, Pt.locs, Pt.cells, Pt.slots] at X' e1 e2 h1 h2 h3 st hcl
    subst h1; subst h2; subst h3
    exact Or.inr ⟨q, (T.setVm vm₁).calling g' mk As.toArray, t, U', L, E, ce, hT, X', hL, e1, e2, hq, hce, hcv, vx_cls hW₁ hcl, st⟩
end
end VXH
theorem vx_ofWH {l : Launch} {y : MethodName} {ws ws' : List Cond} {rm : Room} {Pc : Array Value → State → Prop} {Qc : Array Value → State → Outcome → State → Prop} {XC : String → State → State → Prop} {mc ms : Nat} {free : Addr → Prop} {cc : ByteArray} {maxL : Nat} {ret : Option FieldType} {hh : List (Nat × Nat × Nat × Nat)}
    (hy : plainName y.cls = true) (hw : ws = Cond.codeWith y cc maxL ret hh :: ws')
    (body : ∀ p e s m args below meth c s₁, BodyLoose p l y (headSpec ws rm) cc maxL ret e s m args below meth c s₁ → c.maxLocals = maxL → Pc args s →
      W p l e (headSpec ws rm).room s m args below meth c s.heap [] 0 0 (vx_MQ below Qc XC args s mc ms free) (entryFrame m args maxL)) : vx_Met l y ws rm Pc Qc XC mc ms free := by
  refine MetFree.of_bodyS (code := cc) (maxLocals := maxL) (ret := ret) hy ?_ ?_
  · intro args s m h hn
    obtain ⟨m9, meth, c, hn9, h1, h2, h3, h4, -, h5, h6, -⟩ := Cond.codeWith_spec (atoms_spec (ws := ws) h _ (by rw [hw]; exact List.mem_cons_self))
    cases hn.symm.trans hn9
    exact ⟨meth, c, h1, h2, h3, h4, h5, h6⟩
  · intro p e s m args below meth c s₁ B hml hP _
    have hh0 : s₁.heap = s.heap := by rw [B.state]; rfl
    obtain ⟨t, a1, o, b1, b2, b3⟩ := body p e s m args below meth c s₁ B hml hP s₁ hh0 (Stand.of_body B)
    exact ⟨t, o, a1, b1, b2, b3⟩
/-! ===== END ===== -/

def RX0 : String := "ZoneCalendar$DayRow"
def TX0 : u_T := fun k => match k with
  | 0 => ("ZoneCalendar$DayRow", "numbers", "[I", true)
  | 1 => ("ZoneCalendar$DayRow", "first", "I", false)
  | _ => ("ZoneCalendar$DayRow", "last", "I", false)
def tyX0 : Nat → FieldType := fun k => match k with
  | 0 => .array .int
  | 1 => .int
  | _ => .int
abbrev wsX00 : List Cond := u_ws RX0 TX0 3
theorem nmX0 : ∀ a, a < 3 → ∀ b, b < 3 → a ≠ b → (TX0 a).2.1 ≠ (TX0 b).2.1 := by decide +kernel
theorem tyX0_ok : ∀ k, k < 3 → parseFieldDescriptor (TX0 k).2.2.1 = some (tyX0 k) := by decide +kernel
abbrev cX0_init : ByteArray := prog_2_method_1_code
def yX0_init : MethodName := ⟨RX0, "<init>", "(I)V"⟩
abbrev cX0_clear : ByteArray := prog_2_method_2_code
def yX0_clear : MethodName := ⟨RX0, "clear", "(II)V"⟩
abbrev cX0_firstDay : ByteArray := prog_2_method_3_code
def yX0_firstDay : MethodName := ⟨RX0, "firstDay", "()I"⟩
abbrev cX0_lastDay : ByteArray := prog_2_method_4_code
def yX0_lastDay : MethodName := ⟨RX0, "lastDay", "()I"⟩
abbrev cX0_read : ByteArray := prog_2_method_5_code
def yX0_read : MethodName := ⟨RX0, "read", "(I)I"⟩
abbrev cX0_write : ByteArray := prog_2_method_6_code
def yX0_write : MethodName := ⟨RX0, "write", "(II)V"⟩
def RX1 : String := "ZoneCalendar$Days"
def TX1 : u_T := fun k => match k with
  | _ => ("", "", "", false)
def tyX1 : Nat → FieldType := fun k => match k with
  | _ => .int
abbrev wsX10 : List Cond := u_ws RX1 TX1 0
theorem nmX1 : ∀ a, a < 0 → ∀ b, b < 0 → a ≠ b → (TX1 a).2.1 ≠ (TX1 b).2.1 := by decide +kernel
theorem tyX1_ok : ∀ k, k < 0 → parseFieldDescriptor (TX1 k).2.2.1 = some (tyX1 k) := by decide +kernel
abbrev cX1_yearWith : ByteArray := prog_3_method_2_code
def yX1_yearWith : MethodName := ⟨RX1, "yearWith", "(I)I"⟩
abbrev cX1_januaryOf : ByteArray := prog_3_method_3_code
def yX1_januaryOf : MethodName := ⟨RX1, "januaryOf", "(I)I"⟩
abbrev cX1_monthBegin : ByteArray := prog_3_method_4_code
def yX1_monthBegin : MethodName := ⟨RX1, "monthBegin", "(I)I"⟩
abbrev cX1_monthLength : ByteArray := prog_3_method_5_code
def yX1_monthLength : MethodName := ⟨RX1, "monthLength", "(I)I"⟩
abbrev cX1_monthWith : ByteArray := prog_3_method_6_code
def yX1_monthWith : MethodName := ⟨RX1, "monthWith", "(I)I"⟩
abbrev cX1_numberInMonth : ByteArray := prog_3_method_7_code
def yX1_numberInMonth : MethodName := ⟨RX1, "numberInMonth", "(I)I"⟩
abbrev cX1_weekday : ByteArray := prog_3_method_8_code
def yX1_weekday : MethodName := ⟨RX1, "weekday", "(I)I"⟩
abbrev cX1_easter : ByteArray := prog_3_method_10_code
def yX1_easter : MethodName := ⟨RX1, "easter", "(I)I"⟩
abbrev cX1_isIn : ByteArray := prog_3_method_11_code
def yX1_isIn : MethodName := ⟨RX1, "isIn", "(II)Z"⟩
def RX2 : String := "ZoneCalendar$Feast"
def TX2 : u_T := fun k => match k with
  | 0 => ("ZoneCalendar$Feast", "firstYear", "I", true)
  | 1 => ("ZoneCalendar$Feast", "lastYear", "I", true)
  | 2 => ("ZoneCalendar$Feast", "pattern", "LZoneCalendar$Pattern;", true)
  | _ => ("ZoneCalendar$Feast", "way", "I", true)
def tyX2 : Nat → FieldType := fun k => match k with
  | 0 => .int
  | 1 => .int
  | 2 => .object "ZoneCalendar$Pattern"
  | _ => .int
abbrev wsX20 : List Cond := u_ws RX2 TX2 4
theorem nmX2 : ∀ a, a < 4 → ∀ b, b < 4 → a ≠ b → (TX2 a).2.1 ≠ (TX2 b).2.1 := by decide +kernel
theorem tyX2_ok : ∀ k, k < 4 → parseFieldDescriptor (TX2 k).2.2.1 = some (tyX2 k) := by decide +kernel
abbrev cX2_init : ByteArray := prog_4_method_1_code
def yX2_init : MethodName := ⟨RX2, "<init>", "(IILZoneCalendar$Pattern;I)V"⟩
def RX3 : String := "ZoneCalendar$Pattern"
def TX3 : u_T := fun k => match k with
  | 0 => ("ZoneCalendar$Pattern", "month", "I", true)
  | 1 => ("ZoneCalendar$Pattern", "kind", "I", true)
  | _ => ("ZoneCalendar$Pattern", "number", "I", true)
def tyX3 : Nat → FieldType := fun k => match k with
  | 0 => .int
  | 1 => .int
  | _ => .int
abbrev wsX30 : List Cond := u_ws RX3 TX3 3
theorem nmX3 : ∀ a, a < 3 → ∀ b, b < 3 → a ≠ b → (TX3 a).2.1 ≠ (TX3 b).2.1 := by decide +kernel
theorem tyX3_ok : ∀ k, k < 3 → parseFieldDescriptor (TX3 k).2.2.1 = some (tyX3 k) := by decide +kernel
abbrev cX3_init : ByteArray := prog_5_method_1_code
def yX3_init : MethodName := ⟨RX3, "<init>", "(III)V"⟩
abbrev cX3_greatestNumber : ByteArray := prog_5_method_2_code
def yX3_greatestNumber : MethodName := ⟨RX3, "greatestNumber", "(I)I"⟩
abbrev cX3_toldIn : ByteArray := prog_5_method_3_code
def yX3_toldIn : MethodName := ⟨RX3, "toldIn", "(I)I"⟩
abbrev cX3_numberTold : ByteArray := prog_5_method_4_code
def yX3_numberTold : MethodName := ⟨RX3, "numberTold", "(II)I"⟩
abbrev cX3_countIn : ByteArray := prog_5_method_5_code
def yX3_countIn : MethodName := ⟨RX3, "countIn", "(I)I"⟩
abbrev cX3_firstFrom : ByteArray := prog_5_method_6_code
def yX3_firstFrom : MethodName := ⟨RX3, "firstFrom", "(I)I"⟩
def RX4 : String := "ZoneCalendar$Place"
def TX4 : u_T := fun k => match k with
  | 0 => ("ZoneCalendar$Place", "base", "I", true)
  | 1 => ("ZoneCalendar$Place", "turns", "[LZoneCalendar$Turn;", true)
  | 2 => ("ZoneCalendar$Place", "turnCount", "I", false)
  | 3 => ("ZoneCalendar$Place", "told", "[I", true)
  | 4 => ("ZoneCalendar$Place", "begins", "[I", true)
  | 5 => ("ZoneCalendar$Place", "savings", "[I", true)
  | _ => ("ZoneCalendar$Place", "pieces", "I", false)
def tyX4 : Nat → FieldType := fun k => match k with
  | 0 => .int
  | 1 => .array (.object "ZoneCalendar$Turn")
  | 2 => .int
  | 3 => .array .int
  | 4 => .array .int
  | 5 => .array .int
  | _ => .int
abbrev wsX40 : List Cond := u_ws RX4 TX4 7
theorem nmX4 : ∀ a, a < 7 → ∀ b, b < 7 → a ≠ b → (TX4 a).2.1 ≠ (TX4 b).2.1 := by decide +kernel
theorem tyX4_ok : ∀ k, k < 7 → parseFieldDescriptor (TX4 k).2.2.1 = some (tyX4 k) := by decide +kernel
abbrev cX4_init : ByteArray := prog_6_method_1_code
def yX4_init : MethodName := ⟨RX4, "<init>", "(I)V"⟩
abbrev cX4_hasRoom : ByteArray := prog_6_method_2_code
def yX4_hasRoom : MethodName := ⟨RX4, "hasRoom", "()Z"⟩
abbrev cX4_put : ByteArray := prog_6_method_3_code
def yX4_put : MethodName := ⟨RX4, "put", "(LZoneCalendar$Turn;)I"⟩
abbrev cX4_findPieces : ByteArray := prog_6_method_4_code
def yX4_findPieces : MethodName := ⟨RX4, "findPieces", "()V"⟩
abbrev cX4_tellTurns : ByteArray := prog_6_method_5_code
def yX4_tellTurns : MethodName := ⟨RX4, "tellTurns", "(I)V"⟩
abbrev cX4_takeEarliest : ByteArray := prog_6_method_6_code
def yX4_takeEarliest : MethodName := ⟨RX4, "takeEarliest", "()I"⟩
abbrev cX4_addPiece : ByteArray := prog_6_method_7_code
def yX4_addPiece : MethodName := ⟨RX4, "addPiece", "(II)V"⟩
abbrev cX4_pieceBegin : ByteArray := prog_6_method_8_code
def yX4_pieceBegin : MethodName := ⟨RX4, "pieceBegin", "(I)I"⟩
abbrev cX4_pieceSaving : ByteArray := prog_6_method_9_code
def yX4_pieceSaving : MethodName := ⟨RX4, "pieceSaving", "(I)I"⟩
abbrev cX4_pieceShift : ByteArray := prog_6_method_10_code
def yX4_pieceShift : MethodName := ⟨RX4, "pieceShift", "(I)I"⟩
abbrev cX4_pieceWith : ByteArray := prog_6_method_11_code
def yX4_pieceWith : MethodName := ⟨RX4, "pieceWith", "(J)I"⟩
abbrev cX4_savingThen : ByteArray := prog_6_method_12_code
def yX4_savingThen : MethodName := ⟨RX4, "savingThen", "(I)I"⟩
abbrev cX4_show : ByteArray := prog_6_method_13_code
def yX4_show : MethodName := ⟨RX4, "show", "(I)I"⟩
abbrev cX4_changeBehind : ByteArray := prog_6_method_14_code
def yX4_changeBehind : MethodName := ⟨RX4, "changeBehind", "(I)I"⟩
abbrev cX4_shownIn : ByteArray := prog_6_method_15_code
def yX4_shownIn : MethodName := ⟨RX4, "shownIn", "(II)I"⟩
abbrev cX4_earliest : ByteArray := prog_6_method_16_code
def yX4_earliest : MethodName := ⟨RX4, "earliest", "(I)J"⟩
abbrev cX4_latest : ByteArray := prog_6_method_17_code
def yX4_latest : MethodName := ⟨RX4, "latest", "(I)J"⟩
abbrev cX4_countShown : ByteArray := prog_6_method_18_code
def yX4_countShown : MethodName := ⟨RX4, "countShown", "(I)I"⟩
abbrev cX4_lastShown : ByteArray := prog_6_method_19_code
def yX4_lastShown : MethodName := ⟨RX4, "lastShown", "(I)I"⟩
abbrev cX4_momentFor : ByteArray := prog_6_method_20_code
def yX4_momentFor : MethodName := ⟨RX4, "momentFor", "(I)I"⟩
abbrev cX4_momentPassing : ByteArray := prog_6_method_21_code
def yX4_momentPassing : MethodName := ⟨RX4, "momentPassing", "(III)I"⟩
def RX5 : String := "ZoneCalendar$Series"
def TX5 : u_T := fun k => match k with
  | 0 => ("ZoneCalendar$Series", "place", "LZoneCalendar$Place;", true)
  | 1 => ("ZoneCalendar$Series", "begin", "I", true)
  | 2 => ("ZoneCalendar$Series", "beginDay", "I", true)
  | 3 => ("ZoneCalendar$Series", "kind", "I", true)
  | 4 => ("ZoneCalendar$Series", "step", "I", true)
  | 5 => ("ZoneCalendar$Series", "weekdays", "I", true)
  | 6 => ("ZoneCalendar$Series", "latest", "I", true)
  | 7 => ("ZoneCalendar$Series", "usual", "LZoneCalendar$Pattern;", true)
  | 8 => ("ZoneCalendar$Series", "patterns", "[LZoneCalendar$Pattern;", true)
  | 9 => ("ZoneCalendar$Series", "patternCount", "I", false)
  | 10 => ("ZoneCalendar$Series", "choice", "I", false)
  | 11 => ("ZoneCalendar$Series", "most", "I", false)
  | 12 => ("ZoneCalendar$Series", "last", "I", false)
  | 13 => ("ZoneCalendar$Series", "exceptions", "[I", true)
  | 14 => ("ZoneCalendar$Series", "exceptionCount", "I", false)
  | 15 => ("ZoneCalendar$Series", "found", "[I", true)
  | 16 => ("ZoneCalendar$Series", "foundCount", "I", false)
  | _ => ("ZoneCalendar$Series", "taken", "I", false)
def tyX5 : Nat → FieldType := fun k => match k with
  | 0 => .object "ZoneCalendar$Place"
  | 1 => .int
  | 2 => .int
  | 3 => .int
  | 4 => .int
  | 5 => .int
  | 6 => .int
  | 7 => .object "ZoneCalendar$Pattern"
  | 8 => .array (.object "ZoneCalendar$Pattern")
  | 9 => .int
  | 10 => .int
  | 11 => .int
  | 12 => .int
  | 13 => .array .int
  | 14 => .int
  | 15 => .array .int
  | 16 => .int
  | _ => .int
abbrev wsX50 : List Cond := u_ws RX5 TX5 18
theorem nmX5 : ∀ a, a < 18 → ∀ b, b < 18 → a ≠ b → (TX5 a).2.1 ≠ (TX5 b).2.1 := by decide +kernel
theorem tyX5_ok : ∀ k, k < 18 → parseFieldDescriptor (TX5 k).2.2.1 = some (tyX5 k) := by decide +kernel
abbrev cX5_init : ByteArray := prog_7_method_1_code
def yX5_init : MethodName := ⟨RX5, "<init>", "(LZoneCalendar$Place;IIII)V"⟩
abbrev cX5_findDates : ByteArray := prog_7_method_2_code
def yX5_findDates : MethodName := ⟨RX5, "findDates", "(LZoneCalendar$DayRow;)V"⟩
abbrev cX5_spanBegin : ByteArray := prog_7_method_3_code
def yX5_spanBegin : MethodName := ⟨RX5, "spanBegin", "(I)I"⟩
abbrev cX5_findCounting : ByteArray := prog_7_method_4_code
def yX5_findCounting : MethodName := ⟨RX5, "findCounting", "(LZoneCalendar$DayRow;)V"⟩
abbrev cX5_markTold : ByteArray := prog_7_method_5_code
def yX5_markTold : MethodName := ⟨RX5, "markTold", "(LZoneCalendar$DayRow;LZoneCalendar$Pattern;)V"⟩
abbrev cX5_markDay : ByteArray := prog_7_method_6_code
def yX5_markDay : MethodName := ⟨RX5, "markDay", "(LZoneCalendar$DayRow;II)V"⟩
abbrev cX5_rightWeekdays : ByteArray := prog_7_method_7_code
def yX5_rightWeekdays : MethodName := ⟨RX5, "rightWeekdays", "()I"⟩
abbrev cX5_takeSpan : ByteArray := prog_7_method_8_code
def yX5_takeSpan : MethodName := ⟨RX5, "takeSpan", "(LZoneCalendar$DayRow;II)V"⟩
abbrev cX5_chosen : ByteArray := prog_7_method_9_code
def yX5_chosen : MethodName := ⟨RX5, "chosen", "(LZoneCalendar$DayRow;II)I"⟩
abbrev cX5_takeDay : ByteArray := prog_7_method_10_code
def yX5_takeDay : MethodName := ⟨RX5, "takeDay", "(I)V"⟩
abbrev cX5_isException : ByteArray := prog_7_method_11_code
def yX5_isException : MethodName := ⟨RX5, "isException", "(I)Z"⟩
abbrev cX5_date : ByteArray := prog_7_method_12_code
def yX5_date : MethodName := ⟨RX5, "date", "(I)I"⟩
abbrev cX5_firstFrom : ByteArray := prog_7_method_13_code
def yX5_firstFrom : MethodName := ⟨RX5, "firstFrom", "(I)I"⟩
abbrev cX5_momentOfDate : ByteArray := prog_7_method_14_code
def yX5_momentOfDate : MethodName := ⟨RX5, "momentOfDate", "(I)I"⟩
abbrev cX5_countShared : ByteArray := prog_7_method_15_code
def yX5_countShared : MethodName := ⟨RX5, "countShared", "(LZoneCalendar$Series;)I"⟩
abbrev cX5_greatestGap : ByteArray := prog_7_method_16_code
def yX5_greatestGap : MethodName := ⟨RX5, "greatestGap", "()I"⟩
abbrev cX5_meanOfGaps : ByteArray := prog_7_method_17_code
def yX5_meanOfGaps : MethodName := ⟨RX5, "meanOfGaps", "()D"⟩
def RX6 : String := "ZoneCalendar$Turn"
def TX6 : u_T := fun k => match k with
  | 0 => ("ZoneCalendar$Turn", "firstYear", "I", true)
  | 1 => ("ZoneCalendar$Turn", "lastYear", "I", true)
  | 2 => ("ZoneCalendar$Turn", "pattern", "LZoneCalendar$Pattern;", true)
  | 3 => ("ZoneCalendar$Turn", "minute", "I", true)
  | 4 => ("ZoneCalendar$Turn", "clock", "I", true)
  | _ => ("ZoneCalendar$Turn", "saving", "I", true)
def tyX6 : Nat → FieldType := fun k => match k with
  | 0 => .int
  | 1 => .int
  | 2 => .object "ZoneCalendar$Pattern"
  | 3 => .int
  | 4 => .int
  | _ => .int
abbrev wsX60 : List Cond := u_ws RX6 TX6 6
theorem nmX6 : ∀ a, a < 6 → ∀ b, b < 6 → a ≠ b → (TX6 a).2.1 ≠ (TX6 b).2.1 := by decide +kernel
theorem tyX6_ok : ∀ k, k < 6 → parseFieldDescriptor (TX6 k).2.2.1 = some (tyX6 k) := by decide +kernel
abbrev cX6_init : ByteArray := prog_8_method_1_code
def yX6_init : MethodName := ⟨RX6, "<init>", "(IILZoneCalendar$Pattern;III)V"⟩
abbrev cX6_toldIn : ByteArray := prog_8_method_2_code
def yX6_toldIn : MethodName := ⟨RX6, "toldIn", "(I)I"⟩
abbrev cX6_momentOfTold : ByteArray := prog_8_method_3_code
def yX6_momentOfTold : MethodName := ⟨RX6, "momentOfTold", "(III)I"⟩
def RX7 : String := "ZoneCalendar$Work"
def TX7 : u_T := fun k => match k with
  | 0 => ("ZoneCalendar$Work", "placeNumber", "I", false)
  | 1 => ("ZoneCalendar$Work", "clock", "LZoneCalendar$Place;", false)
  | 2 => ("ZoneCalendar$Work", "week", "I", false)
  | 3 => ("ZoneCalendar$Work", "firstMinute", "I", false)
  | 4 => ("ZoneCalendar$Work", "lastMinute", "I", false)
  | 5 => ("ZoneCalendar$Work", "feasts", "[LZoneCalendar$Feast;", true)
  | 6 => ("ZoneCalendar$Work", "feastCount", "I", false)
  | _ => ("ZoneCalendar$Work", "falling", "LZoneCalendar$DayRow;", true)
def tyX7 : Nat → FieldType := fun k => match k with
  | 0 => .int
  | 1 => .object "ZoneCalendar$Place"
  | 2 => .int
  | 3 => .int
  | 4 => .int
  | 5 => .array (.object "ZoneCalendar$Feast")
  | 6 => .int
  | _ => .object "ZoneCalendar$DayRow"
abbrev wsX70 : List Cond := u_ws RX7 TX7 8
theorem nmX7 : ∀ a, a < 8 → ∀ b, b < 8 → a ≠ b → (TX7 a).2.1 ≠ (TX7 b).2.1 := by decide +kernel
theorem tyX7_ok : ∀ k, k < 8 → parseFieldDescriptor (TX7 k).2.2.1 = some (tyX7 k) := by decide +kernel
abbrev cX7_init : ByteArray := prog_9_method_1_code
def yX7_init : MethodName := ⟨RX7, "<init>", "()V"⟩
abbrev cX7_findFeasts : ByteArray := prog_9_method_2_code
def yX7_findFeasts : MethodName := ⟨RX7, "findFeasts", "(II)V"⟩
abbrev cX7_findFeast : ByteArray := prog_9_method_3_code
def yX7_findFeast : MethodName := ⟨RX7, "findFeast", "(LZoneCalendar$Feast;III)V"⟩
abbrev cX7_moved : ByteArray := prog_9_method_4_code
def yX7_moved : MethodName := ⟨RX7, "moved", "(III)I"⟩
abbrev cX7_takes : ByteArray := prog_9_method_5_code
def yX7_takes : MethodName := ⟨RX7, "takes", "(III)Z"⟩
abbrev cX7_feastFound : ByteArray := prog_9_method_6_code
def yX7_feastFound : MethodName := ⟨RX7, "feastFound", "(I)I"⟩
abbrev cX7_worksOn : ByteArray := prog_9_method_7_code
def yX7_worksOn : MethodName := ⟨RX7, "worksOn", "(I)Z"⟩
abbrev cX7_countDays : ByteArray := prog_9_method_8_code
def yX7_countDays : MethodName := ⟨RX7, "countDays", "(II)I"⟩
abbrev cX7_dayBehind : ByteArray := prog_9_method_9_code
def yX7_dayBehind : MethodName := ⟨RX7, "dayBehind", "(II)I"⟩
abbrev cX7_findFeastsWithin : ByteArray := prog_9_method_10_code
def yX7_findFeastsWithin : MethodName := ⟨RX7, "findFeastsWithin", "(II)V"⟩
abbrev cX7_minutesWithin : ByteArray := prog_9_method_11_code
def yX7_minutesWithin : MethodName := ⟨RX7, "minutesWithin", "(II)I"⟩
abbrev cX7_localMinutes : ByteArray := prog_9_method_12_code
def yX7_localMinutes : MethodName := ⟨RX7, "localMinutes", "(II)I"⟩
abbrev cX7_finish : ByteArray := prog_9_method_13_code
def yX7_finish : MethodName := ⟨RX7, "finish", "(III)I"⟩
def RX8 : String := "ZoneCalendar"
def TX8 : u_T := fun k => match k with
  | 0 => ("ZoneCalendar", "patterns", "[LZoneCalendar$Pattern;", true)
  | 1 => ("ZoneCalendar", "patternCount", "I", false)
  | 2 => ("ZoneCalendar", "places", "[LZoneCalendar$Place;", true)
  | 3 => ("ZoneCalendar", "placeCount", "I", false)
  | 4 => ("ZoneCalendar", "seriesRow", "[LZoneCalendar$Series;", true)
  | 5 => ("ZoneCalendar", "seriesCount", "I", false)
  | 6 => ("ZoneCalendar", "fitting", "LZoneCalendar$DayRow;", true)
  | _ => ("ZoneCalendar", "work", "LZoneCalendar$Work;", true)
def tyX8 : Nat → FieldType := fun k => match k with
  | 0 => .array (.object "ZoneCalendar$Pattern")
  | 1 => .int
  | 2 => .array (.object "ZoneCalendar$Place")
  | 3 => .int
  | 4 => .array (.object "ZoneCalendar$Series")
  | 5 => .int
  | 6 => .object "ZoneCalendar$DayRow"
  | _ => .object "ZoneCalendar$Work"
abbrev wsX80 : List Cond := u_ws RX8 TX8 8
theorem nmX8 : ∀ a, a < 8 → ∀ b, b < 8 → a ≠ b → (TX8 a).2.1 ≠ (TX8 b).2.1 := by decide +kernel
theorem tyX8_ok : ∀ k, k < 8 → parseFieldDescriptor (TX8 k).2.2.1 = some (tyX8 k) := by decide +kernel
abbrev cX8_init : ByteArray := prog_1_method_1_code
def yX8_init : MethodName := ⟨RX8, "<init>", "()V"⟩
abbrev cX8_dayOf : ByteArray := prog_1_method_2_code
def yX8_dayOf : MethodName := ⟨RX8, "dayOf", "(III)I"⟩
abbrev cX8_yearOf : ByteArray := prog_1_method_3_code
def yX8_yearOf : MethodName := ⟨RX8, "yearOf", "(I)I"⟩
abbrev cX8_monthOf : ByteArray := prog_1_method_4_code
def yX8_monthOf : MethodName := ⟨RX8, "monthOf", "(I)I"⟩
abbrev cX8_dayOfMonth : ByteArray := prog_1_method_5_code
def yX8_dayOfMonth : MethodName := ⟨RX8, "dayOfMonth", "(I)I"⟩
abbrev cX8_addPattern : ByteArray := prog_1_method_11_code
def yX8_addPattern : MethodName := ⟨RX8, "addPattern", "(III)I"⟩
abbrev cX8_tells : ByteArray := prog_1_method_13_code
def yX8_tells : MethodName := ⟨RX8, "tells", "(II)Z"⟩
abbrev cX8_nextTold : ByteArray := prog_1_method_14_code
def yX8_nextTold : MethodName := ⟨RX8, "nextTold", "(II)I"⟩
abbrev cX8_addPlace : ByteArray := prog_1_method_15_code
def yX8_addPlace : MethodName := ⟨RX8, "addPlace", "(I)I"⟩
abbrev cX8_addTurn : ByteArray := prog_1_method_16_code
def yX8_addTurn : MethodName := ⟨RX8, "addTurn", "(IIIIIII)I"⟩
abbrev cX8_savingAt : ByteArray := prog_1_method_17_code
def yX8_savingAt : MethodName := ⟨RX8, "savingAt", "(II)I"⟩
abbrev cX8_localAt : ByteArray := prog_1_method_18_code
def yX8_localAt : MethodName := ⟨RX8, "localAt", "(II)I"⟩
abbrev cX8_nextChange : ByteArray := prog_1_method_19_code
def yX8_nextChange : MethodName := ⟨RX8, "nextChange", "(II)I"⟩
abbrev cX8_showsOften : ByteArray := prog_1_method_20_code
def yX8_showsOften : MethodName := ⟨RX8, "showsOften", "(II)I"⟩
abbrev cX8_momentOf : ByteArray := prog_1_method_21_code
def yX8_momentOf : MethodName := ⟨RX8, "momentOf", "(II)I"⟩
abbrev cX8_lastMomentOf : ByteArray := prog_1_method_22_code
def yX8_lastMomentOf : MethodName := ⟨RX8, "lastMomentOf", "(II)I"⟩
abbrev cX8_ahead : ByteArray := prog_1_method_23_code
def yX8_ahead : MethodName := ⟨RX8, "ahead", "(III)I"⟩
abbrev cX8_addSeries : ByteArray := prog_1_method_24_code
def yX8_addSeries : MethodName := ⟨RX8, "addSeries", "(IIIII)I"⟩
abbrev cX8_usePattern : ByteArray := prog_1_method_25_code
def yX8_usePattern : MethodName := ⟨RX8, "usePattern", "(II)I"⟩
abbrev cX8_setMost : ByteArray := prog_1_method_27_code
def yX8_setMost : MethodName := ⟨RX8, "setMost", "(II)I"⟩
abbrev cX8_dates : ByteArray := prog_1_method_30_code
def yX8_dates : MethodName := ⟨RX8, "dates", "(I)I"⟩
abbrev cX8_dateAt : ByteArray := prog_1_method_31_code
def yX8_dateAt : MethodName := ⟨RX8, "dateAt", "(II)I"⟩
abbrev cX8_dateFrom : ByteArray := prog_1_method_32_code
def yX8_dateFrom : MethodName := ⟨RX8, "dateFrom", "(II)I"⟩
abbrev cX8_common : ByteArray := prog_1_method_34_code
def yX8_common : MethodName := ⟨RX8, "common", "(II)I"⟩
abbrev cX8_widestGap : ByteArray := prog_1_method_35_code
def yX8_widestGap : MethodName := ⟨RX8, "widestGap", "(I)I"⟩
abbrev cX8_setWeek : ByteArray := prog_1_method_37_code
def yX8_setWeek : MethodName := ⟨RX8, "setWeek", "(I)I"⟩
abbrev cX8_addFeast : ByteArray := prog_1_method_39_code
def yX8_addFeast : MethodName := ⟨RX8, "addFeast", "(IIII)I"⟩
abbrev cX8_feastOn : ByteArray := prog_1_method_40_code
def yX8_feastOn : MethodName := ⟨RX8, "feastOn", "(I)I"⟩
abbrev cX8_isWorking : ByteArray := prog_1_method_41_code
def yX8_isWorking : MethodName := ⟨RX8, "isWorking", "(I)Z"⟩
abbrev cX8_workingDays : ByteArray := prog_1_method_42_code
def yX8_workingDays : MethodName := ⟨RX8, "workingDays", "(II)I"⟩
abbrev cX8_plusWorking : ByteArray := prog_1_method_43_code
def yX8_plusWorking : MethodName := ⟨RX8, "plusWorking", "(II)I"⟩
abbrev cX8_meanGap : ByteArray := prog_1_method_47_code
def yX8_meanGap : MethodName := ⟨RX8, "meanGap", "(I)D"⟩
abbrev cX8_digest : ByteArray := prog_1_method_48_code
def yX8_digest : MethodName := ⟨RX8, "digest", "()J"⟩
abbrev cX8_mix : ByteArray := prog_1_method_49_code
def yX8_mix : MethodName := ⟨RX8, "mix", "(JJ)J"⟩
abbrev cX8_digestPatterns : ByteArray := prog_1_method_50_code
def yX8_digestPatterns : MethodName := ⟨RX8, "digestPatterns", "(J)J"⟩
abbrev cX8_digestPlaces : ByteArray := prog_1_method_51_code
def yX8_digestPlaces : MethodName := ⟨RX8, "digestPlaces", "(J)J"⟩
abbrev cX8_digestSeries : ByteArray := prog_1_method_52_code
def yX8_digestSeries : MethodName := ⟨RX8, "digestSeries", "(J)J"⟩
abbrev cX8_digestDates : ByteArray := prog_1_method_53_code
def yX8_digestDates : MethodName := ⟨RX8, "digestDates", "(JLZoneCalendar$Series;)J"⟩
abbrev cX8_digestWork : ByteArray := prog_1_method_54_code
def yX8_digestWork : MethodName := ⟨RX8, "digestWork", "(J)J"⟩
abbrev cX8_needDay : ByteArray := prog_1_method_55_code
def yX8_needDay : MethodName := ⟨RX8, "needDay", "(I)V"⟩
abbrev cX8_needMoment : ByteArray := prog_1_method_56_code
def yX8_needMoment : MethodName := ⟨RX8, "needMoment", "(I)V"⟩
abbrev cX8_needYear : ByteArray := prog_1_method_57_code
def yX8_needYear : MethodName := ⟨RX8, "needYear", "(I)V"⟩
abbrev cX8_needYears : ByteArray := prog_1_method_58_code
def yX8_needYears : MethodName := ⟨RX8, "needYears", "(II)V"⟩
abbrev cX8_needPattern : ByteArray := prog_1_method_59_code
def yX8_needPattern : MethodName := ⟨RX8, "needPattern", "(I)LZoneCalendar$Pattern;"⟩
abbrev cX8_needPlace : ByteArray := prog_1_method_60_code
def yX8_needPlace : MethodName := ⟨RX8, "needPlace", "(I)LZoneCalendar$Place;"⟩
abbrev cX8_needSeries : ByteArray := prog_1_method_61_code
def yX8_needSeries : MethodName := ⟨RX8, "needSeries", "(I)LZoneCalendar$Series;"⟩
abbrev cX8_needDate : ByteArray := prog_1_method_62_code
def yX8_needDate : MethodName := ⟨RX8, "needDate", "(LZoneCalendar$Series;I)V"⟩
def RX9 : String := "ZoneCalendarModel"
def TX9 : u_T := fun k => match k with
  | _ => ("", "", "", false)
def tyX9 : Nat → FieldType := fun k => match k with
  | _ => .int
abbrev wsX90 : List Cond := u_ws RX9 TX9 0
theorem nmX9 : ∀ a, a < 0 → ∀ b, b < 0 → a ≠ b → (TX9 a).2.1 ≠ (TX9 b).2.1 := by decide +kernel
theorem tyX9_ok : ∀ k, k < 0 → parseFieldDescriptor (TX9 k).2.2.1 = some (tyX9 k) := by decide +kernel
def RJx145de : String := "java/io/Serializable"
def TJx145de : u_T := fun k => match k with
  | _ => ("", "", "", false)
def tyJx145de : Nat → FieldType := fun k => match k with
  | _ => .int
theorem nmJx145de : ∀ a, a < 0 → ∀ b, b < 0 → a ≠ b → (TJx145de a).2.1 ≠ (TJx145de b).2.1 := by decide +kernel
theorem tyJx145de_ok : ∀ k, k < 0 → parseFieldDescriptor (TJx145de k).2.2.1 = some (tyJx145de k) := by decide +kernel
def RJ9 : String := "java/lang/Math"
def TJ9 : u_T := fun k => match k with
  | _ => ("", "", "", false)
def tyJ9 : Nat → FieldType := fun k => match k with
  | _ => .int
theorem nmJ9 : ∀ a, a < 0 → ∀ b, b < 0 → a ≠ b → (TJ9 a).2.1 ≠ (TJ9 b).2.1 := by decide +kernel
theorem tyJ9_ok : ∀ k, k < 0 → parseFieldDescriptor (TJ9 k).2.2.1 = some (tyJ9 k) := by decide +kernel
abbrev cJ9_floorDiv_7cf53 : ByteArray := prog_16_method_47_code
def yJ9_floorDiv_7cf53 : MethodName := ⟨RJ9, "floorDiv", "(II)I"⟩
abbrev cJ9_floorMod_7cf53 : ByteArray := prog_16_method_50_code
def yJ9_floorMod_7cf53 : MethodName := ⟨RJ9, "floorMod", "(II)I"⟩
abbrev cJ9_abs_0f7a4 : ByteArray := prog_16_method_59_code
def yJ9_abs_0f7a4 : MethodName := ⟨RJ9, "abs", "(I)I"⟩
abbrev cJ9_max_7cf53 : ByteArray := prog_16_method_65_code
def yJ9_max_7cf53 : MethodName := ⟨RJ9, "max", "(II)I"⟩
abbrev cJ9_min_7cf53 : ByteArray := prog_16_method_69_code
def yJ9_min_7cf53 : MethodName := ⟨RJ9, "min", "(II)I"⟩
def RJ0 : String := "java/lang/String"
def TJ0 : u_T := fun k => match k with
  | _ => ("", "", "", false)
def tyJ0 : Nat → FieldType := fun k => match k with
  | _ => .int
theorem nmJ0 : ∀ a, a < 0 → ∀ b, b < 0 → a ≠ b → (TJ0 a).2.1 ≠ (TJ0 b).2.1 := by decide +kernel
theorem tyJ0_ok : ∀ k, k < 0 → parseFieldDescriptor (TJ0 k).2.2.1 = some (tyJ0 k) := by decide +kernel
def RL : String := "ZoneCalendarLaw"
abbrev cL_below : ByteArray := method_2_code
def yL_below : MethodName := ⟨RL, "below", "(II)I"⟩
abbrev cL_cell : ByteArray := method_3_code
def yL_cell : MethodName := ⟨RL, "cell", "([II)I"⟩
abbrev cL_pattern : ByteArray := method_4_code
def yL_pattern : MethodName := ⟨RL, "pattern", "(LZoneCalendar;IZ)I"⟩
abbrev cL_law : ByteArray := code
def yL_law : MethodName := ⟨RL, "law", "([I)Z"⟩
abbrev cL_areClocksSound : ByteArray := method_6_code
def yL_areClocksSound : MethodName := ⟨RL, "areClocksSound", "(LZoneCalendar;II)Z"⟩
abbrev cL_areDaysSound : ByteArray := method_7_code
def yL_areDaysSound : MethodName := ⟨RL, "areDaysSound", "(LZoneCalendar;II)Z"⟩
abbrev cL_isSeriesSound : ByteArray := method_8_code
def yL_isSeriesSound : MethodName := ⟨RL, "isSeriesSound", "(LZoneCalendar;I)Z"⟩
def wsL_law0_r1 : List Cond := [Cond.classLink RL 16 RX8, Cond.instantiable RX8 8, Cond.initialized RX8, Cond.methodLink RL 34 Lib.Math.min.name, Cond.static Lib.Math.min.name, Cond.initialized "java/lang/Math", Cond.code Lib.Math.min.name Lib.Math.min.code 2 (some .int), Cond.constant RL 43 (105190560), Cond.constant RL 69 (73049), Cond.methodLink RL 21 yX8_init, Cond.instanceMethod yX8_init, Cond.code yX8_init cX8_init 1 none, Cond.methodLink RX8 1 objectInit, Cond.instanceMethod objectInit, Cond.code objectInit ⟨#[0xb1]⟩ 1 none, Cond.classLink RX8 7 RX3, Cond.fieldLink RX8 9 "ZoneCalendar" "patterns" "[LZoneCalendar$Pattern;", Cond.fieldLink RX8 15 "ZoneCalendar" "patternCount" "I", Cond.classLink RX8 19 RX4, Cond.fieldLink RX8 21 "ZoneCalendar" "places" "[LZoneCalendar$Place;", Cond.fieldLink RX8 25 "ZoneCalendar" "placeCount" "I", Cond.classLink RX8 28 RX5, Cond.fieldLink RX8 30 "ZoneCalendar" "seriesRow" "[LZoneCalendar$Series;", Cond.fieldLink RX8 34 "ZoneCalendar" "seriesCount" "I"]
def wsL_law0_r2 : List Cond := [Cond.classLink RX8 37 RX0, Cond.instantiable RX0 3, Cond.initialized RX0, Cond.fieldLink RX8 42 "ZoneCalendar" "fitting" "LZoneCalendar$DayRow;", Cond.classLink RX8 46 RX7, Cond.instantiable RX7 8, Cond.initialized RX7, Cond.fieldLink RX8 49 "ZoneCalendar" "work" "LZoneCalendar$Work;", Cond.methodLink RX8 39 yX0_init, Cond.instanceMethod yX0_init, Cond.code yX0_init cX0_init 2 none, Cond.methodLink RX0 1 objectInit, Cond.arrayClass .int, Cond.fieldLink RX0 7 "ZoneCalendar$DayRow" "numbers" "[I", Cond.fieldLink RX0 13 "ZoneCalendar$DayRow" "first" "I", Cond.fieldLink RX0 17 "ZoneCalendar$DayRow" "last" "I", Cond.methodLink RX8 48 yX7_init, Cond.instanceMethod yX7_init, Cond.code yX7_init cX7_init 1 none, Cond.methodLink RX7 3 objectInit, Cond.fieldLink RX7 9 "ZoneCalendar$Work" "placeNumber" "I", Cond.classLink RX7 15 RX4, Cond.instantiable RX4 7, Cond.initialized RX4]
def wsL_law0_r3 : List Cond := [Cond.fieldLink RX7 20 "ZoneCalendar$Work" "clock" "LZoneCalendar$Place;", Cond.fieldLink RX7 24 "ZoneCalendar$Work" "week" "I", Cond.fieldLink RX7 27 "ZoneCalendar$Work" "firstMinute" "I", Cond.fieldLink RX7 30 "ZoneCalendar$Work" "lastMinute" "I", Cond.classLink RX7 33 RX2, Cond.fieldLink RX7 35 "ZoneCalendar$Work" "feasts" "[LZoneCalendar$Feast;", Cond.fieldLink RX7 39 "ZoneCalendar$Work" "feastCount" "I", Cond.classLink RX7 42 RX0, Cond.fieldLink RX7 45 "ZoneCalendar$Work" "falling" "LZoneCalendar$DayRow;", Cond.methodLink RX7 17 yX4_init, Cond.instanceMethod yX4_init, Cond.code yX4_init cX4_init 2 none, Cond.methodLink RX4 3 objectInit, Cond.fieldLink RX4 9 "ZoneCalendar$Place" "base" "I", Cond.classLink RX4 15 RX6, Cond.fieldLink RX4 17 "ZoneCalendar$Place" "turns" "[LZoneCalendar$Turn;", Cond.fieldLink RX4 21 "ZoneCalendar$Place" "turnCount" "I", Cond.fieldLink RX4 24 "ZoneCalendar$Place" "told" "[I", Cond.fieldLink RX4 28 "ZoneCalendar$Place" "begins" "[I", Cond.fieldLink RX4 31 "ZoneCalendar$Place" "savings" "[I", Cond.fieldLink RX4 34 "ZoneCalendar$Place" "pieces" "I", Cond.methodLink RX7 44 yX0_init, Cond.methodLink RL 22 yL_cell, Cond.static yL_cell]
def wsL_law0_r4 : List Cond := [Cond.initialized RL, Cond.code yL_cell cL_cell 2 (some .int), Cond.constant RL 8 (790386105), Cond.methodLink RL 9 yL_below, Cond.static yL_below, Cond.code yL_below cL_below 2 (some .int), Cond.constant RL 7 (2147483647), Cond.methodLink RL 26 yL_pattern, Cond.static yL_pattern, Cond.code yL_pattern cL_pattern 6 (some .int), Cond.methodLink RL 15 yX8_addPattern, Cond.instanceMethod yX8_addPattern, Cond.selects RX8 yX8_addPattern yX8_addPattern, Cond.code yX8_addPattern cX8_addPattern 5 (some .int), Cond.classLink RX8 56 "java/lang/IllegalArgumentException", Cond.initialized "java/lang/IllegalArgumentException", Cond.classLink RX8 117 "java/lang/IllegalStateException", Cond.initialized "java/lang/IllegalStateException", Cond.instantiable RX3 3, Cond.initialized RX3, Cond.methodLink RX8 110 yX3_greatestNumber, Cond.static yX3_greatestNumber, Cond.code yX3_greatestNumber cX3_greatestNumber 1 (some .int), Cond.methodLink RX8 122 yX3_init]
def wsL_law0_r5 : List Cond := [Cond.instanceMethod yX3_init, Cond.code yX3_init cX3_init 4 none, Cond.methodLink RX3 3 objectInit, Cond.fieldLink RX3 9 "ZoneCalendar$Pattern" "month" "I", Cond.fieldLink RX3 15 "ZoneCalendar$Pattern" "kind" "I", Cond.fieldLink RX3 18 "ZoneCalendar$Pattern" "number" "I", Cond.methodLink RL 30 yX8_addPlace, Cond.instanceMethod yX8_addPlace, Cond.selects RX8 yX8_addPlace yX8_addPlace, Cond.code yX8_addPlace cX8_addPlace 3 (some .int), Cond.methodLink RX8 142 yX4_init, Cond.methodLink RL 39 yX8_addTurn, Cond.instanceMethod yX8_addTurn, Cond.selects RX8 yX8_addTurn yX8_addTurn, Cond.code yX8_addTurn cX8_addTurn 11 (some .int), Cond.fieldLink RX8 153 "ZoneCalendar$Pattern" "month" "I", Cond.fieldLink RX8 156 "ZoneCalendar$Pattern" "kind" "I", Cond.classLink RX8 167 RX6, Cond.instantiable RX6 6, Cond.initialized RX6, Cond.methodLink RX8 143 yX8_needPlace, Cond.instanceMethod yX8_needPlace, Cond.selects RX8 yX8_needPlace yX8_needPlace, Cond.code yX8_needPlace cX8_needPlace 3 (some (.object "ZoneCalendar$Place"))]
def wsL_law0_r6 : List Cond := [Cond.classLink RX8 387 "java/lang/IndexOutOfBoundsException", Cond.initialized "java/lang/IndexOutOfBoundsException", Cond.methodLink RX8 125 yX8_needPattern, Cond.instanceMethod yX8_needPattern, Cond.selects RX8 yX8_needPattern yX8_needPattern, Cond.code yX8_needPattern cX8_needPattern 3 (some (.object "ZoneCalendar$Pattern")), Cond.methodLink RX8 147 yX8_needYears, Cond.static yX8_needYears, Cond.code yX8_needYears cX8_needYears 2 none, Cond.methodLink RX8 53 yX8_needYear, Cond.static yX8_needYear, Cond.code yX8_needYear cX8_needYear 1 none, Cond.methodLink RX8 161 yX4_hasRoom, Cond.instanceMethod yX4_hasRoom, Cond.selects RX4 yX4_hasRoom yX4_hasRoom, Cond.code yX4_hasRoom cX4_hasRoom 1 (some .boolean), Cond.methodLink RX8 169 yX6_init, Cond.instanceMethod yX6_init, Cond.code yX6_init cX6_init 7 none, Cond.methodLink RX6 3 objectInit, Cond.fieldLink RX6 9 "ZoneCalendar$Turn" "firstYear" "I", Cond.fieldLink RX6 15 "ZoneCalendar$Turn" "lastYear" "I", Cond.fieldLink RX6 18 "ZoneCalendar$Turn" "pattern" "LZoneCalendar$Pattern;", Cond.fieldLink RX6 22 "ZoneCalendar$Turn" "minute" "I"]
def wsL_law0_r7 : List Cond := [Cond.fieldLink RX6 25 "ZoneCalendar$Turn" "clock" "I", Cond.fieldLink RX6 28 "ZoneCalendar$Turn" "saving" "I", Cond.methodLink RX8 172 yX4_put, Cond.instanceMethod yX4_put, Cond.selects RX4 yX4_put yX4_put, Cond.code yX4_put cX4_put 3 (some .int), Cond.methodLink RX8 176 yX4_findPieces, Cond.instanceMethod yX4_findPieces, Cond.selects RX4 yX4_findPieces yX4_findPieces, Cond.code yX4_findPieces cX4_findPieces 7 none, Cond.methodLink RX4 57 Lib.Math.max.name, Cond.static Lib.Math.max.name, Cond.code Lib.Math.max.name Lib.Math.max.code 2 (some .int), Cond.fieldLink RX4 63 "ZoneCalendar$Turn" "saving" "I", Cond.methodLink RX4 37 yX4_addPiece, Cond.instanceMethod yX4_addPiece, Cond.selects RX4 yX4_addPiece yX4_addPiece, Cond.code yX4_addPiece cX4_addPiece 7 none, Cond.constant RX4 67 (105190559), Cond.methodLink RX4 41 yX4_tellTurns, Cond.instanceMethod yX4_tellTurns, Cond.selects RX4 yX4_tellTurns yX4_tellTurns, Cond.code yX4_tellTurns cX4_tellTurns 4 none, Cond.methodLink RX4 49 yX6_toldIn]
def wsL_law0_r8 : List Cond := [Cond.instanceMethod yX6_toldIn, Cond.selects RX6 yX6_toldIn yX6_toldIn, Cond.code yX6_toldIn cX6_toldIn 5 (some .int), Cond.methodLink RX6 31 yX1_januaryOf, Cond.static yX1_januaryOf, Cond.initialized RX1, Cond.code yX1_januaryOf cX1_januaryOf 1 (some .int), Cond.methodLink RX6 37 yX3_toldIn, Cond.instanceMethod yX3_toldIn, Cond.selects RX3 yX3_toldIn yX3_toldIn, Cond.code yX3_toldIn cX3_toldIn 5 (some .int), Cond.methodLink RX3 21 yX1_monthBegin, Cond.static yX1_monthBegin, Cond.code yX1_monthBegin cX1_monthBegin 5 (some .int), Cond.constant RX1 11 (73049), Cond.methodLink RX3 27 yX1_easter, Cond.static yX1_easter, Cond.code yX1_easter cX1_easter 7 (some .int), Cond.methodLink RX1 19 yX1_januaryOf, Cond.methodLink RX1 12 yX1_monthBegin, Cond.methodLink RX3 30 yX3_numberTold, Cond.instanceMethod yX3_numberTold, Cond.selects RX3 yX3_numberTold yX3_numberTold, Cond.code yX3_numberTold cX3_numberTold 3 (some .int)]
def wsL_law0_r9 : List Cond := [Cond.methodLink RX3 34 yJ9_floorMod_7cf53, Cond.static yJ9_floorMod_7cf53, Cond.initialized RJ9, Cond.code yJ9_floorMod_7cf53 cJ9_floorMod_7cf53 3 (some .int), Cond.methodLink RX4 45 yX4_takeEarliest, Cond.instanceMethod yX4_takeEarliest, Cond.selects RX4 yX4_takeEarliest yX4_takeEarliest, Cond.code yX4_takeEarliest cX4_takeEarliest 4 (some .int), Cond.constant RX4 66 (105190560), Cond.methodLink RX4 53 yX6_momentOfTold, Cond.instanceMethod yX6_momentOfTold, Cond.selects RX6 yX6_momentOfTold yX6_momentOfTold, Cond.code yX6_momentOfTold cX6_momentOfTold 5 (some .int), Cond.methodLink RL 44 yX8_addSeries, Cond.instanceMethod yX8_addSeries, Cond.selects RX8 yX8_addSeries yX8_addSeries, Cond.code yX8_addSeries cX8_addSeries 9 (some .int), Cond.constant RX8 200 (105190559), Cond.instantiable RX5 18, Cond.initialized RX5, Cond.methodLink RX8 207 yX5_init, Cond.instanceMethod yX5_init, Cond.code yX5_init cX5_init 7 none, Cond.methodLink RX5 5 objectInit]
def wsL_law0_r10 : List Cond := [Cond.fieldLink RX5 11 "ZoneCalendar$Series" "place" "LZoneCalendar$Place;", Cond.fieldLink RX5 15 "ZoneCalendar$Series" "begin" "I", Cond.fieldLink RX5 19 "ZoneCalendar$Series" "kind" "I", Cond.fieldLink RX5 22 "ZoneCalendar$Series" "step" "I", Cond.fieldLink RX5 25 "ZoneCalendar$Series" "weekdays" "I", Cond.fieldLink RX5 28 "ZoneCalendar$Series" "beginDay" "I", Cond.constant RX5 31 (73048), Cond.methodLink RX5 32 Lib.Math.min.name, Cond.fieldLink RX5 38 "ZoneCalendar$Series" "latest" "I", Cond.classLink RX5 47 RX3, Cond.fieldLink RX5 55 "ZoneCalendar$Series" "usual" "LZoneCalendar$Pattern;", Cond.fieldLink RX5 59 "ZoneCalendar$Series" "patterns" "[LZoneCalendar$Pattern;", Cond.fieldLink RX5 63 "ZoneCalendar$Series" "patternCount" "I", Cond.fieldLink RX5 66 "ZoneCalendar$Series" "choice" "I", Cond.fieldLink RX5 69 "ZoneCalendar$Series" "most" "I", Cond.fieldLink RX5 72 "ZoneCalendar$Series" "last" "I", Cond.fieldLink RX5 75 "ZoneCalendar$Series" "exceptions" "[I", Cond.fieldLink RX5 79 "ZoneCalendar$Series" "exceptionCount" "I", Cond.fieldLink RX5 82 "ZoneCalendar$Series" "found" "[I", Cond.fieldLink RX5 85 "ZoneCalendar$Series" "foundCount" "I", Cond.fieldLink RX5 88 "ZoneCalendar$Series" "taken" "I", Cond.methodLink RX5 41 yX1_monthWith, Cond.static yX1_monthWith, Cond.code yX1_monthWith cX1_monthWith 3 (some .int)]
def wsL_law0_r11 : List Cond := [Cond.methodLink RX1 16 yX1_yearWith, Cond.static yX1_yearWith, Cond.code yX1_yearWith cX1_yearWith 1 (some .int), Cond.methodLink RX5 49 yX1_numberInMonth, Cond.static yX1_numberInMonth, Cond.code yX1_numberInMonth cX1_numberInMonth 1 (some .int), Cond.methodLink RX1 22 yX1_monthWith, Cond.methodLink RX5 52 yX3_init, Cond.methodLink RX8 210 yX5_findDates, Cond.instanceMethod yX5_findDates, Cond.selects RX5 yX5_findDates yX5_findDates, Cond.code yX5_findDates cX5_findDates 4 none, Cond.methodLink RX5 91 yX5_findCounting, Cond.instanceMethod yX5_findCounting, Cond.selects RX5 yX5_findCounting yX5_findCounting, Cond.code yX5_findCounting cX5_findCounting 3 none, Cond.methodLink RX5 95 yX5_spanBegin, Cond.instanceMethod yX5_spanBegin, Cond.selects RX5 yX5_spanBegin yX5_spanBegin, Cond.code yX5_spanBegin cX5_spanBegin 2 (some .int), Cond.methodLink RX5 102 yX1_weekday, Cond.static yX1_weekday, Cond.code yX1_weekday cX1_weekday 1 (some .int), Cond.methodLink RX1 25 yJ9_floorMod_7cf53]
def wsL_law0_r12 : List Cond := [Cond.methodLink RX5 105 yX1_monthBegin, Cond.methodLink RX5 108 yX1_yearWith, Cond.methodLink RX5 111 yX1_januaryOf, Cond.methodLink RX5 114 yX0_clear, Cond.instanceMethod yX0_clear, Cond.selects RX0 yX0_clear yX0_clear, Cond.code yX0_clear cX0_clear 4 none, Cond.methodLink RX0 20 Lib.Math.min.name, Cond.methodLink RX5 120 yX5_markTold, Cond.instanceMethod yX5_markTold, Cond.selects RX5 yX5_markTold yX5_markTold, Cond.code yX5_markTold cX5_markTold 7 none, Cond.methodLink RX5 124 yX5_rightWeekdays, Cond.instanceMethod yX5_rightWeekdays, Cond.selects RX5 yX5_rightWeekdays yX5_rightWeekdays, Cond.code yX5_rightWeekdays cX5_rightWeekdays 1 (some .int), Cond.methodLink RX5 128 yX0_firstDay, Cond.instanceMethod yX0_firstDay, Cond.selects RX0 yX0_firstDay yX0_firstDay, Cond.code yX0_firstDay cX0_firstDay 1 (some .int), Cond.methodLink RX5 131 yX0_lastDay, Cond.instanceMethod yX0_lastDay, Cond.selects RX0 yX0_lastDay yX0_lastDay, Cond.code yX0_lastDay cX0_lastDay 1 (some .int)]
def wsL_law0_r13 : List Cond := [Cond.methodLink RX5 134 yX5_markDay, Cond.static yX5_markDay, Cond.code yX5_markDay cX5_markDay 3 none, Cond.methodLink RX5 140 yX1_isIn, Cond.static yX1_isIn, Cond.code yX1_isIn cX1_isIn 2 (some .boolean), Cond.methodLink RX5 144 yX0_write, Cond.instanceMethod yX0_write, Cond.selects RX0 yX0_write yX0_write, Cond.code yX0_write cX0_write 4 none, Cond.methodLink RX5 137 yX3_toldIn, Cond.methodLink RX5 98 yX5_takeSpan, Cond.instanceMethod yX5_takeSpan, Cond.selects RX5 yX5_takeSpan yX5_takeSpan, Cond.code yX5_takeSpan cX5_takeSpan 5 none, Cond.methodLink RX5 147 yX5_chosen, Cond.instanceMethod yX5_chosen, Cond.selects RX5 yX5_chosen yX5_chosen, Cond.code yX5_chosen cX5_chosen 7 (some .int), Cond.methodLink RX5 158 Lib.Math.abs.name, Cond.static Lib.Math.abs.name, Cond.code Lib.Math.abs.name Lib.Math.abs.code 1 (some .int), Cond.methodLink RX5 155 yX0_read, Cond.instanceMethod yX0_read]
def wsL_law0_r14 : List Cond := [Cond.selects RX0 yX0_read yX0_read, Cond.code yX0_read cX0_read 3 (some .int), Cond.methodLink RX5 151 yX5_takeDay, Cond.instanceMethod yX5_takeDay, Cond.selects RX5 yX5_takeDay yX5_takeDay, Cond.code yX5_takeDay cX5_takeDay 4 none, Cond.methodLink RX5 161 yX5_isException, Cond.instanceMethod yX5_isException, Cond.selects RX5 yX5_isException yX5_isException, Cond.code yX5_isException cX5_isException 3 (some .boolean), Cond.methodLink RL 48 yX8_usePattern, Cond.instanceMethod yX8_usePattern, Cond.selects RX8 yX8_usePattern yX8_usePattern, Cond.code yX8_usePattern cX8_usePattern 6 (some .int), Cond.fieldLink RX8 218 "ZoneCalendar$Series" "patternCount" "I", Cond.fieldLink RX8 219 "ZoneCalendar$Series" "patterns" "[LZoneCalendar$Pattern;", Cond.methodLink RX8 214 yX8_needSeries, Cond.instanceMethod yX8_needSeries, Cond.selects RX8 yX8_needSeries yX8_needSeries, Cond.code yX8_needSeries cX8_needSeries 3 (some (.object "ZoneCalendar$Series")), Cond.methodLink RL 51 yX8_setMost, Cond.instanceMethod yX8_setMost, Cond.selects RX8 yX8_setMost yX8_setMost, Cond.code yX8_setMost cX8_setMost 5 (some .int)]
def wsL_law0_r15 : List Cond := [Cond.fieldLink RX8 229 "ZoneCalendar$Series" "most" "I", Cond.methodLink RL 54 yX8_addFeast, Cond.instanceMethod yX8_addFeast, Cond.selects RX8 yX8_addFeast yX8_addFeast, Cond.code yX8_addFeast cX8_addFeast 7 (some .int), Cond.fieldLink RX8 302 "ZoneCalendar$Work" "feastCount" "I", Cond.fieldLink RX8 305 "ZoneCalendar$Work" "feasts" "[LZoneCalendar$Feast;", Cond.classLink RX8 311 RX2, Cond.instantiable RX2 4, Cond.initialized RX2, Cond.methodLink RX8 313 yX2_init, Cond.instanceMethod yX2_init, Cond.code yX2_init cX2_init 5 none, Cond.methodLink RX2 1 objectInit, Cond.fieldLink RX2 7 "ZoneCalendar$Feast" "firstYear" "I", Cond.fieldLink RX2 13 "ZoneCalendar$Feast" "lastYear" "I", Cond.fieldLink RX2 16 "ZoneCalendar$Feast" "pattern" "LZoneCalendar$Pattern;", Cond.fieldLink RX2 20 "ZoneCalendar$Feast" "way" "I", Cond.methodLink RL 58 yX8_setWeek, Cond.instanceMethod yX8_setWeek, Cond.selects RX8 yX8_setWeek yX8_setWeek, Cond.code yX8_setWeek cX8_setWeek 3 (some .int), Cond.fieldLink RX8 287 "ZoneCalendar$Work" "week" "I", Cond.methodLink RL 61 yX8_digest]
def wsL_law0_r16 : List Cond := [Cond.instanceMethod yX8_digest, Cond.selects RX8 yX8_digest yX8_digest, Cond.code yX8_digest cX8_digest 3 (some .long), Cond.constantLong RX8 356 (2441), Cond.methodLink RX8 358 yX8_digestPatterns, Cond.instanceMethod yX8_digestPatterns, Cond.selects RX8 yX8_digestPatterns yX8_digestPatterns, Cond.code yX8_digestPatterns cX8_digestPatterns 7 (some .long), Cond.constant RX8 377 (36600), Cond.methodLink RX8 373 yX8_mix, Cond.static yX8_mix, Cond.code yX8_mix cX8_mix 4 (some .long), Cond.constantLong RX8 371 (31), Cond.methodLink RX8 129 yX3_countIn, Cond.instanceMethod yX3_countIn, Cond.selects RX3 yX3_countIn yX3_countIn, Cond.code yX3_countIn cX3_countIn 5 (some .int), Cond.methodLink RX3 39 yX1_januaryOf, Cond.methodLink RX3 42 yX3_toldIn, Cond.methodLink RX8 135 yX3_firstFrom, Cond.instanceMethod yX3_firstFrom, Cond.selects RX3 yX3_firstFrom yX3_firstFrom, Cond.code yX3_firstFrom cX3_firstFrom 4 (some .int), Cond.methodLink RX3 45 yX1_monthWith]
def wsL_law0_r17 : List Cond := [Cond.methodLink RX8 362 yX8_digestPlaces, Cond.instanceMethod yX8_digestPlaces, Cond.selects RX8 yX8_digestPlaces yX8_digestPlaces, Cond.code yX8_digestPlaces cX8_digestPlaces 9 (some .long), Cond.constant RX8 378 (52596000), Cond.constant RX8 379 (52740120), Cond.methodLink RX8 182 yX4_savingThen, Cond.instanceMethod yX4_savingThen, Cond.selects RX4 yX4_savingThen yX4_savingThen, Cond.code yX4_savingThen cX4_savingThen 2 (some .int), Cond.methodLink RX4 74 yX4_pieceWith, Cond.instanceMethod yX4_pieceWith, Cond.selects RX4 yX4_pieceWith yX4_pieceWith, Cond.code yX4_pieceWith cX4_pieceWith 7 (some .int), Cond.methodLink RX4 71 yX4_pieceBegin, Cond.instanceMethod yX4_pieceBegin, Cond.selects RX4 yX4_pieceBegin yX4_pieceBegin, Cond.code yX4_pieceBegin cX4_pieceBegin 2 (some .int), Cond.methodLink RX4 68 yX4_pieceSaving, Cond.instanceMethod yX4_pieceSaving, Cond.selects RX4 yX4_pieceSaving yX4_pieceSaving, Cond.code yX4_pieceSaving cX4_pieceSaving 2 (some .int), Cond.methodLink RX8 185 yX4_show, Cond.instanceMethod yX4_show]
def wsL_law0_r18 : List Cond := [Cond.selects RX4 yX4_show yX4_show, Cond.code yX4_show cX4_show 2 (some .int), Cond.methodLink RX4 78 yX4_savingThen, Cond.methodLink RX8 188 yX4_changeBehind, Cond.instanceMethod yX4_changeBehind, Cond.selects RX4 yX4_changeBehind yX4_changeBehind, Cond.code yX4_changeBehind cX4_changeBehind 3 (some .int), Cond.methodLink RX8 191 yX4_countShown, Cond.instanceMethod yX4_countShown, Cond.selects RX4 yX4_countShown yX4_countShown, Cond.code yX4_countShown cX4_countShown 5 (some .int), Cond.methodLink RX4 86 yX4_latest, Cond.instanceMethod yX4_latest, Cond.selects RX4 yX4_latest yX4_latest, Cond.code yX4_latest cX4_latest 2 (some .long), Cond.methodLink RX4 90 yX4_earliest, Cond.instanceMethod yX4_earliest, Cond.selects RX4 yX4_earliest yX4_earliest, Cond.code yX4_earliest cX4_earliest 2 (some .long), Cond.constantLong RX4 84 (180), Cond.methodLink RX4 93 yX4_shownIn, Cond.instanceMethod yX4_shownIn, Cond.selects RX4 yX4_shownIn yX4_shownIn, Cond.code yX4_shownIn cX4_shownIn 5 (some .int)]
def wsL_law0_r19 : List Cond := [Cond.methodLink RX4 81 yX4_pieceShift, Cond.instanceMethod yX4_pieceShift, Cond.selects RX4 yX4_pieceShift yX4_pieceShift, Cond.code yX4_pieceShift cX4_pieceShift 2 (some .int), Cond.methodLink RX8 194 yX4_momentFor, Cond.instanceMethod yX4_momentFor, Cond.selects RX4 yX4_momentFor yX4_momentFor, Cond.code yX4_momentFor cX4_momentFor 6 (some .int), Cond.methodLink RX4 96 yX4_momentPassing, Cond.instanceMethod yX4_momentPassing, Cond.selects RX4 yX4_momentPassing yX4_momentPassing, Cond.code yX4_momentPassing cX4_momentPassing 7 (some .int), Cond.methodLink RX8 197 yX4_lastShown, Cond.instanceMethod yX4_lastShown, Cond.selects RX4 yX4_lastShown yX4_lastShown, Cond.code yX4_lastShown cX4_lastShown 5 (some .int), Cond.methodLink RX8 365 yX8_digestSeries, Cond.instanceMethod yX8_digestSeries, Cond.selects RX8 yX8_digestSeries yX8_digestSeries, Cond.code yX8_digestSeries cX8_digestSeries 7 (some .long), Cond.fieldLink RX8 256 "ZoneCalendar$Series" "foundCount" "I", Cond.methodLink RX8 274 yX5_greatestGap, Cond.instanceMethod yX5_greatestGap, Cond.selects RX5 yX5_greatestGap yX5_greatestGap]
def wsL_law0_r20 : List Cond := [Cond.code yX5_greatestGap cX5_greatestGap 3 (some .int), Cond.methodLink RX5 173 Lib.Math.max.name, Cond.methodLink RX5 165 yX5_date, Cond.instanceMethod yX5_date, Cond.selects RX5 yX5_date yX5_date, Cond.code yX5_date cX5_date 2 (some .int), Cond.methodLink RX8 380 yX8_digestDates, Cond.instanceMethod yX8_digestDates, Cond.selects RX8 yX8_digestDates yX8_digestDates, Cond.code yX8_digestDates cX8_digestDates 9 (some .long), Cond.methodLink RX8 263 yX5_date, Cond.methodLink RX8 267 yX5_momentOfDate, Cond.instanceMethod yX5_momentOfDate, Cond.selects RX5 yX5_momentOfDate yX5_momentOfDate, Cond.code yX5_momentOfDate cX5_momentOfDate 2 (some .int), Cond.methodLink RX5 168 yX4_momentFor, Cond.methodLink RX8 270 yX5_countShared, Cond.instanceMethod yX5_countShared, Cond.selects RX5 yX5_countShared yX5_countShared, Cond.code yX5_countShared cX5_countShared 6 (some .int), Cond.methodLink RX8 368 yX8_digestWork, Cond.instanceMethod yX8_digestWork, Cond.selects RX8 yX8_digestWork yX8_digestWork, Cond.code yX8_digestWork cX8_digestWork 8 (some .long)]
def wsL_law0_r21 : List Cond := [Cond.constant RX8 384 (36500), Cond.constant RX8 385 (52560000), Cond.constant RX8 342 (50000), Cond.methodLink RX8 316 yX7_findFeasts, Cond.instanceMethod yX7_findFeasts, Cond.selects RX7 yX7_findFeasts yX7_findFeasts, Cond.code yX7_findFeasts cX7_findFeasts 8 none, Cond.methodLink RX7 49 Lib.Math.max.name, Cond.constant RX7 55 (73048), Cond.methodLink RX7 56 Lib.Math.min.name, Cond.fieldLink RX7 76 "ZoneCalendar$Feast" "firstYear" "I", Cond.fieldLink RX7 82 "ZoneCalendar$Feast" "lastYear" "I", Cond.methodLink RX7 59 yX0_clear, Cond.methodLink RX7 63 yX0_firstDay, Cond.methodLink RX7 67 yX1_monthWith, Cond.methodLink RX7 73 yX0_lastDay, Cond.methodLink RX7 79 yX1_januaryOf, Cond.methodLink RX7 85 yX7_findFeast, Cond.instanceMethod yX7_findFeast, Cond.selects RX7 yX7_findFeast yX7_findFeast, Cond.code yX7_findFeast cX7_findFeast 8 none, Cond.fieldLink RX7 89 "ZoneCalendar$Feast" "pattern" "LZoneCalendar$Pattern;", Cond.fieldLink RX7 98 "ZoneCalendar$Feast" "way" "I", Cond.methodLink RX7 93 yX3_toldIn]
def wsL_law0_r22 : List Cond := [Cond.methodLink RX7 101 yX7_moved, Cond.instanceMethod yX7_moved, Cond.selects RX7 yX7_moved yX7_moved, Cond.code yX7_moved cX7_moved 5 (some .int), Cond.methodLink RX7 111 yX7_takes, Cond.instanceMethod yX7_takes, Cond.selects RX7 yX7_takes yX7_takes, Cond.code yX7_takes cX7_takes 5 (some .boolean), Cond.methodLink RX7 115 yJ9_floorMod_7cf53, Cond.methodLink RX7 105 yX0_read, Cond.methodLink RX7 108 yX0_write, Cond.methodLink RX8 319 yX7_feastFound, Cond.instanceMethod yX7_feastFound, Cond.selects RX7 yX7_feastFound yX7_feastFound, Cond.code yX7_feastFound cX7_feastFound 2 (some .int), Cond.methodLink RX8 322 yX7_worksOn, Cond.instanceMethod yX7_worksOn, Cond.selects RX7 yX7_worksOn yX7_worksOn, Cond.code yX7_worksOn cX7_worksOn 2 (some .boolean), Cond.methodLink RX7 118 yX1_isIn, Cond.methodLink RX8 328 yX7_countDays, Cond.instanceMethod yX7_countDays, Cond.selects RX7 yX7_countDays yX7_countDays, Cond.code yX7_countDays cX7_countDays 5 (some .int)]
def wsL_law0_r23 : List Cond := [Cond.methodLink RX7 122 yX7_findFeasts, Cond.methodLink RX7 125 yX7_worksOn, Cond.methodLink RX8 333 yX7_dayBehind, Cond.instanceMethod yX7_dayBehind, Cond.selects RX7 yX7_dayBehind yX7_dayBehind, Cond.code yX7_dayBehind cX7_dayBehind 7 (some .int), Cond.methodLink RX7 129 Lib.Math.abs.name, Cond.methodLink RX8 336 yX7_findFeastsWithin, Cond.instanceMethod yX7_findFeastsWithin, Cond.selects RX7 yX7_findFeastsWithin yX7_findFeastsWithin, Cond.code yX7_findFeastsWithin cX7_findFeastsWithin 5 none, Cond.fieldLink RX7 132 "ZoneCalendar$Place" "base" "I", Cond.methodLink RX7 135 yJ9_floorDiv_7cf53, Cond.static yJ9_floorDiv_7cf53, Cond.code yJ9_floorDiv_7cf53 cJ9_floorDiv_7cf53 3 (some .int), Cond.methodLink RX8 339 yX7_minutesWithin, Cond.instanceMethod yX7_minutesWithin, Cond.selects RX7 yX7_minutesWithin yX7_minutesWithin, Cond.code yX7_minutesWithin cX7_minutesWithin 9 (some .int), Cond.methodLink RX7 138 yX4_pieceWith, Cond.methodLink RX7 142 yX4_pieceShift, Cond.methodLink RX7 145 yX4_pieceBegin, Cond.methodLink RX7 148 yX7_localMinutes, Cond.instanceMethod yX7_localMinutes]
def wsL_law0_r24 : List Cond := [Cond.selects RX7 yX7_localMinutes yX7_localMinutes, Cond.code yX7_localMinutes cX7_localMinutes 9 (some .int), Cond.methodLink RX8 348 yX7_finish, Cond.instanceMethod yX7_finish, Cond.selects RX7 yX7_finish yX7_finish, Cond.code yX7_finish cX7_finish 8 (some .int), Cond.methodLink RX7 151 yX7_minutesWithin, Cond.methodLink RL 65 yL_areClocksSound, Cond.static yL_areClocksSound, Cond.code yL_areClocksSound cL_areClocksSound 7 (some .boolean), Cond.constant RL 98 (105190559), Cond.methodLink RL 83 yX8_localAt, Cond.instanceMethod yX8_localAt, Cond.selects RX8 yX8_localAt yX8_localAt, Cond.code yX8_localAt cX8_localAt 4 (some .int), Cond.methodLink RX8 179 yX8_needMoment, Cond.static yX8_needMoment, Cond.code yX8_needMoment cX8_needMoment 1 none, Cond.methodLink RL 86 yX8_momentOf, Cond.instanceMethod yX8_momentOf, Cond.selects RX8 yX8_momentOf yX8_momentOf, Cond.code yX8_momentOf cX8_momentOf 3 (some .int), Cond.methodLink RL 89 yX8_lastMomentOf, Cond.instanceMethod yX8_lastMomentOf]
def wsL_law0_r25 : List Cond := [Cond.selects RX8 yX8_lastMomentOf yX8_lastMomentOf, Cond.code yX8_lastMomentOf cX8_lastMomentOf 3 (some .int), Cond.methodLink RL 92 yX8_showsOften, Cond.instanceMethod yX8_showsOften, Cond.selects RX8 yX8_showsOften yX8_showsOften, Cond.code yX8_showsOften cX8_showsOften 3 (some .int), Cond.methodLink RL 95 yX8_nextChange, Cond.instanceMethod yX8_nextChange, Cond.selects RX8 yX8_nextChange yX8_nextChange, Cond.code yX8_nextChange cX8_nextChange 4 (some .int), Cond.methodLink RL 99 yX8_savingAt, Cond.instanceMethod yX8_savingAt, Cond.selects RX8 yX8_savingAt yX8_savingAt, Cond.code yX8_savingAt cX8_savingAt 4 (some .int), Cond.methodLink RL 102 yX8_ahead, Cond.instanceMethod yX8_ahead, Cond.selects RX8 yX8_ahead yX8_ahead, Cond.code yX8_ahead cX8_ahead 6 (some .int), Cond.methodLink RL 70 yL_areDaysSound, Cond.static yL_areDaysSound, Cond.code yL_areDaysSound cL_areDaysSound 6 (some .boolean), Cond.methodLink RL 105 yX8_nextTold, Cond.instanceMethod yX8_nextTold, Cond.selects RX8 yX8_nextTold yX8_nextTold]
def wsL_law0_r26 : List Cond := [Cond.code yX8_nextTold cX8_nextTold 4 (some .int), Cond.methodLink RX8 77 yX8_needDay, Cond.static yX8_needDay, Cond.code yX8_needDay cX8_needDay 1 none, Cond.constant RX8 386 (73048), Cond.methodLink RL 108 yX8_tells, Cond.instanceMethod yX8_tells, Cond.selects RX8 yX8_tells yX8_tells, Cond.code yX8_tells cX8_tells 4 (some .boolean), Cond.methodLink RX8 83 yX1_monthWith, Cond.methodLink RX8 132 yX3_toldIn, Cond.methodLink RL 112 yX8_yearOf, Cond.instanceMethod yX8_yearOf, Cond.selects RX8 yX8_yearOf yX8_yearOf, Cond.code yX8_yearOf cX8_yearOf 2 (some .int), Cond.methodLink RX8 80 yX1_yearWith, Cond.methodLink RL 115 yX8_monthOf, Cond.instanceMethod yX8_monthOf, Cond.selects RX8 yX8_monthOf yX8_monthOf, Cond.code yX8_monthOf cX8_monthOf 2 (some .int), Cond.methodLink RL 118 yX8_dayOfMonth, Cond.instanceMethod yX8_dayOfMonth, Cond.selects RX8 yX8_dayOfMonth yX8_dayOfMonth, Cond.code yX8_dayOfMonth cX8_dayOfMonth 2 (some .int)]
def wsL_law0_r27 : List Cond := [Cond.methodLink RX8 86 yX1_numberInMonth, Cond.methodLink RL 121 yX8_dayOf, Cond.instanceMethod yX8_dayOf, Cond.selects RX8 yX8_dayOf yX8_dayOf, Cond.code yX8_dayOf cX8_dayOf 5 (some .int), Cond.methodLink RX8 63 yX1_januaryOf, Cond.methodLink RX8 69 yX1_monthLength, Cond.static yX1_monthLength, Cond.code yX1_monthLength cX1_monthLength 1 (some .int), Cond.methodLink RX8 74 yX1_monthBegin, Cond.methodLink RL 124 yX8_isWorking, Cond.instanceMethod yX8_isWorking, Cond.selects RX8 yX8_isWorking yX8_isWorking, Cond.code yX8_isWorking cX8_isWorking 2 (some .boolean), Cond.methodLink RL 128 yX8_feastOn, Cond.instanceMethod yX8_feastOn, Cond.selects RX8 yX8_feastOn yX8_feastOn, Cond.code yX8_feastOn cX8_feastOn 2 (some .int), Cond.methodLink RL 131 yX8_plusWorking, Cond.instanceMethod yX8_plusWorking, Cond.selects RX8 yX8_plusWorking yX8_plusWorking, Cond.code yX8_plusWorking cX8_plusWorking 3 (some .int), Cond.methodLink RL 134 yX8_workingDays, Cond.instanceMethod yX8_workingDays]
def wsL_law0_r28 : List Cond := [Cond.selects RX8 yX8_workingDays yX8_workingDays, Cond.code yX8_workingDays cX8_workingDays 3 (some .int), Cond.constant RX8 325 (73049), Cond.methodLink RL 73 yL_isSeriesSound, Cond.static yL_isSeriesSound, Cond.code yL_isSeriesSound cL_isSeriesSound 6 (some .boolean), Cond.methodLink RL 143 Lib.Math.max.name, Cond.methodLink RL 80 yX8_dates, Cond.instanceMethod yX8_dates, Cond.selects RX8 yX8_dates yX8_dates, Cond.code yX8_dates cX8_dates 2 (some .int), Cond.methodLink RL 137 yX8_dateAt, Cond.instanceMethod yX8_dateAt, Cond.selects RX8 yX8_dateAt yX8_dateAt, Cond.code yX8_dateAt cX8_dateAt 4 (some .int), Cond.methodLink RX8 259 yX8_needDate, Cond.static yX8_needDate, Cond.code yX8_needDate cX8_needDate 2 none, Cond.methodLink RL 140 yX8_dateFrom, Cond.instanceMethod yX8_dateFrom, Cond.selects RX8 yX8_dateFrom yX8_dateFrom, Cond.code yX8_dateFrom cX8_dateFrom 4 (some .int), Cond.methodLink RX8 266 yX5_firstFrom, Cond.instanceMethod yX5_firstFrom]
def wsL_law0_r29 : List Cond := [Cond.selects RX5 yX5_firstFrom yX5_firstFrom, Cond.code yX5_firstFrom cX5_firstFrom 3 (some .int), Cond.methodLink RL 146 yX8_widestGap, Cond.instanceMethod yX8_widestGap, Cond.selects RX8 yX8_widestGap yX8_widestGap, Cond.code yX8_widestGap cX8_widestGap 2 (some .int), Cond.methodLink RL 77 yX8_common, Cond.instanceMethod yX8_common, Cond.selects RX8 yX8_common yX8_common, Cond.code yX8_common cX8_common 5 (some .int), Cond.methodLink RL 149 yX8_meanGap, Cond.instanceMethod yX8_meanGap, Cond.selects RX8 yX8_meanGap yX8_meanGap, Cond.code yX8_meanGap cX8_meanGap 2 (some .double), Cond.methodLink RX8 352 yX5_meanOfGaps, Cond.instanceMethod yX5_meanOfGaps, Cond.selects RX5 yX5_meanOfGaps yX5_meanOfGaps, Cond.code yX5_meanOfGaps cX5_meanOfGaps 2 (some .double)]
abbrev vwCl : List vw_C := [(RX0, TX0, 3), (RX2, TX2, 4), (RX3, TX3, 3), (RX4, TX4, 7), (RX5, TX5, 18), (RX6, TX6, 6), (RX7, TX7, 8), (RX8, TX8, 8)]
theorem tb1 {i : Nat} {w : Cond} (h : tables_1_1[i]? = some w) : w ∈ lw_tbl := List.mem_append_right _ (List.mem_append_left _ (List.mem_of_getElem? h))
theorem tb2 {i : Nat} {w : Cond} (h : tables_1_2[i]? = some w) : w ∈ lw_tbl := List.mem_append_right _ (List.mem_append_right _ (List.mem_append_left _ (List.mem_of_getElem? h)))
theorem tb3 {i : Nat} {w : Cond} (h : tables_1_3[i]? = some w) : w ∈ lw_tbl := List.mem_append_right _ (List.mem_append_right _ (List.mem_append_right _ (List.mem_append_left _ (List.mem_of_getElem? h))))
theorem tb4 {i : Nat} {w : Cond} (h : tables_1_4[i]? = some w) : w ∈ lw_tbl := List.mem_append_right _ (List.mem_append_right _ (List.mem_append_right _ (List.mem_append_right _ ((List.mem_of_getElem? h)))))
theorem tbs {q : MethodName} {n : Nat} (h : (q, n) ∈ lw_privs) : Cond.selects q.cls q q ∈ lw_tbl := List.mem_append_left _ (List.mem_map.mpr ⟨(q, n), h, rfl⟩)
theorem GLi_r1 : ∀ w ∈ wsL_law0_r1, w ∈ lw_tbl := List.forall_mem_cons.mpr ⟨tb1 (i := 17) rfl, List.forall_mem_cons.mpr ⟨tb1 (i := 18) rfl, List.forall_mem_cons.mpr ⟨tb1 (i := 1) rfl, List.forall_mem_cons.mpr ⟨tb4 (i := 219) rfl, List.forall_mem_cons.mpr ⟨tb2 (i := 133) rfl, List.forall_mem_cons.mpr ⟨tb1 (i := 11) rfl, List.forall_mem_cons.mpr ⟨tb2 (i := 134) rfl, List.forall_mem_cons.mpr ⟨tb4 (i := 220) rfl, List.forall_mem_cons.mpr ⟨tb4 (i := 221) rfl, List.forall_mem_cons.mpr ⟨tb1 (i := 19) rfl, List.forall_mem_cons.mpr ⟨tb1 (i := 20) rfl, List.forall_mem_cons.mpr ⟨tb1 (i := 21) rfl, List.forall_mem_cons.mpr ⟨tb1 (i := 22) rfl, List.forall_mem_cons.mpr ⟨tb1 (i := 23) rfl, List.forall_mem_cons.mpr ⟨tb1 (i := 24) rfl, List.forall_mem_cons.mpr ⟨tb1 (i := 25) rfl, List.forall_mem_cons.mpr ⟨tb1 (i := 117) rfl, List.forall_mem_cons.mpr ⟨tb1 (i := 118) rfl, List.forall_mem_cons.mpr ⟨tb1 (i := 27) rfl, List.forall_mem_cons.mpr ⟨tb1 (i := 119) rfl, List.forall_mem_cons.mpr ⟨tb1 (i := 120) rfl, List.forall_mem_cons.mpr ⟨tb1 (i := 29) rfl, List.forall_mem_cons.mpr ⟨tb1 (i := 121) rfl, List.forall_mem_cons.mpr ⟨tb1 (i := 122) rfl, List.forall_mem_nil _⟩⟩⟩⟩⟩⟩⟩⟩⟩⟩⟩⟩⟩⟩⟩⟩⟩⟩⟩⟩⟩⟩⟩⟩
theorem GLi_r2 : ∀ w ∈ wsL_law0_r2, w ∈ lw_tbl := List.forall_mem_cons.mpr ⟨tb1 (i := 31) rfl, List.forall_mem_cons.mpr ⟨tb1 (i := 32) rfl, List.forall_mem_cons.mpr ⟨tb1 (i := 2) rfl, List.forall_mem_cons.mpr ⟨tb1 (i := 123) rfl, List.forall_mem_cons.mpr ⟨tb1 (i := 48) rfl, List.forall_mem_cons.mpr ⟨tb1 (i := 49) rfl, List.forall_mem_cons.mpr ⟨tb1 (i := 3) rfl, List.forall_mem_cons.mpr ⟨tb1 (i := 124) rfl, List.forall_mem_cons.mpr ⟨tb1 (i := 33) rfl, List.forall_mem_cons.mpr ⟨tb1 (i := 34) rfl, List.forall_mem_cons.mpr ⟨tb1 (i := 35) rfl, List.forall_mem_cons.mpr ⟨tb1 (i := 36) rfl, List.forall_mem_cons.mpr ⟨tb1 (i := 47) rfl, List.forall_mem_cons.mpr ⟨tb1 (i := 37) rfl, List.forall_mem_cons.mpr ⟨tb1 (i := 38) rfl, List.forall_mem_cons.mpr ⟨tb1 (i := 39) rfl, List.forall_mem_cons.mpr ⟨tb1 (i := 50) rfl, List.forall_mem_cons.mpr ⟨tb1 (i := 51) rfl, List.forall_mem_cons.mpr ⟨tb1 (i := 52) rfl, List.forall_mem_cons.mpr ⟨tb1 (i := 53) rfl, List.forall_mem_cons.mpr ⟨tb1 (i := 89) rfl, List.forall_mem_cons.mpr ⟨tb1 (i := 54) rfl, List.forall_mem_cons.mpr ⟨tb1 (i := 55) rfl, List.forall_mem_cons.mpr ⟨tb1 (i := 4) rfl, List.forall_mem_nil _⟩⟩⟩⟩⟩⟩⟩⟩⟩⟩⟩⟩⟩⟩⟩⟩⟩⟩⟩⟩⟩⟩⟩⟩
theorem GLi_r3 : ∀ w ∈ wsL_law0_r3, w ∈ lw_tbl := List.forall_mem_cons.mpr ⟨tb1 (i := 90) rfl, List.forall_mem_cons.mpr ⟨tb1 (i := 91) rfl, List.forall_mem_cons.mpr ⟨tb1 (i := 93) rfl, List.forall_mem_cons.mpr ⟨tb1 (i := 94) rfl, List.forall_mem_cons.mpr ⟨tb1 (i := 85) rfl, List.forall_mem_cons.mpr ⟨tb1 (i := 95) rfl, List.forall_mem_cons.mpr ⟨tb1 (i := 97) rfl, List.forall_mem_cons.mpr ⟨tb1 (i := 87) rfl, List.forall_mem_cons.mpr ⟨tb1 (i := 99) rfl, List.forall_mem_cons.mpr ⟨tb1 (i := 56) rfl, List.forall_mem_cons.mpr ⟨tb1 (i := 57) rfl, List.forall_mem_cons.mpr ⟨tb1 (i := 58) rfl, List.forall_mem_cons.mpr ⟨tb1 (i := 59) rfl, List.forall_mem_cons.mpr ⟨tb1 (i := 62) rfl, List.forall_mem_cons.mpr ⟨tb1 (i := 60) rfl, List.forall_mem_cons.mpr ⟨tb1 (i := 64) rfl, List.forall_mem_cons.mpr ⟨tb1 (i := 65) rfl, List.forall_mem_cons.mpr ⟨tb1 (i := 66) rfl, List.forall_mem_cons.mpr ⟨tb1 (i := 67) rfl, List.forall_mem_cons.mpr ⟨tb1 (i := 68) rfl, List.forall_mem_cons.mpr ⟨tb1 (i := 69) rfl, List.forall_mem_cons.mpr ⟨tb1 (i := 88) rfl, List.forall_mem_cons.mpr ⟨tb4 (i := 70) rfl, List.forall_mem_cons.mpr ⟨tb4 (i := 71) rfl, List.forall_mem_nil _⟩⟩⟩⟩⟩⟩⟩⟩⟩⟩⟩⟩⟩⟩⟩⟩⟩⟩⟩⟩⟩⟩⟩⟩
theorem GLi_r4 : ∀ w ∈ wsL_law0_r4, w ∈ lw_tbl := List.forall_mem_cons.mpr ⟨tb1 (i := 0) rfl, List.forall_mem_cons.mpr ⟨tb4 (i := 72) rfl, List.forall_mem_cons.mpr ⟨tb4 (i := 73) rfl, List.forall_mem_cons.mpr ⟨tb4 (i := 66) rfl, List.forall_mem_cons.mpr ⟨tb4 (i := 67) rfl, List.forall_mem_cons.mpr ⟨tb4 (i := 68) rfl, List.forall_mem_cons.mpr ⟨tb4 (i := 69) rfl, List.forall_mem_cons.mpr ⟨tb4 (i := 74) rfl, List.forall_mem_cons.mpr ⟨tb4 (i := 75) rfl, List.forall_mem_cons.mpr ⟨tb4 (i := 76) rfl, List.forall_mem_cons.mpr ⟨tb4 (i := 77) rfl, List.forall_mem_cons.mpr ⟨tb4 (i := 78) rfl, List.forall_mem_cons.mpr ⟨tb4 (i := 79) rfl, List.forall_mem_cons.mpr ⟨tb4 (i := 80) rfl, List.forall_mem_cons.mpr ⟨tb1 (i := 146) rfl, List.forall_mem_cons.mpr ⟨tb1 (i := 8) rfl, List.forall_mem_cons.mpr ⟨tb1 (i := 214) rfl, List.forall_mem_cons.mpr ⟨tb1 (i := 10) rfl, List.forall_mem_cons.mpr ⟨tb2 (i := 104) rfl, List.forall_mem_cons.mpr ⟨tb1 (i := 9) rfl, List.forall_mem_cons.mpr ⟨tb4 (i := 82) rfl, List.forall_mem_cons.mpr ⟨tb4 (i := 83) rfl, List.forall_mem_cons.mpr ⟨tb4 (i := 84) rfl, List.forall_mem_cons.mpr ⟨tb4 (i := 88) rfl, List.forall_mem_nil _⟩⟩⟩⟩⟩⟩⟩⟩⟩⟩⟩⟩⟩⟩⟩⟩⟩⟩⟩⟩⟩⟩⟩⟩
theorem GLi_r5 : ∀ w ∈ wsL_law0_r5, w ∈ lw_tbl := List.forall_mem_cons.mpr ⟨tb2 (i := 147) rfl, List.forall_mem_cons.mpr ⟨tb2 (i := 148) rfl, List.forall_mem_cons.mpr ⟨tb2 (i := 149) rfl, List.forall_mem_cons.mpr ⟨tb2 (i := 150) rfl, List.forall_mem_cons.mpr ⟨tb2 (i := 152) rfl, List.forall_mem_cons.mpr ⟨tb2 (i := 154) rfl, List.forall_mem_cons.mpr ⟨tb1 (i := 142) rfl, List.forall_mem_cons.mpr ⟨tb1 (i := 143) rfl, List.forall_mem_cons.mpr ⟨tb1 (i := 144) rfl, List.forall_mem_cons.mpr ⟨tb1 (i := 145) rfl, List.forall_mem_cons.mpr ⟨tb1 (i := 230) rfl, List.forall_mem_cons.mpr ⟨tb1 (i := 231) rfl, List.forall_mem_cons.mpr ⟨tb1 (i := 232) rfl, List.forall_mem_cons.mpr ⟨tb1 (i := 233) rfl, List.forall_mem_cons.mpr ⟨tb1 (i := 234) rfl, List.forall_mem_cons.mpr ⟨tb2 (i := 151) rfl, List.forall_mem_cons.mpr ⟨tb2 (i := 153) rfl, List.forall_mem_cons.mpr ⟨tb2 (i := 35) rfl, List.forall_mem_cons.mpr ⟨tb2 (i := 36) rfl, List.forall_mem_cons.mpr ⟨tb1 (i := 13) rfl, List.forall_mem_cons.mpr ⟨tb1 (i := 235) rfl, List.forall_mem_cons.mpr ⟨tb1 (i := 237) rfl, List.forall_mem_cons.mpr ⟨tbs (List.mem_of_getElem? (i := 1) rfl), List.forall_mem_cons.mpr ⟨tb1 (i := 238) rfl, List.forall_mem_nil _⟩⟩⟩⟩⟩⟩⟩⟩⟩⟩⟩⟩⟩⟩⟩⟩⟩⟩⟩⟩⟩⟩⟩⟩
theorem GLi_r6 : ∀ w ∈ wsL_law0_r6, w ∈ lw_tbl := List.forall_mem_cons.mpr ⟨tb1 (i := 239) rfl, List.forall_mem_cons.mpr ⟨tb1 (i := 12) rfl, List.forall_mem_cons.mpr ⟨tb2 (i := 15) rfl, List.forall_mem_cons.mpr ⟨tb2 (i := 17) rfl, List.forall_mem_cons.mpr ⟨tbs (List.mem_of_getElem? (i := 2) rfl), List.forall_mem_cons.mpr ⟨tb2 (i := 18) rfl, List.forall_mem_cons.mpr ⟨tb2 (i := 20) rfl, List.forall_mem_cons.mpr ⟨tb2 (i := 21) rfl, List.forall_mem_cons.mpr ⟨tb2 (i := 22) rfl, List.forall_mem_cons.mpr ⟨tb2 (i := 23) rfl, List.forall_mem_cons.mpr ⟨tb2 (i := 24) rfl, List.forall_mem_cons.mpr ⟨tb2 (i := 25) rfl, List.forall_mem_cons.mpr ⟨tb2 (i := 30) rfl, List.forall_mem_cons.mpr ⟨tb2 (i := 31) rfl, List.forall_mem_cons.mpr ⟨tb2 (i := 32) rfl, List.forall_mem_cons.mpr ⟨tb2 (i := 33) rfl, List.forall_mem_cons.mpr ⟨tb2 (i := 37) rfl, List.forall_mem_cons.mpr ⟨tb2 (i := 38) rfl, List.forall_mem_cons.mpr ⟨tb2 (i := 39) rfl, List.forall_mem_cons.mpr ⟨tb2 (i := 40) rfl, List.forall_mem_cons.mpr ⟨tb2 (i := 41) rfl, List.forall_mem_cons.mpr ⟨tb2 (i := 42) rfl, List.forall_mem_cons.mpr ⟨tb2 (i := 43) rfl, List.forall_mem_cons.mpr ⟨tb2 (i := 44) rfl, List.forall_mem_nil _⟩⟩⟩⟩⟩⟩⟩⟩⟩⟩⟩⟩⟩⟩⟩⟩⟩⟩⟩⟩⟩⟩⟩⟩
theorem GLi_r7 : ∀ w ∈ wsL_law0_r7, w ∈ lw_tbl := List.forall_mem_cons.mpr ⟨tb2 (i := 45) rfl, List.forall_mem_cons.mpr ⟨tb2 (i := 46) rfl, List.forall_mem_cons.mpr ⟨tb2 (i := 61) rfl, List.forall_mem_cons.mpr ⟨tb2 (i := 62) rfl, List.forall_mem_cons.mpr ⟨tb2 (i := 63) rfl, List.forall_mem_cons.mpr ⟨tb2 (i := 64) rfl, List.forall_mem_cons.mpr ⟨tb2 (i := 65) rfl, List.forall_mem_cons.mpr ⟨tb2 (i := 66) rfl, List.forall_mem_cons.mpr ⟨tb2 (i := 67) rfl, List.forall_mem_cons.mpr ⟨tb2 (i := 68) rfl, List.forall_mem_cons.mpr ⟨tb2 (i := 74) rfl, List.forall_mem_cons.mpr ⟨tb2 (i := 75) rfl, List.forall_mem_cons.mpr ⟨tb2 (i := 76) rfl, List.forall_mem_cons.mpr ⟨tb2 (i := 47) rfl, List.forall_mem_cons.mpr ⟨tb2 (i := 69) rfl, List.forall_mem_cons.mpr ⟨tb2 (i := 71) rfl, List.forall_mem_cons.mpr ⟨tbs (List.mem_of_getElem? (i := 3) rfl), List.forall_mem_cons.mpr ⟨tb2 (i := 72) rfl, List.forall_mem_cons.mpr ⟨tb2 (i := 73) rfl, List.forall_mem_cons.mpr ⟨tb2 (i := 77) rfl, List.forall_mem_cons.mpr ⟨tb2 (i := 79) rfl, List.forall_mem_cons.mpr ⟨tbs (List.mem_of_getElem? (i := 4) rfl), List.forall_mem_cons.mpr ⟨tb2 (i := 80) rfl, List.forall_mem_cons.mpr ⟨tb2 (i := 81) rfl, List.forall_mem_nil _⟩⟩⟩⟩⟩⟩⟩⟩⟩⟩⟩⟩⟩⟩⟩⟩⟩⟩⟩⟩⟩⟩⟩⟩
theorem GLi_r8 : ∀ w ∈ wsL_law0_r8, w ∈ lw_tbl := List.forall_mem_cons.mpr ⟨tb2 (i := 82) rfl, List.forall_mem_cons.mpr ⟨tb2 (i := 83) rfl, List.forall_mem_cons.mpr ⟨tb2 (i := 84) rfl, List.forall_mem_cons.mpr ⟨tb2 (i := 85) rfl, List.forall_mem_cons.mpr ⟨tb2 (i := 86) rfl, List.forall_mem_cons.mpr ⟨tb1 (i := 14) rfl, List.forall_mem_cons.mpr ⟨tb2 (i := 87) rfl, List.forall_mem_cons.mpr ⟨tb2 (i := 88) rfl, List.forall_mem_cons.mpr ⟨tb2 (i := 89) rfl, List.forall_mem_cons.mpr ⟨tb2 (i := 90) rfl, List.forall_mem_cons.mpr ⟨tb2 (i := 91) rfl, List.forall_mem_cons.mpr ⟨tb2 (i := 92) rfl, List.forall_mem_cons.mpr ⟨tb2 (i := 93) rfl, List.forall_mem_cons.mpr ⟨tb2 (i := 94) rfl, List.forall_mem_cons.mpr ⟨tb2 (i := 95) rfl, List.forall_mem_cons.mpr ⟨tb2 (i := 96) rfl, List.forall_mem_cons.mpr ⟨tb2 (i := 97) rfl, List.forall_mem_cons.mpr ⟨tb2 (i := 98) rfl, List.forall_mem_cons.mpr ⟨tb2 (i := 99) rfl, List.forall_mem_cons.mpr ⟨tb2 (i := 100) rfl, List.forall_mem_cons.mpr ⟨tb2 (i := 101) rfl, List.forall_mem_cons.mpr ⟨tb2 (i := 103) rfl, List.forall_mem_cons.mpr ⟨tbs (List.mem_of_getElem? (i := 5) rfl), List.forall_mem_cons.mpr ⟨tb2 (i := 105) rfl, List.forall_mem_nil _⟩⟩⟩⟩⟩⟩⟩⟩⟩⟩⟩⟩⟩⟩⟩⟩⟩⟩⟩⟩⟩⟩⟩⟩
theorem GLi_r9 : ∀ w ∈ wsL_law0_r9, w ∈ lw_tbl := List.forall_mem_cons.mpr ⟨tb2 (i := 106) rfl, List.forall_mem_cons.mpr ⟨tb2 (i := 107) rfl, List.forall_mem_cons.mpr ⟨tb1 (i := 11) rfl, List.forall_mem_cons.mpr ⟨tb2 (i := 108) rfl, List.forall_mem_cons.mpr ⟨tb2 (i := 109) rfl, List.forall_mem_cons.mpr ⟨tb2 (i := 111) rfl, List.forall_mem_cons.mpr ⟨tbs (List.mem_of_getElem? (i := 6) rfl), List.forall_mem_cons.mpr ⟨tb2 (i := 112) rfl, List.forall_mem_cons.mpr ⟨tb2 (i := 113) rfl, List.forall_mem_cons.mpr ⟨tb2 (i := 114) rfl, List.forall_mem_cons.mpr ⟨tb2 (i := 115) rfl, List.forall_mem_cons.mpr ⟨tb2 (i := 116) rfl, List.forall_mem_cons.mpr ⟨tb2 (i := 117) rfl, List.forall_mem_cons.mpr ⟨tb2 (i := 118) rfl, List.forall_mem_cons.mpr ⟨tb2 (i := 119) rfl, List.forall_mem_cons.mpr ⟨tb2 (i := 120) rfl, List.forall_mem_cons.mpr ⟨tb2 (i := 121) rfl, List.forall_mem_cons.mpr ⟨tb2 (i := 122) rfl, List.forall_mem_cons.mpr ⟨tb2 (i := 126) rfl, List.forall_mem_cons.mpr ⟨tb1 (i := 15) rfl, List.forall_mem_cons.mpr ⟨tb2 (i := 127) rfl, List.forall_mem_cons.mpr ⟨tb2 (i := 128) rfl, List.forall_mem_cons.mpr ⟨tb2 (i := 129) rfl, List.forall_mem_cons.mpr ⟨tb2 (i := 130) rfl, List.forall_mem_nil _⟩⟩⟩⟩⟩⟩⟩⟩⟩⟩⟩⟩⟩⟩⟩⟩⟩⟩⟩⟩⟩⟩⟩⟩
theorem GLi_r10 : ∀ w ∈ wsL_law0_r10, w ∈ lw_tbl := List.forall_mem_cons.mpr ⟨tb2 (i := 162) rfl, List.forall_mem_cons.mpr ⟨tb2 (i := 163) rfl, List.forall_mem_cons.mpr ⟨tb2 (i := 165) rfl, List.forall_mem_cons.mpr ⟨tb2 (i := 166) rfl, List.forall_mem_cons.mpr ⟨tb2 (i := 167) rfl, List.forall_mem_cons.mpr ⟨tb2 (i := 164) rfl, List.forall_mem_cons.mpr ⟨tb2 (i := 131) rfl, List.forall_mem_cons.mpr ⟨tb2 (i := 132) rfl, List.forall_mem_cons.mpr ⟨tb2 (i := 168) rfl, List.forall_mem_cons.mpr ⟨tb2 (i := 141) rfl, List.forall_mem_cons.mpr ⟨tb2 (i := 169) rfl, List.forall_mem_cons.mpr ⟨tb2 (i := 170) rfl, List.forall_mem_cons.mpr ⟨tb2 (i := 172) rfl, List.forall_mem_cons.mpr ⟨tb2 (i := 174) rfl, List.forall_mem_cons.mpr ⟨tb2 (i := 175) rfl, List.forall_mem_cons.mpr ⟨tb2 (i := 177) rfl, List.forall_mem_cons.mpr ⟨tb2 (i := 178) rfl, List.forall_mem_cons.mpr ⟨tb2 (i := 179) rfl, List.forall_mem_cons.mpr ⟨tb2 (i := 180) rfl, List.forall_mem_cons.mpr ⟨tb2 (i := 181) rfl, List.forall_mem_cons.mpr ⟨tb2 (i := 183) rfl, List.forall_mem_cons.mpr ⟨tb2 (i := 135) rfl, List.forall_mem_cons.mpr ⟨tb2 (i := 136) rfl, List.forall_mem_cons.mpr ⟨tb2 (i := 137) rfl, List.forall_mem_nil _⟩⟩⟩⟩⟩⟩⟩⟩⟩⟩⟩⟩⟩⟩⟩⟩⟩⟩⟩⟩⟩⟩⟩⟩
theorem GLi_r11 : ∀ w ∈ wsL_law0_r11, w ∈ lw_tbl := List.forall_mem_cons.mpr ⟨tb2 (i := 138) rfl, List.forall_mem_cons.mpr ⟨tb2 (i := 139) rfl, List.forall_mem_cons.mpr ⟨tb2 (i := 140) rfl, List.forall_mem_cons.mpr ⟨tb2 (i := 142) rfl, List.forall_mem_cons.mpr ⟨tb2 (i := 143) rfl, List.forall_mem_cons.mpr ⟨tb2 (i := 144) rfl, List.forall_mem_cons.mpr ⟨tb2 (i := 145) rfl, List.forall_mem_cons.mpr ⟨tb2 (i := 146) rfl, List.forall_mem_cons.mpr ⟨tb2 (i := 221) rfl, List.forall_mem_cons.mpr ⟨tb2 (i := 222) rfl, List.forall_mem_cons.mpr ⟨tb2 (i := 223) rfl, List.forall_mem_cons.mpr ⟨tb2 (i := 224) rfl, List.forall_mem_cons.mpr ⟨tb2 (i := 225) rfl, List.forall_mem_cons.mpr ⟨tb2 (i := 227) rfl, List.forall_mem_cons.mpr ⟨tbs (List.mem_of_getElem? (i := 7) rfl), List.forall_mem_cons.mpr ⟨tb2 (i := 228) rfl, List.forall_mem_cons.mpr ⟨tb2 (i := 229) rfl, List.forall_mem_cons.mpr ⟨tb2 (i := 231) rfl, List.forall_mem_cons.mpr ⟨tbs (List.mem_of_getElem? (i := 8) rfl), List.forall_mem_cons.mpr ⟨tb2 (i := 232) rfl, List.forall_mem_cons.mpr ⟨tb2 (i := 233) rfl, List.forall_mem_cons.mpr ⟨tb2 (i := 234) rfl, List.forall_mem_cons.mpr ⟨tb2 (i := 235) rfl, List.forall_mem_cons.mpr ⟨tb2 (i := 236) rfl, List.forall_mem_nil _⟩⟩⟩⟩⟩⟩⟩⟩⟩⟩⟩⟩⟩⟩⟩⟩⟩⟩⟩⟩⟩⟩⟩⟩
theorem GLi_r12 : ∀ w ∈ wsL_law0_r12, w ∈ lw_tbl := List.forall_mem_cons.mpr ⟨tb2 (i := 237) rfl, List.forall_mem_cons.mpr ⟨tb2 (i := 238) rfl, List.forall_mem_cons.mpr ⟨tb2 (i := 239) rfl, List.forall_mem_cons.mpr ⟨tb3 (i := 0) rfl, List.forall_mem_cons.mpr ⟨tb3 (i := 1) rfl, List.forall_mem_cons.mpr ⟨tb3 (i := 2) rfl, List.forall_mem_cons.mpr ⟨tb3 (i := 3) rfl, List.forall_mem_cons.mpr ⟨tb3 (i := 4) rfl, List.forall_mem_cons.mpr ⟨tb3 (i := 5) rfl, List.forall_mem_cons.mpr ⟨tb3 (i := 7) rfl, List.forall_mem_cons.mpr ⟨tbs (List.mem_of_getElem? (i := 9) rfl), List.forall_mem_cons.mpr ⟨tb3 (i := 8) rfl, List.forall_mem_cons.mpr ⟨tb3 (i := 9) rfl, List.forall_mem_cons.mpr ⟨tb3 (i := 11) rfl, List.forall_mem_cons.mpr ⟨tbs (List.mem_of_getElem? (i := 10) rfl), List.forall_mem_cons.mpr ⟨tb3 (i := 12) rfl, List.forall_mem_cons.mpr ⟨tb3 (i := 13) rfl, List.forall_mem_cons.mpr ⟨tb3 (i := 14) rfl, List.forall_mem_cons.mpr ⟨tb3 (i := 15) rfl, List.forall_mem_cons.mpr ⟨tb3 (i := 16) rfl, List.forall_mem_cons.mpr ⟨tb3 (i := 17) rfl, List.forall_mem_cons.mpr ⟨tb3 (i := 18) rfl, List.forall_mem_cons.mpr ⟨tb3 (i := 19) rfl, List.forall_mem_cons.mpr ⟨tb3 (i := 20) rfl, List.forall_mem_nil _⟩⟩⟩⟩⟩⟩⟩⟩⟩⟩⟩⟩⟩⟩⟩⟩⟩⟩⟩⟩⟩⟩⟩⟩
theorem GLi_r13 : ∀ w ∈ wsL_law0_r13, w ∈ lw_tbl := List.forall_mem_cons.mpr ⟨tb3 (i := 21) rfl, List.forall_mem_cons.mpr ⟨tb3 (i := 22) rfl, List.forall_mem_cons.mpr ⟨tb3 (i := 23) rfl, List.forall_mem_cons.mpr ⟨tb3 (i := 24) rfl, List.forall_mem_cons.mpr ⟨tb3 (i := 25) rfl, List.forall_mem_cons.mpr ⟨tb3 (i := 26) rfl, List.forall_mem_cons.mpr ⟨tb3 (i := 27) rfl, List.forall_mem_cons.mpr ⟨tb3 (i := 28) rfl, List.forall_mem_cons.mpr ⟨tb3 (i := 29) rfl, List.forall_mem_cons.mpr ⟨tb3 (i := 30) rfl, List.forall_mem_cons.mpr ⟨tb3 (i := 31) rfl, List.forall_mem_cons.mpr ⟨tb3 (i := 32) rfl, List.forall_mem_cons.mpr ⟨tb3 (i := 34) rfl, List.forall_mem_cons.mpr ⟨tbs (List.mem_of_getElem? (i := 11) rfl), List.forall_mem_cons.mpr ⟨tb3 (i := 35) rfl, List.forall_mem_cons.mpr ⟨tb3 (i := 36) rfl, List.forall_mem_cons.mpr ⟨tb3 (i := 38) rfl, List.forall_mem_cons.mpr ⟨tbs (List.mem_of_getElem? (i := 12) rfl), List.forall_mem_cons.mpr ⟨tb3 (i := 39) rfl, List.forall_mem_cons.mpr ⟨tb3 (i := 40) rfl, List.forall_mem_cons.mpr ⟨tb3 (i := 41) rfl, List.forall_mem_cons.mpr ⟨tb3 (i := 42) rfl, List.forall_mem_cons.mpr ⟨tb3 (i := 43) rfl, List.forall_mem_cons.mpr ⟨tb3 (i := 44) rfl, List.forall_mem_nil _⟩⟩⟩⟩⟩⟩⟩⟩⟩⟩⟩⟩⟩⟩⟩⟩⟩⟩⟩⟩⟩⟩⟩⟩
theorem GLi_r14 : ∀ w ∈ wsL_law0_r14, w ∈ lw_tbl := List.forall_mem_cons.mpr ⟨tb3 (i := 45) rfl, List.forall_mem_cons.mpr ⟨tb3 (i := 46) rfl, List.forall_mem_cons.mpr ⟨tb3 (i := 47) rfl, List.forall_mem_cons.mpr ⟨tb3 (i := 49) rfl, List.forall_mem_cons.mpr ⟨tbs (List.mem_of_getElem? (i := 13) rfl), List.forall_mem_cons.mpr ⟨tb3 (i := 50) rfl, List.forall_mem_cons.mpr ⟨tb3 (i := 51) rfl, List.forall_mem_cons.mpr ⟨tb3 (i := 52) rfl, List.forall_mem_cons.mpr ⟨tb3 (i := 53) rfl, List.forall_mem_cons.mpr ⟨tb3 (i := 54) rfl, List.forall_mem_cons.mpr ⟨tb3 (i := 55) rfl, List.forall_mem_cons.mpr ⟨tb3 (i := 56) rfl, List.forall_mem_cons.mpr ⟨tb3 (i := 57) rfl, List.forall_mem_cons.mpr ⟨tb3 (i := 58) rfl, List.forall_mem_cons.mpr ⟨tb2 (i := 173) rfl, List.forall_mem_cons.mpr ⟨tb2 (i := 171) rfl, List.forall_mem_cons.mpr ⟨tb3 (i := 59) rfl, List.forall_mem_cons.mpr ⟨tb3 (i := 61) rfl, List.forall_mem_cons.mpr ⟨tbs (List.mem_of_getElem? (i := 14) rfl), List.forall_mem_cons.mpr ⟨tb3 (i := 62) rfl, List.forall_mem_cons.mpr ⟨tb3 (i := 65) rfl, List.forall_mem_cons.mpr ⟨tb3 (i := 66) rfl, List.forall_mem_cons.mpr ⟨tb3 (i := 67) rfl, List.forall_mem_cons.mpr ⟨tb3 (i := 68) rfl, List.forall_mem_nil _⟩⟩⟩⟩⟩⟩⟩⟩⟩⟩⟩⟩⟩⟩⟩⟩⟩⟩⟩⟩⟩⟩⟩⟩
theorem GLi_r15 : ∀ w ∈ wsL_law0_r15, w ∈ lw_tbl := List.forall_mem_cons.mpr ⟨tb2 (i := 176) rfl, List.forall_mem_cons.mpr ⟨tb3 (i := 91) rfl, List.forall_mem_cons.mpr ⟨tb3 (i := 92) rfl, List.forall_mem_cons.mpr ⟨tb3 (i := 93) rfl, List.forall_mem_cons.mpr ⟨tb3 (i := 94) rfl, List.forall_mem_cons.mpr ⟨tb1 (i := 98) rfl, List.forall_mem_cons.mpr ⟨tb1 (i := 96) rfl, List.forall_mem_cons.mpr ⟨tb3 (i := 97) rfl, List.forall_mem_cons.mpr ⟨tb3 (i := 98) rfl, List.forall_mem_cons.mpr ⟨tb1 (i := 16) rfl, List.forall_mem_cons.mpr ⟨tb3 (i := 99) rfl, List.forall_mem_cons.mpr ⟨tb3 (i := 100) rfl, List.forall_mem_cons.mpr ⟨tb3 (i := 101) rfl, List.forall_mem_cons.mpr ⟨tb3 (i := 102) rfl, List.forall_mem_cons.mpr ⟨tb3 (i := 103) rfl, List.forall_mem_cons.mpr ⟨tb3 (i := 105) rfl, List.forall_mem_cons.mpr ⟨tb3 (i := 107) rfl, List.forall_mem_cons.mpr ⟨tb3 (i := 109) rfl, List.forall_mem_cons.mpr ⟨tb3 (i := 86) rfl, List.forall_mem_cons.mpr ⟨tb3 (i := 87) rfl, List.forall_mem_cons.mpr ⟨tb3 (i := 88) rfl, List.forall_mem_cons.mpr ⟨tb3 (i := 89) rfl, List.forall_mem_cons.mpr ⟨tb1 (i := 92) rfl, List.forall_mem_cons.mpr ⟨tb3 (i := 120) rfl, List.forall_mem_nil _⟩⟩⟩⟩⟩⟩⟩⟩⟩⟩⟩⟩⟩⟩⟩⟩⟩⟩⟩⟩⟩⟩⟩⟩
theorem GLi_r16 : ∀ w ∈ wsL_law0_r16, w ∈ lw_tbl := List.forall_mem_cons.mpr ⟨tb3 (i := 121) rfl, List.forall_mem_cons.mpr ⟨tb3 (i := 122) rfl, List.forall_mem_cons.mpr ⟨tb3 (i := 123) rfl, List.forall_mem_cons.mpr ⟨tb3 (i := 124) rfl, List.forall_mem_cons.mpr ⟨tb3 (i := 125) rfl, List.forall_mem_cons.mpr ⟨tb3 (i := 127) rfl, List.forall_mem_cons.mpr ⟨tbs (List.mem_of_getElem? (i := 15) rfl), List.forall_mem_cons.mpr ⟨tb3 (i := 128) rfl, List.forall_mem_cons.mpr ⟨tb3 (i := 139) rfl, List.forall_mem_cons.mpr ⟨tb3 (i := 129) rfl, List.forall_mem_cons.mpr ⟨tb3 (i := 130) rfl, List.forall_mem_cons.mpr ⟨tb3 (i := 131) rfl, List.forall_mem_cons.mpr ⟨tb3 (i := 132) rfl, List.forall_mem_cons.mpr ⟨tb3 (i := 133) rfl, List.forall_mem_cons.mpr ⟨tb3 (i := 134) rfl, List.forall_mem_cons.mpr ⟨tb3 (i := 135) rfl, List.forall_mem_cons.mpr ⟨tb3 (i := 136) rfl, List.forall_mem_cons.mpr ⟨tb3 (i := 137) rfl, List.forall_mem_cons.mpr ⟨tb3 (i := 138) rfl, List.forall_mem_cons.mpr ⟨tb3 (i := 140) rfl, List.forall_mem_cons.mpr ⟨tb3 (i := 141) rfl, List.forall_mem_cons.mpr ⟨tb3 (i := 142) rfl, List.forall_mem_cons.mpr ⟨tb3 (i := 143) rfl, List.forall_mem_cons.mpr ⟨tb3 (i := 144) rfl, List.forall_mem_nil _⟩⟩⟩⟩⟩⟩⟩⟩⟩⟩⟩⟩⟩⟩⟩⟩⟩⟩⟩⟩⟩⟩⟩⟩
theorem GLi_r17 : ∀ w ∈ wsL_law0_r17, w ∈ lw_tbl := List.forall_mem_cons.mpr ⟨tb3 (i := 145) rfl, List.forall_mem_cons.mpr ⟨tb3 (i := 147) rfl, List.forall_mem_cons.mpr ⟨tbs (List.mem_of_getElem? (i := 16) rfl), List.forall_mem_cons.mpr ⟨tb3 (i := 148) rfl, List.forall_mem_cons.mpr ⟨tb3 (i := 149) rfl, List.forall_mem_cons.mpr ⟨tb3 (i := 150) rfl, List.forall_mem_cons.mpr ⟨tb3 (i := 151) rfl, List.forall_mem_cons.mpr ⟨tb3 (i := 152) rfl, List.forall_mem_cons.mpr ⟨tb3 (i := 153) rfl, List.forall_mem_cons.mpr ⟨tb3 (i := 154) rfl, List.forall_mem_cons.mpr ⟨tb3 (i := 155) rfl, List.forall_mem_cons.mpr ⟨tb3 (i := 156) rfl, List.forall_mem_cons.mpr ⟨tb3 (i := 157) rfl, List.forall_mem_cons.mpr ⟨tb3 (i := 158) rfl, List.forall_mem_cons.mpr ⟨tb3 (i := 159) rfl, List.forall_mem_cons.mpr ⟨tb3 (i := 160) rfl, List.forall_mem_cons.mpr ⟨tb3 (i := 161) rfl, List.forall_mem_cons.mpr ⟨tb3 (i := 162) rfl, List.forall_mem_cons.mpr ⟨tb3 (i := 163) rfl, List.forall_mem_cons.mpr ⟨tb3 (i := 165) rfl, List.forall_mem_cons.mpr ⟨tbs (List.mem_of_getElem? (i := 17) rfl), List.forall_mem_cons.mpr ⟨tb3 (i := 166) rfl, List.forall_mem_cons.mpr ⟨tb3 (i := 167) rfl, List.forall_mem_cons.mpr ⟨tb3 (i := 168) rfl, List.forall_mem_nil _⟩⟩⟩⟩⟩⟩⟩⟩⟩⟩⟩⟩⟩⟩⟩⟩⟩⟩⟩⟩⟩⟩⟩⟩
theorem GLi_r18 : ∀ w ∈ wsL_law0_r18, w ∈ lw_tbl := List.forall_mem_cons.mpr ⟨tb3 (i := 169) rfl, List.forall_mem_cons.mpr ⟨tb3 (i := 170) rfl, List.forall_mem_cons.mpr ⟨tb3 (i := 171) rfl, List.forall_mem_cons.mpr ⟨tb3 (i := 172) rfl, List.forall_mem_cons.mpr ⟨tb3 (i := 173) rfl, List.forall_mem_cons.mpr ⟨tb3 (i := 174) rfl, List.forall_mem_cons.mpr ⟨tb3 (i := 175) rfl, List.forall_mem_cons.mpr ⟨tb3 (i := 176) rfl, List.forall_mem_cons.mpr ⟨tb3 (i := 177) rfl, List.forall_mem_cons.mpr ⟨tb3 (i := 178) rfl, List.forall_mem_cons.mpr ⟨tb3 (i := 179) rfl, List.forall_mem_cons.mpr ⟨tb3 (i := 180) rfl, List.forall_mem_cons.mpr ⟨tb3 (i := 182) rfl, List.forall_mem_cons.mpr ⟨tbs (List.mem_of_getElem? (i := 18) rfl), List.forall_mem_cons.mpr ⟨tb3 (i := 183) rfl, List.forall_mem_cons.mpr ⟨tb3 (i := 184) rfl, List.forall_mem_cons.mpr ⟨tb3 (i := 186) rfl, List.forall_mem_cons.mpr ⟨tbs (List.mem_of_getElem? (i := 19) rfl), List.forall_mem_cons.mpr ⟨tb3 (i := 187) rfl, List.forall_mem_cons.mpr ⟨tb3 (i := 188) rfl, List.forall_mem_cons.mpr ⟨tb3 (i := 189) rfl, List.forall_mem_cons.mpr ⟨tb3 (i := 191) rfl, List.forall_mem_cons.mpr ⟨tbs (List.mem_of_getElem? (i := 20) rfl), List.forall_mem_cons.mpr ⟨tb3 (i := 192) rfl, List.forall_mem_nil _⟩⟩⟩⟩⟩⟩⟩⟩⟩⟩⟩⟩⟩⟩⟩⟩⟩⟩⟩⟩⟩⟩⟩⟩
theorem GLi_r19 : ∀ w ∈ wsL_law0_r19, w ∈ lw_tbl := List.forall_mem_cons.mpr ⟨tb3 (i := 193) rfl, List.forall_mem_cons.mpr ⟨tb3 (i := 194) rfl, List.forall_mem_cons.mpr ⟨tb3 (i := 195) rfl, List.forall_mem_cons.mpr ⟨tb3 (i := 196) rfl, List.forall_mem_cons.mpr ⟨tb3 (i := 197) rfl, List.forall_mem_cons.mpr ⟨tb3 (i := 198) rfl, List.forall_mem_cons.mpr ⟨tb3 (i := 199) rfl, List.forall_mem_cons.mpr ⟨tb3 (i := 200) rfl, List.forall_mem_cons.mpr ⟨tb3 (i := 201) rfl, List.forall_mem_cons.mpr ⟨tb3 (i := 203) rfl, List.forall_mem_cons.mpr ⟨tbs (List.mem_of_getElem? (i := 21) rfl), List.forall_mem_cons.mpr ⟨tb3 (i := 204) rfl, List.forall_mem_cons.mpr ⟨tb3 (i := 205) rfl, List.forall_mem_cons.mpr ⟨tb3 (i := 206) rfl, List.forall_mem_cons.mpr ⟨tb3 (i := 207) rfl, List.forall_mem_cons.mpr ⟨tb3 (i := 208) rfl, List.forall_mem_cons.mpr ⟨tb3 (i := 209) rfl, List.forall_mem_cons.mpr ⟨tb3 (i := 211) rfl, List.forall_mem_cons.mpr ⟨tbs (List.mem_of_getElem? (i := 22) rfl), List.forall_mem_cons.mpr ⟨tb3 (i := 212) rfl, List.forall_mem_cons.mpr ⟨tb2 (i := 182) rfl, List.forall_mem_cons.mpr ⟨tb3 (i := 213) rfl, List.forall_mem_cons.mpr ⟨tb3 (i := 214) rfl, List.forall_mem_cons.mpr ⟨tb3 (i := 215) rfl, List.forall_mem_nil _⟩⟩⟩⟩⟩⟩⟩⟩⟩⟩⟩⟩⟩⟩⟩⟩⟩⟩⟩⟩⟩⟩⟩⟩
theorem GLi_r20 : ∀ w ∈ wsL_law0_r20, w ∈ lw_tbl := List.forall_mem_cons.mpr ⟨tb3 (i := 216) rfl, List.forall_mem_cons.mpr ⟨tb3 (i := 217) rfl, List.forall_mem_cons.mpr ⟨tb3 (i := 82) rfl, List.forall_mem_cons.mpr ⟨tb3 (i := 83) rfl, List.forall_mem_cons.mpr ⟨tb3 (i := 84) rfl, List.forall_mem_cons.mpr ⟨tb3 (i := 85) rfl, List.forall_mem_cons.mpr ⟨tb3 (i := 218) rfl, List.forall_mem_cons.mpr ⟨tb3 (i := 220) rfl, List.forall_mem_cons.mpr ⟨tbs (List.mem_of_getElem? (i := 23) rfl), List.forall_mem_cons.mpr ⟨tb3 (i := 221) rfl, List.forall_mem_cons.mpr ⟨tb3 (i := 222) rfl, List.forall_mem_cons.mpr ⟨tb3 (i := 223) rfl, List.forall_mem_cons.mpr ⟨tb3 (i := 224) rfl, List.forall_mem_cons.mpr ⟨tb3 (i := 225) rfl, List.forall_mem_cons.mpr ⟨tb3 (i := 226) rfl, List.forall_mem_cons.mpr ⟨tb3 (i := 227) rfl, List.forall_mem_cons.mpr ⟨tb3 (i := 78) rfl, List.forall_mem_cons.mpr ⟨tb3 (i := 79) rfl, List.forall_mem_cons.mpr ⟨tb3 (i := 80) rfl, List.forall_mem_cons.mpr ⟨tb3 (i := 81) rfl, List.forall_mem_cons.mpr ⟨tb3 (i := 228) rfl, List.forall_mem_cons.mpr ⟨tb3 (i := 230) rfl, List.forall_mem_cons.mpr ⟨tbs (List.mem_of_getElem? (i := 24) rfl), List.forall_mem_cons.mpr ⟨tb3 (i := 231) rfl, List.forall_mem_nil _⟩⟩⟩⟩⟩⟩⟩⟩⟩⟩⟩⟩⟩⟩⟩⟩⟩⟩⟩⟩⟩⟩⟩⟩
theorem GLi_r21 : ∀ w ∈ wsL_law0_r21, w ∈ lw_tbl := List.forall_mem_cons.mpr ⟨tb3 (i := 232) rfl, List.forall_mem_cons.mpr ⟨tb3 (i := 233) rfl, List.forall_mem_cons.mpr ⟨tb4 (i := 42) rfl, List.forall_mem_cons.mpr ⟨tb3 (i := 234) rfl, List.forall_mem_cons.mpr ⟨tb3 (i := 235) rfl, List.forall_mem_cons.mpr ⟨tb3 (i := 236) rfl, List.forall_mem_cons.mpr ⟨tb3 (i := 237) rfl, List.forall_mem_cons.mpr ⟨tb3 (i := 238) rfl, List.forall_mem_cons.mpr ⟨tb3 (i := 239) rfl, List.forall_mem_cons.mpr ⟨tb4 (i := 0) rfl, List.forall_mem_cons.mpr ⟨tb3 (i := 104) rfl, List.forall_mem_cons.mpr ⟨tb3 (i := 106) rfl, List.forall_mem_cons.mpr ⟨tb4 (i := 1) rfl, List.forall_mem_cons.mpr ⟨tb4 (i := 2) rfl, List.forall_mem_cons.mpr ⟨tb4 (i := 3) rfl, List.forall_mem_cons.mpr ⟨tb4 (i := 4) rfl, List.forall_mem_cons.mpr ⟨tb4 (i := 5) rfl, List.forall_mem_cons.mpr ⟨tb4 (i := 6) rfl, List.forall_mem_cons.mpr ⟨tb4 (i := 8) rfl, List.forall_mem_cons.mpr ⟨tbs (List.mem_of_getElem? (i := 25) rfl), List.forall_mem_cons.mpr ⟨tb4 (i := 9) rfl, List.forall_mem_cons.mpr ⟨tb3 (i := 108) rfl, List.forall_mem_cons.mpr ⟨tb3 (i := 110) rfl, List.forall_mem_cons.mpr ⟨tb4 (i := 10) rfl, List.forall_mem_nil _⟩⟩⟩⟩⟩⟩⟩⟩⟩⟩⟩⟩⟩⟩⟩⟩⟩⟩⟩⟩⟩⟩⟩⟩
theorem GLi_r22 : ∀ w ∈ wsL_law0_r22, w ∈ lw_tbl := List.forall_mem_cons.mpr ⟨tb4 (i := 11) rfl, List.forall_mem_cons.mpr ⟨tb4 (i := 13) rfl, List.forall_mem_cons.mpr ⟨tbs (List.mem_of_getElem? (i := 26) rfl), List.forall_mem_cons.mpr ⟨tb4 (i := 14) rfl, List.forall_mem_cons.mpr ⟨tb4 (i := 15) rfl, List.forall_mem_cons.mpr ⟨tb4 (i := 17) rfl, List.forall_mem_cons.mpr ⟨tbs (List.mem_of_getElem? (i := 27) rfl), List.forall_mem_cons.mpr ⟨tb4 (i := 18) rfl, List.forall_mem_cons.mpr ⟨tb4 (i := 19) rfl, List.forall_mem_cons.mpr ⟨tb4 (i := 20) rfl, List.forall_mem_cons.mpr ⟨tb4 (i := 21) rfl, List.forall_mem_cons.mpr ⟨tb4 (i := 22) rfl, List.forall_mem_cons.mpr ⟨tb4 (i := 23) rfl, List.forall_mem_cons.mpr ⟨tb4 (i := 24) rfl, List.forall_mem_cons.mpr ⟨tb4 (i := 25) rfl, List.forall_mem_cons.mpr ⟨tb4 (i := 26) rfl, List.forall_mem_cons.mpr ⟨tb4 (i := 27) rfl, List.forall_mem_cons.mpr ⟨tb4 (i := 28) rfl, List.forall_mem_cons.mpr ⟨tb4 (i := 29) rfl, List.forall_mem_cons.mpr ⟨tb4 (i := 30) rfl, List.forall_mem_cons.mpr ⟨tb4 (i := 31) rfl, List.forall_mem_cons.mpr ⟨tb4 (i := 32) rfl, List.forall_mem_cons.mpr ⟨tb4 (i := 33) rfl, List.forall_mem_cons.mpr ⟨tb4 (i := 34) rfl, List.forall_mem_nil _⟩⟩⟩⟩⟩⟩⟩⟩⟩⟩⟩⟩⟩⟩⟩⟩⟩⟩⟩⟩⟩⟩⟩⟩
theorem GLi_r23 : ∀ w ∈ wsL_law0_r23, w ∈ lw_tbl := List.forall_mem_cons.mpr ⟨tb4 (i := 35) rfl, List.forall_mem_cons.mpr ⟨tb4 (i := 36) rfl, List.forall_mem_cons.mpr ⟨tb4 (i := 37) rfl, List.forall_mem_cons.mpr ⟨tb4 (i := 38) rfl, List.forall_mem_cons.mpr ⟨tb4 (i := 39) rfl, List.forall_mem_cons.mpr ⟨tb4 (i := 40) rfl, List.forall_mem_cons.mpr ⟨tb4 (i := 41) rfl, List.forall_mem_cons.mpr ⟨tb4 (i := 43) rfl, List.forall_mem_cons.mpr ⟨tb4 (i := 44) rfl, List.forall_mem_cons.mpr ⟨tb4 (i := 45) rfl, List.forall_mem_cons.mpr ⟨tb4 (i := 46) rfl, List.forall_mem_cons.mpr ⟨tb1 (i := 63) rfl, List.forall_mem_cons.mpr ⟨tb4 (i := 47) rfl, List.forall_mem_cons.mpr ⟨tb4 (i := 48) rfl, List.forall_mem_cons.mpr ⟨tb4 (i := 49) rfl, List.forall_mem_cons.mpr ⟨tb4 (i := 50) rfl, List.forall_mem_cons.mpr ⟨tb4 (i := 51) rfl, List.forall_mem_cons.mpr ⟨tb4 (i := 52) rfl, List.forall_mem_cons.mpr ⟨tb4 (i := 53) rfl, List.forall_mem_cons.mpr ⟨tb4 (i := 54) rfl, List.forall_mem_cons.mpr ⟨tb4 (i := 55) rfl, List.forall_mem_cons.mpr ⟨tb4 (i := 56) rfl, List.forall_mem_cons.mpr ⟨tb4 (i := 57) rfl, List.forall_mem_cons.mpr ⟨tb4 (i := 59) rfl, List.forall_mem_nil _⟩⟩⟩⟩⟩⟩⟩⟩⟩⟩⟩⟩⟩⟩⟩⟩⟩⟩⟩⟩⟩⟩⟩⟩
theorem GLi_r24 : ∀ w ∈ wsL_law0_r24, w ∈ lw_tbl := List.forall_mem_cons.mpr ⟨tbs (List.mem_of_getElem? (i := 28) rfl), List.forall_mem_cons.mpr ⟨tb4 (i := 60) rfl, List.forall_mem_cons.mpr ⟨tb4 (i := 61) rfl, List.forall_mem_cons.mpr ⟨tb4 (i := 62) rfl, List.forall_mem_cons.mpr ⟨tb4 (i := 63) rfl, List.forall_mem_cons.mpr ⟨tb4 (i := 64) rfl, List.forall_mem_cons.mpr ⟨tb4 (i := 65) rfl, List.forall_mem_cons.mpr ⟨tb4 (i := 89) rfl, List.forall_mem_cons.mpr ⟨tb4 (i := 90) rfl, List.forall_mem_cons.mpr ⟨tb4 (i := 91) rfl, List.forall_mem_cons.mpr ⟨tb4 (i := 116) rfl, List.forall_mem_cons.mpr ⟨tb4 (i := 92) rfl, List.forall_mem_cons.mpr ⟨tb4 (i := 93) rfl, List.forall_mem_cons.mpr ⟨tb4 (i := 94) rfl, List.forall_mem_cons.mpr ⟨tb4 (i := 95) rfl, List.forall_mem_cons.mpr ⟨tb4 (i := 96) rfl, List.forall_mem_cons.mpr ⟨tb4 (i := 97) rfl, List.forall_mem_cons.mpr ⟨tb4 (i := 98) rfl, List.forall_mem_cons.mpr ⟨tb4 (i := 100) rfl, List.forall_mem_cons.mpr ⟨tb4 (i := 101) rfl, List.forall_mem_cons.mpr ⟨tb4 (i := 102) rfl, List.forall_mem_cons.mpr ⟨tb4 (i := 103) rfl, List.forall_mem_cons.mpr ⟨tb4 (i := 104) rfl, List.forall_mem_cons.mpr ⟨tb4 (i := 105) rfl, List.forall_mem_nil _⟩⟩⟩⟩⟩⟩⟩⟩⟩⟩⟩⟩⟩⟩⟩⟩⟩⟩⟩⟩⟩⟩⟩⟩
theorem GLi_r25 : ∀ w ∈ wsL_law0_r25, w ∈ lw_tbl := List.forall_mem_cons.mpr ⟨tb4 (i := 106) rfl, List.forall_mem_cons.mpr ⟨tb4 (i := 107) rfl, List.forall_mem_cons.mpr ⟨tb4 (i := 108) rfl, List.forall_mem_cons.mpr ⟨tb4 (i := 109) rfl, List.forall_mem_cons.mpr ⟨tb4 (i := 110) rfl, List.forall_mem_cons.mpr ⟨tb4 (i := 111) rfl, List.forall_mem_cons.mpr ⟨tb4 (i := 112) rfl, List.forall_mem_cons.mpr ⟨tb4 (i := 113) rfl, List.forall_mem_cons.mpr ⟨tb4 (i := 114) rfl, List.forall_mem_cons.mpr ⟨tb4 (i := 115) rfl, List.forall_mem_cons.mpr ⟨tb4 (i := 117) rfl, List.forall_mem_cons.mpr ⟨tb4 (i := 118) rfl, List.forall_mem_cons.mpr ⟨tb4 (i := 119) rfl, List.forall_mem_cons.mpr ⟨tb4 (i := 120) rfl, List.forall_mem_cons.mpr ⟨tb4 (i := 121) rfl, List.forall_mem_cons.mpr ⟨tb4 (i := 122) rfl, List.forall_mem_cons.mpr ⟨tb4 (i := 123) rfl, List.forall_mem_cons.mpr ⟨tb4 (i := 124) rfl, List.forall_mem_cons.mpr ⟨tb4 (i := 125) rfl, List.forall_mem_cons.mpr ⟨tb4 (i := 126) rfl, List.forall_mem_cons.mpr ⟨tb4 (i := 127) rfl, List.forall_mem_cons.mpr ⟨tb4 (i := 128) rfl, List.forall_mem_cons.mpr ⟨tb4 (i := 129) rfl, List.forall_mem_cons.mpr ⟨tb4 (i := 130) rfl, List.forall_mem_nil _⟩⟩⟩⟩⟩⟩⟩⟩⟩⟩⟩⟩⟩⟩⟩⟩⟩⟩⟩⟩⟩⟩⟩⟩
theorem GLi_r26 : ∀ w ∈ wsL_law0_r26, w ∈ lw_tbl := List.forall_mem_cons.mpr ⟨tb4 (i := 131) rfl, List.forall_mem_cons.mpr ⟨tb4 (i := 132) rfl, List.forall_mem_cons.mpr ⟨tb4 (i := 133) rfl, List.forall_mem_cons.mpr ⟨tb4 (i := 134) rfl, List.forall_mem_cons.mpr ⟨tb4 (i := 135) rfl, List.forall_mem_cons.mpr ⟨tb4 (i := 137) rfl, List.forall_mem_cons.mpr ⟨tb4 (i := 138) rfl, List.forall_mem_cons.mpr ⟨tb4 (i := 139) rfl, List.forall_mem_cons.mpr ⟨tb4 (i := 140) rfl, List.forall_mem_cons.mpr ⟨tb4 (i := 141) rfl, List.forall_mem_cons.mpr ⟨tb4 (i := 142) rfl, List.forall_mem_cons.mpr ⟨tb4 (i := 143) rfl, List.forall_mem_cons.mpr ⟨tb4 (i := 144) rfl, List.forall_mem_cons.mpr ⟨tb4 (i := 145) rfl, List.forall_mem_cons.mpr ⟨tb4 (i := 146) rfl, List.forall_mem_cons.mpr ⟨tb4 (i := 147) rfl, List.forall_mem_cons.mpr ⟨tb4 (i := 148) rfl, List.forall_mem_cons.mpr ⟨tb4 (i := 149) rfl, List.forall_mem_cons.mpr ⟨tb4 (i := 150) rfl, List.forall_mem_cons.mpr ⟨tb4 (i := 151) rfl, List.forall_mem_cons.mpr ⟨tb4 (i := 152) rfl, List.forall_mem_cons.mpr ⟨tb4 (i := 153) rfl, List.forall_mem_cons.mpr ⟨tb4 (i := 154) rfl, List.forall_mem_cons.mpr ⟨tb4 (i := 155) rfl, List.forall_mem_nil _⟩⟩⟩⟩⟩⟩⟩⟩⟩⟩⟩⟩⟩⟩⟩⟩⟩⟩⟩⟩⟩⟩⟩⟩
theorem GLi_r27 : ∀ w ∈ wsL_law0_r27, w ∈ lw_tbl := List.forall_mem_cons.mpr ⟨tb4 (i := 156) rfl, List.forall_mem_cons.mpr ⟨tb4 (i := 157) rfl, List.forall_mem_cons.mpr ⟨tb4 (i := 158) rfl, List.forall_mem_cons.mpr ⟨tb4 (i := 159) rfl, List.forall_mem_cons.mpr ⟨tb4 (i := 160) rfl, List.forall_mem_cons.mpr ⟨tb4 (i := 162) rfl, List.forall_mem_cons.mpr ⟨tb4 (i := 163) rfl, List.forall_mem_cons.mpr ⟨tb4 (i := 164) rfl, List.forall_mem_cons.mpr ⟨tb4 (i := 165) rfl, List.forall_mem_cons.mpr ⟨tb4 (i := 167) rfl, List.forall_mem_cons.mpr ⟨tb4 (i := 168) rfl, List.forall_mem_cons.mpr ⟨tb4 (i := 169) rfl, List.forall_mem_cons.mpr ⟨tb4 (i := 170) rfl, List.forall_mem_cons.mpr ⟨tb4 (i := 171) rfl, List.forall_mem_cons.mpr ⟨tb4 (i := 172) rfl, List.forall_mem_cons.mpr ⟨tb4 (i := 173) rfl, List.forall_mem_cons.mpr ⟨tb4 (i := 174) rfl, List.forall_mem_cons.mpr ⟨tb4 (i := 175) rfl, List.forall_mem_cons.mpr ⟨tb4 (i := 176) rfl, List.forall_mem_cons.mpr ⟨tb4 (i := 177) rfl, List.forall_mem_cons.mpr ⟨tb4 (i := 178) rfl, List.forall_mem_cons.mpr ⟨tb4 (i := 179) rfl, List.forall_mem_cons.mpr ⟨tb4 (i := 181) rfl, List.forall_mem_cons.mpr ⟨tb4 (i := 182) rfl, List.forall_mem_nil _⟩⟩⟩⟩⟩⟩⟩⟩⟩⟩⟩⟩⟩⟩⟩⟩⟩⟩⟩⟩⟩⟩⟩⟩
theorem GLi_r28 : ∀ w ∈ wsL_law0_r28, w ∈ lw_tbl := List.forall_mem_cons.mpr ⟨tb4 (i := 183) rfl, List.forall_mem_cons.mpr ⟨tb4 (i := 184) rfl, List.forall_mem_cons.mpr ⟨tb4 (i := 185) rfl, List.forall_mem_cons.mpr ⟨tb4 (i := 187) rfl, List.forall_mem_cons.mpr ⟨tb4 (i := 188) rfl, List.forall_mem_cons.mpr ⟨tb4 (i := 189) rfl, List.forall_mem_cons.mpr ⟨tb4 (i := 206) rfl, List.forall_mem_cons.mpr ⟨tb3 (i := 70) rfl, List.forall_mem_cons.mpr ⟨tb3 (i := 71) rfl, List.forall_mem_cons.mpr ⟨tb3 (i := 72) rfl, List.forall_mem_cons.mpr ⟨tb3 (i := 73) rfl, List.forall_mem_cons.mpr ⟨tb4 (i := 190) rfl, List.forall_mem_cons.mpr ⟨tb4 (i := 191) rfl, List.forall_mem_cons.mpr ⟨tb4 (i := 192) rfl, List.forall_mem_cons.mpr ⟨tb4 (i := 193) rfl, List.forall_mem_cons.mpr ⟨tb4 (i := 194) rfl, List.forall_mem_cons.mpr ⟨tb4 (i := 195) rfl, List.forall_mem_cons.mpr ⟨tb4 (i := 196) rfl, List.forall_mem_cons.mpr ⟨tb4 (i := 198) rfl, List.forall_mem_cons.mpr ⟨tb4 (i := 199) rfl, List.forall_mem_cons.mpr ⟨tb4 (i := 200) rfl, List.forall_mem_cons.mpr ⟨tb4 (i := 201) rfl, List.forall_mem_cons.mpr ⟨tb4 (i := 202) rfl, List.forall_mem_cons.mpr ⟨tb4 (i := 203) rfl, List.forall_mem_nil _⟩⟩⟩⟩⟩⟩⟩⟩⟩⟩⟩⟩⟩⟩⟩⟩⟩⟩⟩⟩⟩⟩⟩⟩
theorem GLi_r29 : ∀ w ∈ wsL_law0_r29, w ∈ lw_tbl := List.forall_mem_cons.mpr ⟨tb4 (i := 204) rfl, List.forall_mem_cons.mpr ⟨tb4 (i := 205) rfl, List.forall_mem_cons.mpr ⟨tb4 (i := 207) rfl, List.forall_mem_cons.mpr ⟨tb4 (i := 208) rfl, List.forall_mem_cons.mpr ⟨tb4 (i := 209) rfl, List.forall_mem_cons.mpr ⟨tb4 (i := 210) rfl, List.forall_mem_cons.mpr ⟨tb3 (i := 74) rfl, List.forall_mem_cons.mpr ⟨tb3 (i := 75) rfl, List.forall_mem_cons.mpr ⟨tb3 (i := 76) rfl, List.forall_mem_cons.mpr ⟨tb3 (i := 77) rfl, List.forall_mem_cons.mpr ⟨tb4 (i := 211) rfl, List.forall_mem_cons.mpr ⟨tb4 (i := 212) rfl, List.forall_mem_cons.mpr ⟨tb4 (i := 213) rfl, List.forall_mem_cons.mpr ⟨tb4 (i := 214) rfl, List.forall_mem_cons.mpr ⟨tb4 (i := 215) rfl, List.forall_mem_cons.mpr ⟨tb4 (i := 216) rfl, List.forall_mem_cons.mpr ⟨tb4 (i := 217) rfl, List.forall_mem_cons.mpr ⟨tb4 (i := 218) rfl, List.forall_mem_nil _⟩⟩⟩⟩⟩⟩⟩⟩⟩⟩⟩⟩⟩⟩⟩⟩⟩⟩
/-- all words, in one list of lists -/
def GL : List (List Cond) := [wsL_law0_r1, wsL_law0_r2, wsL_law0_r3, wsL_law0_r4, wsL_law0_r5, wsL_law0_r6, wsL_law0_r7, wsL_law0_r8, wsL_law0_r9, wsL_law0_r10, wsL_law0_r11, wsL_law0_r12, wsL_law0_r13, wsL_law0_r14, wsL_law0_r15, wsL_law0_r16, wsL_law0_r17, wsL_law0_r18, wsL_law0_r19, wsL_law0_r20, wsL_law0_r21, wsL_law0_r22, wsL_law0_r23, wsL_law0_r24, wsL_law0_r25, wsL_law0_r26, wsL_law0_r27, wsL_law0_r28, wsL_law0_r29, wsX00, wsX20, wsX30, wsX40, wsX50, wsX60, wsX70, wsX80, ((vx_atS RX8 60 "java/lang/IllegalArgumentException" ["java/lang/RuntimeException", "java/lang/Exception"]).filter goodWord), ((vx_atS RX8 391 "java/lang/IndexOutOfBoundsException" ["java/lang/RuntimeException", "java/lang/Exception"]).filter goodWord), ((vx_atS RX8 121 "java/lang/IllegalStateException" ["java/lang/RuntimeException", "java/lang/Exception"]).filter goodWord)]
def GG : List Cond := GL.flatten
theorem GG_mem {i j : Nat} {r : List Cond} {w : Cond} (h1 : GL[i]? = some r) (h2 : r[j]? = some w) : w ∈ GG := List.mem_flatten.mpr ⟨r, List.mem_of_getElem? h1, List.mem_of_getElem? h2⟩
theorem GG_sub {i : Nat} {r : List Cond} (h1 : GL[i]? = some r) : ∀ w ∈ r, w ∈ GG := fun w h => List.mem_flatten.mpr ⟨r, List.mem_of_getElem? h1, h⟩
set_option maxRecDepth 40000 in
theorem GG_good0 : GL.all (fun r => r.all goodWord) = true := by decide +kernel
theorem GG_good : ∀ w ∈ GG, goodWord w = true := by
  intro w hw
  obtain ⟨r, hr, hw⟩ := List.mem_flatten.mp hw
  exact List.all_eq_true.mp (List.all_eq_true.mp GG_good0 r hr) w hw
theorem GG_l0 : ∀ w ∈ wsX00, w ∈ lw_tbl := by decide +kernel
theorem GG_l2 : ∀ w ∈ wsX20, w ∈ lw_tbl := by decide +kernel
theorem GG_l3 : ∀ w ∈ wsX30, w ∈ lw_tbl := by decide +kernel
theorem GG_l4 : ∀ w ∈ wsX40, w ∈ lw_tbl := by decide +kernel
theorem GG_l5 : ∀ w ∈ wsX50, w ∈ lw_tbl := by decide +kernel
theorem GG_l6 : ∀ w ∈ wsX60, w ∈ lw_tbl := by decide +kernel
theorem GG_l7 : ∀ w ∈ wsX70, w ∈ lw_tbl := by decide +kernel
theorem GG_l8 : ∀ w ∈ wsX80, w ∈ lw_tbl := by decide +kernel
theorem GG_x0 : ∀ w ∈ ((vx_atS RX8 60 "java/lang/IllegalArgumentException" ["java/lang/RuntimeException", "java/lang/Exception"]).filter goodWord), w ∈ lw_tbl := by decide +kernel
theorem GG_x1 : ∀ w ∈ ((vx_atS RX8 391 "java/lang/IndexOutOfBoundsException" ["java/lang/RuntimeException", "java/lang/Exception"]).filter goodWord), w ∈ lw_tbl := by decide +kernel
theorem GG_x2 : ∀ w ∈ ((vx_atS RX8 121 "java/lang/IllegalStateException" ["java/lang/RuntimeException", "java/lang/Exception"]).filter goodWord), w ∈ lw_tbl := by decide +kernel
theorem GG_in0 : ∀ r ∈ GL, ∀ w ∈ r, w ∈ lw_tbl := List.forall_mem_cons.mpr ⟨GLi_r1, List.forall_mem_cons.mpr ⟨GLi_r2, List.forall_mem_cons.mpr ⟨GLi_r3, List.forall_mem_cons.mpr ⟨GLi_r4, List.forall_mem_cons.mpr ⟨GLi_r5, List.forall_mem_cons.mpr ⟨GLi_r6, List.forall_mem_cons.mpr ⟨GLi_r7, List.forall_mem_cons.mpr ⟨GLi_r8, List.forall_mem_cons.mpr ⟨GLi_r9, List.forall_mem_cons.mpr ⟨GLi_r10, List.forall_mem_cons.mpr ⟨GLi_r11, List.forall_mem_cons.mpr ⟨GLi_r12, List.forall_mem_cons.mpr ⟨GLi_r13, List.forall_mem_cons.mpr ⟨GLi_r14, List.forall_mem_cons.mpr ⟨GLi_r15, List.forall_mem_cons.mpr ⟨GLi_r16, List.forall_mem_cons.mpr ⟨GLi_r17, List.forall_mem_cons.mpr ⟨GLi_r18, List.forall_mem_cons.mpr ⟨GLi_r19, List.forall_mem_cons.mpr ⟨GLi_r20, List.forall_mem_cons.mpr ⟨GLi_r21, List.forall_mem_cons.mpr ⟨GLi_r22, List.forall_mem_cons.mpr ⟨GLi_r23, List.forall_mem_cons.mpr ⟨GLi_r24, List.forall_mem_cons.mpr ⟨GLi_r25, List.forall_mem_cons.mpr ⟨GLi_r26, List.forall_mem_cons.mpr ⟨GLi_r27, List.forall_mem_cons.mpr ⟨GLi_r28, List.forall_mem_cons.mpr ⟨GLi_r29, List.forall_mem_cons.mpr ⟨GG_l0, List.forall_mem_cons.mpr ⟨GG_l2, List.forall_mem_cons.mpr ⟨GG_l3, List.forall_mem_cons.mpr ⟨GG_l4, List.forall_mem_cons.mpr ⟨GG_l5, List.forall_mem_cons.mpr ⟨GG_l6, List.forall_mem_cons.mpr ⟨GG_l7, List.forall_mem_cons.mpr ⟨GG_l8, List.forall_mem_cons.mpr ⟨GG_x0, List.forall_mem_cons.mpr ⟨GG_x1, List.forall_mem_cons.mpr ⟨GG_x2, List.forall_mem_nil _⟩⟩⟩⟩⟩⟩⟩⟩⟩⟩⟩⟩⟩⟩⟩⟩⟩⟩⟩⟩⟩⟩⟩⟩⟩⟩⟩⟩⟩⟩⟩⟩⟩⟩⟩⟩⟩⟩⟩⟩
theorem GG_in : ∀ w ∈ GG, w ∈ lw_tbl := by
  intro w hw
  obtain ⟨r, hr, hw⟩ := List.mem_flatten.mp hw
  exact GG_in0 r hr w hw
