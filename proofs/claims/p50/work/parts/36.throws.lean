-- ===== contracts that return or throw =====
def zstr : List (Nat × String) := [(138, "base is not -840 to 840"), (140, "there are 6 places"), (400, "no such place"), (398, "no such pattern"), (394, "year is not 1900 to 2099"), (396, "lastYear is not firstYear to 2099"), (151, "no such minute, clock or saving"), (159, "a turn goes by one day of a year"), (165, "the place has 6 turns"), (201, "no such begin"), (203, "no such kind, step or weekdays"), (205, "there are 6 series"), (402, "no such series"), (220, "the series has 4 patterns"), (227, "most is not 0 to 500"), (285, "weekdays is not 1 to 127"), (300, "way is not 0 to 3"), (309, "there are 20 feasts"), (108, "no such month or kind"), (113, "no such number of this kind"), (115, "a day by Easter has no month"), (119, "there are 24 patterns"), (392, "no such MOMENT"), (389, "no such DAY"), (58, "no such month"), (72, "the month has no such day"), (331, "days is not -200 to 200"), (326, "no such number of days"), (404, "no such date")]
/-- what a throw wants of the state, beside the world: two statics of Throwable, the texts -/
def zngw : List Cond := [.castable "java/lang/IllegalArgumentException" "java/lang/IllegalArgumentException", .castable "java/lang/IndexOutOfBoundsException" "java/lang/IndexOutOfBoundsException", .castable "java/lang/IllegalStateException" "java/lang/IllegalStateException", .declares (Bundle.initS "java/lang/RuntimeException"), .declares (Bundle.initS "java/lang/Exception"), .declares (Bundle.initS "java/lang/Throwable")]
theorem zngw_on : ∀ w ∈ zngw, w.onTables = true := List.all_eq_true.mp (by decide +kernel : zngw.all (fun w => w.onTables) = true)
theorem zngw_warm {s U : State} (hW : s.WarmedH U.vm) : ∀ w ∈ zngw, va_Nw w s → va_Nw w U := by
  intro w hw h
  simp only [zngw, List.mem_cons, List.not_mem_nil, or_false] at hw
  rcases hw with rfl | rfl | rfl | rfl | rfl | rfl
  · exact va_Nw.warmC hW h
  · exact va_Nw.warmC hW h
  · exact va_Nw.warmC hW h
  · exact va_Nw.warmD hW h
  · exact va_Nw.warmD hW h
  · exact va_Nw.warmD hW h
def zncl : List (String × String) := []
def zXs (K : zK) (U : State) : Prop := vx_Zq Bundle.tN "UNASSIGNED_STACK" Bundle.steD (zA K U.heap.size) U U.heap ∧ vx_Zq Bundle.tN "SUPPRESSED_SENTINEL" Bundle.listD (zA K U.heap.size) U U.heap ∧ (∀ q ∈ zstr, ∃ sa, vk_R RX8 q.1 q.2 sa U) ∧ (∀ w ∈ zngw, va_Nw w U) ∧ ∀ q ∈ zncl, va_Nc q.1 q.2 U
def zPx (av : List Value) (Γ : zG) (K : zK) (X : zX) (Rf : zR) (sz : Nat) : Array Value → State → Prop := va_Pc av (fun U => U.heap.size = sz ∧ zW Γ (fun _ => True) K X Rf U ∧ zXs K U)
def zXC (Γ : zG) (K : zK) (X : zX) (Rf : zR) (sz : Nat) (xp : String → Prop) : String → State → State → Prop := fun E st t => xp E ∧ zW Γ (zA K sz) K X Rf t ∧ va_F (zA K sz) st t
/-- a contract: it returns with post, or throws what xp says, and has changed nothing -/
def Cx (l : Launch) (y : MethodName) (b : ByteArray) (n : Nat) (ret : Option FieldType) (d mc ms : Nat) (Γ : zG) (av : List Value) (K : zK) (X : zX) (Rf : zR) (post : Option Value → zK → zX → zR → Prop) (xp : String → Prop) : Prop :=
  ∀ sz : Nat, vx_Met l y (.code y b n ret :: GG) (rmL d mc ms) (zPx av Γ K X Rf sz) (zQ Γ K sz post) (zXC Γ K X Rf sz xp) mc ms (zA K sz)
section ZXC
variable {p : Program} {l : Launch} {e : Env} {R : Room} {s : State} {m : MethodId} {args : Array Value} {below : List Frame} {meth : Method} {c : Code} {H : Heap} {locs : List Loc} {cells slots : Nat} {Q : State → Prop}
variable {cc : ByteArray} {pc : Nat} {ls : Array Slot} {rest st0 : List Value} {Γ : zG} {A : Nat → Prop} {K K0 : zK} {X X' : zX} {Rf Rf' : zR} {a : Nat}
variable {y : MethodName} {b : ByteArray} {n nL index na d mc ms : Nat} {ret : Option FieldType} {own : String} {As : List Value} {post : Option Value → zK → zX → zR → Prop} {xp : String → Prop}
theorem zPx_blind {sz : Nat} {av : List Value} : FrameBlind (zPx av Γ K X Rf sz) := fun a U g mk q => by
  obtain ⟨q0, q1, ⟨q2, q3⟩, z1, z2, z3, z4, z5⟩ := q
  exact ⟨q0, q1, ⟨zKn.moved (u := U) (U := U.calling g mk a) (Vm.Alike.refl U.vm) q2, q3⟩, vx_Zq.moved (u := U) (U := U.calling g mk a) (Vm.Alike.refl U.vm) z1, vx_Zq.moved (u := U) (U := U.calling g mk a) (Vm.Alike.refl U.vm) z2, fun w hw => by
    obtain ⟨sa, hs⟩ := z3 w hw
    exact ⟨sa, vk_R.same (u := U) (U := U.calling g mk a) rfl hs⟩, fun E hE => va_Nw.same (u := U) (U := U.calling g mk a) (zngw_on E hE) rfl (z4 E hE), fun E hE => va_Nc.moved (u := U) (U := U.calling g mk a) (Vm.Alike.refl U.vm) (z5 E hE)⟩
theorem zXs.next (h : zXs K0 s) (hw : Wd Γ (zA K0 s.heap.size) K X Rf s H locs) : ∀ U : State, U.heap = H → s.WarmedH U.vm → zXs K U := fun U hU hW =>
  ⟨by rw [hU]; exact ((h.1.kept (fun a ha hn => hw.2.2.1.2.1 a ha hn)).narrow (zA_sub hw)).moved hW.alike,
   by rw [hU]; exact ((h.2.1.kept (fun a ha hn => hw.2.2.1.2.1 a ha hn)).narrow (zA_sub hw)).moved hW.alike,
   fun q hq => by
    obtain ⟨sa, hs⟩ := h.2.2.1 q hq
    exact ⟨sa, vk_R.warm hW hs⟩, fun E hE => zngw_warm hW E hE (h.2.2.2.1 E hE), fun E hE => va_Nc.moved hW.alike (h.2.2.2.2 E hE)⟩
theorem zpreX (h : zXs K0 s) (hw : Wd Γ (zA K0 s.heap.size) K X Rf s H locs) : ∀ U : State, U.heap = H → s.WarmedH U.vm → zPx As Γ K X Rf H.size As.toArray U := fun U hU hW =>
  ⟨rfl, by rw [hU], ⟨hw.1.moved hW.alike, by rw [hU]; exact hw.2.2.2.weaken (fun _ _ => trivial)⟩, h.next hw U hU hW⟩
theorem zxrS (hx : p.tables.exec = Jvm.exec) (hb : c.code = cc) (hml : c.maxLocals = nL) (hown : s.vm.findClass own = some m.cls) (hG : ∀ w ∈ GG, w.before args s = true) (hX : zXs K0 s) (hw : Wd Γ (zA K0 s.heap.size) K X Rf s H locs) (hM : Cx l y b n ret d mc ms Γ As K X Rf post xp) (hv : zcs y b n ret na) (hl : Cond.methodLink own index y ∈ GG) (hn : As.length = na) (hR : d + 1 ≤ R.frames ∧ 8 + (n + 11) + 47 * d ≤ R.locals)
    (hsz : ls.size = nL) (hstk : st0 = As.reverse ++ rest) (hcat : (rest.map fun v => v.category).sum ≤ 8) (hdg : decode cc pc = .ok (.invokestatic index, 3)) (hf : cells + mc ≤ R.cells ∧ slots + ms ≤ R.slots) :
    vx_Run p l e R s m args below meth c H locs cells slots mc ms (F0 m pc ls st0) rest (zQ Γ K H.size post As.toArray) (zXC Γ K X Rf H.size xp) (zA K H.size) :=
  vx_runS (g := F0 m pc ls st0) ⟨hx, hb, hml, hown, hG⟩ (hM H.size) ⟨zcb hG hv.1 hv.2.1 hl hv.2.2.2 hR, hG _ hv.2.2.1⟩ ⟨zPx_blind, zpreX hX hw⟩ rfl hn hsz hstk (lv_room hcat) hdg hf
theorem zxrV (hx : p.tables.exec = Jvm.exec) (hb : c.code = cc) (hml : c.maxLocals = nL) (hown : s.vm.findClass own = some m.cls) (hG : ∀ w ∈ GG, w.before args s = true) (hX : zXs K0 s) (hw : Wd Γ (zA K0 s.heap.size) K X Rf s H locs) {rv ci : Nat} (hM : Cx l y b n ret d mc ms Γ (.ref rv :: As) K X Rf post xp) {T : u_T} {N : Nat} (hk : K rv = (1, ci)) (hcl : zcl[ci]? = some (y.cls, T, N)) (hv : zcv y b n ret na) (hl : Cond.methodLink own index y ∈ GG) (hn : As.length = na) (hR : d + 1 ≤ R.frames ∧ 8 + (n + 11) + 47 * d ≤ R.locals)
    (hsz : ls.size = nL) (hstk : st0 = As.reverse ++ .ref rv :: rest) (hcat : (rest.map fun v => v.category).sum ≤ 8) (hdg : decode cc pc = .ok (.invokevirtual index, 3)) (hf : cells + mc ≤ R.cells ∧ slots + ms ≤ R.slots) :
    vx_Run p l e R s m args below meth c H locs cells slots mc ms (F0 m pc ls st0) rest (zQ Γ K H.size post (Value.ref rv :: As).toArray) (zXC Γ K X Rf H.size xp) (zA K H.size) :=
  vx_runV (g := F0 m pc ls st0) (C := y.cls) ⟨hx, hb, hml, hown, hG⟩ (hM H.size) ⟨zcb hG hv.1 hv.2.1 hl hv.2.2.2.2 hR, hG _ hv.2.2.1, hG _ hv.2.2.2.1⟩ ⟨zPx_blind, zrecv hw hk hcl, zpreX hX hw⟩ rfl hn hsz hstk (lv_room hcat) hdg hf
/-- a call that returns or throws: both roads -/
theorem zxcall {aa : Array Value} (hr : vx_Run p l e R s m args below meth c H locs cells slots mc ms (F0 m pc ls st0) rest (zQ Γ K H.size post aa) (zXC Γ K X Rf H.size xp) (zA K H.size)) (hw : Wd Γ A K X Rf s H locs)
    (kx : ∀ (E : String) (ce : Cell) (q9 : Addr) (H1 : Heap) (locs1 : List Loc), xp E → Wd Γ A K X Rf s H1 locs1 → H1[q9]? = some ce → ce.vm = .none → s.vm.findClass E = some ce.cls → vx_W p l e R s m args below meth c H1 locs1 (cells + mc) (slots + ms) Q (F0 m pc ls rest) q9)
    (kk : ∀ (v : Option Value) (K' : zK) (X' : zX) (R' : zR) (H1 : Heap) (locs1 : List Loc), post v K' X' R' → Wd Γ A K' X' R' s H1 locs1 → W p l e R s m args below meth c H1 locs1 (cells + mc) (slots + ms) Q (F0 m (pc + 3) ls (v.toList ++ rest))) : W p l e R s m args below meth c H locs cells slots Q (F0 m pc ls st0) := by
  intro T hT Xs
  have hS := hw.2.2.1
  have hA := zA_sub hw
  rcases hr T hT Xs with ⟨v, st₀, t, T', L, h0, Xs', hL, e1, e2, ⟨v', K', X', R', hv, hp, hb, hz, hk⟩, st⟩ | ⟨q, st₀, t, T', L, E, ce, h0, Xs', hL, e1, e2, ⟨hp, hb, hz, hk⟩, hce, hcv, hcl, st⟩
  · cases hv
    rw [h0] at hz hk
    have hS1 : va_S A s.heap T'.heap (locs ++ L) := ⟨Nat.le_trans hS.1 (by rw [e1]; exact hz), fun q h1 h2 => by rw [e1, hk q (Nat.lt_of_lt_of_le h1 hS.1) (fun z => h2 (hA q z))]; exact hS.2.1 q h1 h2, fun q hq => by
      rcases List.mem_append.mp hq with h | h
      · exact hS.2.2 q h
      · exact hA _ (hL q h)⟩
    obtain ⟨t2, a1, b1⟩ := kk v K' X' R' T'.heap (locs ++ L) hp (hw.next hS1 e1.symm hb) T' rfl Xs'
    exact ⟨t2, st t2 a1, b1⟩
  · rw [h0] at hz hk
    have hS1 : va_S A s.heap T'.heap (locs ++ L) := ⟨Nat.le_trans hS.1 (by rw [e1]; exact hz), fun q h1 h2 => by rw [e1, hk q (Nat.lt_of_lt_of_le h1 hS.1) (fun z => h2 (hA q z))]; exact hS.2.1 q h1 h2, fun q hq => by
      rcases List.mem_append.mp hq with h | h
      · exact hS.2.2 q h
      · exact hA _ (hL q h)⟩
    obtain ⟨t2, a1, b1⟩ := kx E ce q T'.heap (locs ++ L) hp (hw.next hS1 e1.symm hb) (by rw [e1]; exact hce) hcv hcl T' rfl Xs'
    exact ⟨t2, st.trans a1, b1⟩
/-- a throw that leaves the method too -/
theorem zxout {E : String} {ce : Cell} {q : Addr} {aa : Array Value} (ht : ∀ x ∈ c.exceptionTable.toList, False) (hlocks : meth.locks = false) (hw : Wd Γ (zA K s.heap.size) K X Rf s H locs) (hce : H[q]? = some ce) (hv : ce.vm = .none) (hcl : s.vm.findClass E = some ce.cls) (hxp : xp E) (hc : cells ≤ mc) (hs : slots ≤ ms) :
    vx_W p l e R s m aa below meth c H locs cells slots (vx_MQ below (zQ Γ K s.heap.size post) (zXC Γ K X Rf s.heap.size xp) aa s mc ms (zA K s.heap.size)) (F0 m pc ls rest) q :=
  vx_out (fun x hx => (ht x hx).elim) hlocks hce hv hcl (fun t ht hvm => ⟨hxp, ⟨hw.1.moved hvm, by rw [ht]; exact hw.2.2.2⟩, hw.2.2.1.F ht⟩) hw.2.2.1.2.2 hc hs
def znm2 : List String := ["java/lang/RuntimeException", "java/lang/Exception"]
/-- a class of throws, by its constructor's place -/
def zthr (ic : Nat) (cls : String) : Prop := (∀ w ∈ vx_atS RX8 ic cls znm2, w ∈ GG ∨ w ∈ zngw) ∧ Bundle.fit cls = true ∧ (∀ k, ∀ w ∈ Cond.classLink RX8 k cls :: Cond.initialized cls :: vx_atS RX8 ic cls znm2, vx_ot w = true)
theorem zthr_of {i ic : Nat} {cls : String} (hi : GL[i]? = some ((vx_atS RX8 ic cls znm2).filter goodWord)) (hg : (vx_atS RX8 ic cls znm2).all (fun w => goodWord w || decide (w ∈ zngw)) = true) (hf : Bundle.fit cls = true) : zthr ic cls :=
  ⟨fun w hw => by
    rcases Bool.or_eq_true_iff.mp (List.all_eq_true.mp hg w hw) with h | h
    · exact Or.inl (GG_sub hi w (List.mem_filter.mpr ⟨hw, h⟩))
    · exact Or.inr (of_decide_eq_true h), hf, fun k w hw => by
    rcases List.mem_cons.mp hw with rfl | hw
    · rfl
    · rcases List.mem_cons.mp hw with rfl | hw
      · rfl
      · rcases Bool.or_eq_true_iff.mp (List.all_eq_true.mp hg w hw) with h | h
        · unfold vx_ot; rw [h, Bool.or_true]
        · unfold vx_ot; rw [zngw_on w (of_decide_eq_true h), Bool.true_or]⟩
theorem zthr_60 : zthr 60 "java/lang/IllegalArgumentException" := zthr_of (i := 37) rfl (by decide +kernel) (by decide +kernel)
theorem zthr_391 : zthr 391 "java/lang/IndexOutOfBoundsException" := zthr_of (i := 38) rfl (by decide +kernel) (by decide +kernel)
theorem zthr_121 : zthr 121 "java/lang/IllegalStateException" := zthr_of (i := 39) rfl (by decide +kernel) (by decide +kernel)
theorem zthr.words {aa : Array Value} {ic : Nat} {cls : String} (h : zthr ic cls) (hG : ∀ w ∈ GG, w.before aa s = true) (hX : zXs K s) : ∀ w ∈ vx_atS RX8 ic cls znm2, w.before aa s = true := fun w hw => by
  rcases h.1 w hw with g | g
  · exact hG w g
  · exact va_Nw.use (zngw_on w g) (hX.2.2.2.1 _ g)
theorem zthrX {t : State} (hw : Wd Γ (zA K s.heap.size) K X Rf s H locs) {cls : String} (hxp : xp cls) (hvm : s.vm.Alike t.vm) (hz : H.size ≤ t.heap.size) (hq : ∀ q : Nat, q < H.size → t.heap[q]? = H[q]?) : zXC Γ K X Rf s.heap.size xp cls s t :=
  ⟨hxp, ⟨hw.1.moved hvm, hw.2.2.2.kept (fun a ha => hq a (hw.2.2.2.lt ha))⟩, Nat.le_trans hw.2.2.1.1 hz, fun q h1 h2 => (hq q (Nat.lt_of_lt_of_le h1 hw.2.2.1.1)).trans (hw.2.2.1.2.1 q h1 h2)⟩
theorem zthrow {aa : Array Value} {ik is ic : Nat} {cls text : String} (hx : p.tables.exec = Jvm.exec) (hb : c.code = cc) (hl9 : l.stackTraces = false) (hown : s.vm.findClass RX8 = some m.cls) (hG : ∀ w ∈ GG, w.before aa s = true) (hX : zXs K s) (hw : Wd Γ (zA K s.heap.size) K X Rf s H locs) (hk : Cond.classLink RX8 ik cls ∈ GG) (hini : Cond.initialized cls ∈ GG) (hst : (is, text) ∈ zstr) (hat : zthr ic cls) (hsize : ls.size = c.maxLocals) (ht : ∀ x ∈ c.exceptionTable.toList, False)
    (d0 : decode cc pc = .ok (.new ik, 3)) (d3 : decode cc (pc + 3) = .ok (.dup, 1)) (d4 : decode cc (pc + 4) = .ok (.ldc is, 2)) (d6 : decode cc (pc + 6) = .ok (.invokespecial ic, 3)) (d9 : decode cc (pc + 9) = .ok (.athrow, 1))
    (hfr : 5 < R.frames) (hlo : (rest.map fun v => v.category).sum + 82 ≤ R.locals) (hRc : cells + 1 ≤ R.cells) (hRs : slots + 6 ≤ R.slots) (hlocks : meth.locks = false) (hxp : xp cls) (hc : cells + 1 ≤ mc) (hs : slots + 6 ≤ ms) :
    W p l e R s m aa below meth c H locs cells slots (vx_MQ below (zQ Γ K s.heap.size post) (zXC Γ K X Rf s.heap.size xp) aa s mc ms (zA K s.heap.size)) (F0 m pc ls rest) := by
  obtain ⟨sa, hsa⟩ := hX.2.2.1 _ hst
  exact vx_throwS hx hb hl9 (own := RX8) (cls := cls) (text := text) (names := znm2) (ik := ik) (is := is) (ic := ic) (sa := sa) hown hat.2.1 (by decide +kernel) (hG _ hk) (hG _ hini) hsa (hat.words hG hX) (hat.2.2 ik) hX.1 hX.2.1 hw.2.2.1 hsize d0 d3 d4 d6 d9 (fun x h => (ht x h).elim) hfr hlo hRc hRs hlocks (fun t h1 h2 h3 => zthrX hw hxp h1 h2 h3) hw.2.2.1.2.2 hc hs
theorem zthrowW {aa : Array Value} {ik is ic : Nat} {cls text : String} (hx : p.tables.exec = Jvm.exec) (hb : c.code = cc) (hl9 : l.stackTraces = false) (hown : s.vm.findClass RX8 = some m.cls) (hG : ∀ w ∈ GG, w.before aa s = true) (hX : zXs K s) (hw : Wd Γ (zA K s.heap.size) K X Rf s H locs) (hk : Cond.classLink RX8 ik cls ∈ GG) (hini : Cond.initialized cls ∈ GG) (hst : (is, text) ∈ zstr) (hat : zthr ic cls) (hsize : ls.size = c.maxLocals) (ht : ∀ x ∈ c.exceptionTable.toList, False)
    (d0 : decode cc pc = .ok (.new ik, 3)) (d3 : decode cc (pc + 3) = .ok (.dup, 1)) (d4 : decode cc (pc + 4) = .ok (.ldc_w is, 3)) (d7 : decode cc (pc + 7) = .ok (.invokespecial ic, 3)) (d10 : decode cc (pc + 10) = .ok (.athrow, 1))
    (hfr : 5 < R.frames) (hlo : (rest.map fun v => v.category).sum + 82 ≤ R.locals) (hRc : cells + 1 ≤ R.cells) (hRs : slots + 6 ≤ R.slots) (hlocks : meth.locks = false) (hxp : xp cls) (hc : cells + 1 ≤ mc) (hs : slots + 6 ≤ ms) :
    W p l e R s m aa below meth c H locs cells slots (vx_MQ below (zQ Γ K s.heap.size post) (zXC Γ K X Rf s.heap.size xp) aa s mc ms (zA K s.heap.size)) (F0 m pc ls rest) := by
  obtain ⟨sa, hsa⟩ := hX.2.2.1 _ hst
  exact vx_throwSW hx hb hl9 (own := RX8) (cls := cls) (text := text) (names := znm2) (ik := ik) (is := is) (ic := ic) (sa := sa) hown hat.2.1 (by decide +kernel) (hG _ hk) (hG _ hini) hsa (hat.words hG hX) (hat.2.2 ik) hX.1 hX.2.1 hw.2.2.1 hsize d0 d3 d4 d7 d10 (fun x h => (ht x h).elim) hfr hlo hRc hRs hlocks (fun t h1 h2 h3 => zthrX hw hxp h1 h2 h3) hw.2.2.1.2.2 hc hs
theorem Cx.of {y : MethodName} {b : ByteArray} {n : Nat} {ret : Option FieldType} {d mc ms : Nat} {av : List Value} {K : zK} {X : zX} {Rf : zR} {post : Option Value → zK → zX → zR → Prop} (hy : plainName y.cls = true) (hn : (lg_sl av).length ≤ n)
    (body : ∀ (p : Program) (e : Env) (s : State) (m : MethodId) (below : List Frame) (meth : Method) (c : Code) (ls : Array Slot), p.tables.exec = Jvm.exec → c.code = b → meth.sig.returnType = ret → c.maxLocals = n → s.vm.findClass y.cls = some m.cls → (∀ w ∈ GG, w.before av.toArray s = true) → meth.locks = false → meth.name = y.name → (∀ x ∈ c.exceptionTable.toList, False) → zXs K s →
      Wd Γ (zA K s.heap.size) K X Rf s s.heap [] → lv_has ls n (lv_args 0 av) →
      W p l e (rmL d mc ms) s m av.toArray below meth c s.heap [] 0 0 (vx_MQ below (zQ Γ K s.heap.size post) (zXC Γ K X Rf s.heap.size xp) av.toArray s mc ms (zA K s.heap.size)) (F0 m 0 ls [])) : Cx l y b n ret d mc ms Γ av K X Rf post xp := by
  intro sz
  refine vx_ofW (cc := b) (maxL := n) (ret := ret) hy rfl ?_
  intro p e s m args below meth c s₁ B hml ht hv
  obtain ⟨rfl, hsz, ⟨hKn, hP⟩, hX⟩ := hv
  subst hsz
  have hts := atoms_spec (ws := .code y b n ret :: GG) B.pre
  have hl := lv_entry av (n := n) hn
  rw [lg_entry_eq]
  exact body p e s m below meth c _ B.exec B.bytes B.returns hml (findClass_of_methodNamed B.named) (fun w hw => hts w (List.mem_cons_of_mem _ hw)) B.notSynchronized (name_of_methodNamed B.named B.method).1 ht hX ⟨hKn, fun q h => Or.inr h, va_S.rf, hP.weaken (fun q hq => Or.inl hq)⟩ hl
/-- the rows of a call's value, for calls that may throw -/
theorem zxkI {P : Int → zK → zX → zR → Prop} {aa : Array Value} (hr : vx_Run p l e R s m args below meth c H locs cells slots mc ms (F0 m pc ls st0) rest (zQ Γ K H.size (pI P) aa) (zXC Γ K X Rf H.size xp) (zA K H.size)) (hw : Wd Γ A K X Rf s H locs)
    (kx : ∀ (E : String) (ce : Cell) (q9 : Addr) (H1 : Heap) (locs1 : List Loc), xp E → Wd Γ A K X Rf s H1 locs1 → H1[q9]? = some ce → ce.vm = .none → s.vm.findClass E = some ce.cls → vx_W p l e R s m args below meth c H1 locs1 (cells + mc) (slots + ms) Q (F0 m pc ls rest) q9)
    (kk : ∀ (r : Int) (K' : zK) (X' : zX) (R' : zR) (H1 : Heap) (locs1 : List Loc), P r K' X' R' → Wd Γ A K' X' R' s H1 locs1 → W p l e R s m args below meth c H1 locs1 (cells + mc) (slots + ms) Q (F0 m (pc + 3) ls (.int (iI r) :: rest))) : W p l e R s m args below meth c H locs cells slots Q (F0 m pc ls st0) :=
  zxcall hr hw kx (fun v K' X' R' H1 locs1 ⟨r, hv, hp⟩ h => by subst hv; exact kk r K' X' R' H1 locs1 hp h)
theorem zxkD {P : Int → zK → zX → zR → Prop} {aa : Array Value} (hr : vx_Run p l e R s m args below meth c H locs cells slots mc ms (F0 m pc ls st0) rest (zQ Γ K H.size (pD P) aa) (zXC Γ K X Rf H.size xp) (zA K H.size)) (hw : Wd Γ A K X Rf s H locs)
    (kx : ∀ (E : String) (ce : Cell) (q9 : Addr) (H1 : Heap) (locs1 : List Loc), xp E → Wd Γ A K X Rf s H1 locs1 → H1[q9]? = some ce → ce.vm = .none → s.vm.findClass E = some ce.cls → vx_W p l e R s m args below meth c H1 locs1 (cells + mc) (slots + ms) Q (F0 m pc ls rest) q9)
    (kk : ∀ (r : Int) (K' : zK) (X' : zX) (R' : zR) (H1 : Heap) (locs1 : List Loc), P r K' X' R' → Wd Γ A K' X' R' s H1 locs1 → W p l e R s m args below meth c H1 locs1 (cells + mc) (slots + ms) Q (F0 m (pc + 3) ls (.double (UInt64.ofNat r.toNat) :: rest))) : W p l e R s m args below meth c H locs cells slots Q (F0 m pc ls st0) :=
  zxcall hr hw kx (fun v K' X' R' H1 locs1 ⟨r, hv, hp⟩ h => by subst hv; exact kk r K' X' R' H1 locs1 hp h)
theorem zxkR {P : Nat → zK → zX → zR → Prop} {aa : Array Value} (hr : vx_Run p l e R s m args below meth c H locs cells slots mc ms (F0 m pc ls st0) rest (zQ Γ K H.size (pR P) aa) (zXC Γ K X Rf H.size xp) (zA K H.size)) (hw : Wd Γ A K X Rf s H locs)
    (kx : ∀ (E : String) (ce : Cell) (q9 : Addr) (H1 : Heap) (locs1 : List Loc), xp E → Wd Γ A K X Rf s H1 locs1 → H1[q9]? = some ce → ce.vm = .none → s.vm.findClass E = some ce.cls → vx_W p l e R s m args below meth c H1 locs1 (cells + mc) (slots + ms) Q (F0 m pc ls rest) q9)
    (kk : ∀ (r : Nat) (K' : zK) (X' : zX) (R' : zR) (H1 : Heap) (locs1 : List Loc), P r K' X' R' → Wd Γ A K' X' R' s H1 locs1 → W p l e R s m args below meth c H1 locs1 (cells + mc) (slots + ms) Q (F0 m (pc + 3) ls (.ref r :: rest))) : W p l e R s m args below meth c H locs cells slots Q (F0 m pc ls st0) :=
  zxcall hr hw kx (fun v K' X' R' H1 locs1 ⟨r, hv, hp⟩ h => by subst hv; exact kk r K' X' R' H1 locs1 hp h)
theorem zxkV {P : zK → zX → zR → Prop} {aa : Array Value} (hr : vx_Run p l e R s m args below meth c H locs cells slots mc ms (F0 m pc ls st0) rest (zQ Γ K H.size (pV P) aa) (zXC Γ K X Rf H.size xp) (zA K H.size)) (hw : Wd Γ A K X Rf s H locs)
    (kx : ∀ (E : String) (ce : Cell) (q9 : Addr) (H1 : Heap) (locs1 : List Loc), xp E → Wd Γ A K X Rf s H1 locs1 → H1[q9]? = some ce → ce.vm = .none → s.vm.findClass E = some ce.cls → vx_W p l e R s m args below meth c H1 locs1 (cells + mc) (slots + ms) Q (F0 m pc ls rest) q9)
    (kk : ∀ (K' : zK) (X' : zX) (R' : zR) (H1 : Heap) (locs1 : List Loc), P K' X' R' → Wd Γ A K' X' R' s H1 locs1 → W p l e R s m args below meth c H1 locs1 (cells + mc) (slots + ms) Q (F0 m (pc + 3) ls rest)) : W p l e R s m args below meth c H locs cells slots Q (F0 m pc ls st0) :=
  zxcall hr hw kx (fun v K' X' R' H1 locs1 ⟨hv, hp⟩ h => by subst hv; exact kk K' X' R' H1 locs1 hp h)
/-- .. of calls that change nothing -/
theorem zxkIp {P : Int → Prop} {aa : Array Value} (hr : vx_Run p l e R s m args below meth c H locs cells slots mc ms (F0 m pc ls st0) rest (zQ Γ K H.size (pI (zp0 K X Rf P)) aa) (zXC Γ K X Rf H.size xp) (zA K H.size)) (hw : Wd Γ A K X Rf s H locs)
    (kx : ∀ (E : String) (ce : Cell) (q9 : Addr) (H1 : Heap) (locs1 : List Loc), xp E → Wd Γ A K X Rf s H1 locs1 → H1[q9]? = some ce → ce.vm = .none → s.vm.findClass E = some ce.cls → vx_W p l e R s m args below meth c H1 locs1 (cells + mc) (slots + ms) Q (F0 m pc ls rest) q9)
    (kk : ∀ (r : Int) (H1 : Heap) (locs1 : List Loc), P r → Wd Γ A K X Rf s H1 locs1 → W p l e R s m args below meth c H1 locs1 (cells + mc) (slots + ms) Q (F0 m (pc + 3) ls (.int (iI r) :: rest))) : W p l e R s m args below meth c H locs cells slots Q (F0 m pc ls st0) :=
  zxkI hr hw kx (fun r K' X' R' H1 locs1 ⟨hp, e1, e2, e3⟩ h => by subst e1; subst e2; subst e3; exact kk r H1 locs1 hp h)
def zr0 (K : zK) (X : zX) (Rf : zR) (P : Nat → Prop) : Nat → zK → zX → zR → Prop := fun r K' X' R' => P r ∧ K' = K ∧ X' = X ∧ R' = Rf
def zn0 (K : zK) (X : zX) (Rf : zR) (P : Prop) : zK → zX → zR → Prop := fun K' X' R' => P ∧ K' = K ∧ X' = X ∧ R' = Rf
theorem zxkRp {P : Nat → Prop} {aa : Array Value} (hr : vx_Run p l e R s m args below meth c H locs cells slots mc ms (F0 m pc ls st0) rest (zQ Γ K H.size (pR (zr0 K X Rf P)) aa) (zXC Γ K X Rf H.size xp) (zA K H.size)) (hw : Wd Γ A K X Rf s H locs)
    (kx : ∀ (E : String) (ce : Cell) (q9 : Addr) (H1 : Heap) (locs1 : List Loc), xp E → Wd Γ A K X Rf s H1 locs1 → H1[q9]? = some ce → ce.vm = .none → s.vm.findClass E = some ce.cls → vx_W p l e R s m args below meth c H1 locs1 (cells + mc) (slots + ms) Q (F0 m pc ls rest) q9)
    (kk : ∀ (r : Nat) (H1 : Heap) (locs1 : List Loc), P r → Wd Γ A K X Rf s H1 locs1 → W p l e R s m args below meth c H1 locs1 (cells + mc) (slots + ms) Q (F0 m (pc + 3) ls (.ref r :: rest))) : W p l e R s m args below meth c H locs cells slots Q (F0 m pc ls st0) :=
  zxkR hr hw kx (fun r K' X' R' H1 locs1 ⟨hp, e1, e2, e3⟩ h => by subst e1; subst e2; subst e3; exact kk r H1 locs1 hp h)
theorem zxkVp {P : Prop} {aa : Array Value} (hr : vx_Run p l e R s m args below meth c H locs cells slots mc ms (F0 m pc ls st0) rest (zQ Γ K H.size (pV (zn0 K X Rf P)) aa) (zXC Γ K X Rf H.size xp) (zA K H.size)) (hw : Wd Γ A K X Rf s H locs)
    (kx : ∀ (E : String) (ce : Cell) (q9 : Addr) (H1 : Heap) (locs1 : List Loc), xp E → Wd Γ A K X Rf s H1 locs1 → H1[q9]? = some ce → ce.vm = .none → s.vm.findClass E = some ce.cls → vx_W p l e R s m args below meth c H1 locs1 (cells + mc) (slots + ms) Q (F0 m pc ls rest) q9)
    (kk : ∀ (H1 : Heap) (locs1 : List Loc), P → Wd Γ A K X Rf s H1 locs1 → W p l e R s m args below meth c H1 locs1 (cells + mc) (slots + ms) Q (F0 m (pc + 3) ls rest)) : W p l e R s m args below meth c H locs cells slots Q (F0 m pc ls st0) :=
  zxkV hr hw kx (fun K' X' R' H1 locs1 ⟨hp, e1, e2, e3⟩ h => by subst e1; subst e2; subst e3; exact kk H1 locs1 hp h)
end ZXC
