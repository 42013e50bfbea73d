/-- where a world's cells may be written -/
theorem zA_sub {Γ : zG} {A : Nat → Prop} {K : zK} {X : zX} {Rf : zR} {s : State} {H : Heap} {locs : List Loc} (hw : Wd Γ A K X Rf s H locs) : ∀ q, zA K H.size q → A q := by
  intro q h
  rcases h with h | h
  · exact hw.2.2.2.inA h
  · exact hw.2.1 q (Nat.le_trans hw.2.2.1.1 h)
def rmL (d mc ms : Nat) : Room := { frames := d, cells := mc, slots := ms, locals := 47 * d }
/-- a contract's start: the arguments, the heap's size, the world -/
def zPc (av : List Value) (Γ : zG) (K : zK) (X : zX) (Rf : zR) (sz : Nat) : Array Value → State → Prop := va_Pc av (fun U => U.heap.size = sz ∧ zW Γ (fun _ => True) K X Rf U)
/-- .. and its end -/
def zQ (Γ : zG) (K : zK) (sz : Nat) (post : Option Value → zK → zX → zR → Prop) : Array Value → State → Outcome → State → Prop := fun _ st oc t => ∃ (v : Option Value) (K' : zK) (X' : zX) (R' : zR), oc = .returned v ∧ post v K' X' R' ∧ zW Γ (zA K sz) K' X' R' t ∧ va_F (zA K sz) st t
abbrev pI (P : Int → zK → zX → zR → Prop) : Option Value → zK → zX → zR → Prop := fun v K X R => ∃ r : Int, v = some (.int (iI r)) ∧ P r K X R
abbrev pL (P : Int → zK → zX → zR → Prop) : Option Value → zK → zX → zR → Prop := fun v K X R => ∃ r : Int, v = some (.long (lJ r)) ∧ P r K X R
abbrev pD (P : Int → zK → zX → zR → Prop) : Option Value → zK → zX → zR → Prop := fun v K X R => ∃ r : Int, v = some (.double (UInt64.ofNat r.toNat)) ∧ P r K X R
abbrev pR (P : Nat → zK → zX → zR → Prop) : Option Value → zK → zX → zR → Prop := fun v K X R => ∃ r : Nat, v = some (.ref r) ∧ P r K X R
abbrev pV (P : zK → zX → zR → Prop) : Option Value → zK → zX → zR → Prop := fun v K X R => v = none ∧ P K X R
/-- a method's contract, d levels deep -/
def Ct (l : Launch) (y : MethodName) (b : ByteArray) (n : Nat) (ret : Option FieldType) (d mc ms : Nat) (Γ : zG) (av : List Value) (K : zK) (X : zX) (Rf : zR) (post : Option Value → zK → zX → zR → Prop) : Prop :=
  ∀ sz : Nat, Met l y (.code y b n ret :: GG) (rmL d mc ms) (zPc av Γ K X Rf sz) (zQ Γ K sz post) mc ms (zA K sz)
theorem Ct.mono {l : Launch} {y : MethodName} {b : ByteArray} {n : Nat} {ret : Option FieldType} {d mc ms : Nat} {Γ : zG} {av : List Value} {K : zK} {X : zX} {Rf : zR} {post post' : Option Value → zK → zX → zR → Prop} (h : Ct l y b n ret d mc ms Γ av K X Rf post) (hp : ∀ v K X R, post v K X R → post' v K X R) : Ct l y b n ret d mc ms Γ av K X Rf post' := by
  intro sz p e ha hc hk s m args below hf hfit hheap hpre
  obtain ⟨k, o, h1, h2, h3, ⟨v, K', X', R', q1, q2, q3⟩, q4⟩ := h sz p e ha hc hk s m args below hf hfit hheap hpre
  exact ⟨k, o, h1, h2, h3, ⟨v, K', X', R', q1, hp _ _ _ _ q2, q3⟩, q4⟩
section ZCALLS
variable {p : Program} {l : Launch} {e : Env} {R : Room} {s : State} {m : MethodId} {args : Array Value} {below : List Frame} {meth : Method} {c : Code} {H : Heap} {locs : List Loc} {cells slots : Nat} {Q : State → Prop}
variable {cc : ByteArray} {pc : Nat} {ls : Array Slot} {rest st0 : List Value} {Γ : zG} {A : Nat → Prop} {K : zK} {X X' : zX} {Rf Rf' : zR} {a : Nat}
variable {y : MethodName} {b : ByteArray} {n nL index na d mc ms : Nat} {ret : Option FieldType} {own : String} {As : List Value} {post : Option Value → zK → zX → zR → Prop}
theorem zPc_blind {sz : Nat} {av : List Value} : FrameBlind (zPc av Γ K X Rf sz) := fun a U g mk q => by
  obtain ⟨q0, q1, q2, q3⟩ := q
  exact ⟨q0, q1, zKn.moved (u := U) (U := U.calling g mk a) (Vm.Alike.refl U.vm) q2, q3⟩
theorem zpre (hw : Wd Γ A K X Rf s H locs) : ∀ U : State, U.heap = H → s.WarmedH U.vm → zPc As Γ K X Rf H.size As.toArray U := fun U hU hW =>
  ⟨rfl, by rw [hU], hw.1.moved hW.alike, by rw [hU]; exact hw.2.2.2.weaken (fun _ _ => trivial)⟩
theorem GG_code (hG : ∀ w ∈ GG, w.before args s = true) (hc : Cond.code y b n ret ∈ GG) : ∀ w ∈ (Cond.code y b n ret :: GG), ∀ (a' : Array Value) (U : State), s.WarmedH U.vm → w.before a' U = true := by
  intro w hw a' U hW
  rcases List.mem_cons.mp hw with rfl | h
  · exact word_at hW (good_of_word (GG_good _ hc)) (hG _ hc)
  · exact word_at hW (good_of_word (GG_good _ h)) (hG _ h)
theorem zcb (hG : ∀ w ∈ GG, w.before args s = true) (hc : Cond.code y b n ret ∈ GG) (hini : Cond.initialized y.cls ∈ GG) (hl : Cond.methodLink own index y ∈ GG) (hy : y.cls ≠ "java/lang/invoke/MethodHandle" ∧ y.cls ≠ "java/lang/invoke/VarHandle" ∧ (parseMethodDescriptor y.desc).map (fun d => d.parameters.length) = some na) (hR : d + 1 ≤ R.frames ∧ 8 + (n + 11) + 47 * d ≤ R.locals) : CallB R s args own index y b n ret (.code y b n ret :: GG) (rmL d mc ms) mc ms na := by
  refine ⟨rfl, rfl, hR.1, hR.2, GG_code hG hc, List.mem_cons_self, hG _ hc, hG _ hini, ⟨hy.1, hy.2.1⟩, fun sig h => ?_, hG _ hl⟩
  have h2 := hy.2.2
  rw [h] at h2
  exact (Option.some.inj h2).symm
theorem zrunS (hx : p.tables.exec = Jvm.exec) (hb : c.code = cc) (hml : c.maxLocals = nL) (hown : s.vm.findClass own = some m.cls) (hG : ∀ w ∈ GG, w.before args s = true) (hw : Wd Γ A K X Rf s H locs) (hM : Ct l y b n ret d mc ms Γ As K X Rf post)
    (hc : Cond.code y b n ret ∈ GG) (hini : Cond.initialized y.cls ∈ GG) (hl : Cond.methodLink own index y ∈ GG) (hst : Cond.static y ∈ GG) (hy : y.cls ≠ "java/lang/invoke/MethodHandle" ∧ y.cls ≠ "java/lang/invoke/VarHandle" ∧ (parseMethodDescriptor y.desc).map (fun d => d.parameters.length) = some na) (hn : As.length = na) (hR : d + 1 ≤ R.frames ∧ 8 + (n + 11) + 47 * d ≤ R.locals)
    (hsz : ls.size = nL) (hstk : st0 = As.reverse ++ rest) (hcat : (rest.map fun v => v.category).sum ≤ 8) (hdg : decode cc pc = .ok (.invokestatic index, 3)) (hf : cells + mc ≤ R.cells ∧ slots + ms ≤ R.slots) :
    va_Run p l e R s m args below meth c H locs cells slots mc ms (F0 m pc ls st0) rest (zQ Γ K H.size post As.toArray) (zA K H.size) :=
  va_runS (g := F0 m pc ls st0) ⟨hx, hb, hml, hown, hG⟩ (hM H.size) ⟨zcb hG hc hini hl hy hR, hG _ hst⟩ ⟨zPc_blind, zpre hw⟩ rfl hn hsz hstk (lv_room hcat) hdg hf
theorem zrecv {ci : Nat} {q : vw_C} (hw : Wd Γ A K X Rf s H locs) (hk : K a = (1, ci)) (hc : zcl[ci]? = some q) : ∃ cell : Cell, H[a]? = some cell ∧ cell.vm.isStatics = false ∧ s.vm.findClass q.1 = some cell.cls := by
  obtain ⟨hKn, hA, hS, L, hL, hP, hD⟩ := hw
  obtain ⟨q0, hq⟩ := zat (Γ := Γ) (X := X) (Rf := Rf) hL (a := a) (by rw [hk]; exact Nat.succ_ne_zero _)
  rw [zc1 hk] at hq
  exact va_recv hKn.1 hP hc hq
theorem zrunV (hx : p.tables.exec = Jvm.exec) (hb : c.code = cc) (hml : c.maxLocals = nL) (hown : s.vm.findClass own = some m.cls) (hG : ∀ w ∈ GG, w.before args s = true) (hw : Wd Γ A K X Rf s H locs) {rv ci : Nat} (hM : Ct l y b n ret d mc ms Γ (.ref rv :: As) K X Rf post) {T : u_T} {N : Nat} (hk : K rv = (1, ci)) (hcl : zcl[ci]? = some (y.cls, T, N))
    (hc : Cond.code y b n ret ∈ GG) (hini : Cond.initialized y.cls ∈ GG) (hl : Cond.methodLink own index y ∈ GG) (hst : Cond.instanceMethod y ∈ GG) (hsel : Cond.selects y.cls y y ∈ GG) (hy : y.cls ≠ "java/lang/invoke/MethodHandle" ∧ y.cls ≠ "java/lang/invoke/VarHandle" ∧ (parseMethodDescriptor y.desc).map (fun d => d.parameters.length) = some na) (hn : As.length = na) (hR : d + 1 ≤ R.frames ∧ 8 + (n + 11) + 47 * d ≤ R.locals)
    (hsz : ls.size = nL) (hstk : st0 = As.reverse ++ .ref rv :: rest) (hcat : (rest.map fun v => v.category).sum ≤ 8) (hdg : decode cc pc = .ok (.invokevirtual index, 3)) (hf : cells + mc ≤ R.cells ∧ slots + ms ≤ R.slots) :
    va_Run p l e R s m args below meth c H locs cells slots mc ms (F0 m pc ls st0) rest (zQ Γ K H.size post (Value.ref rv :: As).toArray) (zA K H.size) :=
  va_runV (g := F0 m pc ls st0) (C := y.cls) ⟨hx, hb, hml, hown, hG⟩ (hM H.size) ⟨zcb hG hc hini hl hy hR, hG _ hst, hG _ hsel⟩ ⟨zPc_blind, zrecv hw hk hcl, zpre hw⟩ rfl hn hsz hstk (lv_room hcat) hdg hf
theorem zrunI (hx : p.tables.exec = Jvm.exec) (hb : c.code = cc) (hml : c.maxLocals = nL) (hown : s.vm.findClass own = some m.cls) (hG : ∀ w ∈ GG, w.before args s = true) (hw : Wd Γ A K X Rf s H locs) {rv : Nat} (hM : Ct l y b n none d mc ms Γ (.ref rv :: As) K X Rf post)
    (hc : Cond.code y b n none ∈ GG) (hini : Cond.initialized y.cls ∈ GG) (hl : Cond.methodLink own index y ∈ GG) (hst : Cond.instanceMethod y ∈ GG) (hnm : y.name = "<init>") (hy : y.cls ≠ "java/lang/invoke/MethodHandle" ∧ y.cls ≠ "java/lang/invoke/VarHandle" ∧ (parseMethodDescriptor y.desc).map (fun d => d.parameters.length) = some na) (hn : As.length = na) (hR : d + 1 ≤ R.frames ∧ 8 + (n + 11) + 47 * d ≤ R.locals)
    (hsz : ls.size = nL) (hstk : st0 = As.reverse ++ .ref rv :: rest) (hcat : (rest.map fun v => v.category).sum ≤ 8) (hdg : decode cc pc = .ok (.invokespecial index, 3)) (hf : cells + mc ≤ R.cells ∧ slots + ms ≤ R.slots) :
    va_Run p l e R s m args below meth c H locs cells slots mc ms (F0 m pc ls st0) rest (zQ Γ K H.size post (Value.ref rv :: As).toArray) (zA K H.size) :=
  va_runI (g := F0 m pc ls st0) ⟨hx, hb, hml, hown, hG⟩ (hM H.size) ⟨zcb hG hc hini hl hy hR, hnm, hG _ hst⟩ ⟨zPc_blind, zpre hw⟩ rfl hn hsz hstk (lv_room hcat) hdg hf
/-- the world behind a call -/
theorem Wd.next {H1 : Heap} {t : State} {locs1 : List Loc} {K' : zK} {R' : zR} (hw : Wd Γ A K X Rf s H locs) (hS : va_S A s.heap H1 locs1) (ht : t.heap = H1) (h : zW Γ (zA K H.size) K' X' R' t) : Wd Γ A K' X' R' s H1 locs1 := by
  refine ⟨hw.1, hw.2.1, hS, ?_⟩
  rw [← ht]
  exact h.2.weaken (fun q hq => zA_sub hw q (h.2.inA hq))
theorem zcall {aa : Array Value} (hr : va_Run p l e R s m args below meth c H locs cells slots mc ms (F0 m pc ls st0) rest (zQ Γ K H.size post aa) (zA K H.size)) (hw : Wd Γ A K X Rf s H locs)
    (kk : ∀ (v : Option Value) (K' : zK) (X' : zX) (R' : zR) (H1 : Heap) (locs1 : List Loc), post v K' X' R' → Wd Γ A K' X' R' s H1 locs1 → W p l e R s m args below meth c H1 locs1 (cells + mc) (slots + ms) Q (F0 m (pc + 3) ls (v.toList ++ rest))) : W p l e R s m args below meth c H locs cells slots Q (F0 m pc ls st0) := by
  intro T hT Xs
  obtain ⟨v, st₀, t, T', L, h0, Xs', hL, e1, e2, ⟨v', K', X', R', hv, hp, hb, hz, hk⟩, st⟩ := hr T hT Xs
  cases hv
  rw [h0] at hz hk
  have hS := hw.2.2.1
  have hA := zA_sub hw
  have hS1 : va_S A s.heap T'.heap (locs ++ L) := ⟨Nat.le_trans hS.1 (by rw [e1]; exact hz), fun q h1 h2 => by rw [e1, hk q (Nat.lt_of_lt_of_le h1 hS.1) (fun z => h2 (hA q z))]; exact hS.2.1 q h1 h2, fun q hq => by
    rcases List.mem_append.mp hq with h | h
    · exact hS.2.2 q h
    · exact hA _ (hL q h)⟩
  obtain ⟨t2, a1, b1⟩ := kk v K' X' R' T'.heap (locs ++ L) hp (hw.next hS1 e1.symm hb) T' rfl Xs'
  exact ⟨t2, st t2 a1, b1⟩
theorem zkI {P : Int → zK → zX → zR → Prop} {aa : Array Value} (hr : va_Run p l e R s m args below meth c H locs cells slots mc ms (F0 m pc ls st0) rest (zQ Γ K H.size (pI P) aa) (zA K H.size)) (hw : Wd Γ A K X Rf s H locs)
    (kk : ∀ (r : Int) (K' : zK) (X' : zX) (R' : zR) (H1 : Heap) (locs1 : List Loc), P r K' X' R' → Wd Γ A K' X' R' s H1 locs1 → W p l e R s m args below meth c H1 locs1 (cells + mc) (slots + ms) Q (F0 m (pc + 3) ls (.int (iI r) :: rest))) : W p l e R s m args below meth c H locs cells slots Q (F0 m pc ls st0) :=
  zcall hr hw (fun v K' X' R' H1 locs1 ⟨r, hv, hp⟩ h => by subst hv; exact kk r K' X' R' H1 locs1 hp h)
theorem zkL {P : Int → zK → zX → zR → Prop} {aa : Array Value} (hr : va_Run p l e R s m args below meth c H locs cells slots mc ms (F0 m pc ls st0) rest (zQ Γ K H.size (pL P) aa) (zA K H.size)) (hw : Wd Γ A K X Rf s H locs)
    (kk : ∀ (r : Int) (K' : zK) (X' : zX) (R' : zR) (H1 : Heap) (locs1 : List Loc), P r K' X' R' → Wd Γ A K' X' R' s H1 locs1 → W p l e R s m args below meth c H1 locs1 (cells + mc) (slots + ms) Q (F0 m (pc + 3) ls (.long (lJ r) :: rest))) : W p l e R s m args below meth c H locs cells slots Q (F0 m pc ls st0) :=
  zcall hr hw (fun v K' X' R' H1 locs1 ⟨r, hv, hp⟩ h => by subst hv; exact kk r K' X' R' H1 locs1 hp h)
theorem zkD {P : Int → zK → zX → zR → Prop} {aa : Array Value} (hr : va_Run p l e R s m args below meth c H locs cells slots mc ms (F0 m pc ls st0) rest (zQ Γ K H.size (pD P) aa) (zA K H.size)) (hw : Wd Γ A K X Rf s H locs)
    (kk : ∀ (r : Int) (K' : zK) (X' : zX) (R' : zR) (H1 : Heap) (locs1 : List Loc), P r K' X' R' → Wd Γ A K' X' R' s H1 locs1 → W p l e R s m args below meth c H1 locs1 (cells + mc) (slots + ms) Q (F0 m (pc + 3) ls (.double (UInt64.ofNat r.toNat) :: rest))) : W p l e R s m args below meth c H locs cells slots Q (F0 m pc ls st0) :=
  zcall hr hw (fun v K' X' R' H1 locs1 ⟨r, hv, hp⟩ h => by subst hv; exact kk r K' X' R' H1 locs1 hp h)
theorem zkR {P : Nat → zK → zX → zR → Prop} {aa : Array Value} (hr : va_Run p l e R s m args below meth c H locs cells slots mc ms (F0 m pc ls st0) rest (zQ Γ K H.size (pR P) aa) (zA K H.size)) (hw : Wd Γ A K X Rf s H locs)
    (kk : ∀ (r : Nat) (K' : zK) (X' : zX) (R' : zR) (H1 : Heap) (locs1 : List Loc), P r K' X' R' → Wd Γ A K' X' R' s H1 locs1 → W p l e R s m args below meth c H1 locs1 (cells + mc) (slots + ms) Q (F0 m (pc + 3) ls (.ref r :: rest))) : W p l e R s m args below meth c H locs cells slots Q (F0 m pc ls st0) :=
  zcall hr hw (fun v K' X' R' H1 locs1 ⟨r, hv, hp⟩ h => by subst hv; exact kk r K' X' R' H1 locs1 hp h)
theorem zkV {P : zK → zX → zR → Prop} {aa : Array Value} (hr : va_Run p l e R s m args below meth c H locs cells slots mc ms (F0 m pc ls st0) rest (zQ Γ K H.size (pV P) aa) (zA K H.size)) (hw : Wd Γ A K X Rf s H locs)
    (kk : ∀ (K' : zK) (X' : zX) (R' : zR) (H1 : Heap) (locs1 : List Loc), P K' X' R' → Wd Γ A K' X' R' s H1 locs1 → W p l e R s m args below meth c H1 locs1 (cells + mc) (slots + ms) Q (F0 m (pc + 3) ls rest)) : W p l e R s m args below meth c H locs cells slots Q (F0 m pc ls st0) :=
  zcall hr hw (fun v K' X' R' H1 locs1 ⟨hv, hp⟩ h => by subst hv; exact kk K' X' R' H1 locs1 hp h)
/-! the ends -/
theorem zend {v : Option Value} {K0 : zK} {sz : Nat} {aa : Array Value} (hw : Wd Γ (zA K0 sz) K X Rf s H locs) (hp : post v K X Rf) : ∀ t : State, t.heap = H → s.WarmedH t.vm → zQ Γ K0 sz post aa s (.returned v) t := fun t ht hW =>
  ⟨v, K, X, Rf, rfl, hp, ⟨hw.1.moved hW.alike, by rw [ht]; exact hw.2.2.2⟩, hw.2.2.1.F ht⟩
theorem zretI {K0 : zK} {sz : Nat} {z : Int} {P : Int → zK → zX → zR → Prop} (hx : p.tables.exec = Jvm.exec) (hb : c.code = cc) (hlocks : meth.locks = false) (hr : meth.sig.returnType = some .int) (hw : Wd Γ (zA K0 sz) K X Rf s H locs) (h1 : cells ≤ mc) (h2 : slots ≤ ms) (hdg : decode cc pc = .ok (.ireturn, 1)) (hp : P z K X Rf) : W p l e R s m args below meth c H locs cells slots (MQ below (zQ Γ K0 sz (pI P)) args s mc ms (zA K0 sz)) (F0 m pc ls [.int (iI z)]) :=
  W.widen h1 h2 (W.iret hx hb hr (zend hw ⟨z, rfl, hp⟩) hw.2.2.1.2.2 hdg hlocks)
theorem zretZ {K0 : zK} {sz : Nat} {z : Int} {P : Int → zK → zX → zR → Prop} (hx : p.tables.exec = Jvm.exec) (hb : c.code = cc) (hlocks : meth.locks = false) (hr : meth.sig.returnType = some .boolean) (hz : z = 0 ∨ z = 1) (hw : Wd Γ (zA K0 sz) K X Rf s H locs) (h1 : cells ≤ mc) (h2 : slots ≤ ms) (hdg : decode cc pc = .ok (.ireturn, 1)) (hp : P z K X Rf) : W p l e R s m args below meth c H locs cells slots (MQ below (zQ Γ K0 sz (pI P)) args s mc ms (zA K0 sz)) (F0 m pc ls [.int (iI z)]) :=
  W.widen h1 h2 (W.zret hx hb hr (by rcases hz with rfl | rfl <;> rfl) (zend hw ⟨z, rfl, hp⟩) hw.2.2.1.2.2 hdg hlocks)
theorem zretL {K0 : zK} {sz : Nat} {z : Int} {P : Int → zK → zX → zR → Prop} (hx : p.tables.exec = Jvm.exec) (hb : c.code = cc) (hlocks : meth.locks = false) (hr : meth.sig.returnType = some .long) (hw : Wd Γ (zA K0 sz) K X Rf s H locs) (h1 : cells ≤ mc) (h2 : slots ≤ ms) (hdg : decode cc pc = .ok (.lreturn, 1)) (hp : P z K X Rf) : W p l e R s m args below meth c H locs cells slots (MQ below (zQ Γ K0 sz (pL P)) args s mc ms (zA K0 sz)) (F0 m pc ls [.long (lJ z)]) :=
  W.widen h1 h2 (W.lret hx hb hr (zend hw ⟨z, rfl, hp⟩) hw.2.2.1.2.2 hdg hlocks)
theorem zretD {K0 : zK} {sz : Nat} {z : Int} {P : Int → zK → zX → zR → Prop} (hx : p.tables.exec = Jvm.exec) (hb : c.code = cc) (hlocks : meth.locks = false) (hr : meth.sig.returnType = some .double) (hw : Wd Γ (zA K0 sz) K X Rf s H locs) (h1 : cells ≤ mc) (h2 : slots ≤ ms) (hdg : decode cc pc = .ok (.dreturn, 1)) (hp : P z K X Rf) : W p l e R s m args below meth c H locs cells slots (MQ below (zQ Γ K0 sz (pD P)) args s mc ms (zA K0 sz)) (F0 m pc ls [.double (UInt64.ofNat z.toNat)]) :=
  W.widen h1 h2 (W.dret hx hb hr (zend hw ⟨z, rfl, hp⟩) hw.2.2.1.2.2 hdg hlocks)
theorem zretR {K0 : zK} {sz z : Nat} {P : Nat → zK → zX → zR → Prop} {rt : FieldType} (hx : p.tables.exec = Jvm.exec) (hb : c.code = cc) (hlocks : meth.locks = false) (hr : meth.sig.returnType = some rt) (hrt : (∃ n, rt = .object n) ∨ ∃ t, rt = .array t) (hw : Wd Γ (zA K0 sz) K X Rf s H locs) (h1 : cells ≤ mc) (h2 : slots ≤ ms) (hdg : decode cc pc = .ok (.areturn, 1)) (hp : P z K X Rf) : W p l e R s m args below meth c H locs cells slots (MQ below (zQ Γ K0 sz (pR P)) args s mc ms (zA K0 sz)) (F0 m pc ls [.ref z]) :=
  W.widen h1 h2 (W.aret hx hb hr hrt (Or.inr ⟨z, rfl⟩) (zend hw ⟨z, rfl, hp⟩) hw.2.2.1.2.2 hdg hlocks)
theorem zretV {K0 : zK} {sz : Nat} {P : zK → zX → zR → Prop} (hx : p.tables.exec = Jvm.exec) (hb : c.code = cc) (hlocks : meth.locks = false) (hr : meth.sig.returnType = none) (hw : Wd Γ (zA K0 sz) K X Rf s H locs) (h1 : cells ≤ mc) (h2 : slots ≤ ms) (hdg : decode cc pc = .ok (.return_, 1)) (hp : P K X Rf) : W p l e R s m args below meth c H locs cells slots (MQ below (zQ Γ K0 sz (pV P)) args s mc ms (zA K0 sz)) (F0 m pc ls []) :=
  W.widen h1 h2 (W.vret hx hb hr (zend hw ⟨rfl, hp⟩) hw.2.2.1.2.2 hdg hlocks)
/-- what a body stands on -/
def zBd (p : Program) (s : State) (m : MethodId) (args : Array Value) (meth : Method) (c : Code) (cc : ByteArray) (nL : Nat) (ret : Option FieldType) (own : String) : Prop :=
  p.tables.exec = Jvm.exec ∧ c.code = cc ∧ meth.sig.returnType = ret ∧ c.maxLocals = nL ∧ s.vm.findClass own = some m.cls ∧ (∀ w ∈ GG, w.before args s = true) ∧ meth.locks = false ∧ meth.name = (meth.name)
/-- a contract out of the walk of the body -/
theorem Ct.of {y : MethodName} {b : ByteArray} {n : Nat} {ret : Option FieldType} {d mc ms : Nat} {av : List Value} {K : zK} {X : zX} {Rf : zR} {post : Option Value → zK → zX → zR → Prop} (hy : plainName y.cls = true) (hn : (lg_sl av).length ≤ n)
    (body : ∀ (p : Program) (e : Env) (s : State) (m : MethodId) (below : List Frame) (meth : Method) (c : Code) (ls : Array Slot), p.tables.exec = Jvm.exec → c.code = b → meth.sig.returnType = ret → c.maxLocals = n → s.vm.findClass y.cls = some m.cls → (∀ w ∈ GG, w.before av.toArray s = true) → meth.locks = false → meth.name = y.name →
      Wd Γ (zA K s.heap.size) K X Rf s s.heap [] → lv_has ls n (lv_args 0 av) →
      W p l e (rmL d mc ms) s m av.toArray below meth c s.heap [] 0 0 (MQ below (zQ Γ K s.heap.size post) av.toArray s mc ms (zA K s.heap.size)) (F0 m 0 ls [])) : Ct l y b n ret d mc ms Γ av K X Rf post := by
  intro sz
  refine Met.ofW (cc := b) (maxL := n) (ret := ret) hy rfl ?_
  intro p e s m args below meth c s₁ B hml hv
  obtain ⟨rfl, hsz, hKn, hP⟩ := hv
  subst hsz
  have hts := atoms_spec (ws := .code y b n ret :: GG) B.pre
  have hl := lv_entry av (n := n) hn
  rw [lg_entry_eq]
  exact body p e s m below meth c _ B.exec B.bytes B.returns hml (findClass_of_methodNamed B.named) (fun w hw => hts w (List.mem_cons_of_mem _ hw)) B.notSynchronized (name_of_methodNamed B.named B.method).1 ⟨hKn, fun q h => Or.inr h, va_S.rf, hP.weaken (fun q hq => Or.inl hq)⟩ hl
end ZCALLS
