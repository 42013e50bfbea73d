-- ===== rows of the law =====
/-- the law's script -/
def scI (xs : Nat → Int32) (j : Nat) : Int := (xs j).toInt
theorem scI_i {xs : Nat → Int32} {j : Nat} : iI (scI xs j) = xs j := by unfold scI iI; exact Int32.ofInt_toInt _
theorem scI_fit {xs : Nat → Int32} {j : Nat} : fit (scI xs j) := by
  have h1 := (xs j).toInt_lt
  have h2 := (xs j).le_toInt
  unfold fit scI; omega
section ZSCR
variable {p : Program} {l : Launch} {e : Env} {R : Room} {s : State} {m : MethodId} {args : Array Value} {below : List Frame} {meth : Method} {c : Code} {H : Heap} {locs : List Loc} {cells slots : Nat} {Q : State → Prop}
variable {cc : ByteArray} {pc : Nat} {ls : Array Slot} {rest st0 : List Value} {Γ : zG} {A : Nat → Prop} {K K0 : zK} {X X' : zX} {Rf Rf' : zR} {a : Nat}
variable {y : MethodName} {b : ByteArray} {n nL index na d mc ms : Nat} {ret : Option FieldType} {own : String} {As : List Value} {post : Option Value → zK → zX → zR → Prop}
theorem zsld (hx : p.tables.exec = Jvm.exec) (hb : c.code = cc) {b L : Nat} {xs : Nat → Int32} (hXs : va_X b L xs s s.heap) (hbl : b < s.heap.size) (hbA : ¬ A b) (hL : L ≤ 260) (hw : Wd Γ A K X Rf s H locs) {z v : Int} (h0 : 0 ≤ z ∧ z < L) (hv : scI xs z.toNat = v) (hdg : decode cc pc = .ok (.iaload, 1)) (kk : W p l e R s m args below meth c H locs cells slots Q (F0 m (pc + 1) ls (.int (iI v) :: rest))) : W p l e R s m args below meth c H locs cells slots Q (F0 m pc ls (.int (iI z) :: .ref b :: rest)) := by
  refine va_sld hx hb hXs hbl hbA hw.2.2.1 (iI_in h0.1 h0.2 (by omega)) hdg ?_
  have e := scI_i (xs := xs) (j := z.toNat)
  rw [hv] at e
  rw [iI_cl h0.1 (by omega), ← e]
  exact kk
theorem zslen (hx : p.tables.exec = Jvm.exec) (hb : c.code = cc) {b L : Nat} {xs : Nat → Int32} (hXs : va_X b L xs s s.heap) (hbl : b < s.heap.size) (hbA : ¬ A b) (hL : L ≤ 260) (hw : Wd Γ A K X Rf s H locs) (hdg : decode cc pc = .ok (.arraylength, 1)) (kk : W p l e R s m args below meth c H locs cells slots Q (F0 m (pc + 1) ls (.int (iI (L : Int)) :: rest))) : W p l e R s m args below meth c H locs cells slots Q (F0 m pc ls (.ref b :: rest)) := by
  refine va_slen hx hb hXs hbl hbA hw.2.2.1 hdg ?_
  exact kk
/-- a shift, whatever it gives -/
theorem zshA (hx : p.tables.exec = Jvm.exec) (hb : c.code = cc) {x y : Int} (hdg : decode cc pc = .ok (.ishr, 1)) (k : ∀ r : Int, fit r → W p l e R s m args below meth c H locs cells slots Q (F0 m (pc + 1) ls (.int (iI r) :: rest))) : W p l e R s m args below meth c H locs cells slots Q (F0 m pc ls (.int (iI y) :: .int (iI x) :: rest)) := by
  refine lv_ishr hx hb hdg ?_
  obtain ⟨r, hr, e⟩ := iI_of (iI x >>> (iI y &&& 31))
  rw [e]; exact k r hr
/-- an int on the stack, whatever it is -/
theorem ztopF {x : Int} (k : ∀ r : Int, fit r → W p l e R s m args below meth c H locs cells slots Q (F0 m pc ls (.int (iI r) :: rest))) : W p l e R s m args below meth c H locs cells slots Q (F0 m pc ls (.int (iI x) :: rest)) := by
  obtain ⟨r, hr, e⟩ := iI_of (iI x)
  rw [e]; exact k r hr
theorem zand31 (hx : p.tables.exec = Jvm.exec) (hb : c.code = cc) {a : Int} (hdg : decode cc pc = .ok (.iand, 1)) (k : W p l e R s m args below meth c H locs cells slots Q (F0 m (pc + 1) ls (.int (iI (a % 2147483648)) :: rest))) : W p l e R s m args below meth c H locs cells slots Q (F0 m pc ls (.int (iI 2147483647) :: .int (iI a) :: rest)) := by
  refine lv_iand hx hb hdg ?_
  rw [zandk 31 2147483648 rfl (by decide +kernel) (by omega)]; exact k
theorem zlcmpE (hx : p.tables.exec = Jvm.exec) (hb : c.code = cc) {x y : Int} (h : x = y) (hdg : decode cc pc = .ok (.lcmp, 1))
    (k : W p l e R s m args below meth c H locs cells slots Q (F0 m (pc + 1) ls (.int (iI 0) :: rest))) : W p l e R s m args below meth c H locs cells slots Q (F0 m pc ls (.long (lJ y) :: .long (lJ x) :: rest)) := by
  subst h
  refine W.lcmp hx hb hdg ?_
  unfold lg_cmp
  have h0 : ¬ (lJ x > lJ x) := by simp [Int64.lt_iff_toInt_lt]
  rw [if_neg h0, if_pos rfl]
  exact k
theorem zdcmpE (hx : p.tables.exec = Jvm.exec) (hb : c.code = cc) {u v : UInt64} (h : Op.cmpValue (FP.dcmp u v) .g = iI (-1) ∨ Op.cmpValue (FP.dcmp u v) .g = iI 0) (hdg : decode cc pc = .ok (.dcmp .g, 1))
    (k : ∀ r : Int, -1 ≤ r ∧ r ≤ 0 → W p l e R s m args below meth c H locs cells slots Q (F0 m (pc + 1) ls (.int (iI r) :: rest))) : W p l e R s m args below meth c H locs cells slots Q (F0 m pc ls (.double v :: .double u :: rest)) := by
  refine lv_dcmp hx hb hdg ?_
  rcases h with h | h
  · rw [h]; exact k (-1) (by omega)
  · rw [h]; exact k 0 (by omega)
section ZXD
variable {xp : String → Prop}
theorem zxkDp {P : Int → Prop} {aa : Array Value} (hr : vx_Run p l e R s m args below meth c H locs cells slots mc ms (F0 m pc ls st0) rest (zQ Γ K H.size (pD (zp0 K X Rf P)) aa) (zXC Γ K X Rf H.size xp) (zA K H.size)) (hw : Wd Γ A K X Rf s H locs)
    (kx : ∀ (E : String) (ce : Cell) (q9 : Addr) (H1 : Heap) (locs1 : List Loc), xp E → Wd Γ A K X Rf s H1 locs1 → H1[q9]? = some ce → ce.vm = .none → s.vm.findClass E = some ce.cls → vx_W p l e R s m args below meth c H1 locs1 (cells + mc) (slots + ms) Q (F0 m pc ls rest) q9)
    (kk : ∀ (r : Int) (H1 : Heap) (locs1 : List Loc), P r → Wd Γ A K X Rf s H1 locs1 → W p l e R s m args below meth c H1 locs1 (cells + mc) (slots + ms) Q (F0 m (pc + 3) ls (.double (UInt64.ofNat r.toNat) :: rest))) : W p l e R s m args below meth c H locs cells slots Q (F0 m pc ls st0) :=
  zxkD hr hw kx (fun r K' X' R' H1 locs1 ⟨hp, e1, e2, e3⟩ h => by subst e1; subst e2; subst e3; exact kk r H1 locs1 hp h)
end ZXD
/-- what a world holds lies in its cells -/
theorem zKb (hw : Wd Γ A K X Rf s H locs) {b : Nat} (hbA : ¬ A b) : (K b).1 = 0 := by
  by_cases h : (K b).1 = 0
  · exact h
  · exact absurd (hw.2.2.2.inA h) hbA
-- ===== a method that reads the script =====
def zPs (b L : Nat) (xs : Nat → Int32) (av : List Value) (Γ : zG) (K : zK) (X : zX) (Rf : zR) (sz : Nat) : Array Value → State → Prop := va_Pc av (fun U => U.heap.size = sz ∧ zW Γ (fun _ => True) K X Rf U ∧ va_X b L xs U U.heap ∧ b < U.heap.size)
def Cs (bs L : Nat) (xs : Nat → Int32) (l : Launch) (y : MethodName) (b : ByteArray) (n : Nat) (ret : Option FieldType) (d mc ms : Nat) (Γ : zG) (av : List Value) (K : zK) (X : zX) (Rf : zR) (post : Option Value → zK → zX → zR → Prop) : Prop :=
  ∀ sz : Nat, Met l y (.code y b n ret :: GG) (rmL d mc ms) (zPs bs L xs av Γ K X Rf sz) (zQ Γ K sz post) mc ms (zA K sz)
theorem zPs_blind {bs L : Nat} {xs : Nat → Int32} {sz : Nat} {av : List Value} : FrameBlind (zPs bs L xs av Γ K X Rf sz) := fun a U g mk q => by
  obtain ⟨q0, q1, ⟨q2, q3⟩, z1, z2⟩ := q
  exact ⟨q0, q1, ⟨zKn.moved (u := U) (U := U.calling g mk a) (Vm.Alike.refl U.vm) q2, q3⟩, va_X.moved (u := U) (U := U.calling g mk a) (Vm.Alike.refl U.vm) z1, z2⟩
theorem zpreS {bs L : Nat} {xs : Nat → Int32} (hXs : va_X bs L xs s s.heap) (hbl : bs < s.heap.size) (hbA : ¬ A bs) (hw : Wd Γ A K X Rf s H locs) : ∀ U : State, U.heap = H → s.WarmedH U.vm → zPs bs L xs As Γ K X Rf H.size As.toArray U := fun U hU hW =>
  ⟨rfl, by rw [hU], ⟨hw.1.moved hW.alike, by rw [hU]; exact hw.2.2.2.weaken (fun _ _ => trivial)⟩, by rw [hU]; exact (hXs.kept (hw.2.2.1.2.1 bs hbl hbA)).moved hW.alike, by rw [hU]; exact Nat.lt_of_lt_of_le hbl hw.2.2.1.1⟩
theorem zrSs (hx : p.tables.exec = Jvm.exec) (hb : c.code = cc) (hml : c.maxLocals = nL) (hown : s.vm.findClass own = some m.cls) (hG : ∀ w ∈ GG, w.before args s = true) {bs L : Nat} {xs : Nat → Int32} (hXs : va_X bs L xs s s.heap) (hbl : bs < s.heap.size) (hbA : ¬ A bs) (hw : Wd Γ A K X Rf s H locs) (hM : Cs bs L xs l y b n ret d mc ms Γ As K X Rf post) (hv : zcs y b n ret na) (hl : Cond.methodLink own index y ∈ GG) (hn : As.length = na) (hR : d + 1 ≤ R.frames ∧ 8 + (n + 11) + 47 * d ≤ R.locals)
    (hsz : ls.size = nL) (hstk : st0 = As.reverse ++ rest) (hcat : (rest.map fun v => v.category).sum ≤ 8) (hdg : decode cc pc = .ok (.invokestatic index, 3)) (hf : cells + mc ≤ R.cells ∧ slots + ms ≤ R.slots) :
    va_Run p l e R s m args below meth c H locs cells slots mc ms (F0 m pc ls st0) rest (zQ Γ K H.size post As.toArray) (zA K H.size) :=
  va_runS (g := F0 m pc ls st0) ⟨hx, hb, hml, hown, hG⟩ (hM H.size) ⟨zcb hG hv.1 hv.2.1 hl hv.2.2.2 hR, hG _ hv.2.2.1⟩ ⟨zPs_blind, zpreS hXs hbl hbA hw⟩ rfl hn hsz hstk (lv_room hcat) hdg hf
theorem Cs.of {bs L : Nat} {xs : Nat → Int32} {y : MethodName} {b : ByteArray} {n : Nat} {ret : Option FieldType} {d mc ms : Nat} {av : List Value} {K : zK} {X : zX} {Rf : zR} {post : Option Value → zK → zX → zR → Prop} (hy : plainName y.cls = true) (hn : (lg_sl av).length ≤ n)
    (body : ∀ (p : Program) (e : Env) (s : State) (m : MethodId) (below : List Frame) (meth : Method) (c : Code) (ls : Array Slot), p.tables.exec = Jvm.exec → c.code = b → meth.sig.returnType = ret → c.maxLocals = n → s.vm.findClass y.cls = some m.cls → (∀ w ∈ GG, w.before av.toArray s = true) → meth.locks = false → meth.name = y.name →
      va_X bs L xs s s.heap → bs < s.heap.size → Wd Γ (zA K s.heap.size) K X Rf s s.heap [] → lv_has ls n (lv_args 0 av) →
      W p l e (rmL d mc ms) s m av.toArray below meth c s.heap [] 0 0 (MQ below (zQ Γ K s.heap.size post) av.toArray s mc ms (zA K s.heap.size)) (F0 m 0 ls [])) : Cs bs L xs l y b n ret d mc ms Γ av K X Rf post := by
  intro sz
  refine Met.ofW (cc := b) (maxL := n) (ret := ret) hy rfl ?_
  intro p e s m args below meth c s₁ B hml hv
  obtain ⟨rfl, hsz, ⟨hKn, hP⟩, hXs, hbl⟩ := hv
  subst hsz
  have hts := atoms_spec (ws := .code y b n ret :: GG) B.pre
  have hl := lv_entry av (n := n) hn
  rw [lg_entry_eq]
  exact body p e s m below meth c _ B.exec B.bytes B.returns hml (findClass_of_methodNamed B.named) (fun w hw => hts w (List.mem_cons_of_mem _ hw)) B.notSynchronized (name_of_methodNamed B.named B.method).1 hXs hbl ⟨hKn, fun q h => Or.inr h, va_S.rf, hP.weaken (fun q hq => Or.inl hq)⟩ hl
end ZSCR
