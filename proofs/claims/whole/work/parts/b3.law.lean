-- ===== contracts of the law's bodies with handlers =====
def w46 : Cond := .classLink RL 46 "java/lang/IllegalStateException"
def G46 : List Cond := w46 :: GG
theorem w46_good : goodWord w46 = true := by decide +kernel
theorem G46_good : ∀ w ∈ G46, goodWord w = true := fun w h => by
  rcases List.mem_cons.mp h with rfl | h
  · exact w46_good
  · exact GG_good w h
/-- a contract of a body with handlers; it wants what a throw wants -/
def Cl (l : Launch) (y : MethodName) (b : ByteArray) (n : Nat) (ret : Option FieldType) (hh : List (Nat × Nat × Nat × Nat)) (d mc ms : Nat) (Γ : zG) (av : List Value) (K : zK) (X : zX) (Rf : zR) (post : Option Value → zK → zX → zR → Prop) : Prop :=
  ∀ sz : Nat, Met l y (.codeWith y b n ret hh :: G46) (rmL d mc ms) (zPx av Γ K X Rf sz) (zQ Γ K sz post) mc ms (zA K sz)
def zcl4 (y : MethodName) (b : ByteArray) (n : Nat) (ret : Option FieldType) (hh : List (Nat × Nat × Nat × Nat)) (na : Nat) : Prop := Cond.codeWith y b n ret hh ∈ GG ∧ Cond.initialized y.cls ∈ GG ∧ Cond.static y ∈ GG ∧ (y.cls ≠ "java/lang/invoke/MethodHandle" ∧ y.cls ≠ "java/lang/invoke/VarHandle" ∧ (parseMethodDescriptor y.desc).map (fun d => d.parameters.length) = some na)
section ZLAW
variable {p : Program} {l : Launch} {e : Env} {R : Room} {s : State} {m : MethodId} {args : Array Value} {below : List Frame} {meth : Method} {c : Code} {H : Heap} {locs : List Loc} {cells slots : Nat} {Q : State → Prop}
variable {cc : ByteArray} {pc : Nat} {ls : Array Slot} {rest st0 : List Value} {Γ : zG} {A : Nat → Prop} {K K0 : zK} {X X' : zX} {Rf Rf' : zR} {a : Nat}
variable {y : MethodName} {b : ByteArray} {n nL index na d mc ms : Nat} {ret : Option FieldType} {hh : List (Nat × Nat × Nat × Nat)} {own : String} {As : List Value} {post : Option Value → zK → zX → zR → Prop} {xp : String → Prop}
theorem Cl.of {av : List Value} (hy : plainName y.cls = true) (hn : (lg_sl av).length ≤ n)
    (body : ∀ (p : Program) (e : Env) (s : State) (m : MethodId) (below : List Frame) (meth : Method) (c : Code) (ls : Array Slot), p.tables.exec = Jvm.exec → c.code = b → meth.sig.returnType = ret → c.maxLocals = n → s.vm.findClass y.cls = some m.cls → (∀ w ∈ GG, w.before av.toArray s = true) → w46.before av.toArray s = true → meth.locks = false → meth.name = y.name → c.exceptionTable.toList = tableOf hh → zXs K s →
      Wd Γ (zA K s.heap.size) K X Rf s s.heap [] → lv_has ls n (lv_args 0 av) →
      W p l e (rmL d mc ms) s m av.toArray below meth c s.heap [] 0 0 (MQ below (zQ Γ K s.heap.size post) av.toArray s mc ms (zA K s.heap.size)) (F0 m 0 ls [])) : Cl l y b n ret hh d mc ms Γ av K X Rf post := by
  intro sz
  refine va_MetW (hh := hh) (cc := b) (maxL := n) (ret := ret) hy rfl ?_
  intro p e s m args below meth c s₁ B hml hv
  obtain ⟨rfl, hsz, ⟨hKn, hP⟩, hX⟩ := hv
  subst hsz
  have hts := atoms_spec (ws := .codeWith y b n ret hh :: G46) B.pre
  have hl := lv_entry av (n := n) hn
  rw [lg_entry_eq]
  exact body p e s m below meth c _ B.exec B.bytes B.returns hml (findClass_of_methodNamed B.named) (fun w hw => hts w (List.mem_cons_of_mem _ (List.mem_cons_of_mem _ hw))) (hts w46 (List.mem_cons_of_mem _ List.mem_cons_self)) B.notSynchronized (name_of_methodNamed B.named B.method).1 (vx_table (x := y) B (hts _ List.mem_cons_self)) hX ⟨hKn, fun q h => Or.inr h, va_S.rf, hP.weaken (fun q hq => Or.inl hq)⟩ hl
theorem G46_code (hG : ∀ w ∈ GG, w.before args s = true) (h46 : w46.before args s = true) (hc : Cond.codeWith y b n ret hh ∈ GG) : ∀ w ∈ (Cond.codeWith y b n ret hh :: G46), ∀ (a' : Array Value) (U : State), s.WarmedH U.vm → w.before a' U = true := by
  intro w hw a' U hW
  rcases List.mem_cons.mp hw with rfl | h
  · exact word_at hW (good_of_word (GG_good _ hc)) (hG _ hc)
  · rcases List.mem_cons.mp h with rfl | h
    · exact word_at hW (good_of_word w46_good) h46
    · exact word_at hW (good_of_word (GG_good _ h)) (hG _ h)
/-- the law calls one of its own -/
theorem zlrS (hx : p.tables.exec = Jvm.exec) (hb : c.code = cc) (hml : c.maxLocals = nL) (hown : s.vm.findClass own = some m.cls) (hG : ∀ w ∈ GG, w.before args s = true) (h46 : w46.before args s = true) (hX : zXs K0 s) (hw : Wd Γ (zA K0 s.heap.size) K X Rf s H locs) (hM : Cl l y b n ret hh d mc ms Γ As K X Rf post) (hv : zcl4 y b n ret hh na) (hl : Cond.methodLink own index y ∈ GG) (hn : As.length = na) (hR : d + 1 ≤ R.frames ∧ 8 + (n + 11) + 100 * d ≤ R.locals)
    (hsz : ls.size = nL) (hstk : st0 = As.reverse ++ rest) (hcat : (rest.map fun v => v.category).sum ≤ 8) (hdg : decode cc pc = .ok (.invokestatic index, 3)) (hf : cells + mc ≤ R.cells ∧ slots + ms ≤ R.slots) :
    va_Run p l e R s m args below meth c H locs cells slots mc ms (F0 m pc ls st0) rest (zQ Γ K H.size post As.toArray) (zA K H.size) := by
  refine vx_runSW (g := F0 m pc ls st0) (hh := hh) ⟨hx, hb, hml, hown, hG⟩ (hM H.size) ⟨⟨rfl, rfl, hR.1, hR.2, G46_code hG h46 hv.1, List.mem_cons_self⟩, hG _ hv.1, hG _ hv.2.1, ⟨hv.2.2.2.1, hv.2.2.2.2.1⟩, fun sig h => ?_, hG _ hl, hG _ hv.2.2.1⟩ ⟨zPx_blind, zpreX hX hw⟩ rfl hn hsz hstk (lv_room hcat) hdg hf
  have h2 := hv.2.2.2.2.2
  rw [h] at h2
  exact (Option.some.inj h2).symm
theorem zg_60 : Cond.castable "java/lang/IllegalArgumentException" "java/lang/IllegalArgumentException" ∈ zngw := by simp [zngw]
theorem zg_391 : Cond.castable "java/lang/IndexOutOfBoundsException" "java/lang/IndexOutOfBoundsException" ∈ zngw := by simp [zngw]
theorem zg_121 : Cond.castable "java/lang/IllegalStateException" "java/lang/IllegalStateException" ∈ zngw := by simp [zngw]
/-- what is thrown lands at its handler -/
theorem zht1 {E : String} {ce : Cell} {q : Addr} (x : ExceptionTableEntry) {suf : List ExceptionTableEntry} (hown : s.vm.findClass RL = some m.cls) (hX : zXs K0 s) (htab : c.exceptionTable.toList = x :: suf) (hcov : covers x pc = true) (h0 : x.catchType ≠ 0) (hl : (Cond.classLink RL x.catchType E).before args s = true) (hg : Cond.castable E E ∈ zngw) (hce : H[q]? = some ce) (hcv : ce.vm = .none) (hcl : s.vm.findClass E = some ce.cls)
    (kk : W p l e R s m args below meth c H locs cells slots Q (F0 m x.handlerPc ls [.ref q])) : vx_W p l e R s m args below meth c H locs cells slots Q (F0 m pc ls rest) q :=
  vx_catch hown [] x suf htab (fun z hz => absurd hz List.not_mem_nil) hcov h0 hl (va_Nw.use (zngw_on _ hg) (hX.2.2.2.1 _ hg)) hce hcv hcl kk
theorem zht2 {E N1 : String} {ce : Cell} {q : Addr} (x1 x : ExceptionTableEntry) {suf : List ExceptionTableEntry} (hown : s.vm.findClass RL = some m.cls) (hX : zXs K0 s) (htab : c.exceptionTable.toList = x1 :: x :: suf) (hcov : covers x pc = true) (h0 : x.catchType ≠ 0) (hl : (Cond.classLink RL x.catchType E).before args s = true) (hg : Cond.castable E E ∈ zngw) (h01 : x1.catchType ≠ 0) (hl1 : (Cond.classLink RL x1.catchType N1).before args s = true) (hc1 : (E, N1) ∈ zncl) (hce : H[q]? = some ce) (hcv : ce.vm = .none) (hcl : s.vm.findClass E = some ce.cls)
    (kk : W p l e R s m args below meth c H locs cells slots Q (F0 m x.handlerPc ls [.ref q])) : vx_W p l e R s m args below meth c H locs cells slots Q (F0 m pc ls rest) q :=
  vx_catch hown [x1] x suf htab (fun z hz => by
    cases List.mem_singleton.mp hz
    exact Or.inr ⟨h01, N1, hl1, hX.2.2.2.2 _ hc1⟩) hcov h0 hl (va_Nw.use (zngw_on _ hg) (hX.2.2.2.1 _ hg)) hce hcv hcl kk
theorem zht3 {E N1 N2 : String} {ce : Cell} {q : Addr} (x1 x2 x : ExceptionTableEntry) {suf : List ExceptionTableEntry} (hown : s.vm.findClass RL = some m.cls) (hX : zXs K0 s) (htab : c.exceptionTable.toList = x1 :: x2 :: x :: suf) (hcov : covers x pc = true) (h0 : x.catchType ≠ 0) (hl : (Cond.classLink RL x.catchType E).before args s = true) (hg : Cond.castable E E ∈ zngw) (h01 : x1.catchType ≠ 0) (hl1 : (Cond.classLink RL x1.catchType N1).before args s = true) (hc1 : (E, N1) ∈ zncl) (h02 : x2.catchType ≠ 0) (hl2 : (Cond.classLink RL x2.catchType N2).before args s = true) (hc2 : (E, N2) ∈ zncl) (hce : H[q]? = some ce) (hcv : ce.vm = .none) (hcl : s.vm.findClass E = some ce.cls)
    (kk : W p l e R s m args below meth c H locs cells slots Q (F0 m x.handlerPc ls [.ref q])) : vx_W p l e R s m args below meth c H locs cells slots Q (F0 m pc ls rest) q :=
  vx_catch hown [x1, x2] x suf htab (fun z hz => by
    rcases List.mem_cons.mp hz with rfl | hz
    · exact Or.inr ⟨h01, N1, hl1, hX.2.2.2.2 _ hc1⟩
    · cases List.mem_singleton.mp hz
      exact Or.inr ⟨h02, N2, hl2, hX.2.2.2.2 _ hc2⟩) hcov h0 hl (va_Nw.use (zngw_on _ hg) (hX.2.2.2.1 _ hg)) hce hcv hcl kk
theorem znc1 : ("java/lang/IllegalArgumentException", "java/lang/IndexOutOfBoundsException") ∈ zncl := by simp [zncl]
theorem znc2 : ("java/lang/IllegalStateException", "java/lang/IndexOutOfBoundsException") ∈ zncl := by simp [zncl]
theorem znc3 : ("java/lang/IllegalStateException", "java/lang/IllegalArgumentException") ∈ zncl := by simp [zncl]
theorem zxkDp {P : Int → Prop} {aa : Array Value} (hr : vx_Run p l e R s m args below meth c H locs cells slots mc ms (F0 m pc ls st0) rest (zQ Γ K H.size (pD (zp0 K X Rf P)) aa) (zXC Γ K X Rf H.size xp) (zA K H.size)) (hw : Wd Γ A K X Rf s H locs)
    (kx : ∀ (E : String) (ce : Cell) (q9 : Addr) (H1 : Heap) (locs1 : List Loc), xp E → Wd Γ A K X Rf s H1 locs1 → H1[q9]? = some ce → ce.vm = .none → s.vm.findClass E = some ce.cls → vx_W p l e R s m args below meth c H1 locs1 (cells + mc) (slots + ms) Q (F0 m pc ls rest) q9)
    (kk : ∀ (r : Int) (H1 : Heap) (locs1 : List Loc), P r → Wd Γ A K X Rf s H1 locs1 → W p l e R s m args below meth c H1 locs1 (cells + mc) (slots + ms) Q (F0 m (pc + 3) ls (.double (UInt64.ofNat r.toNat) :: rest))) : W p l e R s m args below meth c H locs cells slots Q (F0 m pc ls st0) :=
  zxkD hr hw kx (fun r K' X' R' H1 locs1 ⟨hp, e1, e2, e3⟩ h => by subst e1; subst e2; subst e3; exact kk r H1 locs1 hp h)
end ZLAW
/-- what a call through the law leaves alone -/
def frO (ρ : zL) (K : zK) (X : zX) (Rf : zR) (out : Nat) (ρ' : zL) (K' : zK) (X' : zX) (Rf' : zR) : Prop := ∀ a, (K a).1 ≠ 0 → K' a = K a ∧ ρ' a = ρ a ∧ (2000 ≤ ρ a → (a ≠ out → X' a = X a) ∧ Rf' a = Rf a)
section ZLEND
variable {ρ ρ' : zL} {K K' : zK} {X X' X2 : zX} {Rf Rf' : zR} {M M2 : zM} {x out cd : Nat} {v : Int}
theorem frO_refl : frO ρ K X Rf out ρ K X Rf := fun _ _ => ⟨rfl, rfl, fun _ => ⟨fun _ => rfl, rfl⟩⟩
theorem Lend (hC : repC ρ' K' X' Rf' x M2) (hf : frC ρ K X Rf ρ' K' X' Rf') (hk : K out = (4, 1) ∨ K out = (5, 1)) (hl : ρ out = 4000 ∨ ρ out = 4001) (he : X2 = up2 X' out 0 v) : X2 out 0 = v ∧ repC ρ' K' X2 Rf' x M2 ∧ frO ρ K X Rf out ρ' K' X2 Rf' := by
  have hk0 : (K out).1 ≠ 0 := by rcases hk with h | h <;> (rw [h]; exact Nat.succ_ne_zero _)
  obtain ⟨h0, h1, -⟩ := hf out hk0
  subst he
  refine ⟨up2_s, hC.keep (fun a g1 g2 => ⟨rfl, rfl, up2_o (fun g => ?_), rfl⟩), fun a g1 => ⟨(hf a g1).1, (hf a g1).2.1, fun g2 => ⟨fun g3 => (up2_o g3).trans ((hf a g1).2.2 g2).1, ((hf a g1).2.2 g2).2⟩⟩⟩
  subst g
  rcases g2 with g2 | g2
  · rw [h0] at g2; unfold imk at g2
    rcases hk with h | h <;> (rw [h] at g2; revert g2; decide)
  · omega
end ZLEND
