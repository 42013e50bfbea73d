-- ===== rows of the law's cases =====
section ZLCE
variable {p : Program} {l : Launch} {e : Env} {R : Room} {s : State} {m : MethodId} {args : Array Value} {below : List Frame} {meth : Method} {c : Code} {H : Heap} {locs : List Loc} {cells slots : Nat} {Q : State → Prop}
variable {cc : ByteArray} {pc : Nat} {ls : Array Slot} {rest : List Value}
theorem zlcmpE (hx : p.tables.exec = Jvm.exec) (hb : c.code = cc) {x y : Int} (h : x = y) (hdg : decode cc pc = .ok (.lcmp, 1))
    (k : W p l e R s m args below meth c H locs cells slots Q (F0 m (pc + 1) ls (.int (iI 0) :: rest))) : W p l e R s m args below meth c H locs cells slots Q (F0 m pc ls (.long (lJ y) :: .long (lJ x) :: rest)) := by
  subst h
  refine W.lcmp hx hb hdg ?_
  unfold lg_cmp
  have h0 : ¬ (lJ x > lJ x) := by simp [Int64.lt_iff_toInt_lt]
  rw [if_neg h0, if_pos rfl]
  exact k
end ZLCE
/-- what holds all through the law -/
def LE (p : Program) (s : State) (m : MethodId) (c : Code) (b L : Nat) (xs : Nat → Int32) (K0 : zK) : Prop := (p.tables.exec = Jvm.exec ∧ c.code = cL_law ∧ c.maxLocals = 9 ∧ s.vm.findClass RL = some m.cls) ∧ (∀ w ∈ GG, w.before #[Value.ref b] s = true) ∧ w46.before #[Value.ref b] s = true ∧ zXs K0 s ∧ va_X b L xs s s.heap ∧ b < s.heap.size ∧ ¬ zA K0 s.heap.size b ∧ L ≤ 4096
theorem pp_le {X : zX} {Rf : zR} {md : Nat} {M : zM} : plE X Rf md + pnE Rf md M ≤ ptR X Rf md := by
  have e : ∀ k, enC Rf md M k ≤ dnC Rf md k := fun k => by
    unfold enC; split
    · exact Nat.le_refl _
    · exact Nat.zero_le _
  have e0 := e 0; have e1 := e 1; have e2 := e 2; have e3 := e 3; have e4 := e 4; have e5 := e 5
  unfold ptR plE pnE; omega
def wI_of (v : Int32) : Int := v.toInt
theorem wI_fit (v : Int32) : fit (wI_of v) := by
  have h1 := v.toInt_lt
  have h2 := v.le_toInt
  unfold fit wI_of; omega
