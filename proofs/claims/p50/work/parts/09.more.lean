section ZMORE
variable {p : Program} {l : Launch} {e : Env} {R : Room} {s : State} {m : MethodId} {args : Array Value} {below : List Frame} {meth : Method} {c : Code} {H : Heap} {locs : List Loc} {cells slots : Nat} {Q : State → Prop}
variable {cc : ByteArray} {pc : Nat} {ls : Array Slot} {rest : List Value} {Γ : zG} {A : Nat → Prop} {K : zK} {X X' : zX} {Rf Rf' : zR} {a : Nat}
theorem iI_ltI {a b : Int} (ha : fit a) (hb : fit b) {α : Type} (u v : α) : (if iI a < iI b then u else v) = if a < b then u else v := by
  by_cases h : a < b
  · rw [if_pos h, if_pos ((iI_lt ha hb).mpr h)]
  · rw [if_neg h, if_neg (fun q => h ((iI_lt ha hb).mp q))]
theorem zmax (hx : p.tables.exec = Jvm.exec) (hb : c.code = cc) (hml : c.maxLocals = ls.size) {own : String} {index : Nat} (hown : s.vm.findClass own = some m.cls) (hG : ∀ w ∈ GG, w.before args s = true) (hl : Cond.methodLink own index Lib.Math.max.name ∈ GG) (h2 : Cond.static Lib.Math.max.name ∈ GG) (h3 : Cond.initialized "java/lang/Math" ∈ GG) (h4 : Cond.code Lib.Math.max.name Lib.Math.max.code 2 (some .int) ∈ GG)
    (hframes : 1 ≤ R.frames) (hlocals : (rest.map fun v => v.category).sum + 13 ≤ R.locals) (hc : cells ≤ R.cells) (hs : slots ≤ R.slots) {x y : Int} (hf : fit x ∧ fit y) (hdg : decode cc pc = .ok (.invokestatic index, 3))
    (k : W p l e R s m args below meth c H locs cells slots Q (F0 m (pc + 3) ls (.int (iI (max x y)) :: rest))) : W p l e R s m args below meth c H locs cells slots Q (F0 m pc ls (.int (iI y) :: .int (iI x) :: rest)) := by
  refine va_mmax hx hb hml hown (hG _ hl) (hG _ h2) (hG _ h3) (hG _ h4) hframes hlocals hc hs hdg ?_
  have e : (if iI x < iI y then iI y else iI x) = iI (max x y) := by
    rw [iI_ltI hf.1 hf.2]
    by_cases h : x < y
    · rw [if_pos h, show max x y = y by omega]
    · rw [if_neg h, show max x y = x by omega]
  rw [e]; exact k
theorem zmin (hx : p.tables.exec = Jvm.exec) (hb : c.code = cc) (hml : c.maxLocals = ls.size) {own : String} {index : Nat} (hown : s.vm.findClass own = some m.cls) (hG : ∀ w ∈ GG, w.before args s = true) (hl : Cond.methodLink own index Lib.Math.min.name ∈ GG) (h2 : Cond.static Lib.Math.min.name ∈ GG) (h3 : Cond.initialized "java/lang/Math" ∈ GG) (h4 : Cond.code Lib.Math.min.name Lib.Math.min.code 2 (some .int) ∈ GG)
    (hframes : 1 ≤ R.frames) (hlocals : (rest.map fun v => v.category).sum + 13 ≤ R.locals) (hc : cells ≤ R.cells) (hs : slots ≤ R.slots) {x y : Int} (hf : fit x ∧ fit y) (hdg : decode cc pc = .ok (.invokestatic index, 3))
    (k : W p l e R s m args below meth c H locs cells slots Q (F0 m (pc + 3) ls (.int (iI (min x y)) :: rest))) : W p l e R s m args below meth c H locs cells slots Q (F0 m pc ls (.int (iI y) :: .int (iI x) :: rest)) := by
  refine va_mmin hx hb hml hown (hG _ hl) (hG _ h2) (hG _ h3) (hG _ h4) hframes hlocals hc hs hdg ?_
  first
    | (have e : (if iI x < iI y then iI x else iI y) = iI (min x y) := by
         rw [iI_ltI hf.1 hf.2]
         by_cases h : x < y
         · rw [if_pos h, show min x y = x by omega]
         · rw [if_neg h, show min x y = y by omega]
       rw [e]; exact k)
    | (have e : (if iI y < iI x then iI y else iI x) = iI (min x y) := by
         rw [iI_ltI hf.2 hf.1]
         by_cases h : y < x
         · rw [if_pos h, show min x y = y by omega]
         · rw [if_neg h, show min x y = x by omega]
       rw [e]; exact k)
theorem zabs (hx : p.tables.exec = Jvm.exec) (hb : c.code = cc) (hml : c.maxLocals = ls.size) {own : String} {index : Nat} (hown : s.vm.findClass own = some m.cls) (hG : ∀ w ∈ GG, w.before args s = true) (hl : Cond.methodLink own index Lib.Math.abs.name ∈ GG) (h2 : Cond.static Lib.Math.abs.name ∈ GG) (h3 : Cond.initialized "java/lang/Math" ∈ GG) (h4 : Cond.code Lib.Math.abs.name Lib.Math.abs.code 1 (some .int) ∈ GG)
    (hframes : 1 ≤ R.frames) (hlocals : (rest.map fun v => v.category).sum + 13 ≤ R.locals) (hc : cells ≤ R.cells) (hs : slots ≤ R.slots) {x : Int} (hf : fit x) (hdg : decode cc pc = .ok (.invokestatic index, 3))
    (k : W p l e R s m args below meth c H locs cells slots Q (F0 m (pc + 3) ls (.int (iI (if 0 ≤ x then x else -x)) :: rest))) : W p l e R s m args below meth c H locs cells slots Q (F0 m pc ls (.int (iI x) :: rest)) := by
  refine va_mabs hx hb hml hown (hG _ hl) (hG _ h2) (hG _ h3) (hG _ h4) hframes hlocals hc hs hdg ?_
  have e : (if (0 : Int32) ≤ iI x then iI x else 0 - iI x) = iI (if 0 ≤ x then x else -x) := by
    show (if iI 0 ≤ iI x then iI x else iI 0 - iI x) = iI (if 0 ≤ x then x else -x)
    have hq := iI_le (⟨by omega, by omega⟩ : fit 0) hf
    by_cases h : 0 ≤ x
    · rw [if_pos h, if_pos (hq.mpr h)]
    · rw [if_neg h, if_neg (fun q => h (hq.mp q)), iI_sub, Int.zero_sub]
  rw [e]; exact k
theorem zminL (hx : p.tables.exec = Jvm.exec) (hb : c.code = cc) (hml : c.maxLocals = ls.size) {own : String} {index : Nat} (hown : s.vm.findClass own = some m.cls) (hG : ∀ w ∈ GG, w.before args s = true) (hl : Cond.methodLink own index Lib.MathLoose.min_long.x ∈ GG) (h2 : Cond.static Lib.MathLoose.min_long.x ∈ GG) (h3 : Cond.initialized "java/lang/Math" ∈ GG) (h4 : Cond.code Lib.MathLoose.min_long.x Lib.MathLoose.min_long.code 4 (some .long) ∈ GG)
    (hframes : 1 ≤ R.frames) (hlocals : (rest.map fun v => v.category).sum + 15 ≤ R.locals) (hc : cells ≤ R.cells) (hs : slots ≤ R.slots) {x y : Int} (hf : fitL x ∧ fitL y) (hdg : decode cc pc = .ok (.invokestatic index, 3))
    (k : W p l e R s m args below meth c H locs cells slots Q (F0 m (pc + 3) ls (.long (lJ (min x y)) :: rest))) : W p l e R s m args below meth c H locs cells slots Q (F0 m pc ls (.long (lJ y) :: .long (lJ x) :: rest)) := by
  refine va_mmin_long hx hb hml hown (hG _ hl) (hG _ h2) (hG _ h3) (hG _ h4) hframes hlocals hc hs hdg ?_
  have e : (if lJ y < lJ x then lJ y else lJ x) = lJ (min x y) := by
    by_cases h : y < x
    · rw [if_pos ((lJ_lt hf.2 hf.1).mpr h), show min x y = y by omega]
    · rw [if_neg (fun q => h ((lJ_lt hf.2 hf.1).mp q)), show min x y = x by omega]
  rw [e]; exact k
theorem zlcmp (hx : p.tables.exec = Jvm.exec) (hb : c.code = cc) {x y : Int} (hf : fitL x ∧ fitL y) (hdg : decode cc pc = .ok (.lcmp, 1))
    (k : ∀ r : Int, (r = -1 ∧ x < y) ∨ (r = 0 ∧ x = y) ∨ (r = 1 ∧ y < x) → W p l e R s m args below meth c H locs cells slots Q (F0 m (pc + 1) ls (.int (iI r) :: rest))) : W p l e R s m args below meth c H locs cells slots Q (F0 m pc ls (.long (lJ y) :: .long (lJ x) :: rest)) := by
  refine W.lcmp hx hb hdg ?_
  unfold lg_cmp
  have h1 := lJ_lt hf.1 hf.2
  have h2 := lJ_lt hf.2 hf.1
  have h3 := lJ_inj hf.1 hf.2
  split
  · next h => first | exact k 1 (Or.inr (Or.inr ⟨rfl, h2.mp h⟩)) | exact k (-1) (Or.inl ⟨rfl, h1.mp h⟩) | exact k 0 (Or.inr (Or.inl ⟨rfl, h3.mp h⟩))
  · next h =>
    split
    · next g => first | exact k 0 (Or.inr (Or.inl ⟨rfl, h3.mp g⟩)) | exact k (-1) (Or.inl ⟨rfl, h1.mp g⟩) | exact k 1 (Or.inr (Or.inr ⟨rfl, h2.mp g⟩))
    · next g => first | exact k (-1) (Or.inl ⟨rfl, by have a := mt h2.mpr h; have b := mt h3.mpr g; omega⟩) | exact k 1 (Or.inr (Or.inr ⟨rfl, by have a := mt h1.mpr h; have b := mt h3.mpr g; omega⟩)) | exact k 0 (Or.inr (Or.inl ⟨rfl, by have a := mt h1.mpr h; have b := mt h2.mpr g; omega⟩)) | exact k 0 (Or.inr (Or.inl ⟨rfl, by have a := mt h2.mpr h; have b := mt h1.mpr g; omega⟩))
theorem ziconst (hx : p.tables.exec = Jvm.exec) (hb : c.code = cc) {n : Int} (hdg : decode cc pc = .ok (.iconst n, 1)) (k : W p l e R s m args below meth c H locs cells slots Q (F0 m (pc + 1) ls (.int (iI n) :: rest))) : W p l e R s m args below meth c H locs cells slots Q (F0 m pc ls rest) := lv_iconst hx hb hdg rfl k
theorem zbipush (hx : p.tables.exec = Jvm.exec) (hb : c.code = cc) {n : Int} (hdg : decode cc pc = .ok (.bipush n, 2)) (hv : (Int8.ofInt n).toInt32 = iI n) (k : W p l e R s m args below meth c H locs cells slots Q (F0 m (pc + 2) ls (.int (iI n) :: rest))) : W p l e R s m args below meth c H locs cells slots Q (F0 m pc ls rest) := lv_bipush hx hb hdg hv k
theorem zsipush (hx : p.tables.exec = Jvm.exec) (hb : c.code = cc) {n : Int} (hdg : decode cc pc = .ok (.sipush n, 3)) (hv : (Int16.ofInt n).toInt32 = iI n) (k : W p l e R s m args below meth c H locs cells slots Q (F0 m (pc + 3) ls (.int (iI n) :: rest))) : W p l e R s m args below meth c H locs cells slots Q (F0 m pc ls rest) := lv_sipush hx hb hdg hv k
theorem zldc (hx : p.tables.exec = Jvm.exec) (hb : c.code = cc) {own : String} {index : Nat} {n : Int} (hown : s.vm.findClass own = some m.cls) (hG : ∀ w ∈ GG, w.before args s = true) (hw : Cond.constant own index (iI n) ∈ GG) (hdg : decode cc pc = .ok (.ldc index, 2)) (k : W p l e R s m args below meth c H locs cells slots Q (F0 m (pc + 2) ls (.int (iI n) :: rest))) : W p l e R s m args below meth c H locs cells slots Q (F0 m pc ls rest) := lv_ldc hx hb hown (hG _ hw) hdg k
theorem zldcw (hx : p.tables.exec = Jvm.exec) (hb : c.code = cc) {own : String} {index : Nat} {n : Int} (hown : s.vm.findClass own = some m.cls) (hG : ∀ w ∈ GG, w.before args s = true) (hw : Cond.constant own index (iI n) ∈ GG) (hdg : decode cc pc = .ok (.ldc_w index, 3)) (k : W p l e R s m args below meth c H locs cells slots Q (F0 m (pc + 3) ls (.int (iI n) :: rest))) : W p l e R s m args below meth c H locs cells slots Q (F0 m pc ls rest) := lv_ldcw hx hb hown (hG _ hw) hdg k
theorem zldc2 (hx : p.tables.exec = Jvm.exec) (hb : c.code = cc) {own : String} {index : Nat} {n : Int} (hown : s.vm.findClass own = some m.cls) (hG : ∀ w ∈ GG, w.before args s = true) (hw : Cond.constantLong own index (lJ n) ∈ GG) (hdg : decode cc pc = .ok (.ldc2_w index, 3)) (k : W p l e R s m args below meth c H locs cells slots Q (F0 m (pc + 3) ls (.long (lJ n) :: rest))) : W p l e R s m args below meth c H locs cells slots Q (F0 m pc ls rest) := lv_ldc2 hx hb hown (hG _ hw) hdg k
theorem zlconst (hx : p.tables.exec = Jvm.exec) (hb : c.code = cc) {n : Fin 2} {z : Int} (hz : Int64.ofNat (n : Nat) = lJ z) (hdg : decode cc pc = .ok (.lconst n, 1)) (k : W p l e R s m args below meth c H locs cells slots Q (F0 m (pc + 1) ls (.long (lJ z) :: rest))) : W p l e R s m args below meth c H locs cells slots Q (F0 m pc ls rest) := lv_lconst hx hb hdg hz k
theorem ztop {z : Int} (k : ∀ y : Int, y = z → W p l e R s m args below meth c H locs cells slots Q (F0 m pc ls (.int (iI y) :: rest))) : W p l e R s m args below meth c H locs cells slots Q (F0 m pc ls (.int (iI z) :: rest)) := k z rfl
theorem ztopL {z : Int} (k : ∀ y : Int, y = z → W p l e R s m args below meth c H locs cells slots Q (F0 m pc ls (.long (lJ y) :: rest))) : W p l e R s m args below meth c H locs cells slots Q (F0 m pc ls (.long (lJ z) :: rest)) := k z rfl
/-- what reads only -/
abbrev zp0 (K : zK) (X : zX) (Rf : zR) (P : Int → Prop) : Int → zK → zX → zR → Prop := fun r K' X' R' => P r ∧ K' = K ∧ X' = X ∧ R' = Rf
theorem zkIp {st0 : List Value} {mc ms : Nat} {P : Int → Prop} {aa : Array Value} (hr : va_Run p l e R s m args below meth c H locs cells slots mc ms (F0 m pc ls st0) rest (zQ Γ K H.size (pI (zp0 K X Rf P)) aa) (zA K H.size)) (hw : Wd Γ A K X Rf s H locs)
    (kk : ∀ (r : Int) (H1 : Heap) (locs1 : List Loc), P r → Wd Γ A K X Rf s H1 locs1 → W p l e R s m args below meth c H1 locs1 (cells + mc) (slots + ms) Q (F0 m (pc + 3) ls (.int (iI r) :: rest))) : W p l e R s m args below meth c H locs cells slots Q (F0 m pc ls st0) :=
  zkI hr hw (fun r K' X' R' H1 locs1 ⟨hp, e1, e2, e3⟩ h => by subst e1; subst e2; subst e3; exact kk r H1 locs1 hp h)
theorem zkLp {st0 : List Value} {mc ms : Nat} {P : Int → Prop} {aa : Array Value} (hr : va_Run p l e R s m args below meth c H locs cells slots mc ms (F0 m pc ls st0) rest (zQ Γ K H.size (pL (zp0 K X Rf P)) aa) (zA K H.size)) (hw : Wd Γ A K X Rf s H locs)
    (kk : ∀ (r : Int) (H1 : Heap) (locs1 : List Loc), P r → Wd Γ A K X Rf s H1 locs1 → W p l e R s m args below meth c H1 locs1 (cells + mc) (slots + ms) Q (F0 m (pc + 3) ls (.long (lJ r) :: rest))) : W p l e R s m args below meth c H locs cells slots Q (F0 m pc ls st0) :=
  zkL hr hw (fun r K' X' R' H1 locs1 ⟨hp, e1, e2, e3⟩ h => by subst e1; subst e2; subst e3; exact kk r H1 locs1 hp h)
end ZMORE
