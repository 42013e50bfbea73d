section ZARR
variable {p : Program} {l : Launch} {e : Env} {R : Room} {s : State} {m : MethodId} {args : Array Value} {below : List Frame} {meth : Method} {c : Code} {H : Heap} {locs : List Loc} {cells slots : Nat} {Q : State → Prop}
variable {cc : ByteArray} {pc : Nat} {ls : Array Slot} {rest : List Value} {Γ : zG} {A : Nat → Prop} {K : zK} {X X' : zX} {Rf Rf' : zR} {a : Nat}

def zup (K : zK) (q : Nat) (kd : Nat × Nat) : zK := fun a => if a = q then kd else K a
def zupX (X : zX) (q : Nat) : zX := fun a => if a = q then fun _ => 0 else X a
def zupR (Rf : zR) (q : Nat) : zR := fun a => if a = q then fun _ => none else Rf a
theorem zup_s {K : zK} {q : Nat} {kd : Nat × Nat} : zup K q kd q = kd := by simp [zup]
theorem zup_n {K : zK} {q b : Nat} {kd : Nat × Nat} (h : b ≠ q) : zup K q kd b = K b := by simp [zup, h]
theorem zup_k {K : zK} {q b : Nat} {kd k : Nat × Nat} (hq : (K q).1 = 0) (h : K b = k) (hk : k.1 ≠ 0) : zup K q kd b = k := by
  by_cases hb : b = q
  · subst hb; rw [h] at hq; exact absurd hq hk
  · rw [zup_n hb, h]
theorem zupX_n {X : zX} {q b : Nat} (h : b ≠ q) : zupX X q b = X b := by simp [zupX, h]
theorem zupR_n {Rf : zR} {q b : Nat} (h : b ≠ q) : zupR Rf q b = Rf b := by simp [zupR, h]
theorem zupX_s {X : zX} {q : Nat} : zupX X q q = fun _ => 0 := by simp [zupX]
theorem zupR_s {Rf : zR} {q : Nat} : zupR Rf q q = fun _ => none := by simp [zupR]
theorem zfl_new : ∀ (ts : List Nat) (j : Nat), j < ts.length → vp_V (zfl ts (fun _ => 0) (fun _ => none)) j = zv (ts.getD j 0) 0 none
  | [], _, h => by simp at h
  | _ :: _, 0, _ => rfl
  | _ :: ts, j + 1, h => zfl_new ts j (Nat.lt_of_succ_lt_succ h)
theorem zasg (vm : Vm) (c : ClassId) : vm.assignable c c = true := by
  first | exact Vm.assignable_self _ _ | exact Vm.assignable_refl _ _ | simp [Vm.assignable]
theorem zWaastN (hexec : p.tables.exec = Jvm.exec) (hb : c.code = cc) {a : Addr} {cell : Cell} {ty : FieldType} {j : Int32} (hcell : H[a]? = some cell) (harr : s.isArrayOf cell ty) (href : ty.isReference = true) (hknown : cell.vm ≠ .unknown) (hin : ¬ (j < 0 ∨ cell.slots.size ≤ j.toNatClampNeg))
    {g : JFrame} (hg : g.method = m) {rest : List Value} (hstack : g.stack = .null :: .int j :: .ref a :: rest) (hdg : decode cc g.pc = .ok (.aastore, 1))
    (kk : ∀ H' : Heap, H'[a]? = some (cell.setSlot j.toNatClampNeg .null) → H'.size = H.size → (∀ q, q ≠ a → H'[q]? = H[q]?) → W p l e R s m args below meth c H' (locs ++ [⟨a, j.toNatClampNeg⟩]) cells slots Q { g with pc := g.pc + 1, stack := rest }) :
    W p l e R s m args below meth c H locs cells slots Q g := by
  intro T hT X
  have hT' : T.heap[a]? = some cell := by rw [hT]; exact hcell
  have harr' := State.isArrayOf_alike X.warmed.alike harr
  have hfit : T.fitsSlot cell.cls cell.vm j.toNatClampNeg .null = true := by
    obtain ⟨hobj, k, hk, comp, hkind⟩ := harr'
    cases hvm : cell.vm <;> first | exact absurd hvm (hobj _) | (cases ty <;> first | (simp [FieldType.isReference] at href; done) | simp [State.fitsSlot, State.slotType?, hk, hkind, fits])
  have X' := X.stored hT' j.toNatClampNeg .null
  have hlt : a < T.heap.size := (Array.getElem?_eq_some_iff.mp hT').1
  obtain ⟨t', a1, b1⟩ := kk _ (heapAt_setCell_self _ hlt) (by rw [size_setCell, hT]) (fun q hq => by rw [heapAt_setCell_ne _ (Ne.symm hq), hT]) (T.setCell a (cell.setSlot j.toNatClampNeg .null)) rfl X'
  refine ⟨t', ?_, b1⟩
  subst hg; subst hb
  jvm_step X.here [hexec, hdg]
  refine aastore.wp_of_null (c := cell) (t := ty) X.here.top hstack hT' harr' hin hknown (Nat.not_le.mp fun q => hin (Or.inr q)) hfit ?_
  intro acts
  rw [afterInstr_ok]
  exact a1
theorem zald (hx : p.tables.exec = Jvm.exec) (hb : c.code = cc) (hw : Wd Γ A K X Rf s H locs) {n : Nat} (hk : K a = (2, n)) {z : Int} (h0 : 0 ≤ z ∧ z < n) (hn : n < 2147483648) (hdg : decode cc pc = .ok (.iaload, 1)) (kk : W p l e R s m args below meth c H locs cells slots Q (F0 m (pc + 1) ls (.int (iI (X a z.toNat)) :: rest))) : W p l e R s m args below meth c H locs cells slots Q (F0 m pc ls (.int (iI z) :: .ref a :: rest)) := by
  obtain ⟨hKn, hA, hS, L, hL, hP, hD⟩ := hw
  obtain ⟨q, hq0⟩ := zat (Γ := Γ) (X := X) (Rf := Rf) hL (a := a) (by rw [hk]; exact Nat.succ_ne_zero _)
  have hq := hq0
  rw [zc2 hk] at hq
  refine va_iald (D := Γ.1) hx hb hKn.1 hP q 0 hq rfl (iI_in h0.1 h0.2 hn) hdg ?_
  rw [iI_cl h0.1 (by omega)]
  exact kk
theorem zbald (hx : p.tables.exec = Jvm.exec) (hb : c.code = cc) (hw : Wd Γ A K X Rf s H locs) {n : Nat} (hk : K a = (3, n)) {z : Int} (h0 : 0 ≤ z ∧ z < n) (hn : n < 2147483648) (hdg : decode cc pc = .ok (.baload, 1)) (kk : W p l e R s m args below meth c H locs cells slots Q (F0 m (pc + 1) ls (.int (iI (X a z.toNat)) :: rest))) : W p l e R s m args below meth c H locs cells slots Q (F0 m pc ls (.int (iI z) :: .ref a :: rest)) := by
  obtain ⟨hKn, hA, hS, L, hL, hP, hD⟩ := hw
  obtain ⟨q, hq0⟩ := zat (Γ := Γ) (X := X) (Rf := Rf) hL (a := a) (by rw [hk]; exact Nat.succ_ne_zero _)
  have hq := hq0
  rw [zc3 hk] at hq
  refine va_bald (D := Γ.1) hx hb hKn.1 hP q 1 hq rfl (iI_in h0.1 h0.2 hn) hdg ?_
  rw [iI_cl h0.1 (by omega)]
  exact kk
theorem zaald0 (hx : p.tables.exec = Jvm.exec) (hb : c.code = cc) (hw : Wd Γ A K X Rf s H locs) {n : Nat} (hk : K a = (0 + 6, n)) {z : Int} (h0 : 0 ≤ z ∧ z < n) (hn : n < 2147483648) (hdg : decode cc pc = .ok (.aaload, 1)) (kk : W p l e R s m args below meth c H locs cells slots Q (F0 m (pc + 1) ls (va_rf (Rf a z.toNat) :: rest))) : W p l e R s m args below meth c H locs cells slots Q (F0 m pc ls (.int (iI z) :: .ref a :: rest)) := by
  obtain ⟨hKn, hA, hS, L, hL, hP, hD⟩ := hw
  obtain ⟨q, hq0⟩ := zat (Γ := Γ) (X := X) (Rf := Rf) hL (a := a) (by rw [hk]; exact Nat.succ_ne_zero _)
  have hq := hq0
  rw [zcq hk] at hq
  refine va_aldq (D := Γ.1) hx hb hKn.1 hP q 4 hq rfl (iI_in h0.1 h0.2 hn) hdg ?_
  rw [iI_cl h0.1 (by omega)]
  exact kk
theorem zaald1 (hx : p.tables.exec = Jvm.exec) (hb : c.code = cc) (hw : Wd Γ A K X Rf s H locs) {n : Nat} (hk : K a = (1 + 6, n)) {z : Int} (h0 : 0 ≤ z ∧ z < n) (hn : n < 2147483648) (hdg : decode cc pc = .ok (.aaload, 1)) (kk : W p l e R s m args below meth c H locs cells slots Q (F0 m (pc + 1) ls (va_rf (Rf a z.toNat) :: rest))) : W p l e R s m args below meth c H locs cells slots Q (F0 m pc ls (.int (iI z) :: .ref a :: rest)) := by
  obtain ⟨hKn, hA, hS, L, hL, hP, hD⟩ := hw
  obtain ⟨q, hq0⟩ := zat (Γ := Γ) (X := X) (Rf := Rf) hL (a := a) (by rw [hk]; exact Nat.succ_ne_zero _)
  have hq := hq0
  rw [zcq hk] at hq
  refine va_aldq (D := Γ.1) hx hb hKn.1 hP q 5 hq rfl (iI_in h0.1 h0.2 hn) hdg ?_
  rw [iI_cl h0.1 (by omega)]
  exact kk
theorem zaald2 (hx : p.tables.exec = Jvm.exec) (hb : c.code = cc) (hw : Wd Γ A K X Rf s H locs) {n : Nat} (hk : K a = (2 + 6, n)) {z : Int} (h0 : 0 ≤ z ∧ z < n) (hn : n < 2147483648) (hdg : decode cc pc = .ok (.aaload, 1)) (kk : W p l e R s m args below meth c H locs cells slots Q (F0 m (pc + 1) ls (va_rf (Rf a z.toNat) :: rest))) : W p l e R s m args below meth c H locs cells slots Q (F0 m pc ls (.int (iI z) :: .ref a :: rest)) := by
  obtain ⟨hKn, hA, hS, L, hL, hP, hD⟩ := hw
  obtain ⟨q, hq0⟩ := zat (Γ := Γ) (X := X) (Rf := Rf) hL (a := a) (by rw [hk]; exact Nat.succ_ne_zero _)
  have hq := hq0
  rw [zcq hk] at hq
  refine va_aldq (D := Γ.1) hx hb hKn.1 hP q 6 hq rfl (iI_in h0.1 h0.2 hn) hdg ?_
  rw [iI_cl h0.1 (by omega)]
  exact kk
theorem zaald3 (hx : p.tables.exec = Jvm.exec) (hb : c.code = cc) (hw : Wd Γ A K X Rf s H locs) {n : Nat} (hk : K a = (3 + 6, n)) {z : Int} (h0 : 0 ≤ z ∧ z < n) (hn : n < 2147483648) (hdg : decode cc pc = .ok (.aaload, 1)) (kk : W p l e R s m args below meth c H locs cells slots Q (F0 m (pc + 1) ls (va_rf (Rf a z.toNat) :: rest))) : W p l e R s m args below meth c H locs cells slots Q (F0 m pc ls (.int (iI z) :: .ref a :: rest)) := by
  obtain ⟨hKn, hA, hS, L, hL, hP, hD⟩ := hw
  obtain ⟨q, hq0⟩ := zat (Γ := Γ) (X := X) (Rf := Rf) hL (a := a) (by rw [hk]; exact Nat.succ_ne_zero _)
  have hq := hq0
  rw [zcq hk] at hq
  refine va_aldq (D := Γ.1) hx hb hKn.1 hP q 7 hq rfl (iI_in h0.1 h0.2 hn) hdg ?_
  rw [iI_cl h0.1 (by omega)]
  exact kk
theorem zaald4 (hx : p.tables.exec = Jvm.exec) (hb : c.code = cc) (hw : Wd Γ A K X Rf s H locs) {n : Nat} (hk : K a = (4 + 6, n)) {z : Int} (h0 : 0 ≤ z ∧ z < n) (hn : n < 2147483648) (hdg : decode cc pc = .ok (.aaload, 1)) (kk : W p l e R s m args below meth c H locs cells slots Q (F0 m (pc + 1) ls (va_rf (Rf a z.toNat) :: rest))) : W p l e R s m args below meth c H locs cells slots Q (F0 m pc ls (.int (iI z) :: .ref a :: rest)) := by
  obtain ⟨hKn, hA, hS, L, hL, hP, hD⟩ := hw
  obtain ⟨q, hq0⟩ := zat (Γ := Γ) (X := X) (Rf := Rf) hL (a := a) (by rw [hk]; exact Nat.succ_ne_zero _)
  have hq := hq0
  rw [zcq hk] at hq
  refine va_aldq (D := Γ.1) hx hb hKn.1 hP q 8 hq rfl (iI_in h0.1 h0.2 hn) hdg ?_
  rw [iI_cl h0.1 (by omega)]
  exact kk
theorem zaaldR0 (hx : p.tables.exec = Jvm.exec) (hb : c.code = cc) (hw : Wd Γ A K X Rf s H locs) {n : Nat} (hk : K a = (0 + 6, n)) {z : Int} (h0 : 0 ≤ z ∧ z < n) (hn : n < 2147483648) {b : Nat} (hr : Rf a z.toNat = some b) (hdg : decode cc pc = .ok (.aaload, 1)) (kk : W p l e R s m args below meth c H locs cells slots Q (F0 m (pc + 1) ls (.ref b :: rest))) : W p l e R s m args below meth c H locs cells slots Q (F0 m pc ls (.int (iI z) :: .ref a :: rest)) := zaald0 hx hb hw hk h0 hn hdg (by rw [hr]; exact kk)
theorem zaaldQ0 (hx : p.tables.exec = Jvm.exec) (hb : c.code = cc) (hw : Wd Γ A K X Rf s H locs) {n : Nat} (hk : K a = (0 + 6, n)) {z : Int} (h0 : 0 ≤ z ∧ z < n) (hn : n < 2147483648) (hdg : decode cc pc = .ok (.aaload, 1)) (kn : Rf a z.toNat = none → W p l e R s m args below meth c H locs cells slots Q (F0 m (pc + 1) ls (.null :: rest))) (ks : ∀ b, Rf a z.toNat = some b → W p l e R s m args below meth c H locs cells slots Q (F0 m (pc + 1) ls (.ref b :: rest))) : W p l e R s m args below meth c H locs cells slots Q (F0 m pc ls (.int (iI z) :: .ref a :: rest)) := by
  cases hr : Rf a z.toNat with
  | none => exact zaald0 hx hb hw hk h0 hn hdg (by rw [hr]; exact kn hr)
  | some b => exact zaald0 hx hb hw hk h0 hn hdg (by rw [hr]; exact ks b hr)
theorem zaaldR1 (hx : p.tables.exec = Jvm.exec) (hb : c.code = cc) (hw : Wd Γ A K X Rf s H locs) {n : Nat} (hk : K a = (1 + 6, n)) {z : Int} (h0 : 0 ≤ z ∧ z < n) (hn : n < 2147483648) {b : Nat} (hr : Rf a z.toNat = some b) (hdg : decode cc pc = .ok (.aaload, 1)) (kk : W p l e R s m args below meth c H locs cells slots Q (F0 m (pc + 1) ls (.ref b :: rest))) : W p l e R s m args below meth c H locs cells slots Q (F0 m pc ls (.int (iI z) :: .ref a :: rest)) := zaald1 hx hb hw hk h0 hn hdg (by rw [hr]; exact kk)
theorem zaaldQ1 (hx : p.tables.exec = Jvm.exec) (hb : c.code = cc) (hw : Wd Γ A K X Rf s H locs) {n : Nat} (hk : K a = (1 + 6, n)) {z : Int} (h0 : 0 ≤ z ∧ z < n) (hn : n < 2147483648) (hdg : decode cc pc = .ok (.aaload, 1)) (kn : Rf a z.toNat = none → W p l e R s m args below meth c H locs cells slots Q (F0 m (pc + 1) ls (.null :: rest))) (ks : ∀ b, Rf a z.toNat = some b → W p l e R s m args below meth c H locs cells slots Q (F0 m (pc + 1) ls (.ref b :: rest))) : W p l e R s m args below meth c H locs cells slots Q (F0 m pc ls (.int (iI z) :: .ref a :: rest)) := by
  cases hr : Rf a z.toNat with
  | none => exact zaald1 hx hb hw hk h0 hn hdg (by rw [hr]; exact kn hr)
  | some b => exact zaald1 hx hb hw hk h0 hn hdg (by rw [hr]; exact ks b hr)
theorem zaaldR2 (hx : p.tables.exec = Jvm.exec) (hb : c.code = cc) (hw : Wd Γ A K X Rf s H locs) {n : Nat} (hk : K a = (2 + 6, n)) {z : Int} (h0 : 0 ≤ z ∧ z < n) (hn : n < 2147483648) {b : Nat} (hr : Rf a z.toNat = some b) (hdg : decode cc pc = .ok (.aaload, 1)) (kk : W p l e R s m args below meth c H locs cells slots Q (F0 m (pc + 1) ls (.ref b :: rest))) : W p l e R s m args below meth c H locs cells slots Q (F0 m pc ls (.int (iI z) :: .ref a :: rest)) := zaald2 hx hb hw hk h0 hn hdg (by rw [hr]; exact kk)
theorem zaaldQ2 (hx : p.tables.exec = Jvm.exec) (hb : c.code = cc) (hw : Wd Γ A K X Rf s H locs) {n : Nat} (hk : K a = (2 + 6, n)) {z : Int} (h0 : 0 ≤ z ∧ z < n) (hn : n < 2147483648) (hdg : decode cc pc = .ok (.aaload, 1)) (kn : Rf a z.toNat = none → W p l e R s m args below meth c H locs cells slots Q (F0 m (pc + 1) ls (.null :: rest))) (ks : ∀ b, Rf a z.toNat = some b → W p l e R s m args below meth c H locs cells slots Q (F0 m (pc + 1) ls (.ref b :: rest))) : W p l e R s m args below meth c H locs cells slots Q (F0 m pc ls (.int (iI z) :: .ref a :: rest)) := by
  cases hr : Rf a z.toNat with
  | none => exact zaald2 hx hb hw hk h0 hn hdg (by rw [hr]; exact kn hr)
  | some b => exact zaald2 hx hb hw hk h0 hn hdg (by rw [hr]; exact ks b hr)
theorem zaaldR3 (hx : p.tables.exec = Jvm.exec) (hb : c.code = cc) (hw : Wd Γ A K X Rf s H locs) {n : Nat} (hk : K a = (3 + 6, n)) {z : Int} (h0 : 0 ≤ z ∧ z < n) (hn : n < 2147483648) {b : Nat} (hr : Rf a z.toNat = some b) (hdg : decode cc pc = .ok (.aaload, 1)) (kk : W p l e R s m args below meth c H locs cells slots Q (F0 m (pc + 1) ls (.ref b :: rest))) : W p l e R s m args below meth c H locs cells slots Q (F0 m pc ls (.int (iI z) :: .ref a :: rest)) := zaald3 hx hb hw hk h0 hn hdg (by rw [hr]; exact kk)
theorem zaaldQ3 (hx : p.tables.exec = Jvm.exec) (hb : c.code = cc) (hw : Wd Γ A K X Rf s H locs) {n : Nat} (hk : K a = (3 + 6, n)) {z : Int} (h0 : 0 ≤ z ∧ z < n) (hn : n < 2147483648) (hdg : decode cc pc = .ok (.aaload, 1)) (kn : Rf a z.toNat = none → W p l e R s m args below meth c H locs cells slots Q (F0 m (pc + 1) ls (.null :: rest))) (ks : ∀ b, Rf a z.toNat = some b → W p l e R s m args below meth c H locs cells slots Q (F0 m (pc + 1) ls (.ref b :: rest))) : W p l e R s m args below meth c H locs cells slots Q (F0 m pc ls (.int (iI z) :: .ref a :: rest)) := by
  cases hr : Rf a z.toNat with
  | none => exact zaald3 hx hb hw hk h0 hn hdg (by rw [hr]; exact kn hr)
  | some b => exact zaald3 hx hb hw hk h0 hn hdg (by rw [hr]; exact ks b hr)
theorem zaaldR4 (hx : p.tables.exec = Jvm.exec) (hb : c.code = cc) (hw : Wd Γ A K X Rf s H locs) {n : Nat} (hk : K a = (4 + 6, n)) {z : Int} (h0 : 0 ≤ z ∧ z < n) (hn : n < 2147483648) {b : Nat} (hr : Rf a z.toNat = some b) (hdg : decode cc pc = .ok (.aaload, 1)) (kk : W p l e R s m args below meth c H locs cells slots Q (F0 m (pc + 1) ls (.ref b :: rest))) : W p l e R s m args below meth c H locs cells slots Q (F0 m pc ls (.int (iI z) :: .ref a :: rest)) := zaald4 hx hb hw hk h0 hn hdg (by rw [hr]; exact kk)
theorem zaaldQ4 (hx : p.tables.exec = Jvm.exec) (hb : c.code = cc) (hw : Wd Γ A K X Rf s H locs) {n : Nat} (hk : K a = (4 + 6, n)) {z : Int} (h0 : 0 ≤ z ∧ z < n) (hn : n < 2147483648) (hdg : decode cc pc = .ok (.aaload, 1)) (kn : Rf a z.toNat = none → W p l e R s m args below meth c H locs cells slots Q (F0 m (pc + 1) ls (.null :: rest))) (ks : ∀ b, Rf a z.toNat = some b → W p l e R s m args below meth c H locs cells slots Q (F0 m (pc + 1) ls (.ref b :: rest))) : W p l e R s m args below meth c H locs cells slots Q (F0 m pc ls (.int (iI z) :: .ref a :: rest)) := by
  cases hr : Rf a z.toNat with
  | none => exact zaald4 hx hb hw hk h0 hn hdg (by rw [hr]; exact kn hr)
  | some b => exact zaald4 hx hb hw hk h0 hn hdg (by rw [hr]; exact ks b hr)
theorem zlen2 (hx : p.tables.exec = Jvm.exec) (hb : c.code = cc) (hw : Wd Γ A K X Rf s H locs) {n : Nat} (hk : K a = (2, n)) (hdg : decode cc pc = .ok (.arraylength, 1)) (kk : W p l e R s m args below meth c H locs cells slots Q (F0 m (pc + 1) ls (.int (iI (n : Int)) :: rest))) : W p l e R s m args below meth c H locs cells slots Q (F0 m pc ls (.ref a :: rest)) := by
  obtain ⟨hKn, hA, hS, L, hL, hP, hD⟩ := hw
  obtain ⟨q, hq0⟩ := zat (Γ := Γ) (X := X) (Rf := Rf) hL (a := a) (by rw [hk]; exact Nat.succ_ne_zero _)
  have hq := hq0
  rw [zc2 hk] at hq
  exact va_alen (D := Γ.1) hx hb hKn.1 hP q 0 hq rfl rfl hdg kk
theorem zlen3 (hx : p.tables.exec = Jvm.exec) (hb : c.code = cc) (hw : Wd Γ A K X Rf s H locs) {n : Nat} (hk : K a = (3, n)) (hdg : decode cc pc = .ok (.arraylength, 1)) (kk : W p l e R s m args below meth c H locs cells slots Q (F0 m (pc + 1) ls (.int (iI (n : Int)) :: rest))) : W p l e R s m args below meth c H locs cells slots Q (F0 m pc ls (.ref a :: rest)) := by
  obtain ⟨hKn, hA, hS, L, hL, hP, hD⟩ := hw
  obtain ⟨q, hq0⟩ := zat (Γ := Γ) (X := X) (Rf := Rf) hL (a := a) (by rw [hk]; exact Nat.succ_ne_zero _)
  have hq := hq0
  rw [zc3 hk] at hq
  exact va_alen (D := Γ.1) hx hb hKn.1 hP q 1 hq rfl rfl hdg kk
theorem zlen6 (hx : p.tables.exec = Jvm.exec) (hb : c.code = cc) (hw : Wd Γ A K X Rf s H locs) {n : Nat} (hk : K a = (0 + 6, n)) (hdg : decode cc pc = .ok (.arraylength, 1)) (kk : W p l e R s m args below meth c H locs cells slots Q (F0 m (pc + 1) ls (.int (iI (n : Int)) :: rest))) : W p l e R s m args below meth c H locs cells slots Q (F0 m pc ls (.ref a :: rest)) := by
  obtain ⟨hKn, hA, hS, L, hL, hP, hD⟩ := hw
  obtain ⟨q, hq0⟩ := zat (Γ := Γ) (X := X) (Rf := Rf) hL (a := a) (by rw [hk]; exact Nat.succ_ne_zero _)
  have hq := hq0
  rw [zcq hk] at hq
  exact va_alen (D := Γ.1) hx hb hKn.1 hP q 4 hq rfl rfl hdg kk
theorem zlen7 (hx : p.tables.exec = Jvm.exec) (hb : c.code = cc) (hw : Wd Γ A K X Rf s H locs) {n : Nat} (hk : K a = (1 + 6, n)) (hdg : decode cc pc = .ok (.arraylength, 1)) (kk : W p l e R s m args below meth c H locs cells slots Q (F0 m (pc + 1) ls (.int (iI (n : Int)) :: rest))) : W p l e R s m args below meth c H locs cells slots Q (F0 m pc ls (.ref a :: rest)) := by
  obtain ⟨hKn, hA, hS, L, hL, hP, hD⟩ := hw
  obtain ⟨q, hq0⟩ := zat (Γ := Γ) (X := X) (Rf := Rf) hL (a := a) (by rw [hk]; exact Nat.succ_ne_zero _)
  have hq := hq0
  rw [zcq hk] at hq
  exact va_alen (D := Γ.1) hx hb hKn.1 hP q 5 hq rfl rfl hdg kk
theorem zlen8 (hx : p.tables.exec = Jvm.exec) (hb : c.code = cc) (hw : Wd Γ A K X Rf s H locs) {n : Nat} (hk : K a = (2 + 6, n)) (hdg : decode cc pc = .ok (.arraylength, 1)) (kk : W p l e R s m args below meth c H locs cells slots Q (F0 m (pc + 1) ls (.int (iI (n : Int)) :: rest))) : W p l e R s m args below meth c H locs cells slots Q (F0 m pc ls (.ref a :: rest)) := by
  obtain ⟨hKn, hA, hS, L, hL, hP, hD⟩ := hw
  obtain ⟨q, hq0⟩ := zat (Γ := Γ) (X := X) (Rf := Rf) hL (a := a) (by rw [hk]; exact Nat.succ_ne_zero _)
  have hq := hq0
  rw [zcq hk] at hq
  exact va_alen (D := Γ.1) hx hb hKn.1 hP q 6 hq rfl rfl hdg kk
theorem zlen9 (hx : p.tables.exec = Jvm.exec) (hb : c.code = cc) (hw : Wd Γ A K X Rf s H locs) {n : Nat} (hk : K a = (3 + 6, n)) (hdg : decode cc pc = .ok (.arraylength, 1)) (kk : W p l e R s m args below meth c H locs cells slots Q (F0 m (pc + 1) ls (.int (iI (n : Int)) :: rest))) : W p l e R s m args below meth c H locs cells slots Q (F0 m pc ls (.ref a :: rest)) := by
  obtain ⟨hKn, hA, hS, L, hL, hP, hD⟩ := hw
  obtain ⟨q, hq0⟩ := zat (Γ := Γ) (X := X) (Rf := Rf) hL (a := a) (by rw [hk]; exact Nat.succ_ne_zero _)
  have hq := hq0
  rw [zcq hk] at hq
  exact va_alen (D := Γ.1) hx hb hKn.1 hP q 7 hq rfl rfl hdg kk
theorem zlen10 (hx : p.tables.exec = Jvm.exec) (hb : c.code = cc) (hw : Wd Γ A K X Rf s H locs) {n : Nat} (hk : K a = (4 + 6, n)) (hdg : decode cc pc = .ok (.arraylength, 1)) (kk : W p l e R s m args below meth c H locs cells slots Q (F0 m (pc + 1) ls (.int (iI (n : Int)) :: rest))) : W p l e R s m args below meth c H locs cells slots Q (F0 m pc ls (.ref a :: rest)) := by
  obtain ⟨hKn, hA, hS, L, hL, hP, hD⟩ := hw
  obtain ⟨q, hq0⟩ := zat (Γ := Γ) (X := X) (Rf := Rf) hL (a := a) (by rw [hk]; exact Nat.succ_ne_zero _)
  have hq := hq0
  rw [zcq hk] at hq
  exact va_alen (D := Γ.1) hx hb hKn.1 hP q 8 hq rfl rfl hdg kk
theorem zast (hx : p.tables.exec = Jvm.exec) (hb : c.code = cc) (hw : Wd Γ A K X Rf s H locs) {n : Nat} (hk : K a = (2, n)) {z y : Int} (h0 : 0 ≤ z ∧ z < n) (hn : n < 2147483648)  (hdg : decode cc pc = .ok (.iastore, 1)) (kk : ∀ (H1 : Heap) (locs1 : List Loc), Wd Γ A K (up2 X a z.toNat y) Rf s H1 locs1 → W p l e R s m args below meth c H1 locs1 cells slots Q (F0 m (pc + 1) ls rest)) : W p l e R s m args below meth c H locs cells slots Q (F0 m pc ls (.int (iI y) :: .int (iI z) :: .ref a :: rest)) := by
  obtain ⟨hKn, hA, hS, L, hL, hP, hD⟩ := hw
  obtain ⟨q, hq0⟩ := zat (Γ := Γ) (X := X) (Rf := Rf) hL (a := a) (by rw [hk]; exact Nat.succ_ne_zero _)
  have hq := hq0
  rw [zc2 hk] at hq
  refine va_iast (D := Γ.1) hx hb hKn.1 hP hD hS q 0 hq rfl (iI_in h0.1 h0.2 hn) hdg (fun H1 locs1 hP1 hD1 hS1 => kk H1 locs1 ?_)
  have e1 : zc Γ K (up2 X a z.toNat y) Rf a = .inl (Γ.2 0, n, .inl (upd (fun j => iI (X a j)) (iI z).toNatClampNeg (iI y))) := by
    rw [zc2 hk, iI_cl h0.1 (by omega)]
    congr 4
    funext j
    by_cases hj : j = z.toNat
    · subst hj; simp [up2, upd, vp_updL, vf_upd]
    · simp [up2, upd, vp_updL, vf_upd, hj]
  rw [← e1, va_pl_set hD ((hL a).mpr (by rw [hk]; exact Nat.succ_ne_zero _)) hq0, zset (fun b hb => ⟨funext fun j => up2_a hb, rfl⟩)] at hP1 hD1
  exact ⟨hKn, hA, hS1, L, hL, hP1, hD1⟩
theorem zbast (hx : p.tables.exec = Jvm.exec) (hb : c.code = cc) (hw : Wd Γ A K X Rf s H locs) {n : Nat} (hk : K a = (3, n)) {z y : Int} (h0 : 0 ≤ z ∧ z < n) (hn : n < 2147483648) (hnar : vp_nar .byte (iI y) = iI y) (hdg : decode cc pc = .ok (.bastore, 1)) (kk : ∀ (H1 : Heap) (locs1 : List Loc), Wd Γ A K (up2 X a z.toNat y) Rf s H1 locs1 → W p l e R s m args below meth c H1 locs1 cells slots Q (F0 m (pc + 1) ls rest)) : W p l e R s m args below meth c H locs cells slots Q (F0 m pc ls (.int (iI y) :: .int (iI z) :: .ref a :: rest)) := by
  obtain ⟨hKn, hA, hS, L, hL, hP, hD⟩ := hw
  obtain ⟨q, hq0⟩ := zat (Γ := Γ) (X := X) (Rf := Rf) hL (a := a) (by rw [hk]; exact Nat.succ_ne_zero _)
  have hq := hq0
  rw [zc3 hk] at hq
  refine va_bast (D := Γ.1) hx hb hKn.1 hP hD hS q 1 hq rfl (iI_in h0.1 h0.2 hn) hdg (fun H1 locs1 hP1 hD1 hS1 => kk H1 locs1 ?_)
  have e1 : zc Γ K (up2 X a z.toNat y) Rf a = .inl (Γ.2 1, n, .inl (upd (fun j => iI (X a j)) (iI z).toNatClampNeg (vp_nar .byte (iI y)))) := by
    rw [zc3 hk, iI_cl h0.1 (by omega)]
    congr 4
    funext j
    by_cases hj : j = z.toNat
    · subst hj; simp [up2, upd, vp_updL, vf_upd, hnar]
    · simp [up2, upd, vp_updL, vf_upd, hj]
  rw [← e1, va_pl_set hD ((hL a).mpr (by rw [hk]; exact Nat.succ_ne_zero _)) hq0, zset (fun b hb => ⟨funext fun j => up2_a hb, rfl⟩)] at hP1 hD1
  exact ⟨hKn, hA, hS1, L, hL, hP1, hD1⟩
theorem zaast0 (hx : p.tables.exec = Jvm.exec) (hb : c.code = cc) (hw : Wd Γ A K X Rf s H locs) {n b : Nat} (hk : K a = (0 + 6, n)) (hkb : K b = (1, 2)) {z : Int} (h0 : 0 ≤ z ∧ z < n) (hn : n < 2147483648) (hdg : decode cc pc = .ok (.aastore, 1)) (kk : ∀ (H1 : Heap) (locs1 : List Loc), Wd Γ A K X (up2 Rf a z.toNat (some b)) s H1 locs1 → W p l e R s m args below meth c H1 locs1 cells slots Q (F0 m (pc + 1) ls rest)) : W p l e R s m args below meth c H locs cells slots Q (F0 m pc ls (.ref b :: .int (iI z) :: .ref a :: rest)) := by
  obtain ⟨hKn, hA, hS, L, hL, hP, hD⟩ := hw
  obtain ⟨q, hq0⟩ := zat (Γ := Γ) (X := X) (Rf := Rf) hL (a := a) (by rw [hk]; exact Nat.succ_ne_zero _)
  have hq := hq0
  rw [zcq hk] at hq
  obtain ⟨qb, hqb⟩ := zat (Γ := Γ) (X := X) (Rf := Rf) hL (a := b) (by rw [hkb]; exact Nat.succ_ne_zero _)
  rw [zc1 hkb] at hqb
  refine va_astq (D := Γ.1) hx hb hKn.1 hP hD hS q 4 qb 2 hq rfl hqb rfl (iI_in h0.1 h0.2 hn) hdg (fun H1 locs1 hP1 hD1 hS1 => kk H1 locs1 ?_)
  have e1 : zc Γ K X (up2 Rf a z.toNat (some b)) a = .inl (Γ.2 (0 + 4), n, .inr (.inr (.inr (.inr (va_up (Rf a) (iI z).toNatClampNeg (some b)))))) := by
    rw [zcq hk, iI_cl h0.1 (by omega)]
    congr 7
    funext j
    by_cases hj : j = z.toNat
    · subst hj; simp [up2, va_up]
    · simp [up2, va_up, hj]
  rw [← e1, va_pl_set hD ((hL a).mpr (by rw [hk]; exact Nat.succ_ne_zero _)) hq0, zset (fun b hb => ⟨rfl, funext fun j => up2_a hb⟩)] at hP1 hD1
  exact ⟨hKn, hA, hS1, L, hL, hP1, hD1⟩
theorem zaast1 (hx : p.tables.exec = Jvm.exec) (hb : c.code = cc) (hw : Wd Γ A K X Rf s H locs) {n b : Nat} (hk : K a = (1 + 6, n)) (hkb : K b = (1, 3)) {z : Int} (h0 : 0 ≤ z ∧ z < n) (hn : n < 2147483648) (hdg : decode cc pc = .ok (.aastore, 1)) (kk : ∀ (H1 : Heap) (locs1 : List Loc), Wd Γ A K X (up2 Rf a z.toNat (some b)) s H1 locs1 → W p l e R s m args below meth c H1 locs1 cells slots Q (F0 m (pc + 1) ls rest)) : W p l e R s m args below meth c H locs cells slots Q (F0 m pc ls (.ref b :: .int (iI z) :: .ref a :: rest)) := by
  obtain ⟨hKn, hA, hS, L, hL, hP, hD⟩ := hw
  obtain ⟨q, hq0⟩ := zat (Γ := Γ) (X := X) (Rf := Rf) hL (a := a) (by rw [hk]; exact Nat.succ_ne_zero _)
  have hq := hq0
  rw [zcq hk] at hq
  obtain ⟨qb, hqb⟩ := zat (Γ := Γ) (X := X) (Rf := Rf) hL (a := b) (by rw [hkb]; exact Nat.succ_ne_zero _)
  rw [zc1 hkb] at hqb
  refine va_astq (D := Γ.1) hx hb hKn.1 hP hD hS q 5 qb 3 hq rfl hqb rfl (iI_in h0.1 h0.2 hn) hdg (fun H1 locs1 hP1 hD1 hS1 => kk H1 locs1 ?_)
  have e1 : zc Γ K X (up2 Rf a z.toNat (some b)) a = .inl (Γ.2 (1 + 4), n, .inr (.inr (.inr (.inr (va_up (Rf a) (iI z).toNatClampNeg (some b)))))) := by
    rw [zcq hk, iI_cl h0.1 (by omega)]
    congr 7
    funext j
    by_cases hj : j = z.toNat
    · subst hj; simp [up2, va_up]
    · simp [up2, va_up, hj]
  rw [← e1, va_pl_set hD ((hL a).mpr (by rw [hk]; exact Nat.succ_ne_zero _)) hq0, zset (fun b hb => ⟨rfl, funext fun j => up2_a hb⟩)] at hP1 hD1
  exact ⟨hKn, hA, hS1, L, hL, hP1, hD1⟩
theorem zaast2 (hx : p.tables.exec = Jvm.exec) (hb : c.code = cc) (hw : Wd Γ A K X Rf s H locs) {n b : Nat} (hk : K a = (2 + 6, n)) (hkb : K b = (1, 4)) {z : Int} (h0 : 0 ≤ z ∧ z < n) (hn : n < 2147483648) (hdg : decode cc pc = .ok (.aastore, 1)) (kk : ∀ (H1 : Heap) (locs1 : List Loc), Wd Γ A K X (up2 Rf a z.toNat (some b)) s H1 locs1 → W p l e R s m args below meth c H1 locs1 cells slots Q (F0 m (pc + 1) ls rest)) : W p l e R s m args below meth c H locs cells slots Q (F0 m pc ls (.ref b :: .int (iI z) :: .ref a :: rest)) := by
  obtain ⟨hKn, hA, hS, L, hL, hP, hD⟩ := hw
  obtain ⟨q, hq0⟩ := zat (Γ := Γ) (X := X) (Rf := Rf) hL (a := a) (by rw [hk]; exact Nat.succ_ne_zero _)
  have hq := hq0
  rw [zcq hk] at hq
  obtain ⟨qb, hqb⟩ := zat (Γ := Γ) (X := X) (Rf := Rf) hL (a := b) (by rw [hkb]; exact Nat.succ_ne_zero _)
  rw [zc1 hkb] at hqb
  refine va_astq (D := Γ.1) hx hb hKn.1 hP hD hS q 6 qb 4 hq rfl hqb rfl (iI_in h0.1 h0.2 hn) hdg (fun H1 locs1 hP1 hD1 hS1 => kk H1 locs1 ?_)
  have e1 : zc Γ K X (up2 Rf a z.toNat (some b)) a = .inl (Γ.2 (2 + 4), n, .inr (.inr (.inr (.inr (va_up (Rf a) (iI z).toNatClampNeg (some b)))))) := by
    rw [zcq hk, iI_cl h0.1 (by omega)]
    congr 7
    funext j
    by_cases hj : j = z.toNat
    · subst hj; simp [up2, va_up]
    · simp [up2, va_up, hj]
  rw [← e1, va_pl_set hD ((hL a).mpr (by rw [hk]; exact Nat.succ_ne_zero _)) hq0, zset (fun b hb => ⟨rfl, funext fun j => up2_a hb⟩)] at hP1 hD1
  exact ⟨hKn, hA, hS1, L, hL, hP1, hD1⟩
theorem zaast3 (hx : p.tables.exec = Jvm.exec) (hb : c.code = cc) (hw : Wd Γ A K X Rf s H locs) {n b : Nat} (hk : K a = (3 + 6, n)) (hkb : K b = (1, 5)) {z : Int} (h0 : 0 ≤ z ∧ z < n) (hn : n < 2147483648) (hdg : decode cc pc = .ok (.aastore, 1)) (kk : ∀ (H1 : Heap) (locs1 : List Loc), Wd Γ A K X (up2 Rf a z.toNat (some b)) s H1 locs1 → W p l e R s m args below meth c H1 locs1 cells slots Q (F0 m (pc + 1) ls rest)) : W p l e R s m args below meth c H locs cells slots Q (F0 m pc ls (.ref b :: .int (iI z) :: .ref a :: rest)) := by
  obtain ⟨hKn, hA, hS, L, hL, hP, hD⟩ := hw
  obtain ⟨q, hq0⟩ := zat (Γ := Γ) (X := X) (Rf := Rf) hL (a := a) (by rw [hk]; exact Nat.succ_ne_zero _)
  have hq := hq0
  rw [zcq hk] at hq
  obtain ⟨qb, hqb⟩ := zat (Γ := Γ) (X := X) (Rf := Rf) hL (a := b) (by rw [hkb]; exact Nat.succ_ne_zero _)
  rw [zc1 hkb] at hqb
  refine va_astq (D := Γ.1) hx hb hKn.1 hP hD hS q 7 qb 5 hq rfl hqb rfl (iI_in h0.1 h0.2 hn) hdg (fun H1 locs1 hP1 hD1 hS1 => kk H1 locs1 ?_)
  have e1 : zc Γ K X (up2 Rf a z.toNat (some b)) a = .inl (Γ.2 (3 + 4), n, .inr (.inr (.inr (.inr (va_up (Rf a) (iI z).toNatClampNeg (some b)))))) := by
    rw [zcq hk, iI_cl h0.1 (by omega)]
    congr 7
    funext j
    by_cases hj : j = z.toNat
    · subst hj; simp [up2, va_up]
    · simp [up2, va_up, hj]
  rw [← e1, va_pl_set hD ((hL a).mpr (by rw [hk]; exact Nat.succ_ne_zero _)) hq0, zset (fun b hb => ⟨rfl, funext fun j => up2_a hb⟩)] at hP1 hD1
  exact ⟨hKn, hA, hS1, L, hL, hP1, hD1⟩
theorem zaast4 (hx : p.tables.exec = Jvm.exec) (hb : c.code = cc) (hw : Wd Γ A K X Rf s H locs) {n b : Nat} (hk : K a = (4 + 6, n)) (hkb : K b = (1, 1)) {z : Int} (h0 : 0 ≤ z ∧ z < n) (hn : n < 2147483648) (hdg : decode cc pc = .ok (.aastore, 1)) (kk : ∀ (H1 : Heap) (locs1 : List Loc), Wd Γ A K X (up2 Rf a z.toNat (some b)) s H1 locs1 → W p l e R s m args below meth c H1 locs1 cells slots Q (F0 m (pc + 1) ls rest)) : W p l e R s m args below meth c H locs cells slots Q (F0 m pc ls (.ref b :: .int (iI z) :: .ref a :: rest)) := by
  obtain ⟨hKn, hA, hS, L, hL, hP, hD⟩ := hw
  obtain ⟨q, hq0⟩ := zat (Γ := Γ) (X := X) (Rf := Rf) hL (a := a) (by rw [hk]; exact Nat.succ_ne_zero _)
  have hq := hq0
  rw [zcq hk] at hq
  obtain ⟨qb, hqb⟩ := zat (Γ := Γ) (X := X) (Rf := Rf) hL (a := b) (by rw [hkb]; exact Nat.succ_ne_zero _)
  rw [zc1 hkb] at hqb
  refine va_astq (D := Γ.1) hx hb hKn.1 hP hD hS q 8 qb 1 hq rfl hqb rfl (iI_in h0.1 h0.2 hn) hdg (fun H1 locs1 hP1 hD1 hS1 => kk H1 locs1 ?_)
  have e1 : zc Γ K X (up2 Rf a z.toNat (some b)) a = .inl (Γ.2 (4 + 4), n, .inr (.inr (.inr (.inr (va_up (Rf a) (iI z).toNatClampNeg (some b)))))) := by
    rw [zcq hk, iI_cl h0.1 (by omega)]
    congr 7
    funext j
    by_cases hj : j = z.toNat
    · subst hj; simp [up2, va_up]
    · simp [up2, va_up, hj]
  rw [← e1, va_pl_set hD ((hL a).mpr (by rw [hk]; exact Nat.succ_ne_zero _)) hq0, zset (fun b hb => ⟨rfl, funext fun j => up2_a hb⟩)] at hP1 hD1
  exact ⟨hKn, hA, hS1, L, hL, hP1, hD1⟩
theorem znew (hx : p.tables.exec = Jvm.exec) (hb : c.code = cc) {own C : String} {T : u_T} {N ci index : Nat} (hG : ∀ w ∈ GG, w.before args s = true) (hown : s.vm.findClass own = some m.cls) (hw : Wd Γ A K X Rf s H locs) (hc : zcl[ci]? = some (C, T, N)) (hl1 : Cond.classLink own index C ∈ GG) (hl2 : Cond.instantiable C N ∈ GG) (hl3 : Cond.initialized C ∈ GG) (hcells : cells + 1 ≤ R.cells) (hslots : slots + N ≤ R.slots) (hdg : decode cc pc = .ok (.new index, 3)) (kk : ∀ (q : Nat) (H1 : Heap), (K q).1 = 0 → Wd Γ A (zup K q (1, ci)) (zupX X q) (zupR Rf q) s H1 locs → W p l e R s m args below meth c H1 locs (cells + 1) (slots + N) Q (F0 m (pc + 3) ls (.ref q :: rest))) : W p l e R s m args below meth c H locs cells slots Q (F0 m pc ls rest) := by
  obtain ⟨hKn, hA, hS, L, hL, hP, hD⟩ := hw
  obtain ⟨ty0, hty, hdf, -⟩ := zty hc
  refine va_new (D := Γ.1) (ci := ci) (fs := zfl (zft.getD ci []) (fun _ => 0) (fun _ => none)) hx hb hG (zin hc) ty0 hty hown (hG _ hl1) (hG _ hl2) (hG _ hl3) hKn.1 hP hD hS hA hc (fun j hj => by rw [hdf j hj, zfl_new _ _ (by rw [zlenN hc]; exact hj)]) hcells hslots hdg (fun q H1 hP1 hD1 hS1 => ?_)
  have e9 : (Sum.inr (ci, zfl (zft.getD ci []) (fun _ => 0) (fun _ => none)) : va_E) = zc Γ (zup K q (1, ci)) (zupX X q) (zupR Rf q) q := by
    rw [zc1 (ci := ci) zup_s, zupX_s, zupR_s]
  have hq : q ∉ L := va_pl_fresh2 hD1
  have hq0 : (K q).1 = 0 := by
    by_cases h : (K q).1 = 0
    · exact h
    · exact absurd ((hL q).mpr h) hq
  have hupd : va_pl L (zc Γ K X Rf) ++ [(q, zc Γ (zup K q (1, ci)) (zupX X q) (zupR Rf q) q)] = va_pl (L ++ [q]) (zc Γ (zup K q (1, ci)) (zupX X q) (zupR Rf q)) := by
    rw [va_pl_push hq]
    exact va_pl_congr (fun b => by
      by_cases hb : b = q
      · subst hb; simp [va_up]
      · simp [va_up, hb, zc, zup, zupX, zupR])
  have hL1 : ∀ a, a ∈ L ++ [q] ↔ (zup K q (1, ci) a).1 ≠ 0 := fun a => by
    by_cases h : a = q
    · subst h; simp [zup]
    · simp [zup, h, hL a]
  rw [e9, List.nil_append, hupd] at hP1 hD1
  exact kk q H1 hq0 ⟨hKn, hA, hS1, L ++ [q], hL1, hP1, hD1⟩
theorem znewi (hx : p.tables.exec = Jvm.exec) (hb : c.code = cc) (hG : ∀ w ∈ GG, w.before args s = true) (hw : Wd Γ A K X Rf s H locs) (hac : Cond.arrayClass .int ∈ GG) {n : Int} (h0 : 0 ≤ n ∧ n < 60000000) (hcells : cells + 1 ≤ R.cells) (hslots : slots + n.toNat ≤ R.slots) (hdg : decode cc pc = .ok (.newarray .int, 2)) (kk : ∀ (q : Nat) (H1 : Heap), (K q).1 = 0 → Wd Γ A (zup K q (2, n.toNat)) (zupX X q) (zupR Rf q) s H1 locs → W p l e R s m args below meth c H1 locs (cells + 1) (slots + n.toNat) Q (F0 m (pc + 2) ls (.ref q :: rest))) : W p l e R s m args below meth c H locs cells slots Q (F0 m pc ls (.int (iI n) :: rest)) := by
  obtain ⟨hKn, hA, hS, L, hL, hP, hD⟩ := hw
  have hneg : ¬ iI n < 0 := fun h => by
    have h2 : iI n < iI 0 := h
    rw [iI_lt ⟨by omega, by omega⟩ ⟨by omega, by omega⟩] at h2
    omega
  refine va_newa (D := Γ.1) (atype := .int) (ty := .int) (N' := n.toNat) (a0 := (n.toNat, .inl (fun _ => 0))) hx hb (hG _ hac) rfl hKn.1 hP hD hS hA (fun cA => rfl) hneg (iI_cl h0.1 (by omega)) (by show n.toNat * 4 ≤ _; omega) hcells hslots hdg (fun q cA H1 hK1 hP1 hD1 hS1 => ?_)
  have hcA : cA = Γ.2 0 := by
    have h1 := (hK1.2 10 (cA, .int) rfl).2
    have h2 := (hKn.1.2 0 _ rfl).2
    exact Option.some.inj (h1.symm.trans h2)
  subst hcA
  have e9 : (Sum.inl (Γ.2 0, n.toNat, .inl (fun _ => 0)) : va_E) = zc Γ (zup K q (2, n.toNat)) (zupX X q) (zupR Rf q) q := by
    rw [zc2 (n := n.toNat) zup_s, zupX_s]; rfl
  have hq : q ∉ L := va_pl_fresh2 hD1
  have hq0 : (K q).1 = 0 := by
    by_cases h : (K q).1 = 0
    · exact h
    · exact absurd ((hL q).mpr h) hq
  have hupd : va_pl L (zc Γ K X Rf) ++ [(q, zc Γ (zup K q (2, n.toNat)) (zupX X q) (zupR Rf q) q)] = va_pl (L ++ [q]) (zc Γ (zup K q (2, n.toNat)) (zupX X q) (zupR Rf q)) := by
    rw [va_pl_push hq]
    exact va_pl_congr (fun b => by
      by_cases hb : b = q
      · subst hb; simp [va_up]
      · simp [va_up, hb, zc, zup, zupX, zupR])
  have hL1 : ∀ a, a ∈ L ++ [q] ↔ (zup K q (2, n.toNat) a).1 ≠ 0 := fun a => by
    by_cases h : a = q
    · subst h; simp [zup]
    · simp [zup, h, hL a]
  rw [e9, List.nil_append, hupd] at hP1 hD1
  exact kk q H1 hq0 ⟨hKn, hA, hS1, L ++ [q], hL1, hP1, hD1⟩
theorem znewb (hx : p.tables.exec = Jvm.exec) (hb : c.code = cc) (hG : ∀ w ∈ GG, w.before args s = true) (hw : Wd Γ A K X Rf s H locs) (hac : Cond.arrayClass .byte ∈ GG) {n : Int} (h0 : 0 ≤ n ∧ n < 60000000) (hcells : cells + 1 ≤ R.cells) (hslots : slots + n.toNat ≤ R.slots) (hdg : decode cc pc = .ok (.newarray .byte, 2)) (kk : ∀ (q : Nat) (H1 : Heap), (K q).1 = 0 → Wd Γ A (zup K q (3, n.toNat)) (zupX X q) (zupR Rf q) s H1 locs → W p l e R s m args below meth c H1 locs (cells + 1) (slots + n.toNat) Q (F0 m (pc + 2) ls (.ref q :: rest))) : W p l e R s m args below meth c H locs cells slots Q (F0 m pc ls (.int (iI n) :: rest)) := by
  obtain ⟨hKn, hA, hS, L, hL, hP, hD⟩ := hw
  have hneg : ¬ iI n < 0 := fun h => by
    have h2 : iI n < iI 0 := h
    rw [iI_lt ⟨by omega, by omega⟩ ⟨by omega, by omega⟩] at h2
    omega
  refine va_newa (D := Γ.1) (atype := .byte) (ty := .byte) (N' := n.toNat) (a0 := (n.toNat, .inl (fun _ => 0))) hx hb (hG _ hac) rfl hKn.1 hP hD hS hA (fun cA => rfl) hneg (iI_cl h0.1 (by omega)) (by show n.toNat * 1 ≤ _; omega) hcells hslots hdg (fun q cA H1 hK1 hP1 hD1 hS1 => ?_)
  have hcA : cA = Γ.2 1 := by
    have h1 := (hK1.2 10 (cA, .byte) rfl).2
    have h2 := (hKn.1.2 1 _ rfl).2
    exact Option.some.inj (h1.symm.trans h2)
  subst hcA
  have e9 : (Sum.inl (Γ.2 1, n.toNat, .inl (fun _ => 0)) : va_E) = zc Γ (zup K q (3, n.toNat)) (zupX X q) (zupR Rf q) q := by
    rw [zc3 (n := n.toNat) zup_s, zupX_s]; rfl
  have hq : q ∉ L := va_pl_fresh2 hD1
  have hq0 : (K q).1 = 0 := by
    by_cases h : (K q).1 = 0
    · exact h
    · exact absurd ((hL q).mpr h) hq
  have hupd : va_pl L (zc Γ K X Rf) ++ [(q, zc Γ (zup K q (3, n.toNat)) (zupX X q) (zupR Rf q) q)] = va_pl (L ++ [q]) (zc Γ (zup K q (3, n.toNat)) (zupX X q) (zupR Rf q)) := by
    rw [va_pl_push hq]
    exact va_pl_congr (fun b => by
      by_cases hb : b = q
      · subst hb; simp [va_up]
      · simp [va_up, hb, zc, zup, zupX, zupR])
  have hL1 : ∀ a, a ∈ L ++ [q] ↔ (zup K q (3, n.toNat) a).1 ≠ 0 := fun a => by
    by_cases h : a = q
    · subst h; simp [zup]
    · simp [zup, h, hL a]
  rw [e9, List.nil_append, hupd] at hP1 hD1
  exact kk q H1 hq0 ⟨hKn, hA, hS1, L ++ [q], hL1, hP1, hD1⟩
theorem znewq0 (hx : p.tables.exec = Jvm.exec) (hb : c.code = cc) {own : String} {index : Nat} (hG : ∀ w ∈ GG, w.before args s = true) (hown : s.vm.findClass own = some m.cls) (hw : Wd Γ A K X Rf s H locs) (hl1 : Cond.classLink own index RX3 ∈ GG) {n : Int} (h0 : 0 ≤ n ∧ n < 60000000) (hcells : cells + 1 ≤ R.cells) (hslots : slots + n.toNat ≤ R.slots) (hdg : decode cc pc = .ok (.anewarray index, 3)) (kk : ∀ (q : Nat) (H1 : Heap), (K q).1 = 0 → Wd Γ A (zup K q (0 + 6, n.toNat)) (zupX X q) (zupR Rf q) s H1 locs → W p l e R s m args below meth c H1 locs (cells + 1) (slots + n.toNat) Q (F0 m (pc + 3) ls (.ref q :: rest))) : W p l e R s m args below meth c H locs cells slots Q (F0 m pc ls (.int (iI n) :: rest)) := by
  obtain ⟨hKn, hA, hS, L, hL, hP, hD⟩ := hw
  have hneg : ¬ iI n < 0 := fun h => by
    have h2 : iI n < iI 0 := h
    rw [iI_lt ⟨by omega, by omega⟩ ⟨by omega, by omega⟩] at h2
    omega
  refine va_newq (D := Γ.1) (C := RX3) hx hb hown (hG _ hl1) hKn.2.2.2.1 hKn.1 hP hD hS hA (N' := n.toNat) hneg (iI_cl h0.1 (by omega)) (by omega) hcells hslots hdg (fun q cA H1 hK1 hP1 hD1 hS1 => ?_)
  have hcA : cA = Γ.2 (0 + 4) := by
    obtain ⟨-, -, -, -, -, h1⟩ := (hK1.2 10 (cA, .object RX3) rfl).2
    obtain ⟨-, -, -, -, -, h2⟩ := (hKn.1.2 4 _ rfl).2
    exact Option.some.inj (h1.symm.trans h2)
  subst hcA
  have e9 : (Sum.inl (Γ.2 (0 + 4), n.toNat, .inr (.inr (.inr (.inr (fun _ => none))))) : va_E) = zc Γ (zup K q (0 + 6, n.toNat)) (zupX X q) (zupR Rf q) q := by
    rw [zcq (t := 0) (n := n.toNat) zup_s, zupR_s]
  have hq : q ∉ L := va_pl_fresh2 hD1
  have hq0 : (K q).1 = 0 := by
    by_cases h : (K q).1 = 0
    · exact h
    · exact absurd ((hL q).mpr h) hq
  have hupd : va_pl L (zc Γ K X Rf) ++ [(q, zc Γ (zup K q (0 + 6, n.toNat)) (zupX X q) (zupR Rf q) q)] = va_pl (L ++ [q]) (zc Γ (zup K q (0 + 6, n.toNat)) (zupX X q) (zupR Rf q)) := by
    rw [va_pl_push hq]
    exact va_pl_congr (fun b => by
      by_cases hb : b = q
      · subst hb; simp [va_up]
      · simp [va_up, hb, zc, zup, zupX, zupR])
  have hL1 : ∀ a, a ∈ L ++ [q] ↔ (zup K q (0 + 6, n.toNat) a).1 ≠ 0 := fun a => by
    by_cases h : a = q
    · subst h; simp [zup]
    · simp [zup, h, hL a]
  rw [e9, List.nil_append, hupd] at hP1 hD1
  exact kk q H1 hq0 ⟨hKn, hA, hS1, L ++ [q], hL1, hP1, hD1⟩
theorem znewq1 (hx : p.tables.exec = Jvm.exec) (hb : c.code = cc) {own : String} {index : Nat} (hG : ∀ w ∈ GG, w.before args s = true) (hown : s.vm.findClass own = some m.cls) (hw : Wd Γ A K X Rf s H locs) (hl1 : Cond.classLink own index RX4 ∈ GG) {n : Int} (h0 : 0 ≤ n ∧ n < 60000000) (hcells : cells + 1 ≤ R.cells) (hslots : slots + n.toNat ≤ R.slots) (hdg : decode cc pc = .ok (.anewarray index, 3)) (kk : ∀ (q : Nat) (H1 : Heap), (K q).1 = 0 → Wd Γ A (zup K q (1 + 6, n.toNat)) (zupX X q) (zupR Rf q) s H1 locs → W p l e R s m args below meth c H1 locs (cells + 1) (slots + n.toNat) Q (F0 m (pc + 3) ls (.ref q :: rest))) : W p l e R s m args below meth c H locs cells slots Q (F0 m pc ls (.int (iI n) :: rest)) := by
  obtain ⟨hKn, hA, hS, L, hL, hP, hD⟩ := hw
  have hneg : ¬ iI n < 0 := fun h => by
    have h2 : iI n < iI 0 := h
    rw [iI_lt ⟨by omega, by omega⟩ ⟨by omega, by omega⟩] at h2
    omega
  refine va_newq (D := Γ.1) (C := RX4) hx hb hown (hG _ hl1) hKn.2.2.2.2.1 hKn.1 hP hD hS hA (N' := n.toNat) hneg (iI_cl h0.1 (by omega)) (by omega) hcells hslots hdg (fun q cA H1 hK1 hP1 hD1 hS1 => ?_)
  have hcA : cA = Γ.2 (1 + 4) := by
    obtain ⟨-, -, -, -, -, h1⟩ := (hK1.2 10 (cA, .object RX4) rfl).2
    obtain ⟨-, -, -, -, -, h2⟩ := (hKn.1.2 5 _ rfl).2
    exact Option.some.inj (h1.symm.trans h2)
  subst hcA
  have e9 : (Sum.inl (Γ.2 (1 + 4), n.toNat, .inr (.inr (.inr (.inr (fun _ => none))))) : va_E) = zc Γ (zup K q (1 + 6, n.toNat)) (zupX X q) (zupR Rf q) q := by
    rw [zcq (t := 1) (n := n.toNat) zup_s, zupR_s]
  have hq : q ∉ L := va_pl_fresh2 hD1
  have hq0 : (K q).1 = 0 := by
    by_cases h : (K q).1 = 0
    · exact h
    · exact absurd ((hL q).mpr h) hq
  have hupd : va_pl L (zc Γ K X Rf) ++ [(q, zc Γ (zup K q (1 + 6, n.toNat)) (zupX X q) (zupR Rf q) q)] = va_pl (L ++ [q]) (zc Γ (zup K q (1 + 6, n.toNat)) (zupX X q) (zupR Rf q)) := by
    rw [va_pl_push hq]
    exact va_pl_congr (fun b => by
      by_cases hb : b = q
      · subst hb; simp [va_up]
      · simp [va_up, hb, zc, zup, zupX, zupR])
  have hL1 : ∀ a, a ∈ L ++ [q] ↔ (zup K q (1 + 6, n.toNat) a).1 ≠ 0 := fun a => by
    by_cases h : a = q
    · subst h; simp [zup]
    · simp [zup, h, hL a]
  rw [e9, List.nil_append, hupd] at hP1 hD1
  exact kk q H1 hq0 ⟨hKn, hA, hS1, L ++ [q], hL1, hP1, hD1⟩
theorem znewq2 (hx : p.tables.exec = Jvm.exec) (hb : c.code = cc) {own : String} {index : Nat} (hG : ∀ w ∈ GG, w.before args s = true) (hown : s.vm.findClass own = some m.cls) (hw : Wd Γ A K X Rf s H locs) (hl1 : Cond.classLink own index RX5 ∈ GG) {n : Int} (h0 : 0 ≤ n ∧ n < 60000000) (hcells : cells + 1 ≤ R.cells) (hslots : slots + n.toNat ≤ R.slots) (hdg : decode cc pc = .ok (.anewarray index, 3)) (kk : ∀ (q : Nat) (H1 : Heap), (K q).1 = 0 → Wd Γ A (zup K q (2 + 6, n.toNat)) (zupX X q) (zupR Rf q) s H1 locs → W p l e R s m args below meth c H1 locs (cells + 1) (slots + n.toNat) Q (F0 m (pc + 3) ls (.ref q :: rest))) : W p l e R s m args below meth c H locs cells slots Q (F0 m pc ls (.int (iI n) :: rest)) := by
  obtain ⟨hKn, hA, hS, L, hL, hP, hD⟩ := hw
  have hneg : ¬ iI n < 0 := fun h => by
    have h2 : iI n < iI 0 := h
    rw [iI_lt ⟨by omega, by omega⟩ ⟨by omega, by omega⟩] at h2
    omega
  refine va_newq (D := Γ.1) (C := RX5) hx hb hown (hG _ hl1) hKn.2.2.2.2.2.1 hKn.1 hP hD hS hA (N' := n.toNat) hneg (iI_cl h0.1 (by omega)) (by omega) hcells hslots hdg (fun q cA H1 hK1 hP1 hD1 hS1 => ?_)
  have hcA : cA = Γ.2 (2 + 4) := by
    obtain ⟨-, -, -, -, -, h1⟩ := (hK1.2 10 (cA, .object RX5) rfl).2
    obtain ⟨-, -, -, -, -, h2⟩ := (hKn.1.2 6 _ rfl).2
    exact Option.some.inj (h1.symm.trans h2)
  subst hcA
  have e9 : (Sum.inl (Γ.2 (2 + 4), n.toNat, .inr (.inr (.inr (.inr (fun _ => none))))) : va_E) = zc Γ (zup K q (2 + 6, n.toNat)) (zupX X q) (zupR Rf q) q := by
    rw [zcq (t := 2) (n := n.toNat) zup_s, zupR_s]
  have hq : q ∉ L := va_pl_fresh2 hD1
  have hq0 : (K q).1 = 0 := by
    by_cases h : (K q).1 = 0
    · exact h
    · exact absurd ((hL q).mpr h) hq
  have hupd : va_pl L (zc Γ K X Rf) ++ [(q, zc Γ (zup K q (2 + 6, n.toNat)) (zupX X q) (zupR Rf q) q)] = va_pl (L ++ [q]) (zc Γ (zup K q (2 + 6, n.toNat)) (zupX X q) (zupR Rf q)) := by
    rw [va_pl_push hq]
    exact va_pl_congr (fun b => by
      by_cases hb : b = q
      · subst hb; simp [va_up]
      · simp [va_up, hb, zc, zup, zupX, zupR])
  have hL1 : ∀ a, a ∈ L ++ [q] ↔ (zup K q (2 + 6, n.toNat) a).1 ≠ 0 := fun a => by
    by_cases h : a = q
    · subst h; simp [zup]
    · simp [zup, h, hL a]
  rw [e9, List.nil_append, hupd] at hP1 hD1
  exact kk q H1 hq0 ⟨hKn, hA, hS1, L ++ [q], hL1, hP1, hD1⟩
theorem znewq3 (hx : p.tables.exec = Jvm.exec) (hb : c.code = cc) {own : String} {index : Nat} (hG : ∀ w ∈ GG, w.before args s = true) (hown : s.vm.findClass own = some m.cls) (hw : Wd Γ A K X Rf s H locs) (hl1 : Cond.classLink own index RX6 ∈ GG) {n : Int} (h0 : 0 ≤ n ∧ n < 60000000) (hcells : cells + 1 ≤ R.cells) (hslots : slots + n.toNat ≤ R.slots) (hdg : decode cc pc = .ok (.anewarray index, 3)) (kk : ∀ (q : Nat) (H1 : Heap), (K q).1 = 0 → Wd Γ A (zup K q (3 + 6, n.toNat)) (zupX X q) (zupR Rf q) s H1 locs → W p l e R s m args below meth c H1 locs (cells + 1) (slots + n.toNat) Q (F0 m (pc + 3) ls (.ref q :: rest))) : W p l e R s m args below meth c H locs cells slots Q (F0 m pc ls (.int (iI n) :: rest)) := by
  obtain ⟨hKn, hA, hS, L, hL, hP, hD⟩ := hw
  have hneg : ¬ iI n < 0 := fun h => by
    have h2 : iI n < iI 0 := h
    rw [iI_lt ⟨by omega, by omega⟩ ⟨by omega, by omega⟩] at h2
    omega
  refine va_newq (D := Γ.1) (C := RX6) hx hb hown (hG _ hl1) hKn.2.2.2.2.2.2.1 hKn.1 hP hD hS hA (N' := n.toNat) hneg (iI_cl h0.1 (by omega)) (by omega) hcells hslots hdg (fun q cA H1 hK1 hP1 hD1 hS1 => ?_)
  have hcA : cA = Γ.2 (3 + 4) := by
    obtain ⟨-, -, -, -, -, h1⟩ := (hK1.2 10 (cA, .object RX6) rfl).2
    obtain ⟨-, -, -, -, -, h2⟩ := (hKn.1.2 7 _ rfl).2
    exact Option.some.inj (h1.symm.trans h2)
  subst hcA
  have e9 : (Sum.inl (Γ.2 (3 + 4), n.toNat, .inr (.inr (.inr (.inr (fun _ => none))))) : va_E) = zc Γ (zup K q (3 + 6, n.toNat)) (zupX X q) (zupR Rf q) q := by
    rw [zcq (t := 3) (n := n.toNat) zup_s, zupR_s]
  have hq : q ∉ L := va_pl_fresh2 hD1
  have hq0 : (K q).1 = 0 := by
    by_cases h : (K q).1 = 0
    · exact h
    · exact absurd ((hL q).mpr h) hq
  have hupd : va_pl L (zc Γ K X Rf) ++ [(q, zc Γ (zup K q (3 + 6, n.toNat)) (zupX X q) (zupR Rf q) q)] = va_pl (L ++ [q]) (zc Γ (zup K q (3 + 6, n.toNat)) (zupX X q) (zupR Rf q)) := by
    rw [va_pl_push hq]
    exact va_pl_congr (fun b => by
      by_cases hb : b = q
      · subst hb; simp [va_up]
      · simp [va_up, hb, zc, zup, zupX, zupR])
  have hL1 : ∀ a, a ∈ L ++ [q] ↔ (zup K q (3 + 6, n.toNat) a).1 ≠ 0 := fun a => by
    by_cases h : a = q
    · subst h; simp [zup]
    · simp [zup, h, hL a]
  rw [e9, List.nil_append, hupd] at hP1 hD1
  exact kk q H1 hq0 ⟨hKn, hA, hS1, L ++ [q], hL1, hP1, hD1⟩
theorem znewq4 (hx : p.tables.exec = Jvm.exec) (hb : c.code = cc) {own : String} {index : Nat} (hG : ∀ w ∈ GG, w.before args s = true) (hown : s.vm.findClass own = some m.cls) (hw : Wd Γ A K X Rf s H locs) (hl1 : Cond.classLink own index RX2 ∈ GG) {n : Int} (h0 : 0 ≤ n ∧ n < 60000000) (hcells : cells + 1 ≤ R.cells) (hslots : slots + n.toNat ≤ R.slots) (hdg : decode cc pc = .ok (.anewarray index, 3)) (kk : ∀ (q : Nat) (H1 : Heap), (K q).1 = 0 → Wd Γ A (zup K q (4 + 6, n.toNat)) (zupX X q) (zupR Rf q) s H1 locs → W p l e R s m args below meth c H1 locs (cells + 1) (slots + n.toNat) Q (F0 m (pc + 3) ls (.ref q :: rest))) : W p l e R s m args below meth c H locs cells slots Q (F0 m pc ls (.int (iI n) :: rest)) := by
  obtain ⟨hKn, hA, hS, L, hL, hP, hD⟩ := hw
  have hneg : ¬ iI n < 0 := fun h => by
    have h2 : iI n < iI 0 := h
    rw [iI_lt ⟨by omega, by omega⟩ ⟨by omega, by omega⟩] at h2
    omega
  refine va_newq (D := Γ.1) (C := RX2) hx hb hown (hG _ hl1) hKn.2.2.1 hKn.1 hP hD hS hA (N' := n.toNat) hneg (iI_cl h0.1 (by omega)) (by omega) hcells hslots hdg (fun q cA H1 hK1 hP1 hD1 hS1 => ?_)
  have hcA : cA = Γ.2 (4 + 4) := by
    obtain ⟨-, -, -, -, -, h1⟩ := (hK1.2 10 (cA, .object RX2) rfl).2
    obtain ⟨-, -, -, -, -, h2⟩ := (hKn.1.2 8 _ rfl).2
    exact Option.some.inj (h1.symm.trans h2)
  subst hcA
  have e9 : (Sum.inl (Γ.2 (4 + 4), n.toNat, .inr (.inr (.inr (.inr (fun _ => none))))) : va_E) = zc Γ (zup K q (4 + 6, n.toNat)) (zupX X q) (zupR Rf q) q := by
    rw [zcq (t := 4) (n := n.toNat) zup_s, zupR_s]
  have hq : q ∉ L := va_pl_fresh2 hD1
  have hq0 : (K q).1 = 0 := by
    by_cases h : (K q).1 = 0
    · exact h
    · exact absurd ((hL q).mpr h) hq
  have hupd : va_pl L (zc Γ K X Rf) ++ [(q, zc Γ (zup K q (4 + 6, n.toNat)) (zupX X q) (zupR Rf q) q)] = va_pl (L ++ [q]) (zc Γ (zup K q (4 + 6, n.toNat)) (zupX X q) (zupR Rf q)) := by
    rw [va_pl_push hq]
    exact va_pl_congr (fun b => by
      by_cases hb : b = q
      · subst hb; simp [va_up]
      · simp [va_up, hb, zc, zup, zupX, zupR])
  have hL1 : ∀ a, a ∈ L ++ [q] ↔ (zup K q (4 + 6, n.toNat) a).1 ≠ 0 := fun a => by
    by_cases h : a = q
    · subst h; simp [zup]
    · simp [zup, h, hL a]
  rw [e9, List.nil_append, hupd] at hP1 hD1
  exact kk q H1 hq0 ⟨hKn, hA, hS1, L ++ [q], hL1, hP1, hD1⟩
end ZARR
