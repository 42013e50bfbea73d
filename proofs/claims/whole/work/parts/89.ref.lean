-- ===== an int[] cloned =====
def zupC (X : zX) (q a : Nat) : zX := fun b => if b = q then X a else X b
theorem zupC_s {X : zX} {q a : Nat} : zupC X q a q = X a := by simp [zupC]
theorem zupC_n {X : zX} {q a b : Nat} (h : b ≠ q) : zupC X q a b = X b := by simp [zupC, h]
theorem wq_same : Cond.sameMethod "[I" "java/lang/Object" "clone" "()Ljava/lang/Object;" ∈ GG := GG_mem (i := 24) (j := 7) rfl rfl
theorem wq_nat : Cond.native ⟨"java/lang/Object", "clone", "()Ljava/lang/Object;"⟩ ∈ GG := GG_mem (i := 24) (j := 8) rfl rfl
theorem wq_inst : Cond.instanceMethod ⟨"java/lang/Object", "clone", "()Ljava/lang/Object;"⟩ ∈ GG := GG_mem (i := 24) (j := 9) rfl rfl
theorem wq_sel : Cond.selects "[I" ⟨"[I", "clone", "()Ljava/lang/Object;"⟩ ⟨"java/lang/Object", "clone", "()Ljava/lang/Object;"⟩ ∈ GG := GG_mem (i := 24) (j := 10) rfl rfl
section ZCLO
variable {p : Program} {l : Launch} {e : Env} {R : Room} {s : State} {m : MethodId} {args : Array Value} {below : List Frame} {meth : Method} {c : Code} {H : Heap} {locs : List Loc} {cells slots : Nat} {Q : State → Prop}
variable {cc : ByteArray} {pc : Nat} {ls : Array Slot} {rest : List Value} {Γ : zG} {A : Nat → Prop} {K : zK} {X X' : zX} {Rf Rf' : zR} {a : Nat}
theorem zclone (hx : p.tables.exec = Jvm.exec) (hb : c.code = cc) (hml : c.maxLocals = ls.size) {own : String} {index : Nat} (hown : s.vm.findClass own = some m.cls) (hG : ∀ w ∈ GG, w.before args s = true) (hl : Cond.methodLink own index ⟨"[I", "clone", "()Ljava/lang/Object;"⟩ ∈ GG) (hw : Wd Γ A K X Rf s H locs) {n : Nat} (hk : K a = (2, n))
    (hfr : 1 ≤ R.frames) (hlo : (rest.map fun v => v.category).sum + 14 ≤ R.locals) (hcells : cells + 1 ≤ R.cells) (hslots : slots + n ≤ R.slots) (hdg : decode cc pc = .ok (.invokevirtual index, 3))
    (kk : ∀ (q : Nat) (H1 : Heap), (K q).1 = 0 → Wd Γ A (zup K q (2, n)) (zupC X q a) (zupR Rf q) s H1 locs → W p l e R s m args below meth c H1 locs (cells + 1) (slots + n) Q (F0 m (pc + 3) ls (.ref q :: rest))) : W p l e R s m args below meth c H locs cells slots Q (F0 m pc ls (.ref a :: rest)) := by
  obtain ⟨hKn, hA, hS, L, hL, hP, hD⟩ := hw
  obtain ⟨q0, hq0⟩ := zat (Γ := Γ) (X := X) (Rf := Rf) hL (a := a) (by rw [hk]; exact Nat.succ_ne_zero _)
  rw [zc2 hk] at hq0
  refine va_clone (D := Γ.1) (cA := Γ.2 0) (x := (n, .inl (fun j => iI (X a j)))) (ty := .int) hx hb hml hown (hG _ hl) (hG _ wq_same) (hG _ wq_nat) (hG _ wq_inst) (hG _ wq_sel) hKn.2.2.2.2.2.2.2.2 hKn.1 hP hD hS hA q0 0 hq0 rfl (va_nm_int (hKn.1.2 0 _ rfl).2) (va_fit (fun i hi => rfl)) hfr hlo hcells hslots hdg (fun q H1 hK1 hP1 hD1 hS1 => ?_)
  have e9 : (Sum.inl (Γ.2 0, n, .inl (fun j => iI (X a j))) : va_E) = zc Γ (zup K q (2, n)) (zupC X q a) (zupR Rf q) q := by
    rw [zc2 (n := n) zup_s, zupC_s]
  have hq : q ∉ L := va_pl_fresh2 hD1
  have hq0 : (K q).1 = 0 := by
    by_cases h : (K q).1 = 0
    · exact h
    · exact absurd ((hL q).mpr h) hq
  have hupd : va_pl L (zc Γ K X Rf) ++ [(q, zc Γ (zup K q (2, n)) (zupC X q a) (zupR Rf q) q)] = va_pl (L ++ [q]) (zc Γ (zup K q (2, n)) (zupC X q a) (zupR Rf q)) := by
    rw [va_pl_push hq]
    exact va_pl_congr (fun b => by
      by_cases hb : b = q
      · subst hb; simp [va_up]
      · simp [va_up, hb, zc, zup, zupC, zupR])
  have hL1 : ∀ a, a ∈ L ++ [q] ↔ (zup K q (2, n) a).1 ≠ 0 := fun a => by
    by_cases h : a = q
    · subst h; simp [zup]
    · simp [zup, h, hL a]
  rw [e9, List.nil_append, hupd] at hP1 hD1
  exact kk q H1 hq0 ⟨hKn, hA, hS1, L ++ [q], hL1, hP1, hD1⟩
theorem zcastI (hx : p.tables.exec = Jvm.exec) (hb : c.code = cc) {own : String} {index : Nat} (hown : s.vm.findClass own = some m.cls) (hG : ∀ w ∈ GG, w.before args s = true) (hl : Cond.classLink own index "[I" ∈ GG) (hw : Wd Γ A K X Rf s H locs) {n : Nat} (hk : K a = (2, n)) (hdg : decode cc pc = .ok (.checkcast index, 3))
    (kk : W p l e R s m args below meth c H locs cells slots Q (F0 m (pc + 3) ls (.ref a :: rest))) : W p l e R s m args below meth c H locs cells slots Q (F0 m pc ls (.ref a :: rest)) := by
  obtain ⟨hKn, hA, hS, L, hL, hP, hD⟩ := hw
  obtain ⟨q0, hq0⟩ := zat (Γ := Γ) (X := X) (Rf := Rf) hL (a := a) (by rw [hk]; exact Nat.succ_ne_zero _)
  rw [zc2 hk] at hq0
  exact va_castA hx hb hown (hG _ hl) hP q0 hq0 (va_nm_int (hKn.1.2 0 _ rfl).2) hdg kk
end ZCLO
-- ===== what is still to be laid =====
def lsR (X : zX) (Rf : zR) (X' : zX) (Rf' : zR) (md : Nat) : Prop := (∀ p, dlC X' Rf' md p ≤ dlC X Rf md p) ∧ ∀ n, dnC Rf' md n ≤ dnC Rf md n
section ZDC
variable {ρ ρ' : zL} {K K' : zK} {X X' X1 : zX} {Rf Rf' R1 : zR} {M M' : zM} {md n p : Nat}
theorem dnC_a {a : Nat} (h : Rf md 22 = some a) : dnC Rf md n = if Rf a n = none then 4001 else 0 := by unfold dnC; rw [h]
theorem dlC_a {a : Nat} (h : Rf md 9 = some a) : dlC X Rf md p = if X a p = -1 then 5000 else 0 := by unfold dlC; rw [h]
theorem dnC_n {a : Nat} (h : Rf md 22 = some a) (hr : Rf a n = none) : dnC Rf md n = 4001 := by rw [dnC_a h, if_pos hr]
theorem dnC_s {a r : Nat} (h : Rf md 22 = some a) (hr : Rf a n = some r) : dnC Rf md n = 0 := by rw [dnC_a h, if_neg (by rw [hr]; simp)]
theorem dnC_le : dnC Rf md n ≤ 4001 := by
  unfold dnC; split
  · split <;> omega
  · omega
theorem dlC_le : dlC X Rf md p ≤ 5000 := by
  unfold dlC; split
  · split <;> omega
  · omega
theorem lsR_refl : lsR X Rf X Rf md := ⟨fun _ => Nat.le_refl _, fun _ => Nat.le_refl _⟩
theorem lsR.trans (h : lsR X Rf X' Rf' md) (h2 : lsR X' Rf' X1 R1 md) : lsR X Rf X1 R1 md := ⟨fun p => Nat.le_trans (h2.1 p) (h.1 p), fun n => Nat.le_trans (h2.2 n) (h.2 n)⟩
theorem lsR_x {a : Nat} (h : Rf md 9 = some a) (hx : X' a = X a) : lsR X Rf X' Rf md := ⟨fun p => by rw [dlC_a h, dlC_a h, hx]; exact Nat.le_refl _, fun _ => Nat.le_refl _⟩
theorem repR.a9 (h : repR ρ K X Rf md M) : ∃ a, Rf md 9 = some a ∧ K a = (2, 6) ∧ ρ a = 2010 := h.ff 9 (by decide)
theorem lsR_own (h : repR ρ K X Rf md M) {q : Nat} {v : Int} : lsR X Rf (up2 X md q v) Rf md := by
  obtain ⟨a, h1, h2, h3⟩ := h.a9
  exact lsR_x h1 (up2_o (fun g => by have := h.1.2; rw [g] at h3; omega))
theorem repR.ser22 (h : repR ρ K X Rf md M) {a22 r : Nat} (h22 : Rf md 22 = some a22) (hn : n < 6) (hr : Rf a22 n = some r) : K r = (2, (datM M n).length) ∧ ρ r = 3020 + n ∧ ∀ k, k < (datM M n).length → X r k = (datM M n).getD k 0 := by
  obtain ⟨-, -, -, b9, b10, b11, b22, b34, ⟨g1, g2, g3, g4, g5⟩, hp, hs, hl⟩ := h
  rw [g4] at h22; cases h22
  rcases hs n hn with q | ⟨r', q1, q2, q3, q4, q5⟩
  · rw [q] at hr; cases hr
  · rw [q1] at hr; cases hr
    exact ⟨q2, q3, q5⟩
/-- the dates of one series are laid -/
theorem repR.lay22 (h : repR ρ K X Rf md M) {a22 r : Nat} (h22 : Rf md 22 = some a22) (hn : n < 6) (hn16 : (n : Int) < M 40 16) (gK : ∀ a, (K a).1 ≠ 0 → K' a = K a) (gX : ∀ a, (K a).1 ≠ 0 → X' a = X a) (hro : ∀ a, (K a).1 ≠ 0 → ρ' a = ρ a) (gR : ∀ a, (K a).1 ≠ 0 → a ≠ a22 → Rf' a = Rf a) (hkk : ∀ k, k ≠ n → Rf' a22 k = Rf a22 k)
    (hr : Rf' a22 n = some r) (hkr : K' r = (2, (datM M n).length)) (hlr : ρ' r = 3020 + n) (hv : ∀ k, k < (datM M n).length → X' r k = (datM M n).getD k 0) : repR ρ' K' X' Rf' md M ∧ frR ρ K X Rf ρ' K' X' Rf' ∧ lsR X Rf X' Rf' md ∧ dnC Rf' md n = 0 := by
  have hff := h.ff
  obtain ⟨⟨hmd, hlmd⟩, hnum, hd, a9, a10, a11, b22, a34, ⟨g1, g2, g3, g4, g5⟩, hpc, hs, hl⟩ := h
  have e22 := g4
  rw [h22] at e22; cases e22
  have lab : ∀ f a, (kdM f).1 ≠ 0 → Rf md f = some a → ρ a = 2001 + f ∧ (K a).1 ≠ 0 := fun f a hk hr => by
    obtain ⟨b, w1, w2, w3⟩ := hff f hk
    rw [hr] at w1; cases w1
    exact ⟨w3, by rw [w2]; exact hk⟩
  have l22 := lab 22 a22 (by decide) g4
  have l9 := lab 9 a9 (by decide) g1
  have l10 := lab 10 a10 (by decide) g2
  have l11 := lab 11 a11 (by decide) g3
  have l34 := lab 34 a34 (by decide) g5
  have hm := zk1 hmd
  have hmR : Rf' md = Rf md := gR md hm (fun g => by have := l22.1; rw [← g, hlmd] at this; omega)
  have nR : ∀ a, (K a).1 ≠ 0 → ρ a ≠ 2023 → Rf' a = Rf a := fun a h1 h2 => gR a h1 (fun g => h2 (by rw [g]; exact l22.1))
  refine ⟨⟨⟨by rw [gK md hm]; exact hmd, by rw [hro md hm]; exact hlmd⟩, fun q g => by rw [gX md hm]; exact hnum q g, fun f hf => ?_, a9, a10, a11, a22, a34, by rw [hmR]; exact ⟨g1, g2, g3, g4, g5⟩, fun p hp6 => ?_, fun k hk6 => ?_, by rw [gX md hm, gX a34 l34.2]; exact hl⟩, fun a ha => ⟨gK a ha, hro a ha, fun g => ⟨gX a ha, nR a ha (by omega)⟩⟩, ⟨fun p => ?_, fun k => ?_⟩, ?_⟩
  · obtain ⟨b, w1, w2, w3, w4⟩ := hd f hf
    have hb : (K b).1 ≠ 0 := by rw [w2]; exact hf
    exact ⟨b, by rw [hmR]; exact w1, by rw [gK b hb]; exact w2, by rw [hro b hb]; exact w3, fun g => by rw [gX b hb]; exact w4 g⟩
  · rw [gX a9 l9.2]
    rcases hpc p hp6 with ⟨w1, w2⟩ | w
    · exact Or.inl ⟨w1, w2.keep (fun a c1 c2 => ⟨gK a c1, hro a c1, gX a c1⟩) (by rw [gX a9 l9.2]) (by rw [nR a10 l10.2 (by omega)]) (by rw [nR a11 l11.2 (by omega)])⟩
    · exact Or.inr w
  · by_cases g : k = n
    · subst g
      exact Or.inr ⟨r, hr, hkr, hlr, hn16, hv⟩
    · exact (hs k hk6).keep (fun a c1 c2 => ⟨gK a c1, hro a c1, gX a c1⟩) (hkk k g)
  · rw [dlC_a g1, dlC_a (by rw [hmR]; exact g1), gX a9 l9.2]; exact Nat.le_refl _
  · by_cases g : k = n
    · subst g
      rw [dnC_s (by rw [hmR]; exact g4) hr]; omega
    · rw [dnC_a g4, dnC_a (by rw [hmR]; exact g4), hkk k g]; exact Nat.le_refl _
  · exact dnC_s (by rw [hmR]; exact g4) hr
end ZDC
theorem d2n (x : UInt64) : x = UInt64.ofNat ((x.toNat : Nat) : Int).toNat := by rw [Int.toNat_natCast]; simp
