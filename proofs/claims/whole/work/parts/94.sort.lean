-- ===== addresses compared; bits =====
section ZACM
variable {p : Program} {l : Launch} {e : Env} {R : Room} {s : State} {m : MethodId} {args : Array Value} {below : List Frame} {meth : Method} {c : Code} {H : Heap} {locs : List Loc} {cells slots : Nat} {Q : State → Prop}
variable {cc : ByteArray} {pc : Nat} {ls : Array Slot} {rest : List Value} {Γ : zG} {A : Nat → Prop} {K : zK} {X X' : zX} {Rf Rf' : zR} {a : Nat}
theorem zacmp_ne (hx : p.tables.exec = Jvm.exec) (hb : c.code = cc) {x y : Nat} {off : Int} (tgt : Nat) (hdg : decode cc pc = .ok (.if_acmp .ne off, 3)) (ht : (pc : Int) + off = (tgt : Int)) (kt : x ≠ y → W p l e R s m args below meth c H locs cells slots Q (F0 m tgt ls rest)) (kf : x = y → W p l e R s m args below meth c H locs cells slots Q (F0 m (pc + 3) ls rest)) : W p l e R s m args below meth c H locs cells slots Q (F0 m pc ls (.ref y :: .ref x :: rest)) :=
  lv_acmp_ne (rx := some x) (ry := some y) hx hb hdg ht (fun h => kt (fun g => h (by rw [g]))) (fun h => kf (Option.some.inj h))
theorem ior1 : ∀ n : Nat, n < 512 → iI (n : Int) ||| iI 1 = iI (2 * ((n : Int) / 2) + 1) := by
  have h : (List.range 512).all (fun n => decide (iI (n : Int) ||| iI 1 = iI (2 * ((n : Int) / 2) + 1))) = true := by decide +kernel
  intro n hn
  exact of_decide_eq_true (List.all_eq_true.mp h n (List.mem_range.mpr hn))
theorem zor1 (hx : p.tables.exec = Jvm.exec) (hb : c.code = cc) {a : Int} (h : 0 ≤ a ∧ a < 512) (hdg : decode cc pc = .ok (.ior, 1)) (k : W p l e R s m args below meth c H locs cells slots Q (F0 m (pc + 1) ls (.int (iI (2 * (a / 2) + 1)) :: rest))) : W p l e R s m args below meth c H locs cells slots Q (F0 m pc ls (.int (iI 1) :: .int (iI a) :: rest)) := by
  refine lv_ior hx hb hdg ?_
  have e := ior1 a.toNat (by omega)
  rw [show ((a.toNat : Nat) : Int) = a by omega] at e
  rw [e]; exact k
theorem zor127 (hx : p.tables.exec = Jvm.exec) (hb : c.code = cc) {a : Int} (h : a = 0 ∨ a = 1) (hdg : decode cc pc = .ok (.ior, 1)) (k : W p l e R s m args below meth c H locs cells slots Q (F0 m (pc + 1) ls (.int (iI 127) :: rest))) : W p l e R s m args below meth c H locs cells slots Q (F0 m pc ls (.int (iI 127) :: .int (iI a) :: rest)) := by
  refine lv_ior hx hb hdg ?_
  have e : iI a ||| iI 127 = iI 127 := by rcases h with rfl | rfl <;> decide +kernel
  rw [e]; exact k
theorem zand1023 (hx : p.tables.exec = Jvm.exec) (hb : c.code = cc) (hdg : decode cc pc = .ok (.iand, 1)) (k : W p l e R s m args below meth c H locs cells slots Q (F0 m (pc + 1) ls (.int (iI 127) :: rest))) : W p l e R s m args below meth c H locs cells slots Q (F0 m pc ls (.int (iI 1023) :: .int (iI 127) :: rest)) := by
  refine lv_iand hx hb hdg ?_
  have e : iI 127 &&& iI 1023 = iI 127 := by decide +kernel
  rw [e]; exact k
end ZACM
-- ===== two sorted rows made one =====
def srtS (lo hi : Int) (F : Nat → Int) : Prop := ∀ i j : Nat, lo ≤ i → i < j → (j : Int) < hi → F i < F j
def Prw (lo hi : Int) (F G : Nat → Int) : Prop := (∀ k : Nat, lo ≤ k → (k : Int) < hi → ∃ m : Nat, lo ≤ m ∧ (m : Int) < hi ∧ G k = F m) ∧ (∀ m : Nat, lo ≤ m → (m : Int) < hi → ∃ k : Nat, lo ≤ k ∧ (k : Int) < hi ∧ G k = F m)
theorem srtS.r {lo hi : Int} {F : Nat → Int} (h : srtS lo hi F) : srtR lo hi F := fun i j g1 g2 g3 => by
  by_cases g : i = j
  · rw [g]; exact Int.le_refl _
  · exact Int.le_of_lt (h i j g1 (by omega) g3)
theorem srtS.inj {lo hi : Int} {F : Nat → Int} (h : srtS lo hi F) : injR lo hi F := fun i j i1 i2 j1 j2 e => by
  by_cases g : i = j
  · exact g
  · exfalso
    by_cases w : i < j
    · have := h i j i1 w j2; omega
    · have := h j i j1 (by omega) i2; omega
theorem srtR.s {lo hi : Int} {F : Nat → Int} (h : srtR lo hi F) (hj : injR lo hi F) : srtS lo hi F := fun i j g1 g2 g3 => by
  have h1 := h i j g1 (by omega) g3
  by_cases e : F i = F j
  · have := hj i j g1 (by omega) (by omega) g3 e; omega
  · omega
theorem srtS.congr {lo hi : Int} {F G : Nat → Int} (h : srtS lo hi F) (he : ∀ j : Nat, lo ≤ j → (j : Int) < hi → G j = F j) : srtS lo hi G := fun i j g1 g2 g3 => by
  rw [he i g1 (by omega), he j (by omega) g3]; exact h i j g1 g2 g3
theorem srtS.sub {lo hi lo' hi' : Int} {F : Nat → Int} (h : srtS lo hi F) (h1 : lo ≤ lo') (h2 : hi' ≤ hi) : srtS lo' hi' F := fun i j g1 g2 g3 => h i j (by omega) g2 (by omega)
theorem injR.congr {lo hi : Int} {F G : Nat → Int} (h : injR lo hi F) (he : ∀ j : Nat, lo ≤ j → (j : Int) < hi → G j = F j) : injR lo hi G := fun i j i1 i2 j1 j2 e => by
  rw [he i i1 i2, he j j1 j2] at e; exact h i j i1 i2 j1 j2 e
theorem injR.sub {lo hi lo' hi' : Int} {F : Nat → Int} (h : injR lo hi F) (h1 : lo ≤ lo') (h2 : hi' ≤ hi) : injR lo' hi' F := fun i j i1 i2 j1 j2 e => h i j (by omega) (by omega) (by omega) (by omega) e
theorem Prw.trans {lo hi : Int} {F G H : Nat → Int} (h : Prw lo hi F G) (h2 : Prw lo hi G H) : Prw lo hi F H := ⟨fun k k1 k2 => by
    obtain ⟨m, m1, m2, m3⟩ := h2.1 k k1 k2
    obtain ⟨w, w1, w2, w3⟩ := h.1 m m1 m2
    exact ⟨w, w1, w2, by rw [m3, w3]⟩, fun m m1 m2 => by
    obtain ⟨k, k1, k2, k3⟩ := h.2 m m1 m2
    obtain ⟨w, w1, w2, w3⟩ := h2.2 k k1 k2
    exact ⟨w, w1, w2, by rw [w3, k3]⟩⟩
theorem Prw.of {lo hi : Int} {F G : Nat → Int} (he : ∀ j : Nat, lo ≤ j → (j : Int) < hi → G j = F j) : Prw lo hi F G := ⟨fun k k1 k2 => ⟨k, k1, k2, he k k1 k2⟩, fun k k1 k2 => ⟨k, k1, k2, he k k1 k2⟩⟩
theorem Prw.app {lo mi hi : Int} {F G : Nat → Int} (h1 : Prw lo mi F G) (h2 : Prw mi hi F G) (hm : lo ≤ mi ∧ mi ≤ hi) : Prw lo hi F G := ⟨fun k k1 k2 => by
    by_cases g : (k : Int) < mi
    · obtain ⟨w, w1, w2, w3⟩ := h1.1 k k1 g; exact ⟨w, w1, by omega, w3⟩
    · obtain ⟨w, w1, w2, w3⟩ := h2.1 k (by omega) k2; exact ⟨w, by omega, w2, w3⟩, fun k k1 k2 => by
    by_cases g : (k : Int) < mi
    · obtain ⟨w, w1, w2, w3⟩ := h1.2 k k1 g; exact ⟨w, w1, by omega, w3⟩
    · obtain ⟨w, w1, w2, w3⟩ := h2.2 k (by omega) k2; exact ⟨w, by omega, w2, w3⟩⟩
def MRG (l m h : Int) (F1 F2 G : Nat → Int) (p q : Int) : Prop := (0 ≤ l ∧ l ≤ p ∧ p ≤ m ∧ m ≤ q ∧ q ≤ h) ∧ srtS l (p + q - m) G ∧ (∀ j : Nat, l ≤ j → (j : Int) < p + q - m → (p < m → G j < F1 p.toNat) ∧ (q < h → G j < F2 q.toNat)) ∧ (∀ j : Nat, l ≤ j → (j : Int) < p + q - m → (∃ i : Nat, l ≤ i ∧ (i : Int) < p ∧ G j = F1 i) ∨ ∃ i : Nat, m ≤ i ∧ (i : Int) < q ∧ G j = F2 i) ∧ (∀ i : Nat, l ≤ i → (i : Int) < p → ∃ j : Nat, l ≤ j ∧ (j : Int) < p + q - m ∧ G j = F1 i) ∧ ∀ i : Nat, m ≤ i → (i : Int) < q → ∃ j : Nat, l ≤ j ∧ (j : Int) < p + q - m ∧ G j = F2 i
theorem MRG.zero {l m h : Int} {F1 F2 G : Nat → Int} (h0 : 0 ≤ l ∧ l ≤ m ∧ m ≤ h) : MRG l m h F1 F2 G l m := ⟨by omega, fun i j g1 g2 g3 => by omega, fun j g1 g2 => by omega, fun j g1 g2 => by omega, fun i g1 g2 => by omega, fun i g1 g2 => by omega⟩
theorem MRG.s1 {l m h p q : Int} {F1 F2 G G' : Nat → Int} (hM : MRG l m h F1 F2 G p q) (hp : p < m) (hv : q < h → F1 p.toNat < F2 q.toNat) (h1 : srtS l m F1) (hG : G' = updF G (p + q - m).toNat (F1 p.toNat)) : MRG l m h F1 F2 G' (p + 1) q := by
  obtain ⟨h0, hs, hl, ha, hb, hc⟩ := hM
  subst hG
  have ol : ∀ j : Nat, (j : Int) < p + q - m → updF G (p + q - m).toNat (F1 p.toNat) j = G j := fun j hj => updF_o (by omega)
  have nw : ∀ j : Nat, l ≤ j → (j : Int) < p + 1 + q - m → ¬ (j : Int) < p + q - m → updF G (p + q - m).toNat (F1 p.toNat) j = F1 p.toNat := fun j j1 j2 j3 => by rw [show j = (p + q - m).toNat by omega, updF_s]
  refine ⟨by omega, fun i j g1 g2 g3 => ?_, fun j g1 g2 => ?_, fun j g1 g2 => ?_, fun i g1 g2 => ?_, fun i g1 g2 => ?_⟩
  · rw [ol i (by omega)]
    by_cases g : (j : Int) < p + q - m
    · rw [ol j g]; exact hs i j g1 g2 g
    · rw [nw j (by omega) g3 g]; exact (hl i g1 (by omega)).1 hp
  · by_cases g : (j : Int) < p + q - m
    · rw [ol j g]
      have := hl j g1 g
      refine ⟨fun w => ?_, this.2⟩
      have h2 := h1 p.toNat (p + 1).toNat (by omega) (by omega) (by omega)
      have := this.1 hp; omega
    · rw [nw j g1 g2 g]
      exact ⟨fun w => h1 p.toNat (p + 1).toNat (by omega) (by omega) (by omega), hv⟩
  · by_cases g : (j : Int) < p + q - m
    · rw [ol j g]
      rcases ha j g1 g with ⟨i, i1, i2, i3⟩ | ⟨i, i1, i2, i3⟩
      · exact Or.inl ⟨i, i1, by omega, i3⟩
      · exact Or.inr ⟨i, i1, i2, i3⟩
    · rw [nw j g1 g2 g]; exact Or.inl ⟨p.toNat, by omega, by omega, rfl⟩
  · by_cases g : (i : Int) < p
    · obtain ⟨j, j1, j2, j3⟩ := hb i g1 g
      exact ⟨j, j1, by omega, by rw [ol j j2]; exact j3⟩
    · exact ⟨(p + q - m).toNat, by omega, by omega, by rw [updF_s, show i = p.toNat by omega]⟩
  · obtain ⟨j, j1, j2, j3⟩ := hc i g1 g2
    exact ⟨j, j1, by omega, by rw [ol j j2]; exact j3⟩
theorem MRG.s2 {l m h p q : Int} {F1 F2 G G' : Nat → Int} (hM : MRG l m h F1 F2 G p q) (hq : q < h) (hv : p < m → F2 q.toNat < F1 p.toNat) (h1 : srtS m h F2) (hG : G' = updF G (p + q - m).toNat (F2 q.toNat)) : MRG l m h F1 F2 G' p (q + 1) := by
  obtain ⟨h0, hs, hl, ha, hb, hc⟩ := hM
  subst hG
  have ol : ∀ j : Nat, (j : Int) < p + q - m → updF G (p + q - m).toNat (F2 q.toNat) j = G j := fun j hj => updF_o (by omega)
  have nw : ∀ j : Nat, l ≤ j → (j : Int) < p + (q + 1) - m → ¬ (j : Int) < p + q - m → updF G (p + q - m).toNat (F2 q.toNat) j = F2 q.toNat := fun j j1 j2 j3 => by rw [show j = (p + q - m).toNat by omega, updF_s]
  refine ⟨by omega, fun i j g1 g2 g3 => ?_, fun j g1 g2 => ?_, fun j g1 g2 => ?_, fun i g1 g2 => ?_, fun i g1 g2 => ?_⟩
  · rw [ol i (by omega)]
    by_cases g : (j : Int) < p + q - m
    · rw [ol j g]; exact hs i j g1 g2 g
    · rw [nw j (by omega) g3 g]; exact (hl i g1 (by omega)).2 hq
  · by_cases g : (j : Int) < p + q - m
    · rw [ol j g]
      have := hl j g1 g
      refine ⟨this.1, fun w => ?_⟩
      have h2 := h1 q.toNat (q + 1).toNat (by omega) (by omega) (by omega)
      have := this.2 hq; omega
    · rw [nw j g1 g2 g]
      exact ⟨hv, fun w => h1 q.toNat (q + 1).toNat (by omega) (by omega) (by omega)⟩
  · by_cases g : (j : Int) < p + q - m
    · rw [ol j g]
      rcases ha j g1 g with ⟨i, i1, i2, i3⟩ | ⟨i, i1, i2, i3⟩
      · exact Or.inl ⟨i, i1, i2, i3⟩
      · exact Or.inr ⟨i, i1, by omega, i3⟩
    · rw [nw j g1 g2 g]; exact Or.inr ⟨q.toNat, by omega, by omega, rfl⟩
  · obtain ⟨j, j1, j2, j3⟩ := hb i g1 g2
    exact ⟨j, j1, by omega, by rw [ol j j2]; exact j3⟩
  · by_cases g : (i : Int) < q
    · obtain ⟨j, j1, j2, j3⟩ := hc i g1 g
      exact ⟨j, j1, by omega, by rw [ol j j2]; exact j3⟩
    · exact ⟨(p + q - m).toNat, by omega, by omega, by rw [updF_s, show i = q.toNat by omega]⟩
theorem MRG.tail {l m h : Int} {F1 F2 G : Nat → Int} (h1 : srtS m h F2) : ∀ (n : Nat) (q : Int), (h - q).toNat = n → MRG l m h F1 F2 G m q → (∀ j : Nat, q ≤ j → (j : Int) < h → G j = F2 j) → MRG l m h F1 F2 G m h
  | 0, q, hn, hM, _ => by
    have := hM.1
    rw [show h = q by omega] at hM ⊢; exact hM
  | n + 1, q, hn, hM, hg => by
    have h0 := hM.1
    refine MRG.tail h1 n (q + 1) (by omega) (hM.s2 (by omega) (fun w => by omega) h1 ?_) (fun j g1 g2 => hg j (by omega) g2)
    rw [← hg q.toNat (by omega) (by omega), show (m + q - m).toNat = q.toNat by omega, updF_self]
theorem MRG.done {l m h : Int} {F1 F2 G : Nat → Int} (hM : MRG l m h F1 F2 G m h) : srtS l h G ∧ Prw l h (fun j => if (j : Int) < m then F1 j else F2 j) G := by
  obtain ⟨h0, hs, hl, ha, hb, hc⟩ := hM
  rw [show m + h - m = h by omega] at hs ha hb hc
  refine ⟨hs, fun k k1 k2 => ?_, fun i g1 g2 => ?_⟩
  · rcases ha k k1 k2 with ⟨i, i1, i2, i3⟩ | ⟨i, i1, i2, i3⟩
    · exact ⟨i, i1, by omega, by dsimp only; rw [if_pos i2]; exact i3⟩
    · exact ⟨i, by omega, i2, by dsimp only; rw [if_neg (by omega)]; exact i3⟩
  · dsimp only
    by_cases g : (i : Int) < m
    · rw [if_pos g]; exact hb i g1 g
    · rw [if_neg g]; exact hc i (by omega) g2
theorem Prw.congr {lo hi : Int} {F G F' G' : Nat → Int} (h : Prw lo hi F G) (hF : ∀ j : Nat, lo ≤ j → (j : Int) < hi → F' j = F j) (hG : ∀ j : Nat, lo ≤ j → (j : Int) < hi → G' j = G j) : Prw lo hi F' G' := ⟨fun k k1 k2 => by
    obtain ⟨m, m1, m2, m3⟩ := h.1 k k1 k2
    exact ⟨m, m1, m2, by rw [hG k k1 k2, m3, hF m m1 m2]⟩, fun m m1 m2 => by
    obtain ⟨k, k1, k2, k3⟩ := h.2 m m1 m2
    exact ⟨k, k1, k2, by rw [hG k k1 k2, k3, hF m m1 m2]⟩⟩
theorem srtS.app {lo mi hi : Int} {F : Nat → Int} (h1 : srtS lo mi F) (h2 : srtS mi hi F) (h0 : 0 ≤ lo ∧ lo < mi ∧ mi < hi) (hm : F (mi - 1).toNat < F mi.toNat) : srtS lo hi F := fun i j g1 g2 g3 => by
  by_cases gj : (j : Int) < mi
  · exact h1 i j g1 g2 gj
  · by_cases gi : (i : Int) < mi
    · have w1 := h1.r i (mi - 1).toNat g1 (by omega) (by omega)
      have w2 := h2.r mi.toNat j (by omega) (by omega) g3
      omega
    · exact h2 i j (by omega) g2 g3
theorem srtS.snoc {lo k : Int} {G : Nat → Int} (h : srtS lo k G) (h0 : 0 ≤ lo ∧ lo < k) (hv : G (k - 1).toNat < G k.toNat) : srtS lo (k + 1) G := fun i j g1 g2 g3 => by
  by_cases gj : (j : Int) < k
  · exact h i j g1 g2 gj
  · have w1 := h.r i (k - 1).toNat g1 (by omega) (by omega)
    rw [show j = k.toNat by omega]; omega
theorem Prm.of_w {lo hi : Int} {F G : Nat → Int} (h : Prw lo hi F G) (ho : ∀ k : Nat, (k : Int) < lo ∨ hi ≤ k → G k = F k) (hs : srtS lo hi G) : Prm lo hi F G := ⟨ho, h.1, h.2, hs.inj⟩
/-- descending -/
def dscS (lo hi : Int) (F : Nat → Int) : Prop := ∀ i j : Nat, lo ≤ i → i < j → (j : Int) < hi → F j < F i
theorem dscS.snoc {lo k : Int} {G : Nat → Int} (h : dscS lo k G) (h0 : 0 ≤ lo ∧ lo < k) (hv : G k.toNat < G (k - 1).toNat) : dscS lo (k + 1) G := fun i j g1 g2 g3 => by
  by_cases gj : (j : Int) < k
  · exact h i j g1 g2 gj
  · rw [show j = k.toNat by omega]
    by_cases g : (i : Int) = k - 1
    · rw [show i = (k - 1).toNat by omega]; exact hv
    · have w1 := h i (k - 1).toNat g1 (by omega) (by omega); omega
theorem dscS.rev {lo hi : Int} {F G : Nat → Int} (h : dscS lo hi F) (h0 : 0 ≤ lo) (hv : ∀ t : Nat, lo ≤ t → (t : Int) < hi → G t = F (lo + hi - 1 - t).toNat) : srtS lo hi G := fun i j g1 g2 g3 => by
  rw [hv i g1 (by omega), hv j (by omega) g3]
  exact h _ _ (by omega) (by omega) (by omega)
