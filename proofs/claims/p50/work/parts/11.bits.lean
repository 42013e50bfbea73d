section ZBITS
variable {p : Program} {l : Launch} {e : Env} {R : Room} {s : State} {m : MethodId} {args : Array Value} {below : List Frame} {meth : Method} {c : Code} {H : Heap} {locs : List Loc} {cells slots : Nat} {Q : State → Prop}
variable {cc : ByteArray} {pc : Nat} {ls : Array Slot} {rest : List Value} {Γ : zG} {A : Nat → Prop} {K : zK} {X X' : zX} {Rf Rf' : zR} {a : Nat}
theorem zne {K : zK} {a q n k : Nat} (h : K a = (k + 1, n)) (hq : (K q).1 = 0) : a ≠ q := fun e => by rw [← e, h] at hq; exact absurd hq (Nat.succ_ne_zero _)
theorem zs_l : ∀ n, n < 32 → ((nI n &&& 31).toBitVec.smod 32).toNat = n := by decide +kernel
theorem zs_u : ∀ n, n < 32 → (((nI n).toUInt32 &&& Int32.toUInt32 31).toBitVec % 32).toNat = n := by decide +kernel
theorem iI_n {a : Int} (h : 0 ≤ a) : iI a = nI a.toNat := by rw [show a = (a.toNat : Int) by omega]; rfl
theorem zpw (k : Nat) : ((2 ^ k : Nat) : Int) = (2 : Int) ^ k := by rw [Int.natCast_pow]; rfl
theorem zdivn {a : Int} (h : 0 ≤ a) (k : Nat) : a / 2 ^ k = ((a.toNat / 2 ^ k : Nat) : Int) := by
  rw [Int.natCast_ediv, zpw, Int.toNat_of_nonneg h]
theorem zshr (hx : p.tables.exec = Jvm.exec) (hb : c.code = cc) {a b : Int} (h : (0 ≤ a ∧ a < 2147483648) ∧ 0 ≤ b ∧ b < 32) (hdg : decode cc pc = .ok (.ishr, 1)) (k : W p l e R s m args below meth c H locs cells slots Q (F0 m (pc + 1) ls (.int (iI (a / 2 ^ b.toNat)) :: rest))) : W p l e R s m args below meth c H locs cells slots Q (F0 m pc ls (.int (iI b) :: .int (iI a) :: rest)) := by
  refine lv_ishr hx hb hdg ?_
  have e : iI a >>> (iI b &&& 31) = iI (a / 2 ^ b.toNat) := by
    rw [iI_n h.1.1, iI_n h.2.1, pk_shrN (by omega) _ b.toNat (zs_l _ (by omega)), zdivn h.1.1]; rfl
  rw [e]; exact k
theorem zushr (hx : p.tables.exec = Jvm.exec) (hb : c.code = cc) {a b : Int} (h : (0 ≤ a ∧ a < 2147483648) ∧ 0 ≤ b ∧ b < 32) (hdg : decode cc pc = .ok (.iushr, 1)) (k : W p l e R s m args below meth c H locs cells slots Q (F0 m (pc + 1) ls (.int (iI (a / 2 ^ b.toNat)) :: rest))) : W p l e R s m args below meth c H locs cells slots Q (F0 m pc ls (.int (iI b) :: .int (iI a) :: rest)) := by
  refine lv_iushr hx hb hdg ?_ k
  rw [iI_n h.1.1, iI_n h.2.1, pk_ushrN (by omega) _ b.toNat (zs_u _ (by omega)), zdivn h.1.1]; rfl
theorem zshl (hx : p.tables.exec = Jvm.exec) (hb : c.code = cc) {a b : Int} (h : (0 ≤ a ∧ a < 65536) ∧ 0 ≤ b ∧ b < 16) (hdg : decode cc pc = .ok (.ishl, 1)) (k : W p l e R s m args below meth c H locs cells slots Q (F0 m (pc + 1) ls (.int (iI (a * 2 ^ b.toNat)) :: rest))) : W p l e R s m args below meth c H locs cells slots Q (F0 m pc ls (.int (iI b) :: .int (iI a) :: rest)) := by
  refine lv_ishl hx hb hdg ?_
  have hs : a.toNat * 2 ^ b.toNat < 2 ^ 32 := by
    have h1 : a.toNat < 2 ^ 16 := by omega
    have h2 : 2 ^ b.toNat ≤ 2 ^ 16 := Nat.pow_le_pow_right (by omega) (by omega)
    calc a.toNat * 2 ^ b.toNat ≤ a.toNat * 2 ^ 16 := Nat.mul_le_mul_left _ h2
      _ < 2 ^ 16 * 2 ^ 16 := Nat.mul_lt_mul_of_pos_right h1 (by omega)
      _ = 2 ^ 32 := by decide
  have e0 : a * 2 ^ b.toNat = ((a.toNat * 2 ^ b.toNat : Nat) : Int) := by rw [Int.natCast_mul, zpw, Int.toNat_of_nonneg h.1.1]
  have e : iI a <<< (iI b &&& 31) = iI (a * 2 ^ b.toNat) := by
    rw [iI_n h.1.1, iI_n h.2.1, pk_shlN _ b.toNat (zs_l _ (by omega)) hs, e0]; rfl
  rw [e]; exact k
theorem iI_bv (a : Int) : (iI a).toBitVec.toNat = (a % 4294967296).toNat := by
  show (BitVec.ofInt 32 a).toNat = _
  rw [BitVec.toNat_ofInt]; rfl
theorem zandk {a : Int} {m : Int32} (k : Nat) (n : Int) (hn : n = 2 ^ k) (hm : m.toBitVec.toNat = 2 ^ k - 1) (hk : k ≤ 32) : iI a &&& m = iI (a % n) := by
  rw [pk_and _ k hm, iI_bv]
  have h1 : (0 : Int) < 2 ^ k := by rw [← zpw]; exact Int.natCast_pos.mpr (Nat.two_pow_pos k)
  have h2 : ((a % 4294967296).toNat % 2 ^ k : Nat) = (a % n).toNat := by
    subst hn
    have h3 : (((a % 4294967296).toNat % 2 ^ k : Nat) : Int) = a % 2 ^ k := by
      rw [Int.natCast_emod, zpw, Int.toNat_of_nonneg (by omega)]
      apply Int.emod_emod_of_dvd
      rw [show (4294967296 : Int) = 2 ^ 32 from rfl]
      exact ⟨2 ^ (32 - k), by rw [← Int.pow_add]; congr 1; omega⟩
    omega
  rw [h2, iI_n (a := a % n) (by subst hn; exact Int.emod_nonneg _ (by omega))]
theorem zand1 (hx : p.tables.exec = Jvm.exec) (hb : c.code = cc) {a : Int} (hdg : decode cc pc = .ok (.iand, 1)) (k : W p l e R s m args below meth c H locs cells slots Q (F0 m (pc + 1) ls (.int (iI (a % 2)) :: rest))) : W p l e R s m args below meth c H locs cells slots Q (F0 m pc ls (.int (iI 1) :: .int (iI a) :: rest)) := by
  refine lv_iand hx hb hdg ?_
  rw [zandk 1 2 rfl (by decide +kernel) (by omega)]; exact k
theorem zand63 (hx : p.tables.exec = Jvm.exec) (hb : c.code = cc) {a : Int} (hdg : decode cc pc = .ok (.iand, 1)) (k : W p l e R s m args below meth c H locs cells slots Q (F0 m (pc + 1) ls (.int (iI (a % 64)) :: rest))) : W p l e R s m args below meth c H locs cells slots Q (F0 m pc ls (.int (iI 63) :: .int (iI a) :: rest)) := by
  refine lv_iand hx hb hdg ?_
  rw [zandk 6 64 rfl (by decide +kernel) (by omega)]; exact k
theorem zor01 (hx : p.tables.exec = Jvm.exec) (hb : c.code = cc) {a b : Int} (h : (a = 0 ∨ a = 1) ∧ (b = 0 ∨ b = 1)) (hdg : decode cc pc = .ok (.ior, 1)) (k : W p l e R s m args below meth c H locs cells slots Q (F0 m (pc + 1) ls (.int (iI (max a b)) :: rest))) : W p l e R s m args below meth c H locs cells slots Q (F0 m pc ls (.int (iI b) :: .int (iI a) :: rest)) := by
  refine lv_ior hx hb hdg ?_
  have e : iI a ||| iI b = iI (max a b) := by rcases h with ⟨rfl | rfl, rfl | rfl⟩ <;> rfl
  rw [e]; exact k
theorem iI_neg0 (x : Int32) : x.toInt < 0 ↔ x.toBitVec.msb = true := by
  rw [BitVec.msb_eq_toInt]; simp only [decide_eq_true_eq]; rfl
theorem zxor (hx : p.tables.exec = Jvm.exec) (hb : c.code = cc) {a b : Int} (h : fit a ∧ fit b) (hdg : decode cc pc = .ok (.ixor, 1)) (k : ∀ r : Int, (fit r ∧ (r < 0 ↔ (a < 0 ∧ 0 ≤ b) ∨ (0 ≤ a ∧ b < 0))) → W p l e R s m args below meth c H locs cells slots Q (F0 m (pc + 1) ls (.int (iI r) :: rest))) : W p l e R s m args below meth c H locs cells slots Q (F0 m pc ls (.int (iI b) :: .int (iI a) :: rest)) := by
  refine lv_ixor hx hb hdg ?_
  obtain ⟨r, hr, e⟩ := iI_of (iI a ^^^ iI b)
  rw [e]
  refine k r ⟨hr, ?_⟩
  have h1 := iI_neg0 (iI a ^^^ iI b)
  have h2 := iI_neg0 (iI a)
  have h3 := iI_neg0 (iI b)
  rw [e, iI_toInt hr] at h1
  rw [iI_toInt h.1] at h2
  rw [iI_toInt h.2] at h3
  have h4 : (iI r).toBitVec.msb = ((iI a).toBitVec.msb ^^ (iI b).toBitVec.msb) := by rw [← e]; exact BitVec.msb_xor
  rw [h4] at h1
  rw [h1]
  cases g1 : (iI a).toBitVec.msb <;> cases g2 : (iI b).toBitVec.msb <;> rw [g1] at h2 <;> rw [g2] at h3 <;> simp at h2 h3 ⊢ <;> omega
theorem zbyt0 : ∀ n : Fin 256, (iI ((n.val : Int) - 128)).toInt8.toInt32 = iI ((n.val : Int) - 128) := by decide +kernel
theorem zbyt {a : Int} (h : -128 ≤ a ∧ a < 128) : (iI a).toInt8.toInt32 = iI a := by
  have := zbyt0 ⟨(a + 128).toNat, by omega⟩
  rwa [show (((a + 128).toNat : Nat) : Int) - 128 = a by omega] at this
theorem zbyte {a : Int} (h : -128 ≤ a ∧ a < 128) : vp_nar .byte (iI a) = iI a := by rw [vp_nar_byte, zbyt h]
theorem zi2b (hx : p.tables.exec = Jvm.exec) (hb : c.code = cc) {a : Int} (h : -128 ≤ a ∧ a < 128) (hdg : decode cc pc = .ok (.i2b, 1)) (k : W p l e R s m args below meth c H locs cells slots Q (F0 m (pc + 1) ls (.int (iI a) :: rest))) : W p l e R s m args below meth c H locs cells slots Q (F0 m pc ls (.int (iI a) :: rest)) := lv_i2b hx hb hdg (zbyt h) k
theorem zswIn (hx : p.tables.exec = Jvm.exec) (hb : c.code = cc) {dflt lo hi : Int} {offs : Array Int} {len : Nat} {x k : Int} {off : Int} {tgt : Nat} (hf : x = k) (hdg : decode cc pc = .ok (.tableswitch dflt lo hi offs, len)) (h1 : fit k ∧ ¬ k < lo) (h2 : ¬ hi < k) (ho : offs[(k - lo).toNat]? = some off) (ht : (pc : Int) + off = (tgt : Int))
    (kk : W p l e R s m args below meth c H locs cells slots Q (F0 m tgt ls rest)) : W p l e R s m args below meth c H locs cells slots Q (F0 m pc ls (.int (iI x) :: rest)) := by
  subst hf
  exact lv_tableIn hx hb hdg (by rw [iI_toInt h1.1]; exact h1.2) (by rw [iI_toInt h1.1]; exact h2) (by rw [iI_toInt h1.1]; exact ho) ht kk
theorem zswOut (hx : p.tables.exec = Jvm.exec) (hb : c.code = cc) {dflt lo hi : Int} {offs : Array Int} {len : Nat} {x : Int} {tgt : Nat} (hf : fit x) (hs : x < lo ∨ hi < x) (hdg : decode cc pc = .ok (.tableswitch dflt lo hi offs, len)) (ht : (pc : Int) + dflt = (tgt : Int))
    (kk : W p l e R s m args below meth c H locs cells slots Q (F0 m tgt ls rest)) : W p l e R s m args below meth c H locs cells slots Q (F0 m pc ls (.int (iI x) :: rest)) := lv_tableOut hx hb hdg (by rw [iI_toInt hf]; exact hs) ht kk
/-- ints copied from one array to another -/
def zcp (X : zX) (b a sp dp n : Nat) : zX := fun q j => if q = a then (if dp ≤ j ∧ j < dp + n then X b (sp + (j - dp)) else X a j) else X q j
theorem zcopy (hx : p.tables.exec = Jvm.exec) (hb : c.code = cc) (hml : c.maxLocals = ls.size) {own : String} {index : Nat} (hown : s.vm.findClass own = some m.cls) (hG : ∀ w ∈ GG, w.before args s = true) (hl : Cond.methodLink own index arraycopyName ∈ GG) (h2 : Cond.native arraycopyName ∈ GG) (h1 : Cond.static arraycopyName ∈ GG) (h3 : Cond.initialized "java/lang/System" ∈ GG) (hw : Wd Γ A K X Rf s H locs) {b n0 n1 : Nat} (hkb : K b = (2, n0)) (hka : K a = (2, n1))
    {sp dp n : Int} (hp : (0 ≤ sp ∧ 0 ≤ dp ∧ 0 ≤ n) ∧ sp + n ≤ n0 ∧ dp + n ≤ n1) (hsz : n0 < 2147483648 ∧ n1 < 2147483648) (hfr : 1 ≤ R.frames) (hlo : (rest.map fun v => v.category).sum + 40 ≤ R.locals) (hdg : decode cc pc = .ok (.invokestatic index, 3))
    (kk : ∀ (H1 : Heap) (locs1 : List Loc), Wd Γ A K (zcp X b a sp.toNat dp.toNat n.toNat) Rf s H1 locs1 → W p l e R s m args below meth c H1 locs1 cells slots Q (F0 m (pc + 3) ls rest)) : W p l e R s m args below meth c H locs cells slots Q (F0 m pc ls (.int (iI n) :: .int (iI dp) :: .ref a :: .int (iI sp) :: .ref b :: rest)) := by
  obtain ⟨hKn, hA, hS, L, hL, hP, hD⟩ := hw
  obtain ⟨q0, hq0⟩ := zat (Γ := Γ) (X := X) (Rf := Rf) hL (a := b) (by rw [hkb]; exact Nat.succ_ne_zero _)
  obtain ⟨q1, hq1⟩ := zat (Γ := Γ) (X := X) (Rf := Rf) hL (a := a) (by rw [hka]; exact Nat.succ_ne_zero _)
  have hq1' := hq1
  rw [zc2 hkb] at hq0
  rw [zc2 hka] at hq1
  have ng : ∀ z : Int, 0 ≤ z → z < 2147483648 → ¬ iI z < 0 := fun z hz hz2 h => by
    have h2 : iI z < iI 0 := h
    rw [iI_lt ⟨by omega, by omega⟩ ⟨by omega, by omega⟩] at h2
    omega
  have c1 := iI_cl hp.1.1 (show sp < 2147483648 by omega)
  have c2 := iI_cl hp.1.2.1 (show dp < 2147483648 by omega)
  have c3 := iI_cl hp.1.2.2 (show n < 2147483648 by omega)
  refine va_copyi (D := Γ.1) hx hb hml hown (hG _ hl) (hG _ h2) (hG _ h1) (hG _ h3) hKn.1 hP hD hS q0 q1 0 0 hq0 hq1 rfl rfl rfl (ng _ hp.1.1 (by omega)) (ng _ hp.1.2.1 (by omega)) (ng _ hp.1.2.2 (by omega)) (by rw [c1, c3]; omega) (by rw [c2, c3]; omega) (fun i hi => rfl) hfr (Nat.le_trans (Nat.add_le_add_left (by decide +kernel) _) hlo) hdg (fun H1 locs1 hP1 hD1 hS1 => kk H1 locs1 ?_)
  have e1 : zc Γ K (zcp X b a sp.toNat dp.toNat n.toNat) Rf a = .inl (Γ.2 0, n1, .inl (va_cpy (fun j => iI (X b j)) (fun j => iI (X a j)) (iI sp).toNatClampNeg (iI dp).toNatClampNeg (iI n).toNatClampNeg)) := by
    rw [zc2 hka, c1, c2, c3]
    congr 4
    funext j
    simp only [zcp, va_cpy, if_true]
    split <;> rfl
  rw [← e1, va_pl_set hD ((hL a).mpr (by rw [hka]; exact Nat.succ_ne_zero _)) hq1', zset (fun b hb => ⟨funext fun j => by simp [zcp, hb], rfl⟩)] at hP1 hD1
  exact ⟨hKn, hA, hS1, L, hL, hP1, hD1⟩
end ZBITS
theorem wm_objInit : Cond.instanceMethod objectInit ∈ GG := GG_mem (i := 0) (j := 13) rfl rfl
theorem wc_objInit : Cond.code objectInit ⟨#[0xb1]⟩ 1 none ∈ GG := GG_mem (i := 0) (j := 14) rfl rfl
