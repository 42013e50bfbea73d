-- ===== days and months: y counts years from 1900, i months from January 1900 =====
theorem tm_spec (x : Int) {y : Int} (hy : 0 < y) : (0 ≤ x → x.tmod y = x % y) ∧ (x < 0 → (x % y = 0 ∧ x.tmod y = 0) ∨ (x % y ≠ 0 ∧ x.tmod y = x % y - y)) := by
  refine ⟨fun h => Int.tmod_eq_emod_of_nonneg h, fun h => ?_⟩
  have h1 : x.tmod y = _ := Int.tmod_eq_emod
  have h2 := Int.emod_nonneg x (by omega : y ≠ 0)
  by_cases hd : y ∣ x
  · have h3 := Int.emod_eq_zero_of_dvd hd
    left; refine ⟨h3, ?_⟩
    rw [h1, if_pos (Or.inr hd), h3]; omega
  · have h3 : x % y ≠ 0 := fun q => hd (Int.dvd_of_emod_eq_zero q)
    right; refine ⟨h3, ?_⟩
    rw [h1, if_neg (by intro q; rcases q with q | q; omega; exact hd q)]; omega
theorem td_spec (x : Int) {y : Int} (hy : 0 < y) : (0 ≤ x → x.tdiv y = x / y) ∧ (x < 0 → (x % y = 0 ∧ x.tdiv y = x / y) ∨ (x % y ≠ 0 ∧ x.tdiv y = x / y + 1)) := by
  refine ⟨fun h => Int.tdiv_eq_ediv_of_nonneg h, fun h => ?_⟩
  have h1 : x.tdiv y = _ := Int.tdiv_eq_ediv
  by_cases hd : y ∣ x
  · have h3 := Int.emod_eq_zero_of_dvd hd
    left; refine ⟨h3, ?_⟩
    rw [h1, if_pos (Or.inr hd)]; omega
  · have h3 : x % y ≠ 0 := fun q => hd (Int.dvd_of_emod_eq_zero q)
    right; refine ⟨h3, ?_⟩
    rw [h1, if_neg (by intro q; rcases q with q | q; omega; exact hd q), Int.sign_eq_one_of_pos hy]
def yb (y : Int) : Int := 365 * y + (if y ≤ 0 then 0 else (y - 1) / 4)
def lpy (y : Int) : Int := if y % 4 = 0 ∧ y ≠ 0 then 1 else 0
def cum (y m : Int) : Int := if m ≤ 0 then 0 else if m = 1 then 31 else if m = 2 then 59 + lpy y else if m = 3 then 90 + lpy y else if m = 4 then 120 + lpy y else if m = 5 then 151 + lpy y else if m = 6 then 181 + lpy y else if m = 7 then 212 + lpy y else if m = 8 then 243 + lpy y else if m = 9 then 273 + lpy y else if m = 10 then 304 + lpy y else if m = 11 then 334 + lpy y else 365 + lpy y
def mB (i : Int) : Int := if i < 0 then 0 else if 2400 ≤ i then 73049 else yb (i / 12) + cum (i / 12) (i % 12)
def yr (d : Int) : Int := 4 * (d + 1) / 1461
def mor (y r : Int) : Int := if r < 31 then 0 else if r < 59 + lpy y then 1 else if r < 90 + lpy y then 2 else if r < 120 + lpy y then 3 else if r < 151 + lpy y then 4 else if r < 181 + lpy y then 5 else if r < 212 + lpy y then 6 else if r < 243 + lpy y then 7 else if r < 273 + lpy y then 8 else if r < 304 + lpy y then 9 else if r < 334 + lpy y then 10 else 11
def mi (d : Int) : Int := 12 * yr d + mor (yr d) (d - yb (yr d))
theorem yb_succ (y : Int) (h : 0 ≤ y) : yb (y + 1) = yb y + 365 + lpy y := by unfold yb lpy; split <;> split <;> split <;> omega
theorem yb_0 : yb 0 = 0 := by decide
theorem yb_200 : yb 200 = 73049 := by decide
theorem yb_mono {a b : Int} (h0 : 0 ≤ a) (h : a ≤ b) : yb a ≤ yb b := by unfold yb; split <;> split <;> omega
theorem yb_lt {a b : Int} (h0 : 0 ≤ a) (h : a < b) : yb a < yb b := by unfold yb; split <;> split <;> omega
theorem yr_rng {d : Int} (h0 : 0 ≤ d) (h : d ≤ 73048) : 0 ≤ yr d ∧ yr d ≤ 199 ∧ yb (yr d) ≤ d ∧ d < yb (yr d + 1) := by
  unfold yr yb
  split <;> split <;> omega
theorem yr_uniq {d y : Int} (h0 : 0 ≤ y) (h1 : yb y ≤ d) (h2 : d < yb (y + 1)) : yr d = y := by
  unfold yb at h1 h2
  unfold yr
  split at h1 <;> split at h2 <;> omega
theorem lpy_rng (y : Int) : 0 ≤ lpy y ∧ lpy y ≤ 1 := by unfold lpy; split <;> omega
theorem cum_12 (y : Int) : cum y 12 = 365 + lpy y := by unfold cum; simp
theorem cum_0 (y : Int) : cum y 0 = 0 := by unfold cum; simp
theorem cum_lt {y m : Int} (h0 : 0 ≤ m) (h : m < 12) : cum y m < cum y (m + 1) ∧ cum y (m + 1) ≤ cum y m + 31 ∧ cum y m + 28 ≤ cum y (m + 1) := by
  have := lpy_rng y
  rcases (by omega : m = 0 ∨ m = 1 ∨ m = 2 ∨ m = 3 ∨ m = 4 ∨ m = 5 ∨ m = 6 ∨ m = 7 ∨ m = 8 ∨ m = 9 ∨ m = 10 ∨ m = 11) with rfl | rfl | rfl | rfl | rfl | rfl | rfl | rfl | rfl | rfl | rfl | rfl <;> simp [cum] <;> omega
theorem mB_in {i : Int} (h0 : 0 ≤ i) (h : i < 2400) : mB i = yb (i / 12) + cum (i / 12) (i % 12) := by unfold mB; rw [if_neg (by omega), if_neg (by omega)]
theorem mB_ym {y m : Int} (h0 : 0 ≤ y) (h : y < 200) (m0 : 0 ≤ m) (h12 : m ≤ 12) : mB (12 * y + m) = yb y + cum y m := by
  by_cases hm : m = 12
  · subst hm
    by_cases hy : y = 199
    · subst hy; decide
    · rw [mB_in (by omega) (by omega), show (12 * y + 12) / 12 = y + 1 by omega, show (12 * y + 12) % 12 = 0 by omega, cum_0, cum_12, yb_succ y h0]; omega
  · rw [mB_in (by omega) (by omega), show (12 * y + m) / 12 = y by omega, show (12 * y + m) % 12 = m by omega]
theorem mB_0 : mB 0 = 0 := by decide
theorem mB_neg {i : Int} (h : i < 0) : mB i = 0 := by unfold mB; rw [if_pos h]
theorem mB_big {i : Int} (h : 2400 ≤ i) : mB i = 73049 := by unfold mB; rw [if_neg (by omega), if_pos h]
theorem mB_succ {i : Int} (h0 : 0 ≤ i) (h : i < 2400) : mB i + 28 ≤ mB (i + 1) ∧ mB (i + 1) ≤ mB i + 31 := by
  have h1 := mB_ym (y := i / 12) (m := i % 12) (by omega) (by omega) (by omega) (by omega)
  have h2 := mB_ym (y := i / 12) (m := i % 12 + 1) (by omega) (by omega) (by omega) (by omega)
  rw [show 12 * (i / 12) + i % 12 = i by omega] at h1
  rw [show 12 * (i / 12) + (i % 12 + 1) = i + 1 by omega] at h2
  have h3 := cum_lt (y := i / 12) (m := i % 12) (by omega) (by omega)
  omega
theorem mB_step (i : Int) : mB i ≤ mB (i + 1) := by
  by_cases h : i < 0
  · by_cases h2 : i = -1
    · subst h2; decide
    · rw [mB_neg h, mB_neg (by omega)]; omega
  · by_cases h3 : i < 2400
    · have := mB_succ (by omega) h3; omega
    · rw [mB_big (by omega), mB_big (by omega)]; omega
theorem mB_mono {a b : Int} (h : a ≤ b) : mB a ≤ mB b := by
  obtain ⟨n, rfl⟩ : ∃ n : Nat, b = a + n := ⟨(b - a).toNat, by omega⟩
  clear h
  induction n with
  | zero => simp
  | succ n ih => have := mB_step (a + n); rw [show a + ((n + 1 : Nat) : Int) = a + n + 1 by omega]; omega
theorem mB_lt {a b : Int} (h0 : 0 ≤ a) (h2 : a < 2400) (h : a < b) : mB a < mB b := by
  have h1 := mB_succ h0 h2
  have h3 := mB_mono (show a + 1 ≤ b by omega)
  omega
theorem mB_rng (i : Int) : 0 ≤ mB i ∧ mB i ≤ 73049 := by
  have h1 : mB (-1) = 0 := by decide
  have h2 : mB 2400 = 73049 := by decide
  by_cases h : i < 0
  · rw [mB_neg h]; omega
  · have a := mB_mono (show (-1 : Int) ≤ i by omega)
    by_cases h3 : i ≤ 2400
    · have b := mB_mono h3; omega
    · rw [mB_big (by omega)]; omega
theorem mor_rng (y r : Int) : 0 ≤ mor y r ∧ mor y r ≤ 11 := by
  unfold mor; repeat' split
  all_goals omega
theorem mor_cum {y r : Int} (h0 : 0 ≤ r) (h : r < 365 + lpy y) : cum y (mor y r) ≤ r ∧ r < cum y (mor y r + 1) := by
  have := lpy_rng y
  unfold mor; repeat' split
  all_goals (simp [cum]; omega)
theorem mi_rng {d : Int} (h0 : 0 ≤ d) (h : d ≤ 73048) : 0 ≤ mi d ∧ mi d < 2400 ∧ mB (mi d) ≤ d ∧ d < mB (mi d + 1) := by
  obtain ⟨h1, h2, h3, h4⟩ := yr_rng h0 h
  have h5 := mor_rng (yr d) (d - yb (yr d))
  have h6 := mor_cum (y := yr d) (r := d - yb (yr d)) (by omega) (by rw [yb_succ _ h1] at h4; omega)
  unfold mi
  refine ⟨by omega, by omega, ?_, ?_⟩
  · rw [mB_ym h1 (by omega) h5.1 (by omega)]; omega
  · rw [Int.add_assoc, mB_ym h1 (by omega) (by omega) (by omega)]; omega
theorem mi_uniq {d i : Int} (h0 : 0 ≤ i) (h2 : i < 2400) (h3 : mB i ≤ d) (h4 : d < mB (i + 1)) : mi d = i := by
  have a := mB_rng i
  have b := mB_rng (i + 1)
  obtain ⟨c1, c2, c3, c4⟩ := mi_rng (d := d) (by omega) (by omega)
  by_cases h : mi d < i
  · have := mB_mono (show mi d + 1 ≤ i by omega); omega
  · by_cases h5 : i < mi d
    · have := mB_mono (show i + 1 ≤ mi d by omega); omega
    · omega
theorem yr_mi {d : Int} (h0 : 0 ≤ d) (h : d ≤ 73048) : mi d / 12 = yr d := by
  have := mor_rng (yr d) (d - yb (yr d))
  unfold mi; omega
/-- the class's formula -/
theorem mB_formula {i : Int} (h0 : 0 ≤ i) (h : i < 2400) (t : Int) (ht : t = if i % 12 + 1 ≤ 2 then 0 else if (i / 12) % 4 = 0 ∧ i / 12 ≠ 0 then 1 else 2) : mB i = 365 * (i / 12) + (if i / 12 = 0 then 0 else (i / 12 - 1) / 4) + (367 * (i % 12 + 1) - 362) / 12 - t := by
  rw [mB_in h0 h]
  have h1 : yb (i / 12) = 365 * (i / 12) + (if i / 12 = 0 then 0 else (i / 12 - 1) / 4) := by
    unfold yb; split <;> split <;> omega
  have h2 : cum (i / 12) (i % 12) = (367 * (i % 12 + 1) - 362) / 12 - t := by
    subst ht
    rcases (by omega : i % 12 = 0 ∨ i % 12 = 1 ∨ i % 12 = 2 ∨ i % 12 = 3 ∨ i % 12 = 4 ∨ i % 12 = 5 ∨ i % 12 = 6 ∨ i % 12 = 7 ∨ i % 12 = 8 ∨ i % 12 = 9 ∨ i % 12 = 10 ∨ i % 12 = 11) with q | q | q | q | q | q | q | q | q | q | q | q <;> rw [q] <;> simp [cum, lpy] <;> split <;> omega
  omega
def estf (year : Int) : Int :=
  let a := year % 19
  let b := year / 100
  let c := year % 100
  let d := (19 * a + b - b / 4 - (b - (b + 8) / 25 + 1) / 3 + 15) % 30
  let e := (32 + 2 * (b % 4) + 2 * (c / 4) - d - c % 4) % 7
  d + e - 7 * ((a + 11 * d + 22 * e) / 451) + 114
theorem estf_rng {year : Int} (h : 1900 ≤ year) (h2 : year ≤ 2099) : 107 ≤ estf year ∧ estf year ≤ 149 := by
  unfold estf
  dsimp only
  omega
def est (year : Int) : Int := mB (12 * (year - 1900) + estf year / 31 - 1) + estf year % 31
def bitw (w d : Int) : Int := (w / 2 ^ (d % 7).toNat) % 2
theorem bitw_01 (w d : Int) : bitw w d = 0 ∨ bitw w d = 1 := by unfold bitw; omega
section ZFOR
variable {l : Launch} {Γ : zG}
theorem Met.ofF {y : MethodName} {ws ws' : List Cond} {rm : Room} {Pc : Array Value → State → Prop} {Qc : Array Value → State → Outcome → State → Prop} {mc ms : Nat} {free : Addr → Prop} {cc : ByteArray} {maxL : Nat} {ret : Option FieldType}
    (hy : plainFor y = true) (hw : ws = Cond.code y cc maxL ret :: ws')
    (body : ∀ p e s m args below meth c s₁, BodyLoose p l y (headSpec ws rm) cc maxL ret e s m args below meth c s₁ → c.maxLocals = maxL → Pc args s →
      W p l e (headSpec ws rm).room s m args below meth c s.heap [] 0 0 (MQ below Qc args s mc ms free) (entryFrame m args maxL)) : Met l y ws rm Pc Qc mc ms free := by
  refine MetFree.of_bodySF (code := cc) (maxLocals := maxL) (ret := ret) hy ?_ ?_
  · intro args s m h hn
    obtain ⟨meth, c, h1, h2, h3, h4, h5, h6, -, -⟩ := Cond.code_spec hn (atoms_spec (ws := ws) h _ (by rw [hw]; exact List.mem_cons_self))
    exact ⟨meth, c, h1, h2, h3, h4, h5, h6⟩
  · intro p e s m args below meth c s₁ B hml hP _
    have hh0 : s₁.heap = s.heap := by rw [B.state]; rfl
    obtain ⟨t, a1, o, b1, b2, b3⟩ := body p e s m args below meth c s₁ B hml hP s₁ hh0 (Stand.of_body B)
    exact ⟨t, o, a1, b1, b2, ⟨b3.1, b3.2⟩⟩
theorem Ct.ofF {y : MethodName} {b : ByteArray} {n : Nat} {ret : Option FieldType} {d mc ms : Nat} {av : List Value} {K : zK} {X : zX} {Rf : zR} {post : Option Value → zK → zX → zR → Prop} (hy : plainFor y = true) (hn : (lg_sl av).length ≤ n)
    (body : ∀ (p : Program) (e : Env) (s : State) (m : MethodId) (below : List Frame) (meth : Method) (c : Code) (ls : Array Slot), p.tables.exec = Jvm.exec → c.code = b → meth.sig.returnType = ret → c.maxLocals = n → s.vm.findClass y.cls = some m.cls → (∀ w ∈ GG, w.before av.toArray s = true) → meth.locks = false → meth.name = y.name →
      Wd Γ (zA K s.heap.size) K X Rf s s.heap [] → lv_has ls n (lv_args 0 av) →
      W p l e (rmL d mc ms) s m av.toArray below meth c s.heap [] 0 0 (MQ below (zQ Γ K s.heap.size post) av.toArray s mc ms (zA K s.heap.size)) (F0 m 0 ls [])) : Ct l y b n ret d mc ms Γ av K X Rf post := by
  intro sz
  refine Met.ofF (cc := b) (maxL := n) (ret := ret) hy rfl ?_
  intro p e s m args below meth c s₁ B hml hv
  obtain ⟨rfl, hsz, hKn, hP⟩ := hv
  subst hsz
  have hts := atoms_spec (ws := .code y b n ret :: GG) B.pre
  have hl := lv_entry av (n := n) hn
  rw [lg_entry_eq]
  exact body p e s m below meth c _ B.exec B.bytes B.returns hml (findClass_of_methodNamed B.named) (fun w hw => hts w (List.mem_cons_of_mem _ hw)) B.notSynchronized (name_of_methodNamed B.named B.method).1 ⟨hKn, fun q h => Or.inr h, va_S.rf, hP.weaken (fun q hq => Or.inl hq)⟩ hl
end ZFOR
theorem mi_guess {d : Int} (h0 : 0 ≤ d) (h : d ≤ 73048) : (mB (12 * yr d + (d - mB (12 * yr d)) / 31 + 1) ≤ d → mi d = 12 * yr d + (d - mB (12 * yr d)) / 31 + 1) ∧ (d < mB (12 * yr d + (d - mB (12 * yr d)) / 31 + 1) → mi d = 12 * yr d + (d - mB (12 * yr d)) / 31) := by
  obtain ⟨h1, h2, h3, h4⟩ := yr_rng h0 h
  have e0 : mB (12 * yr d) = yb (yr d) := by have := mB_ym (y := yr d) (m := 0) h1 (by omega) (by omega) (by omega); rw [cum_0] at this; rw [show 12 * yr d = 12 * yr d + 0 by omega, this]; omega
  rw [e0]
  rw [yb_succ _ h1] at h4
  have hl := lpy_rng (yr d)
  obtain ⟨k, hk⟩ : ∃ k, k = (d - yb (yr d)) / 31 := ⟨_, rfl⟩
  rw [← hk]
  have hk0 : 0 ≤ k := by omega
  have hk1 : k ≤ 11 := by omega
  have c0 : cum (yr d) k ≤ 31 * k := by
    rcases (by omega : k = 0 ∨ k = 1 ∨ k = 2 ∨ k = 3 ∨ k = 4 ∨ k = 5 ∨ k = 6 ∨ k = 7 ∨ k = 8 ∨ k = 9 ∨ k = 10 ∨ k = 11) with q | q | q | q | q | q | q | q | q | q | q | q <;> rw [q] <;> simp [cum] <;> omega
  have m0 := mB_ym (y := yr d) (m := k) h1 (by omega) hk0 (by omega)
  refine ⟨fun g => ?_, fun g => mi_uniq (by omega) (by omega) (by omega) g⟩
  have hk2 : k ≠ 11 := by
    intro q
    rw [q, show 12 * yr d + 11 + 1 = 12 * yr d + 12 by omega, mB_ym h1 (by omega) (by omega) (by omega), cum_12] at g
    omega
  have c2 : 31 * (k + 1) ≤ cum (yr d) (k + 2) := by
    rcases (by omega : k = 0 ∨ k = 1 ∨ k = 2 ∨ k = 3 ∨ k = 4 ∨ k = 5 ∨ k = 6 ∨ k = 7 ∨ k = 8 ∨ k = 9 ∨ k = 10) with q | q | q | q | q | q | q | q | q | q | q <;> rw [q] <;> simp [cum] <;> omega
  have m2 := mB_ym (y := yr d) (m := k + 2) h1 (by omega) (by omega) (by omega)
  exact mi_uniq (by omega) (by omega) g (by rw [show 12 * yr d + k + 1 + 1 = 12 * yr d + (k + 2) by omega, m2]; omega)
