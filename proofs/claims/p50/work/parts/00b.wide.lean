/-- a sign takes nothing more than the number -/
theorem dm_sg (s : Bool) (n : Nat) : FP.Core.signed s n ≤ (n : Int) := by cases s <;> simp [FP.Core.signed] <;> omega
theorem dm_sg2 {s : Bool} {n : Nat} {z : Int} (h : FP.Core.signed s n = z) (hz : 0 ≤ z) : (n : Int) = z := by
  cases s <;> simp [FP.Core.signed] at h <;> omega
theorem dm_min : FP.Core.b64.qmin = -1074 := by decide +kernel
theorem dm_tl : FP.Core.b64.tails = 4503599627370496 := by decide +kernel
/-- a whole number in units that are small enough -/
theorem dm_un {i : Int} {s : Bool} {c : Nat} {q e : Int} (h : FP.Core.Whole i (.fin s c q)) (hi : 0 ≤ i) (he : e ≤ q) (h0 : e ≤ 0) : FP.Core.inUnits c q e = i.toNat * 2 ^ (-e).toNat := by
  have h1 := FP.Core.whole_units h he
  have e0 : e.toNat = 0 := by omega
  rw [e0, Nat.pow_zero, Int.natCast_one, Int.mul_one] at h1
  have h2 : (0 : Int) ≤ i * ((2 ^ (-e).toNat : Nat) : Int) := Int.mul_nonneg hi (Int.natCast_nonneg _)
  have h3 := dm_sg2 h1 h2
  have h4 : ((i.toNat * 2 ^ (-e).toNat : Nat) : Int) = i * ((2 ^ (-e).toNat : Nat) : Int) := by
    rw [Int.natCast_mul, Int.toNat_of_nonneg hi]
  exact Int.ofNat.inj (h3.trans h4.symm)
/-- the quotient of two whole numbers is no more than a whole number that is no less (read over the whole library: FloatLaws2) -/
theorem dm_le0 (a b w : Int32) (ha : 0 ≤ a.toInt) (hb : 1 ≤ b.toInt) (hw : 0 ≤ w.toInt) (h : a.toInt ≤ w.toInt * b.toInt) : FP.dcmp (FP.ddiv (FP.i2d a) (FP.i2d b)) (FP.i2d w) = some .lt ∨ FP.dcmp (FP.ddiv (FP.i2d a) (FP.i2d b)) (FP.i2d w) = some .eq := by
  show FP.Core.dcmp (FP.Core.ddiv (FP.Core.i2d a) (FP.Core.i2d b)) (FP.Core.i2d w) = some .lt ∨ FP.Core.dcmp (FP.Core.ddiv (FP.Core.i2d a) (FP.Core.i2d b)) (FP.Core.i2d w) = some .eq
  have hbz : b ≠ 0 := fun g => by rw [g] at hb; exact absurd hb (by decide)
  have hn := FP.Core.ddiv_out (FP.Core.DFin.notNaN (FP.Core.i2d_fin a)) (FP.Core.i2d_fin b) (fun q => FP.Core.i2d_ne_zero hbz ((FP.Core.zero_bits2 _).mp q))
  rw [FP.Core.notNaN_iff] at hn
  have Ha := FP.Core.i2d_int a
  have Hb := FP.Core.i2d_int b
  have Hw := FP.Core.i2d_int w
  have Fa := FP.Core.val64_fits (FP.Core.i2d a)
  have Fb := FP.Core.val64_fits (FP.Core.i2d b)
  have Fw := FP.Core.val64_fits (FP.Core.i2d w)
  have Fq := FP.Core.val64_fits (FP.Core.ddiv (FP.Core.i2d a) (FP.Core.i2d b))
  have hq := FP.Core.val64_ddiv (FP.Core.i2d a) (FP.Core.i2d b)
  obtain ⟨s, c, q, va⟩ := FP.Core.i2d_fin a
  obtain ⟨t, d, r, vb⟩ := FP.Core.i2d_fin b
  obtain ⟨u, c', q', vw⟩ := FP.Core.i2d_fin w
  have hbl := b.toInt_lt
  unfold FP.Core.DInt at Ha Hb Hw
  rw [va] at Ha Fa hq
  rw [vb] at Hb Fb hq
  rw [vw] at Hw Fw
  obtain ⟨-, fa2, -, -⟩ := Fa
  obtain ⟨-, fb2, -, fb4⟩ := Fb
  have fw2 := Fw.2.1
  obtain ⟨Kq, hKq⟩ : ∃ Kq : Nat, Kq = 1074 := ⟨_, rfl⟩
  have m1 : FP.Core.b64.qmin = -(Kq : Int) := by have := dm_min; omega
  have m2 := dm_tl
  rw [m1] at fa2 fb2 fb4 fw2
  rw [m2] at fb4
  have hr : r ≤ 0 := by
    rcases fb4 with g | g
    · omega
    · by_cases hr : r ≤ 0
      · exact hr
      · exfalso
        have g2 := dm_un Hb (by omega) (e := 0) (by omega) (by omega)
        rw [show (-(0 : Int)).toNat = 0 by omega, Nat.pow_zero, Nat.mul_one] at g2
        unfold FP.Core.inUnits at g2
        have g3 : d ≤ d * 2 ^ (r - 0).toNat := Nat.le_mul_of_pos_right _ (Nat.two_pow_pos _)
        omega
  have hd := dm_un Hb (by omega) (e := r) (by omega) hr
  have hd0 : FP.Core.inUnits d r r = d := by unfold FP.Core.inUnits; rw [show (r - r).toNat = 0 by omega, Nat.pow_zero, Nat.mul_one]
  rw [hd0] at hd
  have hdp : 0 < d := by rw [hd]; exact Nat.mul_pos (by omega) (Nat.two_pow_pos _)
  have hV := dm_un Hw hw (e := -(Kq : Int)) (by omega) (by omega)
  obtain ⟨N, hN⟩ : ∃ N : Nat, N = 5000 := ⟨_, rfl⟩
  have hX := dm_un Ha ha (e := r - N) (by omega) (by omega)
  have hX2 : FP.Core.inUnits c (q - r) (-(N : Int)) = FP.Core.inUnits c q (r - N) := by
    unfold FP.Core.inUnits; rw [show (q - r - -(N : Int)).toNat = (q - (r - N)).toNat by omega]
  have hle := FP.Core.zmag_roundRatio_le FP.Core.good_b64 (s := s != t) (A := c) (B := d) (e := q - r) (e0 := -(N : Int)) (V := .fin u c' q') hdp Fw (fun g => by cases g) (by rw [m1]; omega) (by omega) (by
    rw [hX2, hX]
    show _ ≤ FP.Core.inUnits c' q' FP.Core.b64.qmin * 2 ^ (FP.Core.b64.qmin - -(N : Int)).toNat * d
    rw [m1, hV, hd, show (-(r - (N : Int))).toNat = N + (-r).toNat by omega, show (-(Kq : Int) - -(N : Int)).toNat = N - Kq by omega, show (-(-(Kq : Int))).toNat = Kq by omega]
    have e1 : w.toInt.toNat * 2 ^ Kq * 2 ^ (N - Kq) * (b.toInt.toNat * 2 ^ (-r).toNat) = (w.toInt.toNat * b.toInt.toNat) * 2 ^ (N + (-r).toNat) := by
      rw [Nat.mul_assoc w.toInt.toNat, ← Nat.pow_add, show Kq + (N - Kq) = N by omega, Nat.pow_add]; ac_rfl
    rw [e1]
    refine Nat.mul_le_mul_right _ ?_
    have e2 : ((w.toInt.toNat * b.toInt.toNat : Nat) : Int) = w.toInt * b.toInt := by rw [Int.natCast_mul, Int.toNat_of_nonneg hw, Int.toNat_of_nonneg (by omega)]
    omega)
  have hq2 : FP.Core.val64 (FP.Core.ddiv (FP.Core.i2d a) (FP.Core.i2d b)) = FP.Core.roundRatio FP.Core.b64 (s != t) c d (q - r) := by
    rw [hq]
    show (if d = 0 then _ else _) = _
    rw [if_neg (by omega)]
  have ho := FP.Core.order_zval FP.Core.good_b64 Fq Fw hn (fun g => by cases g)
  have hc : FP.Core.dcmp (FP.Core.ddiv (FP.Core.i2d a) (FP.Core.i2d b)) (FP.Core.i2d w) = FP.Core.order (FP.Core.val64 (FP.Core.ddiv (FP.Core.i2d a) (FP.Core.i2d b))) (FP.Core.val64 (FP.Core.i2d w)) := rfl
  rw [hc, vw, ho]
  have hz : FP.Core.zval FP.Core.b64 (FP.Core.val64 (FP.Core.ddiv (FP.Core.i2d a) (FP.Core.i2d b))) ≤ FP.Core.zval FP.Core.b64 (.fin u c' q') := by
    have g1 : FP.Core.zval FP.Core.b64 (FP.Core.val64 (FP.Core.ddiv (FP.Core.i2d a) (FP.Core.i2d b))) ≤ (FP.Core.zmag FP.Core.b64 (FP.Core.roundRatio FP.Core.b64 (s != t) c d (q - r)) : Int) := by
      rw [hq2]; exact dm_sg _ _
    have g2 := FP.Core.whole_units Hw (e := -(Kq : Int)) (by omega)
    have g3 : FP.Core.zval FP.Core.b64 (.fin u c' q') = FP.Core.signed u (FP.Core.inUnits c' q' (-(Kq : Int))) := by
      show FP.Core.signed u (FP.Core.inUnits c' q' FP.Core.b64.qmin) = _
      rw [m1]
    rw [show (-(Kq : Int)).toNat = 0 by omega, Nat.pow_zero, Int.natCast_one, Int.mul_one] at g2
    have g4 : (0 : Int) ≤ w.toInt * ((2 ^ (-(-(Kq : Int))).toNat : Nat) : Int) := Int.mul_nonneg hw (Int.natCast_nonneg _)
    have g5 := dm_sg2 g2 g4
    have g6 : FP.Core.zmag FP.Core.b64 (.fin u c' q') = FP.Core.inUnits c' q' (-(Kq : Int)) := by
      show FP.Core.inUnits c' q' FP.Core.b64.qmin = _
      rw [m1]
    rw [g6] at hle
    rw [g3, g2, ← g5]
    omega
  generalize FP.Core.zval FP.Core.b64 (FP.Core.val64 (FP.Core.ddiv (FP.Core.i2d a) (FP.Core.i2d b))) = x at hz
  generalize FP.Core.zval FP.Core.b64 (.fin u c' q') = y at hz
  rcases Int.lt_or_eq_of_le hz with g | g
  · left; simp [compare, compareOfLessAndEq, g]
  · right; subst g; simp [compare, compareOfLessAndEq]
