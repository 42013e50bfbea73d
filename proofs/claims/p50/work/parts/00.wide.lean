/-- the quotient of two ints is a number (read over the whole library: FloatLaws2) -/
theorem mg_nan0 (a b : Int32) (h : b ≠ 0) : vf_n64 (FP.ddiv (FP.i2d a) (FP.i2d b)) := by
  have h1 := FP.Core.ddiv_out (FP.Core.DFin.notNaN (FP.Core.i2d_fin a)) (FP.Core.i2d_fin b) (fun q => FP.Core.i2d_ne_zero h ((FP.Core.zero_bits2 _).mp q))
  have h2 : ¬ (9218868437227405312 < (FP.Core.ddiv (FP.Core.i2d a) (FP.Core.i2d b)).toNat % 2 ^ 63) := fun q => by
    rw [(FP.Core.isNaN_bits _).mpr q] at h1; exact absurd h1 (by simp)
  show vf_n64 (FP.Core.ddiv (FP.Core.i2d a) (FP.Core.i2d b))
  unfold vf_n64
  generalize FP.Core.ddiv (FP.Core.i2d a) (FP.Core.i2d b) = r at h2
  rw [UInt64.le_iff_toNat_le, UInt64.toNat_and]
  have e1 : (0x7fffffffffffffff : UInt64).toNat = 2 ^ 63 - 1 := rfl
  have e2 : (0x7ff0000000000000 : UInt64).toNat = 9218868437227405312 := rfl
  rw [e1, e2, Nat.and_two_pow_sub_one_eq_mod]
  omega
