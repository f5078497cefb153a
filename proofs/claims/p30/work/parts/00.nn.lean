/-! a quotient of whole numbers by one that isn't 0 is a number -/
theorem nn_all (a b : Int32) (h : ¬ b = 0) : FP.ddiv (FP.i2d a) (FP.i2d b) &&& 0x7fffffffffffffff ≤ 0x7ff0000000000000 := by
  have h0 : FP.Core.dIsNaN (FP.Core.i2d a) = false := by
    cases hx : FP.Core.dIsNaN (FP.Core.i2d a) with
    | false => rfl
    | true =>
      have h1 := (FP.Core.isNaN_bits _).mp hx
      have h2 := (FP.Core.fin_bits _).mp (FP.Core.i2d_fin a)
      omega
  have h1 : FP.Core.dIsNaN (FP.Core.ddiv (FP.Core.i2d a) (FP.Core.i2d b)) = false := FP.Core.ddiv_out h0 (FP.Core.i2d_fin b) (fun z => FP.Core.i2d_ne_zero h ((FP.Core.zero_bits2 _).mp z))
  rw [UInt64.le_iff_toNat_le, FP.Core.mask_toNat]
  show (FP.Core.ddiv (FP.Core.i2d a) (FP.Core.i2d b)).toNat % 2 ^ 63 ≤ 9218868437227405312
  refine Nat.le_of_not_lt (fun z => ?_)
  rw [(FP.Core.isNaN_bits _).mpr z] at h1
  exact absurd h1 (by decide)
