/-! a whole number over one that is not 0 -/
theorem zNoNaN_is : zNoNaN := fun a b hb => by
  have h1 : Jvm.FP.Core.dIsNaN (FP.i2d a) = false := (Jvm.FP.Core.i2d_fin a).notNaN
  have h2 := Jvm.FP.Core.i2d_fin b
  have h3 : ¬ Jvm.FP.Core.DZero (FP.i2d b) := fun z => Jvm.FP.Core.i2d_ne_zero hb ((Jvm.FP.Core.zero_bits2 _).mp z)
  have h4 := Jvm.FP.Core.ddiv_out h1 h2 h3
  have h5 := (Jvm.FP.Core.ne_nan _).mp ((Jvm.FP.Core.notNaN_iff _).mp h4)
  refine UInt64.le_iff_toNat_le.mpr ?_
  rw [UInt64.toNat_and, show (0x7fffffffffffffff : UInt64).toNat = 2 ^ 63 - 1 from rfl, Nat.and_two_pow_sub_one_eq_mod]
  exact h5
