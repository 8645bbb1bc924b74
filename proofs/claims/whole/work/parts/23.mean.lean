/-! THE MEAN: a quotient of two ints, the second not 0, is never a NaN -/
theorem mean_nn {x y : Int32} (hy : ¬ y = 0) : vf_n64 (FP.ddiv (FP.i2d x) (FP.i2d y)) := by
  have h : ¬ Jvm.FP.Core.dIsNaN (FP.ddiv (FP.i2d x) (FP.i2d y)) = true := by
    intro h
    rcases (Jvm.FP.Core.ddiv_nan_iff _ _).mp h with h | h | ⟨s, t, h, -⟩ | ⟨-, h⟩
    · obtain ⟨s, c, q, e⟩ := Jvm.FP.Core.i2d_fin x
      rw [e] at h; cases h
    · obtain ⟨s, c, q, e⟩ := Jvm.FP.Core.i2d_fin y
      rw [e] at h; cases h
    · obtain ⟨s', c, q, e⟩ := Jvm.FP.Core.i2d_fin x
      rw [e] at h; cases h
    · have h0 := Jvm.FP.Core.i2d_ne_zero (v := y) hy
      exact h0 ((Jvm.FP.Core.zero_bits2 _).mp h)
  rw [Jvm.FP.Core.isNaN_bits] at h
  unfold vf_n64
  rw [UInt64.le_iff_toNat_le, UInt64.toNat_and]
  have e1 : (0x7fffffffffffffff : UInt64).toNat = 2 ^ 63 - 1 := by decide
  have e2 : (0x7ff0000000000000 : UInt64).toNat = 9218868437227405312 := by decide
  rw [e1, e2, Nat.and_two_pow_sub_one_eq_mod]
  exact Nat.not_lt.mp h
