section
/-! ===== quotients of whole numbers are no NaN ===== -/
theorem fn_ddiv {a b : Int32} (hb : ¬ b = 0) : vf_n64 (FP.ddiv (FP.i2d a) (FP.i2d b)) := by
  have h1 := Jvm.FP.Core.ddiv_mag (a := FP.i2d a) (b := FP.i2d b) (K := 1056) (L := 1023) (Jvm.FP.Core.i2d_mag a) (Jvm.FP.Core.i2d_big (Jvm.FP.Core.int32_ne hb)).1 (Jvm.FP.Core.i2d_big (Jvm.FP.Core.int32_ne hb)).2 (by omega) (by omega)
  have h2 : (FP.ddiv (FP.i2d a) (FP.i2d b)).toNat % 2 ^ 63 < (1056 + (1074 - 52 - 1) - 1023 + 3) * 2 ^ 52 := h1
  unfold vf_n64
  rw [UInt64.le_iff_toNat_le, UInt64.toNat_and]
  have e1 : (0x7fffffffffffffff : UInt64).toNat = 2 ^ 63 - 1 := by decide
  have e2 : (0x7ff0000000000000 : UInt64).toNat = 2047 * 2 ^ 52 := by decide
  rw [e1, e2, Nat.and_two_pow_sub_one_eq_mod]
  omega
theorem fn_fdiv {a b : Int32} (hb : ¬ b = 0) : vf_n32 (FP.fdiv (FP.i2f a) (FP.i2f b)) := by
  have h1 := Jvm.FP.Core.fdiv_mag (a := FP.i2f a) (b := FP.i2f b) (K := 160) (L := 127) (Jvm.FP.Core.i2f_mag a) (Jvm.FP.Core.i2f_big (Jvm.FP.Core.int32_ne hb)).1 (Jvm.FP.Core.i2f_big (Jvm.FP.Core.int32_ne hb)).2 (by omega) (by omega)
  have h2 : (FP.fdiv (FP.i2f a) (FP.i2f b)).toNat % 2 ^ 31 < (160 + (149 - 23 - 1) - 127 + 3) * 2 ^ 23 := h1
  unfold vf_n32
  rw [UInt32.le_iff_toNat_le, UInt32.toNat_and]
  have e1 : (0x7fffffff : UInt32).toNat = 2 ^ 31 - 1 := by decide
  have e2 : (0x7f800000 : UInt32).toNat = 255 * 2 ^ 23 := by decide
  rw [e1, e2, Nat.and_two_pow_sub_one_eq_mod]
  omega
end
