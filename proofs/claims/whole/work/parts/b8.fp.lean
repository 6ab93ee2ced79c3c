/-! ===== divisions that give a number ===== -/
theorem fp64 {x : UInt64} (h : FP.Core.dIsNaN x = false) : x &&& 0x7fffffffffffffff ≤ 0x7ff0000000000000 := by
  rw [UInt64.le_iff_toNat_le, UInt64.toNat_and]
  have h1 : (0x7fffffffffffffff : UInt64).toNat = 2 ^ 63 - 1 := by decide
  have h2 : (0x7ff0000000000000 : UInt64).toNat = 9218868437227405312 := by decide
  rw [h1, h2, Nat.and_two_pow_sub_one_eq_mod]
  rw [← Bool.not_eq_true, FP.Core.isNaN_bits] at h
  omega
theorem fp32 {x : UInt32} (h : FP.Core.fIsNaN x = false) : x &&& 0x7fffffff ≤ 0x7f800000 := by
  rw [UInt32.le_iff_toNat_le, UInt32.toNat_and]
  have h1 : (0x7fffffff : UInt32).toNat = 2 ^ 31 - 1 := by decide
  have h2 : (0x7f800000 : UInt32).toNat = 2139095040 := by decide
  rw [h1, h2, Nat.and_two_pow_sub_one_eq_mod]
  rw [← Bool.not_eq_true, FP.Core.isNaN_bits32] at h
  omega
theorem fin64 {x : UInt64} (h : FP.Core.DFin x) : FP.Core.dIsNaN x = false := by
  rw [← Bool.not_eq_true, FP.Core.isNaN_bits]
  rw [FP.Core.fin_bits] at h
  omega
theorem fin32 {x : UInt32} (h : FP.Core.FFin x) : FP.Core.fIsNaN x = false := by
  rw [← Bool.not_eq_true, FP.Core.isNaN_bits32]
  rw [FP.Core.fin_bits32] at h
  omega
theorem nz64 : ∀ k : Fin 201, k.val = 0 ∨ (FP.Core.i2d (Int32.ofNat k.val)).toNat % 2 ^ 63 ≠ 0 := by decide +kernel
theorem nz32 : ∀ k : Fin 201, k.val = 0 ∨ (FP.Core.i2f (Int32.ofNat k.val)).toNat % 2 ^ 31 ≠ 0 := by decide +kernel
theorem fp_ddiv (v : Int64) {n : Nat} (h1 : 1 ≤ n) (h2 : n ≤ 200) : FP.ddiv (FP.l2d v) (FP.i2d (Int32.ofNat n)) &&& 0x7fffffffffffffff ≤ 0x7ff0000000000000 := by
  refine fp64 (FP.Core.ddiv_out (a := FP.Core.l2d v) (b := FP.Core.i2d (Int32.ofNat n)) (fin64 (FP.Core.l2d_fin v)) (FP.Core.i2d_fin _) (fun q => ?_))
  rw [FP.Core.zero_bits2] at q
  rcases nz64 ⟨n, by omega⟩ with w | w
  · have w : n = 0 := w
    omega
  · exact w q
theorem fp_fdiv (v : Int32) {n : Nat} (h1 : 1 ≤ n) (h2 : n ≤ 200) : FP.fdiv (FP.i2f v) (FP.i2f (Int32.ofNat n)) &&& 0x7fffffff ≤ 0x7f800000 := by
  refine fp32 (FP.Core.fdiv_out (a := FP.Core.i2f v) (b := FP.Core.i2f (Int32.ofNat n)) (fin32 (FP.Core.i2f_fin v)) (FP.Core.i2f_fin _) (fun q => ?_))
  rw [FP.Core.zero_bits232] at q
  rcases nz32 ⟨n, by omega⟩ with w | w
  · have w : n = 0 := w
    omega
  · exact w q
/-- a float is made a double: no NaN -/
theorem fp_f2d {x : UInt32} (h : x &&& 0x7fffffff ≤ 0x7f800000) : FP.f2d x &&& 0x7fffffffffffffff ≤ 0x7ff0000000000000 := by
  refine fp64 ((FP.f2d_nan x).trans ?_)
  show FP.Core.fIsNaN x = false
  rw [UInt32.le_iff_toNat_le, UInt32.toNat_and] at h
  have h1 : (0x7fffffff : UInt32).toNat = 2 ^ 31 - 1 := by decide
  have h2 : (0x7f800000 : UInt32).toNat = 2139095040 := by decide
  rw [h1, h2, Nat.and_two_pow_sub_one_eq_mod] at h
  rw [← Bool.not_eq_true, FP.Core.isNaN_bits32]
  omega
