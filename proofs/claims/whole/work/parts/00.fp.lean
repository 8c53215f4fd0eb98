/-! NUMBERS WITH A POINT: the library's laws of them -/
theorem i2d_num (y : Int32) : FP.Core.val64 (FP.i2d y) ≠ .nan := by
  intro e
  have := FP.Core.i2d_int y
  unfold FP.Core.DInt at this
  have e' : FP.Core.val64 (FP.Core.i2d y) = .nan := e
  rw [e'] at this
  exact this
/-- 1.0 times an int is that int -/
theorem dm1 (y : Int32) : FP.dmul FP.dconst1 (FP.i2d y) = FP.i2d y := (FP.Core.dmul_comm _ _).trans (FP.Core.dmul_one (i2d_num y))
theorem fp_ok {r : UInt64} (h : FP.Core.dIsNaN r = false) : vf_n64 r := by
  unfold vf_n64
  rw [UInt64.le_iff_toNat_le, UInt64.toNat_and]
  have h1 : (0x7fffffffffffffff : UInt64).toNat = 2 ^ 63 - 1 := by decide
  have h2 : (0x7ff0000000000000 : UInt64).toNat = 9218868437227405312 := by decide
  rw [h1, h2, Nat.and_two_pow_sub_one_eq_mod]
  have q : ¬ 9218868437227405312 < r.toNat % 2 ^ 63 := fun w => by
    have := (FP.Core.isNaN_bits r).mpr w
    rw [h] at this
    cases this
  omega
theorem i2d_ok (y : Int32) : vf_n64 (FP.i2d y) := fp_ok (FP.Core.i2d_fin y).notNaN
theorem dv_nn (y x : Int32) (h : ¬ x = 0) : FP.Core.dIsNaN (FP.ddiv (FP.i2d y) (FP.i2d x)) = false :=
  FP.Core.ddiv_out (FP.Core.i2d_fin y).notNaN (FP.Core.i2d_fin x) (fun w => FP.Core.i2d_ne_zero h ((FP.Core.zero_bits2 _).mp w))
theorem dv_ok (y x : Int32) (h : ¬ x = 0) : vf_n64 (FP.ddiv (FP.i2d y) (FP.i2d x)) := fp_ok (dv_nn y x h)
theorem dv_eq (y x : Int32) (h : ¬ x = 0) : FP.dcmp (FP.ddiv (FP.i2d y) (FP.i2d x)) (FP.ddiv (FP.i2d y) (FP.i2d x)) = some .eq := FP.Core.dcmp_self ((FP.Core.notNaN_iff _).mp (dv_nn y x h))
theorem d0_eq : FP.dcmp FP.dconst0 FP.dconst0 = some .eq := by decide +kernel
