/-! THE CLASS: delivery -/
theorem i2d_num (y : Int32) : FP.Core.val64 (FP.i2d y) ≠ .nan := by
  intro e
  have := FP.Core.i2d_int y
  unfold FP.Core.DInt at this
  have e' : FP.Core.val64 (FP.Core.i2d y) = .nan := e
  rw [e'] at this
  exact this
theorem dm1 (y : Int32) : FP.dmul FP.dconst1 (FP.i2d y) = FP.i2d y := (FP.Core.dmul_comm _ _).trans (FP.Core.dmul_one (i2d_num y))
