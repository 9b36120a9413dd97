/-! the laws of floats stand in the whole library: with this part first the claim is read over it from its first round on -/
theorem wi_1 (n : Int32) : FP.Core.val64 (FP.Core.i2d n) ≠ .nan := by
  rw [FP.Core.val64_i2d]
  exact FP.Core.roundRatio_ne_nan _ _ _ _ _
