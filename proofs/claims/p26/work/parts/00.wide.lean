/-! a row over the whole library, so that every part is read over it from the first round on -/
theorem rt_wide {x : UInt64} : FP.Core.dIsNaN x = true ↔ FP.Core.val64 x = .nan := FP.Core.dIsNaN_iff x
