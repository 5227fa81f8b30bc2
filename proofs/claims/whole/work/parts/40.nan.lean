/-! ===== meanPull's quotient is a number ===== -/
theorem wn_nand0 : ∀ a, a < 251 → ∀ b, b < 31 → b ≠ 0 → FP.ddiv (FP.i2d (nI a)) (FP.i2d (nI b)) &&& 0x7fffffffffffffff ≤ 0x7ff0000000000000 := by decide +kernel
