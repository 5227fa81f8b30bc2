/-! ===== quotients that are numbers ===== -/
theorem wn_nan : ∀ a, a < 31 → ∀ b, b < 31 → b ≠ 0 → FP.fdiv (FP.i2f (nI a)) (FP.i2f (nI b)) &&& 0x7fffffff ≤ 0x7f800000 := by decide +kernel
theorem wn_nanf {a b : Nat} (ha : a < 31) (hb : b < 31) (h : b ≠ 0) : vf_n32 (FP.fdiv (FP.i2f (nI a)) (FP.i2f (nI b))) := wn_nan a ha b hb h
