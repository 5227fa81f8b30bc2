/-! ===== meanPull's quotient is a number ===== -/
theorem wn_nand0 : ∀ a, a < 251 → ∀ b, b < 31 → b ≠ 0 → FP.ddiv (FP.i2d (nI (0 + a))) (FP.i2d (nI b)) &&& 0x7fffffffffffffff ≤ 0x7ff0000000000000 := by decide +kernel
theorem wn_nand1 : ∀ a, a < 251 → ∀ b, b < 31 → b ≠ 0 → FP.ddiv (FP.i2d (nI (251 + a))) (FP.i2d (nI b)) &&& 0x7fffffffffffffff ≤ 0x7ff0000000000000 := by decide +kernel
theorem wn_nand2 : ∀ a, a < 251 → ∀ b, b < 31 → b ≠ 0 → FP.ddiv (FP.i2d (nI (502 + a))) (FP.i2d (nI b)) &&& 0x7fffffffffffffff ≤ 0x7ff0000000000000 := by decide +kernel
theorem wn_nand3 : ∀ a, a < 251 → ∀ b, b < 31 → b ≠ 0 → FP.ddiv (FP.i2d (nI (753 + a))) (FP.i2d (nI b)) &&& 0x7fffffffffffffff ≤ 0x7ff0000000000000 := by decide +kernel
theorem wn_nand4 : ∀ a, a < 251 → ∀ b, b < 31 → b ≠ 0 → FP.ddiv (FP.i2d (nI (1004 + a))) (FP.i2d (nI b)) &&& 0x7fffffffffffffff ≤ 0x7ff0000000000000 := by decide +kernel
theorem wn_nand5 : ∀ a, a < 251 → ∀ b, b < 31 → b ≠ 0 → FP.ddiv (FP.i2d (nI (1255 + a))) (FP.i2d (nI b)) &&& 0x7fffffffffffffff ≤ 0x7ff0000000000000 := by decide +kernel
theorem wn_nand6 : ∀ a, a < 251 → ∀ b, b < 31 → b ≠ 0 → FP.ddiv (FP.i2d (nI (1506 + a))) (FP.i2d (nI b)) &&& 0x7fffffffffffffff ≤ 0x7ff0000000000000 := by decide +kernel
theorem wn_nand7 : ∀ a, a < 251 → ∀ b, b < 31 → b ≠ 0 → FP.ddiv (FP.i2d (nI (1757 + a))) (FP.i2d (nI b)) &&& 0x7fffffffffffffff ≤ 0x7ff0000000000000 := by decide +kernel
theorem wn_nand8 : ∀ a, a < 251 → ∀ b, b < 31 → b ≠ 0 → FP.ddiv (FP.i2d (nI (2008 + a))) (FP.i2d (nI b)) &&& 0x7fffffffffffffff ≤ 0x7ff0000000000000 := by decide +kernel
theorem wn_nand {a b : Nat} (ha : a < 2259) (hb : b < 31) (h : b ≠ 0) : vf_n64 (FP.ddiv (FP.i2d (nI a)) (FP.i2d (nI b))) := by
  by_cases c0 : a < 251
  · have q := wn_nand0 (a - 0) (by omega) b hb h
    rw [show 0 + (a - 0) = a by omega] at q
    exact q
  by_cases c1 : a < 502
  · have q := wn_nand1 (a - 251) (by omega) b hb h
    rw [show 251 + (a - 251) = a by omega] at q
    exact q
  by_cases c2 : a < 753
  · have q := wn_nand2 (a - 502) (by omega) b hb h
    rw [show 502 + (a - 502) = a by omega] at q
    exact q
  by_cases c3 : a < 1004
  · have q := wn_nand3 (a - 753) (by omega) b hb h
    rw [show 753 + (a - 753) = a by omega] at q
    exact q
  by_cases c4 : a < 1255
  · have q := wn_nand4 (a - 1004) (by omega) b hb h
    rw [show 1004 + (a - 1004) = a by omega] at q
    exact q
  by_cases c5 : a < 1506
  · have q := wn_nand5 (a - 1255) (by omega) b hb h
    rw [show 1255 + (a - 1255) = a by omega] at q
    exact q
  by_cases c6 : a < 1757
  · have q := wn_nand6 (a - 1506) (by omega) b hb h
    rw [show 1506 + (a - 1506) = a by omega] at q
    exact q
  by_cases c7 : a < 2008
  · have q := wn_nand7 (a - 1757) (by omega) b hb h
    rw [show 1757 + (a - 1757) = a by omega] at q
    exact q
  have q := wn_nand8 (a - 2008) (by omega) b hb h
  rw [show 2008 + (a - 2008) = a by omega] at q
  exact q
