theorem fP (j : Nat) (Y : St) (m : Nat) : (fU (stP j) Y m).2 = Y.2 ∧ ∀ k i, (fU (stP j) Y m).1 k i = if k = 6 ∧ 8 * j ≤ i ∧ i < 8 * j + m then Y.1 6 (i + 1) else Y.1 k i := by
  induction m with
  | zero => exact ⟨rfl, fun k i => by rw [if_neg (by omega)]; rfl⟩
  | succ m ih =>
    obtain ⟨h1, h2⟩ := ih
    rw [fU_s]
    generalize fU (stP j) Y m = F at h1 h2
    refine ⟨h1, fun k i => ?_⟩
    show va_up F.1 6 (va_up (F.1 6) (8 * j + m) (F.1 6 (8 * j + m + 1))) k i = _
    by_cases c : k = 6
    · rw [c, va_up_self]
      by_cases c2 : i = 8 * j + m
      · rw [c2, va_up_self, h2, if_neg (by omega), if_pos (by omega)]
      · rw [va_up_ne _ _ c2, h2]
        by_cases c3 : 8 * j ≤ i ∧ i < 8 * j + m
        · rw [if_pos ⟨rfl, c3⟩, if_pos ⟨rfl, c3.1, by omega⟩]
        · rw [if_neg (fun z => c3 z.2), if_neg (by omega)]
    · rw [va_up_ne _ _ c, h2, if_neg (fun z => c z.1), if_neg (fun z => c z.1)]
/-- a queue's head goes -/
theorem Rel.qrem {q : Nat} {x y : St} (h : Rel q x y) (j n : Nat) (md9 : Int32) (hj : j < x.1 1 0) (h5 : x.1 5 j = n + 1) : Rel q (qRem x j n md9) (fU (stP j) (uN y 5 j n) n) := by
  have f5 := h.fn 5 (by decide)
  have hq8 := fun i s hi hs => h.qu i s hi hs
  obtain ⟨hI, hJ, hKK, hQ, hFD, hFB, hMI, hBK, hCS, hE⟩ := h
  obtain ⟨hn0, hn1, hn2, hn3, hn4, hn5, hc7, hc8, hc5, hc54, hc4, hc50, hc9, hc12, hc10, hcj⟩ := hI
  obtain ⟨m0, m1, m7, m8, m5, m6, m9, m12, m11⟩ := hMI
  obtain ⟨p2, p1⟩ := fP j (uN y 5 j n) n
  generalize fU (stP j) (uN y 5 j n) n = Y at p1 p2 ⊢
  have y6 : ∀ i, Y.1 6 i = if 8 * j ≤ i ∧ i < 8 * j + n then y.1 6 (i + 1) else y.1 6 i := fun i => by
    rw [p1 6 i]
    by_cases c : 8 * j ≤ i ∧ i < 8 * j + n
    · rw [if_pos ⟨rfl, c⟩, if_pos c]; rfl
    · rw [if_neg (fun z => c z.2), if_neg c]; rfl
  have y5 : Y.1 5 = va_up (y.1 5) j n := funext fun i => by rw [p1 5 i, if_neg (fun z => absurd z.1 (by decide))]; rfl
  have yn : ∀ k, k ≠ 5 → k ≠ 6 → Y.1 k = y.1 k := fun k h1 h2 => funext fun i => by rw [p1 k i, if_neg (fun z => h2 z.1)]; show va_up y.1 5 _ k i = y.1 k i; rw [va_up_ne _ _ h1]
  have p2 : Y.2 = y.2 := p2
  have n50 : ∀ m, m < 50 → m ≠ 5 → (qRem x j n md9).1 m = x.1 m := fun m h1 h3 => (va_up_ne _ _ (by omega)).trans (va_up_ne _ _ h3)
  have n5 : (qRem x j n md9).1 5 = va_up (x.1 5) j n := (va_up_ne _ _ (by omega)).trans rfl
  have nq : ∀ i, (qRem x j n md9).1 (50 + i) = if i = j then (fun i => x.1 (50 + j) (i + 1)) else x.1 (50 + i) := by
    intro i
    by_cases c : i = j
    · rw [if_pos c, c]
      show va_up _ (50 + j) (fun i => x.1 (50 + j) (i + 1)) (50 + j) = _
      rw [va_up_self]
    · rw [if_neg c]
      exact (va_up_ne _ _ (by omega)).trans (va_up_ne _ _ (by omega))
  have i2 : ∀ m, m ≠ 22 → (qRem x j n md9).2 m = x.2 m := fun m hm => va_up_ne _ _ hm
  have e0 := n50 0 (by omega) (by omega)
  have e1 := n50 1 (by omega) (by omega)
  have e2 := n50 2 (by omega) (by omega)
  have e3 := n50 3 (by omega) (by omega)
  have e4 := n50 4 (by omega) (by omega)
  have e7 := n50 7 (by omega) (by omega)
  have e8 := n50 8 (by omega) (by omega)
  have e9 := n50 9 (by omega) (by omega)
  have e10 := n50 10 (by omega) (by omega)
  have e12 := n50 12 (by omega) (by omega)
  have h8 := hc5 j
  refine ⟨?_, CJ_c e7 e8 hJ, CK_c e0 e7 e8 hKK, CQ_c e2 e3 e4 hQ, FrD_c e0 e8 (i2 3 (by omega)) (i2 23 (by omega)) hFD, ?_, ?_, BK_c e0 (i2 1 (by omega)) (i2 2 (by omega)) (i2 3 (by omega)) (i2 9 (by omega)) hBK, ?_, ?_⟩
  · unfold CI
    rw [e0, e1, e2, e3, e4, e7, e8, e9, e10, e12, n5, i2 10 (by omega)]
    refine ⟨hn0, hn1, hn2, hn3, hn4, hn5, hc7, hc8, fun i => ?_, fun i => ?_, hc4, fun i s => ?_, hc9, hc12, hc10, hcj⟩
    · by_cases c : i = j
      · rw [c, va_up_self]; omega
      · rw [va_up_ne _ _ c]; exact hc5 i
    · by_cases c : i = j
      · rw [c, va_up_self]; have := hc54 j; omega
      · rw [va_up_ne _ _ c]; exact hc54 i
    · rw [nq i]
      by_cases c : i = j
      · rw [if_pos c]; exact hc50 j (s + 1)
      · rw [if_neg c]; exact hc50 i s
  · unfold FrB
    rw [e1, e4, e7, e10, n5, i2 14 (by omega)]
    refine ⟨fun i hi => ?_, hFB.2⟩
    rw [i2 6 (by omega), i2 7 (by omega), i2 8 (by omega), i2 9 (by omega), i2 10 (by omega), i2 11 (by omega), i2 12 (by omega), i2 13 (by omega), i2 (100 + i) (by omega), va_up_ne _ _ (show i ≠ j by omega)]
    have e : (qRem x j n md9).2 22 i = x.2 22 i := by
      show va_up (x.2 22) j md9 i = x.2 22 i
      rw [va_up_ne _ _ (by omega)]
    rw [e]
    exact hFB.1 i hi
  · unfold MI
    rw [yn 0 (by decide) (by decide), yn 1 (by decide) (by decide), yn 7 (by decide) (by decide), yn 8 (by decide) (by decide), yn 9 (by decide) (by decide), yn 12 (by decide) (by decide), yn 11 (by decide) (by decide), y5]
    refine ⟨m0, m1, m7, m8, fun i => ?_, fun i => ?_, m9, m12, m11⟩
    · by_cases c : i = j
      · rw [c, va_up_self]; omega
      · rw [va_up_ne _ _ c]; exact m5 i
    · rw [y6 i]
      by_cases c : 8 * j ≤ i ∧ i < 8 * j + n
      · rw [if_pos c]; exact m6 _
      · rw [if_neg c]; exact m6 _
  · unfold CSm
    rw [stH_cg (x := x) (i2 13 (by omega)), e1, i2 18 (by omega), i2 19 (by omega)]
    exact hCS
  · unfold EQ
    rw [e0, e8, e9, e10, n5, p2, yn 8 (by decide) (by decide), yn 11 (by decide) (by decide)]
    refine ⟨fun m hm i => ?_, hE.2.1, fun i s hi hs => ?_, hE.2.2.2.1, fun m hm i => ?_, fun i s hi hs => ?_⟩
    · by_cases c : m = 5
      · rw [c, n5, y5, f5]
      · rw [n50 m (by omega) c, yn m c (by omega)]
        exact hE.1 m hm i
    · rw [nq i, y6]
      have q5 := hc5 i
      by_cases c : i = j
      · rw [if_pos c]
        rw [c, va_up_self] at hs
        rw [c, if_pos ⟨by omega, by omega⟩]
        exact hE.2.2.1 j (s + 1) (by omega) (by omega)
      · rw [if_neg c]
        rw [va_up_ne _ _ c] at hs
        rw [if_neg (by omega)]
        exact hE.2.2.1 i s hi hs
    · rw [i2 m (by omega)]; exact hE.2.2.2.2.1 m hm i
    · rw [i2 (100 + i) (by omega)]; exact hE.2.2.2.2.2 i s hi hs
