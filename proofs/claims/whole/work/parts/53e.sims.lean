theorem uN_self {s : St} {k i v : Nat} (h : s.1 k i = v) : uN s k i v = s := by
  refine Prod.ext (funext fun m => ?_) rfl
  show va_up s.1 k (va_up (s.1 k) i v) m = s.1 m
  by_cases c : m = k
  · rw [c, va_up_self]
    funext z
    by_cases c2 : z = i
    · rw [c2, va_up_self, h]
    · rw [va_up_ne _ _ c2]
  · rw [va_up_ne _ _ c]
theorem uN_uN (s : St) (k i v w : Nat) : uN (uN s k i v) k i w = uN s k i w := by
  show (va_up (va_up s.1 k (va_up (s.1 k) i v)) k (va_up (va_up s.1 k (va_up (s.1 k) i v) k) i w), s.2) = (va_up s.1 k (va_up (s.1 k) i w), s.2)
  rw [va_up_self, up_up, up_up]
theorem toInt_ge {a b : Int32} (h : a ≤ b) : a.toInt ≤ b.toInt := Int32.le_iff_toInt_le.mp h
/-- the wheel -/
theorem Rel.I14 {q : Nat} {x y : St} (h : Rel q x y) (i : Nat) (v : Int32) (hi : i < 10 * x.1 1 0) : Rel q (uI x 14 i v) (uI y 14 i v) := by
  obtain ⟨hI, hJ, hKK, hQ, hFD, hFB, hMI, hBK, hCS, hE⟩ := h
  refine ⟨CI_cg (x := x) rfl rfl hI, CJ_cg (x := x) rfl hJ, CK_cg (x := x) rfl hKK, CQ_cg (x := x) rfl hQ, FrD_cg (x := x) rfl rfl rfl hFD, ⟨fun j hj => ?_, fun a ha => ?_⟩, MI_cg (x := y) rfl hMI, BK_cg (x := x) rfl rfl rfl rfl rfl hBK, CSm_cg (x := x) rfl rfl rfl rfl hCS, EQ_I hE 14 i v (by omega)⟩
  · have e : (uI x 14 i v).2 (100 + j) = x.2 (100 + j) := va_up_ne _ _ (by omega)
    rw [e]
    exact hFB.1 j hj
  · refine ⟨(hFB.2 a ha).1, ?_⟩
    have ha : 10 * x.1 1 0 ≤ a := ha
    show va_up (x.2 14) i v a = 0
    rw [va_up_ne _ _ (by omega)]
    exact (hFB.2 a ha).2
/-- a slot's disc goes to the van -/
theorem Rel.take {q : Nat} {x y : St} (h : Rel q x y) (a d : Nat) (r : Int32) (hd : x.1 7 a = d + 1) : Rel q (uN (uI (uN x 8 d 1) 23 d r) 7 a 0) (uN (uN y 8 d 1) 7 a 0) := by
  obtain ⟨hI, hJ, hKK, hQ, hFD, hFB, hMI, hBK, hCS, hE⟩ := h
  obtain ⟨hn0, hn1, hn2, hn3, hn4, hn5, hc7, hc8, hc5, hc54, hc4, hc50, hc9, hc12, hc10, hcj⟩ := hI
  obtain ⟨m0, m1, m7, m8, m5, m6, m9, m12, m11⟩ := hMI
  have hdn : d < x.1 0 0 := by have := hc7 a; omega
  have h8 := hJ a d hd
  have n50 : ∀ j, 7 < j → j ≠ 8 → (uN (uI (uN x 8 d 1) 23 d r) 7 a 0).1 j = x.1 j := fun j h1 h2 => (va_up_ne _ _ (by omega)).trans (va_up_ne _ _ h2)
  refine ⟨⟨hn0, hn1, hn2, hn3, hn4, hn5, fun e => ?_, fun e => ?_, hc5, hc54, hc4, fun j i => ?_, hc9, hc12, hc10, hcj⟩, fun b e he => ?_, fun e he h2 => ?_, CQ_c (x := x) rfl rfl rfl hQ, fun e he => ?_, ⟨fun j hj => ?_, fun b hb => ?_⟩, ⟨m0, m1, fun e => ?_, fun e => ?_, m5, m6, m9, m12, m11⟩, BK_c (x := x) rfl rfl rfl rfl rfl hBK, hCS, ?_⟩
  · show va_up (x.1 7) a 0 e ≤ x.1 0 0
    by_cases c : e = a
    · rw [c, va_up_self]; omega
    · rw [va_up_ne _ _ c]; exact hc7 e
  · show va_up (x.1 8) d 1 e < 2 + 10 * x.1 1 0
    by_cases c : e = d
    · rw [c, va_up_self]; omega
    · rw [va_up_ne _ _ c]; exact hc8 e
  · rw [n50 _ (by omega) (by omega)]; exact hc50 j i
  · have he : va_up (x.1 7) a 0 b = e + 1 := he
    show va_up (x.1 8) d 1 e = 2 + b
    by_cases c : b = a
    · rw [c, va_up_self] at he; omega
    · rw [va_up_ne _ _ c] at he
      have q1 := hJ b e he
      rw [va_up_ne _ _ (by intro z; rw [z] at q1; omega)]; exact q1
  · have h2 : 2 ≤ va_up (x.1 8) d 1 e := h2
    show va_up (x.1 7) a 0 (va_up (x.1 8) d 1 e - 2) = e + 1
    by_cases c : e = d
    · rw [c, va_up_self] at h2; omega
    · rw [va_up_ne _ _ c] at h2 ⊢
      have q1 := hKK e he h2
      rw [va_up_ne _ _ (by intro z; rw [z] at q1; omega)]; exact q1
  · have he : x.1 0 0 ≤ e := he
    show va_up (x.1 8) d 1 e = 1 ∧ x.2 3 e = 0 ∧ va_up (x.2 23) d r e = 0
    rw [va_up_ne _ _ (by omega), va_up_ne _ _ (by omega)]; exact hFD e he
  · have e : (uN (uI (uN x 8 d 1) 23 d r) 7 a 0).2 (100 + j) = x.2 (100 + j) := va_up_ne _ _ (by omega)
    rw [e]
    exact hFB.1 j hj
  · refine ⟨?_, (hFB.2 b hb).2⟩
    show va_up (x.1 7) a 0 b = 0
    by_cases c : b = a
    · rw [c, va_up_self]
    · rw [va_up_ne _ _ c]; exact (hFB.2 b hb).1
  · show va_up (y.1 7) a 0 e ≤ y.1 0 0
    by_cases c : e = a
    · rw [c, va_up_self]; omega
    · rw [va_up_ne _ _ c]; exact m7 e
  · show va_up (y.1 8) d 1 e < 42
    by_cases c : e = d
    · rw [c, va_up_self]; omega
    · rw [va_up_ne _ _ c]; exact m8 e
  · refine ⟨fun k hk i => ?_, fun e he => ?_, fun j i hj hi => ?_, hE.2.2.2.1, fun k hk i => ?_, fun j s hj hs => ?_⟩
    · show va_up (va_up x.1 8 (va_up (x.1 8) d 1)) 7 (va_up (x.1 7) a 0) k i = va_up (va_up y.1 8 (va_up (y.1 8) d 1)) 7 (va_up (y.1 7) a 0) k i
      by_cases c : k = 7
      · rw [c, va_up_self, va_up_self]
        by_cases c2 : i = a
        · rw [c2, va_up_self, va_up_self]
        · rw [va_up_ne _ _ c2, va_up_ne _ _ c2]; exact hE.1 7 (by decide) i
      · rw [va_up_ne _ _ c, va_up_ne _ _ c, va_up_ne _ _ (by omega), va_up_ne _ _ (by omega)]; exact hE.1 k hk i
    · show va_up (x.1 8) d 1 e = va_up (y.1 8) d 1 e
      by_cases c : e = d
      · rw [c, va_up_self, va_up_self]
      · rw [va_up_ne _ _ c, va_up_ne _ _ c]; exact hE.2.1 e he
    · rw [n50 _ (by omega) (by omega)]; exact hE.2.2.1 j i hj hi
    · show va_up x.2 23 _ k i = y.2 k i
      rw [va_up_ne _ _ (by omega)]; exact hE.2.2.2.2.1 k hk i
    · show va_up x.2 23 _ (100 + j) s = _
      rw [va_up_ne _ _ (by omega)]; exact hE.2.2.2.2.2 j s hj hs
/-- a disc of the van goes to an empty slot -/
theorem Rel.put {q : Nat} {x y : St} (h : Rel q x y) (a d : Nat) (hd : d < x.1 0 0) (h8 : x.1 8 d = 1) (ha : a < 10 * x.1 1 0) (h7 : x.1 7 a = 0) : Rel q (uN (uN x 7 a (d + 1)) 8 d (2 + a)) (uN (uN y 7 a (d + 1)) 8 d (2 + a)) := by
  have hEn := h.n 0 0 (by decide)
  obtain ⟨hI, hJ, hKK, hQ, hFD, hFB, hMI, hBK, hCS, hE⟩ := h
  obtain ⟨hn0, hn1, hn2, hn3, hn4, hn5, hc7, hc8, hc5, hc54, hc4, hc50, hc9, hc12, hc10, hcj⟩ := hI
  obtain ⟨m0, m1, m7, m8, m5, m6, m9, m12, m11⟩ := hMI
  have n50 : ∀ j, 8 < j → (uN (uN x 7 a (d + 1)) 8 d (2 + a)).1 j = x.1 j := fun j h1 => (va_up_ne _ _ (by omega)).trans (va_up_ne _ _ (by omega))
  refine ⟨⟨hn0, hn1, hn2, hn3, hn4, hn5, fun e => ?_, fun e => ?_, hc5, hc54, hc4, fun j i => ?_, hc9, hc12, hc10, hcj⟩, fun b e he => ?_, fun e he h2 => ?_, CQ_c (x := x) rfl rfl rfl hQ, fun e he => ?_, ⟨hFB.1, fun b hb => ?_⟩, ⟨m0, m1, fun e => ?_, fun e => ?_, m5, m6, m9, m12, m11⟩, BK_c (x := x) rfl rfl rfl rfl rfl hBK, hCS, ?_⟩
  · show va_up (x.1 7) a (d + 1) e ≤ x.1 0 0
    by_cases c : e = a
    · rw [c, va_up_self]; omega
    · rw [va_up_ne _ _ c]; exact hc7 e
  · show va_up (x.1 8) d (2 + a) e < 2 + 10 * x.1 1 0
    by_cases c : e = d
    · rw [c, va_up_self]; omega
    · rw [va_up_ne _ _ c]; exact hc8 e
  · rw [n50 _ (by omega)]; exact hc50 j i
  · have he : va_up (x.1 7) a (d + 1) b = e + 1 := he
    show va_up (x.1 8) d (2 + a) e = 2 + b
    by_cases c : b = a
    · rw [c, va_up_self] at he
      rw [c, show e = d by omega, va_up_self]
    · rw [va_up_ne _ _ c] at he
      have q1 := hJ b e he
      rw [va_up_ne _ _ (by intro z; rw [z] at q1; omega)]; exact q1
  · have h2 : 2 ≤ va_up (x.1 8) d (2 + a) e := h2
    show va_up (x.1 7) a (d + 1) (va_up (x.1 8) d (2 + a) e - 2) = e + 1
    by_cases c : e = d
    · rw [c, va_up_self, show 2 + a - 2 = a by omega, va_up_self]
    · rw [va_up_ne _ _ c] at h2 ⊢
      have q1 := hKK e he h2
      rw [va_up_ne _ _ (by intro z; rw [z] at q1; omega)]; exact q1
  · have he : x.1 0 0 ≤ e := he
    show va_up (x.1 8) d (2 + a) e = 1 ∧ x.2 3 e = 0 ∧ x.2 23 e = 0
    rw [va_up_ne _ _ (by omega)]; exact hFD e he
  · have hb : 10 * x.1 1 0 ≤ b := hb
    refine ⟨?_, (hFB.2 b hb).2⟩
    show va_up (x.1 7) a (d + 1) b = 0
    rw [va_up_ne _ _ (by omega)]; exact (hFB.2 b hb).1
  · show va_up (y.1 7) a (d + 1) e ≤ y.1 0 0
    by_cases c : e = a
    · rw [c, va_up_self]; omega
    · rw [va_up_ne _ _ c]; exact m7 e
  · show va_up (y.1 8) d (2 + a) e < 42
    by_cases c : e = d
    · rw [c, va_up_self]; omega
    · rw [va_up_ne _ _ c]; exact m8 e
  · refine ⟨fun k hk i => ?_, fun e he => ?_, fun j i hj hi => ?_, hE.2.2.2.1, hE.2.2.2.2.1, hE.2.2.2.2.2⟩
    · show va_up (va_up x.1 7 (va_up (x.1 7) a (d + 1))) 8 (va_up (x.1 8) d (2 + a)) k i = va_up (va_up y.1 7 (va_up (y.1 7) a (d + 1))) 8 (va_up (y.1 8) d (2 + a)) k i
      rw [va_up_ne (k := 8) _ _ (show k ≠ 8 by omega), va_up_ne (k := 8) _ _ (show k ≠ 8 by omega)]
      by_cases c : k = 7
      · rw [c, va_up_self, va_up_self]
        by_cases c2 : i = a
        · rw [c2, va_up_self, va_up_self]
        · rw [va_up_ne _ _ c2, va_up_ne _ _ c2]; exact hE.1 7 (by decide) i
      · rw [va_up_ne _ _ c, va_up_ne _ _ c]; exact hE.1 k hk i
    · show va_up (x.1 8) d (2 + a) e = va_up (y.1 8) d (2 + a) e
      by_cases c : e = d
      · rw [c, va_up_self, va_up_self]
      · rw [va_up_ne _ _ c, va_up_ne _ _ c]; exact hE.2.1 e he
    · rw [n50 _ (by omega)]; exact hE.2.2.1 j i hj hi
/-- one more in a queue -/
theorem Rel.qadd {q : Nat} {x y : St} (h : Rel q x y) (j k c9 : Nat) (md9 : Int32) (hj : j < x.1 1 0) (h5 : x.1 5 j < 8) (hk : k < 10) (hc : c9 = 10) : Rel q (qAdd x j k c9 md9) (uN (uN y 6 (8 * j + x.1 5 j) k) 5 j (x.1 5 j + 1)) := by
  have h5e := h.n 5 j (by decide)
  have f5 := h.fn 5 (by decide)
  obtain ⟨hI, hJ, hKK, hQ, hFD, hFB, hMI, hBK, hCS, hE⟩ := h
  obtain ⟨hn0, hn1, hn2, hn3, hn4, hn5, hc7, hc8, hc5, hc54, hc4, hc50, hc9, hc12, hc10, hcj⟩ := hI
  obtain ⟨m0, m1, m7, m8, m5, m6, m9, m12, m11⟩ := hMI
  have n50 : ∀ m, m < 50 → m ≠ 4 → m ≠ 5 → (qAdd x j k c9 md9).1 m = x.1 m := fun m h1 h2 h3 => (va_up_ne _ _ (by omega)).trans ((va_up_ne _ _ h3).trans (va_up_ne _ _ h2))
  have n4 : (qAdd x j k c9 md9).1 4 = va_up (x.1 4) j c9 := (va_up_ne _ _ (by omega)).trans rfl
  have n5 : (qAdd x j k c9 md9).1 5 = va_up (x.1 5) j (x.1 5 j + 1) := (va_up_ne _ _ (by omega)).trans rfl
  have nq : ∀ i, (qAdd x j k c9 md9).1 (50 + i) = if i = j then va_up (x.1 (50 + j)) (x.1 5 j) k else x.1 (50 + i) := by
    intro i
    by_cases c : i = j
    · rw [if_pos c, c]
      show va_up (va_up (va_up x.1 4 _) 5 _) (50 + j) (va_up ((va_up (va_up x.1 4 _) 5 _) (50 + j)) _ _) (50 + j) = _
      rw [va_up_self, va_up_ne _ _ (by omega), va_up_ne _ _ (by omega)]
    · rw [if_neg c]
      exact (va_up_ne _ _ (by omega)).trans ((va_up_ne _ _ (by omega)).trans (va_up_ne _ _ (by omega)))
  have i2 : ∀ m, m ≠ 22 → (qAdd x j k c9 md9).2 m = x.2 m := fun m hm => va_up_ne _ _ hm
  have e0 := n50 0 (by omega) (by omega) (by omega)
  have e1 := n50 1 (by omega) (by omega) (by omega)
  have e2 := n50 2 (by omega) (by omega) (by omega)
  have e3 := n50 3 (by omega) (by omega) (by omega)
  have e7 := n50 7 (by omega) (by omega) (by omega)
  have e8 := n50 8 (by omega) (by omega) (by omega)
  have e9 := n50 9 (by omega) (by omega) (by omega)
  have e10 := n50 10 (by omega) (by omega) (by omega)
  have e12 := n50 12 (by omega) (by omega) (by omega)
  refine ⟨?_, CJ_c e7 e8 hJ, CK_c e0 e7 e8 hKK, ?_, FrD_c e0 e8 (i2 3 (by omega)) (i2 23 (by omega)) hFD, ?_, ⟨m0, m1, m7, m8, fun e => ?_, fun e => ?_, m9, m12, m11⟩, BK_c e0 (i2 1 (by omega)) (i2 2 (by omega)) (i2 3 (by omega)) (i2 9 (by omega)) hBK, ?_, ?_⟩
  · unfold CI
    rw [e0, e1, e2, e3, e7, e8, e9, e10, e12, n4, n5, i2 10 (by omega)]
    refine ⟨hn0, hn1, hn2, hn3, hn4, hn5, hc7, hc8, fun i => ?_, fun i => ?_, fun i => ?_, fun i s => ?_, hc9, hc12, hc10, hcj⟩
    · by_cases c : i = j
      · rw [c, va_up_self]; omega
      · rw [va_up_ne _ _ c]; exact hc5 i
    · by_cases c : i = j
      · rw [c, va_up_self, va_up_self]; omega
      · rw [va_up_ne _ _ c, va_up_ne _ _ c]; exact hc54 i
    · by_cases c : i = j
      · rw [c, va_up_self]; omega
      · rw [va_up_ne _ _ c]; exact hc4 i
    · rw [nq i]
      by_cases c : i = j
      · rw [if_pos c]
        by_cases c2 : s = x.1 5 j
        · rw [c2, va_up_self]; exact hk
        · rw [va_up_ne _ _ c2]; exact hc50 j s
      · rw [if_neg c]; exact hc50 i s
  · unfold CQ
    rw [e2, e3, n4]
    refine ⟨fun i => ?_, hQ.2⟩
    by_cases c : i = j
    · rw [c, va_up_self]; exact Or.inr hc
    · rw [va_up_ne _ _ c]; exact hQ.1 i
  · unfold FrB
    rw [e1, e7, e10, n4, n5, i2 14 (by omega)]
    refine ⟨fun i hi => ?_, hFB.2⟩
    rw [i2 6 (by omega), i2 7 (by omega), i2 8 (by omega), i2 9 (by omega), i2 10 (by omega), i2 11 (by omega), i2 12 (by omega), i2 13 (by omega), i2 (100 + i) (by omega), va_up_ne _ _ (show i ≠ j by omega), va_up_ne _ _ (show i ≠ j by omega)]
    have e : (qAdd x j k c9 md9).2 22 i = x.2 22 i := by
      show va_up (x.2 22) j md9 i = x.2 22 i
      rw [va_up_ne _ _ (by omega)]
    rw [e]
    exact hFB.1 i hi
  · show va_up (y.1 5) j (x.1 5 j + 1) e ≤ 8
    by_cases c : e = j
    · rw [c, va_up_self]; omega
    · rw [va_up_ne _ _ c]; exact m5 e
  · show va_up (y.1 6) (8 * j + x.1 5 j) k e < 10
    by_cases c : e = 8 * j + x.1 5 j
    · rw [c, va_up_self]; exact hk
    · rw [va_up_ne _ _ c]; exact m6 e
  · unfold CSm
    rw [stH_cg (x := x) (i2 13 (by omega)), e1, i2 18 (by omega), i2 19 (by omega)]
    exact hCS
  · unfold EQ
    rw [e0, e8, e9, e10, n5]
    refine ⟨fun m hm i => ?_, hE.2.1, fun i s hi hs => ?_, hE.2.2.2.1, fun m hm i => ?_, fun i s hi hs => ?_⟩
    · by_cases c : m = 5
      · rw [c, n5]
        show va_up (x.1 5) j (x.1 5 j + 1) i = va_up (y.1 5) j (x.1 5 j + 1) i
        rw [f5]
      · rw [n50 m (by omega) (by omega) c]
        show x.1 m i = va_up (va_up y.1 6 _) 5 _ m i
        rw [va_up_ne _ _ c, va_up_ne _ _ (by omega)]
        exact hE.1 m hm i
    · rw [nq i]
      show _ = va_up (y.1 6) (8 * j + x.1 5 j) k (8 * i + s)
      have q5 := hc5 i
      by_cases c : i = j
      · rw [if_pos c]
        rw [c, va_up_self] at hs
        by_cases c2 : s = x.1 5 j
        · rw [c, c2, va_up_self, va_up_self]
        · rw [va_up_ne _ _ c2, va_up_ne _ _ (by rw [c]; omega), c]; exact hE.2.2.1 j s (by omega) (by omega)
      · rw [if_neg c]
        rw [va_up_ne _ _ c] at hs
        rw [va_up_ne _ _ (by omega)]
        exact hE.2.2.1 i s hi hs
    · rw [i2 m (by omega)]; exact hE.2.2.2.2.1 m hm i
    · rw [i2 (100 + i) (by omega)]; exact hE.2.2.2.2.2 i s hi hs
