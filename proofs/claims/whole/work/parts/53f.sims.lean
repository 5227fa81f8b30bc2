/-- one disc more -/
theorem Rel.addD {q : Nat} {x y : St} (h : Rel q x y) (so : Nat) (st fw : Int32) (c9 : Nat) (md9 : Int32) (hn : x.1 0 0 < 30) (hso : so < 100) (hs1 : 1 ≤ st) (hs2 : st ≤ 50) (hf1 : 0 ≤ fw) (hf2 : fw ≤ 99) (hc : x.1 0 0 + 1 ≤ c9) (hc9 : c9 = 10 ∨ c9 = 15 ∨ c9 = 22 ∨ c9 = 33) : Rel q (dAdd x so st fw c9 md9) (uN (uN (uI (uI (uN y 12 (x.1 0 0) so) 1 (x.1 0 0) st) 2 (x.1 0 0) fw) 8 (x.1 0 0) 1) 0 0 (x.1 0 0 + 1)) := by
  have hEn := h.n 0 0 (by decide)
  have f12 := h.fn 12 (by decide)
  have f1 := h.f 1 (by decide)
  have f2 := h.f 2 (by decide)
  have f0 := h.fn 0 (by decide)
  obtain ⟨hI, hJ, hKK, hQ, hFD, hFB, hMI, hBK, hCS, hE⟩ := h
  obtain ⟨hn0, hn1, hn2, hn3, hn4, hn5, hc7, hc8, hc5, hc54, hc4, hc50, hc9', hc12, hc10, hcj⟩ := hI
  obtain ⟨m0, m1, m7, m8, m5, m6, m9, m12, m11⟩ := hMI
  obtain ⟨n, en⟩ : ∃ n, n = x.1 0 0 := ⟨_, rfl⟩
  rw [← en] at hn hc hEn hn0 hn2 hc7 ⊢
  have eD : dAdd x so st fw c9 md9 = uI (uN (uN (uI (uI (uN x 12 n so) 1 n st) 2 n fw) 2 0 c9) 0 0 (n + 1)) 20 0 md9 := by rw [en]; rfl
  rw [eD]
  have k0 : (uI (uN (uN (uI (uI (uN x 12 n so) 1 n st) 2 n fw) 2 0 c9) 0 0 (n + 1)) 20 0 md9).1 = va_up (va_up (va_up x.1 12 (va_up (x.1 12) n so)) 2 (va_up (x.1 2) 0 c9)) 0 (va_up (x.1 0) 0 (n + 1)) := rfl
  generalize hX : uI (uN (uN (uI (uI (uN x 12 n so) 1 n st) 2 n fw) 2 0 c9) 0 0 (n + 1)) 20 0 md9 = X at k0 ⊢
  have n50 : ∀ m, m ≠ 12 → m ≠ 2 → m ≠ 0 → X.1 m = x.1 m := fun m h1 h2 h3 => by rw [k0, va_up_ne _ _ h3, va_up_ne _ _ h2, va_up_ne _ _ h1]
  have e00 : X.1 0 0 = n + 1 := by rw [k0]; rfl
  have e20 : X.1 2 0 = c9 := by rw [k0]; rfl
  have e12 : X.1 12 = va_up (x.1 12) n so := by rw [k0]; rfl
  have e0 : X.1 0 = va_up (x.1 0) 0 (n + 1) := by rw [k0]; rfl
  have i2 : ∀ m, m ≠ 1 → m ≠ 2 → m ≠ 20 → X.2 m = x.2 m := fun m h1 h2 h3 => by
    rw [← hX]
    exact (va_up_ne _ _ h3).trans ((va_up_ne _ _ h2).trans (va_up_ne _ _ h1))
  have j1 : X.2 1 = va_up (x.2 1) n st := by rw [← hX]; rfl
  have j2 : X.2 2 = va_up (x.2 2) n fw := by rw [← hX]; rfl
  have e1 := n50 1 (by omega) (by omega) (by omega)
  have e3 := n50 3 (by omega) (by omega) (by omega)
  have e4 := n50 4 (by omega) (by omega) (by omega)
  have e5 := n50 5 (by omega) (by omega) (by omega)
  have e7 := n50 7 (by omega) (by omega) (by omega)
  have e8 := n50 8 (by omega) (by omega) (by omega)
  have e9 := n50 9 (by omega) (by omega) (by omega)
  have e10 := n50 10 (by omega) (by omega) (by omega)
  have hv := hFD n (by omega)
  have t1 := toInt_ge hs1
  have t2 := toInt_ge hs2
  have t3 := toInt_ge hf1
  have t4 := toInt_ge hf2
  rw [show (1 : Int32).toInt = 1 from rfl] at t1
  rw [show (50 : Int32).toInt = 50 from rfl] at t2
  rw [show (0 : Int32).toInt = 0 from rfl] at t3
  rw [show (99 : Int32).toInt = 99 from rfl] at t4
  refine ⟨?_, CJ_c e7 e8 hJ, ?_, ?_, ?_, ?_, ⟨?_, m1, fun a => ?_, fun e => ?_, m5, m6, m9, fun e => ?_, m11⟩, ⟨fun d hd => ?_, ?_, ?_⟩, ?_, ?_⟩
  · unfold CI
    rw [e00, e20, e1, e3, e4, e5, e7, e8, e9, e10, e12, i2 10 (by omega) (by omega) (by omega)]
    refine ⟨by omega, hn1, hc, hn3, by omega, hn5, fun a => by have := hc7 a; omega, hc8, hc5, hc54, hc4, fun j i => ?_, hc9', fun d => ?_, hc10, hcj⟩
    · rw [n50 _ (by omega) (by omega) (by omega)]; exact hc50 j i
    · by_cases c : d = n
      · rw [c, va_up_self]; exact hso
      · rw [va_up_ne _ _ c]; exact hc12 d
  · intro d hd h2
    rw [e00] at hd
    rw [e8] at h2 ⊢
    rw [e7]
    by_cases c : d = n
    · rw [c] at h2; omega
    · exact hKK d (by omega) h2
  · unfold CQ
    rw [e4, e3, e20]
    exact ⟨hQ.1, hQ.2.1, Or.inr hc9⟩
  · intro d hd
    rw [e00] at hd
    rw [e8, i2 3 (by omega) (by omega) (by omega), i2 23 (by omega) (by omega) (by omega)]
    exact hFD d (by omega)
  · exact FrB_c e1 e4 e5 e7 (fun j _ => by rw [e10]) (fun m j _ hm => by rw [i2 m (by omega) (by omega) (by omega)]) (fun j => i2 _ (by omega) (by omega) (by omega)) (i2 14 (by omega) (by omega) (by omega)) hFB
  · show n + 1 ≤ 30
    omega
  · show y.1 7 a ≤ n + 1
    have := m7 a
    omega
  · show va_up (y.1 8) n 1 e < 42
    by_cases c : e = n
    · rw [c, va_up_self]; omega
    · rw [va_up_ne _ _ c]; exact m8 e
  · show va_up (y.1 12) n so e < 100
    by_cases c : e = n
    · rw [c, va_up_self]; exact hso
    · rw [va_up_ne _ _ c]; exact m12 e
  · rw [e00] at hd
    rw [j1, j2]
    by_cases c : d = n
    · rw [c, va_up_self, va_up_self]; exact ⟨t1, t2, t3, t4⟩
    · rw [va_up_ne _ _ c, va_up_ne _ _ c]; exact hBK.1 d (by omega)
  · rw [i2 3 (by omega) (by omega) (by omega)]; exact hBK.2.1
  · rw [i2 9 (by omega) (by omega) (by omega)]; exact hBK.2.2
  · unfold CSm
    rw [stH_cg (x := x) (i2 13 (by omega) (by omega) (by omega)), e1, i2 18 (by omega) (by omega) (by omega), i2 19 (by omega) (by omega) (by omega)]
    exact hCS
  · unfold EQ
    rw [e00, e8, e5, e9, e10]
    refine ⟨fun m hm i => ?_, fun d hd => ?_, fun j i hj hi => ?_, hE.2.2.2.1, fun m hm i => ?_, fun j s hj hs => ?_⟩
    · rcases hm with rfl | rfl | rfl | rfl | rfl | rfl
      · rw [e0]
        show va_up (x.1 0) 0 (n + 1) i = va_up (y.1 0) 0 (n + 1) i
        rw [f0]
      · rw [e1]; exact hE.1 1 (by decide) i
      · rw [e5]; exact hE.1 5 (by decide) i
      · rw [e7]; exact hE.1 7 (by decide) i
      · rw [e9]; exact hE.1 9 (by decide) i
      · rw [e12]
        show va_up (x.1 12) n so i = va_up (y.1 12) n so i
        rw [f12]
    · show x.1 8 d = va_up (y.1 8) n 1 d
      by_cases c : d = n
      · rw [c, va_up_self]; exact hv.1
      · rw [va_up_ne _ _ c]; exact hE.2.1 d (by omega)
    · rw [n50 _ (by omega) (by omega) (by omega)]; exact hE.2.2.1 j i hj hi
    · by_cases c1 : m = 1
      · rw [c1, j1]
        show va_up (x.2 1) n st i = va_up (y.2 1) n st i
        rw [f1]
      · by_cases c2 : m = 2
        · rw [c2, j2]
          show va_up (x.2 2) n fw i = va_up (y.2 2) n fw i
          rw [f2]
        · rw [i2 m c1 c2 (by omega)]
          show x.2 m i = va_up (va_up y.2 1 _) 2 _ m i
          rw [va_up_ne _ _ c2, va_up_ne _ _ c1]
          exact hE.2.2.2.2.1 m hm i
    · rw [i2 _ (by omega) (by omega) (by omega)]; exact hE.2.2.2.2.2 j s hj hs
/-- one box more -/
theorem Rel.addB {q : Nat} {x y : St} (h : Rel q x y) (sh ta : Int32) (c9 : Nat) (md9 : Int32) (hn : x.1 1 0 < 4) (hc9 : c9 = 10) : Rel q (bAdd x sh ta c9 md9) (uN (uI (uI y 4 (x.1 1 0) sh) 5 (x.1 1 0) ta) 1 0 (x.1 1 0 + 1)) := by
  have f4 := h.f 4 (by decide)
  have f5 := h.f 5 (by decide)
  have f1 := h.fn 1 (by decide)
  have hEn := h.n 1 0 (by decide)
  obtain ⟨hI, hJ, hKK, hQ, hFD, hFB, hMI, hBK, hCS, hE⟩ := h
  obtain ⟨hn0, hn1, hn2, hn3, hn4, hn5, hc7, hc8, hc5, hc54, hc4, hc50, hc9', hc12, hc10, hcj⟩ := hI
  obtain ⟨m0, m1, m7, m8, m5, m6, m9, m12, m11⟩ := hMI
  obtain ⟨n, en⟩ : ∃ n, n = x.1 1 0 := ⟨_, rfl⟩
  rw [← en] at hn hEn hn1 hn3 hc8 ⊢
  have eD : bAdd x sh ta c9 md9 = uI (uN (uN (uI (uI x 4 n sh) 5 n ta) 3 0 c9) 1 0 (n + 1)) 21 0 md9 := by rw [en]; rfl
  rw [eD]
  have k0 : (uI (uN (uN (uI (uI x 4 n sh) 5 n ta) 3 0 c9) 1 0 (n + 1)) 21 0 md9).1 = va_up (va_up x.1 3 (va_up (x.1 3) 0 c9)) 1 (va_up (x.1 1) 0 (n + 1)) := rfl
  generalize hX : uI (uN (uN (uI (uI x 4 n sh) 5 n ta) 3 0 c9) 1 0 (n + 1)) 21 0 md9 = X at k0 ⊢
  have n50 : ∀ m, m ≠ 3 → m ≠ 1 → X.1 m = x.1 m := fun m h1 h3 => by rw [k0, va_up_ne _ _ h3, va_up_ne _ _ h1]
  have e10 : X.1 1 0 = n + 1 := by rw [k0]; rfl
  have e30 : X.1 3 0 = c9 := by rw [k0]; rfl
  have e1 : X.1 1 = va_up (x.1 1) 0 (n + 1) := by rw [k0]; rfl
  have i2 : ∀ m, m ≠ 4 → m ≠ 5 → m ≠ 21 → X.2 m = x.2 m := fun m h1 h2 h3 => by
    rw [← hX]
    exact (va_up_ne _ _ h3).trans ((va_up_ne _ _ h2).trans (va_up_ne _ _ h1))
  have j4 : X.2 4 = va_up (x.2 4) n sh := by rw [← hX]; rfl
  have j5 : X.2 5 = va_up (x.2 5) n ta := by rw [← hX]; rfl
  have e0 := n50 0 (by omega) (by omega)
  have e2 := n50 2 (by omega) (by omega)
  have e4 := n50 4 (by omega) (by omega)
  have e5 := n50 5 (by omega) (by omega)
  have e7 := n50 7 (by omega) (by omega)
  have e8 := n50 8 (by omega) (by omega)
  have e9 := n50 9 (by omega) (by omega)
  have ev := n50 10 (by omega) (by omega)
  have e12 := n50 12 (by omega) (by omega)
  have hb := hFB.1 n (by omega)
  refine ⟨?_, CJ_c e7 e8 hJ, CK_c e0 e7 e8 hKK, ?_, FrD_c e0 e8 (i2 3 (by omega) (by omega) (by omega)) (i2 23 (by omega) (by omega) (by omega)) hFD, ⟨fun j hj => ?_, fun a ha => ?_⟩, ⟨m0, ?_, m7, m8, m5, m6, m9, m12, m11⟩, BK_c e0 (i2 1 (by omega) (by omega) (by omega)) (i2 2 (by omega) (by omega) (by omega)) (i2 3 (by omega) (by omega) (by omega)) (i2 9 (by omega) (by omega) (by omega)) hBK, ?_, ?_⟩
  · unfold CI
    rw [e10, e30, e0, e2, e4, e5, e7, e8, e9, ev, e12, i2 10 (by omega) (by omega) (by omega)]
    refine ⟨hn0, by omega, hn2, by omega, hn4, by omega, hc7, fun d => by have := hc8 d; omega, hc5, hc54, hc4, fun j i => ?_, hc9', hc12, hc10, hcj⟩
    rw [n50 _ (by omega) (by omega)]; exact hc50 j i
  · unfold CQ
    rw [e4, e2, e30]
    exact ⟨hQ.1, Or.inr hc9, hQ.2.2⟩
  · rw [e10] at hj
    rw [e4, e5, ev, i2 6 (by omega) (by omega) (by omega), i2 7 (by omega) (by omega) (by omega), i2 8 (by omega) (by omega) (by omega), i2 9 (by omega) (by omega) (by omega), i2 10 (by omega) (by omega) (by omega), i2 11 (by omega) (by omega) (by omega), i2 12 (by omega) (by omega) (by omega), i2 13 (by omega) (by omega) (by omega), i2 22 (by omega) (by omega) (by omega), i2 (100 + j) (by omega) (by omega) (by omega)]
    exact hFB.1 j (by omega)
  · rw [e10] at ha
    rw [e7, i2 14 (by omega) (by omega) (by omega)]
    exact hFB.2 a (by omega)
  · show n + 1 ≤ 4
    omega
  · unfold CSm
    rw [stH_cg (x := x) (i2 13 (by omega) (by omega) (by omega)), e10, i2 18 (by omega) (by omega) (by omega), i2 19 (by omega) (by omega) (by omega)]
    show fU (stH x) (x.2 18 0) n + x.2 13 n = x.2 19 0
    rw [hb.2.2.2.2.2.2.2.1, Int32.add_zero]
    unfold CSm at hCS
    rw [← en] at hCS
    exact hCS
  · unfold EQ
    rw [e0, e8, e5, e9, ev]
    refine ⟨fun m hm i => ?_, hE.2.1, fun j i hj hi => ?_, hE.2.2.2.1, fun m hm i => ?_, fun j s hj hs => ?_⟩
    · by_cases c : m = 1
      · rw [c, e1]
        show va_up (x.1 1) 0 (n + 1) i = va_up (y.1 1) 0 (n + 1) i
        rw [f1]
      · rw [n50 m (by omega) c]
        show x.1 m i = va_up y.1 1 _ m i
        rw [va_up_ne _ _ c]
        exact hE.1 m hm i
    · rw [n50 _ (by omega) (by omega)]; exact hE.2.2.1 j i hj hi
    · by_cases c1 : m = 4
      · rw [c1, j4]
        show va_up (x.2 4) n sh i = va_up (y.2 4) n sh i
        rw [f4]
      · by_cases c2 : m = 5
        · rw [c2, j5]
          show va_up (x.2 5) n ta i = va_up (y.2 5) n ta i
          rw [f5]
        · rw [i2 m c1 c2 (by omega)]
          show x.2 m i = va_up (va_up y.2 4 _) 5 _ m i
          rw [va_up_ne _ _ c2, va_up_ne _ _ c1]
          exact hE.2.2.2.2.1 m hm i
    · rw [i2 _ (by omega) (by omega) (by omega)]; exact hE.2.2.2.2.2 j s hj hs
theorem fH_shift (x : St) (a d : Int32) (n : Nat) : fU (stH x) (a + d) n = fU (stH x) a n + d := by
  induction n with
  | zero => rfl
  | succ n ih =>
    show fU (stH x) (a + d) n + x.2 13 n = fU (stH x) a n + x.2 13 n + d
    rw [ih, Int32.add_assoc, Int32.add_comm d, ← Int32.add_assoc]
theorem fH_up (x x' : St) (j : Nat) (s a : Int32) (h : x'.2 13 = va_up (x.2 13) j (x.2 13 j + s)) (n : Nat) : fU (stH x') a n = fU (stH x) a n + if j < n then s else 0 := by
  induction n with
  | zero => rw [if_neg (Nat.not_lt_zero j)]; exact (Int32.add_zero _).symm
  | succ n ih =>
    show fU (stH x') a n + x'.2 13 n = fU (stH x) a n + x.2 13 n + _
    rw [ih, h]
    by_cases c : j < n
    · rw [if_pos c, if_pos (by omega), va_up_ne _ _ (by omega), Int32.add_assoc, Int32.add_comm s, ← Int32.add_assoc]
    · rw [if_neg c, Int32.add_zero]
      by_cases c2 : j = n
      · rw [if_pos (by omega), c2, va_up_self, Int32.add_assoc]
      · rw [if_neg (by omega), va_up_ne _ _ (by omega), Int32.add_zero]
/-- takings are shared -/
theorem Rel.money {q : Nat} {x y : St} (h : Rel q x y) (j : Nat) (s c : Int32) (hj : j < x.1 1 0) : Rel q (uI (uI (uI x 13 j (x.2 13 j + s)) 19 0 (x.2 19 0 + c)) 18 0 (x.2 18 0 + (c - s))) (uI (uI y 13 j (x.2 13 j + s)) 18 0 (x.2 18 0 + (c - s))) := by
  obtain ⟨hI, hJ, hKK, hQ, hFD, hFB, hMI, hBK, hCS, hE⟩ := h
  refine ⟨CI_cg (x := x) rfl rfl hI, CJ_cg (x := x) rfl hJ, CK_cg (x := x) rfl hKK, CQ_cg (x := x) rfl hQ, FrD_cg (x := x) rfl rfl rfl hFD, FrB_cg (x := x) rfl (fun m i hi hm => ?_) (fun i => (va_up_ne _ _ (by omega)).trans ((va_up_ne _ _ (by omega)).trans (va_up_ne _ _ (by omega)))) rfl hFB, MI_cg (x := y) rfl hMI, BK_cg (x := x) rfl rfl rfl rfl rfl hBK, ?_, ?_⟩
  · show va_up (va_up (va_up x.2 13 (va_up (x.2 13) j (x.2 13 j + s))) 19 _) 18 _ m i = x.2 m i
    rw [va_up_ne _ _ (by omega), va_up_ne _ _ (by omega)]
    by_cases e : m = 13
    · rw [e, va_up_self, va_up_ne _ _ (by omega)]
    · rw [va_up_ne _ _ e]
  · show fU (stH (uI (uI (uI x 13 j (x.2 13 j + s)) 19 0 (x.2 19 0 + c)) 18 0 (x.2 18 0 + (c - s)))) (x.2 18 0 + (c - s)) (x.1 1 0) = x.2 19 0 + c
    rw [fH_up x _ j s _ rfl, if_pos hj, fH_shift, show fU (stH x) (x.2 18 0) (x.1 1 0) = x.2 19 0 from hCS, Int32.add_assoc, Int32.sub_add_cancel]
  · have h2 := EQ_I (EQ_I hE 13 j (x.2 13 j + s) (by omega)) 18 0 (x.2 18 0 + (c - s)) (by omega)
    refine EQ_x (x := uI (uI x 13 j (x.2 13 j + s)) 18 0 (x.2 18 0 + (c - s))) h2 rfl (fun k hk => ?_) (fun i => ?_)
    · show va_up (va_up (va_up x.2 13 _) 19 _) 18 (va_up (x.2 18) 0 _) k = va_up (va_up x.2 13 _) 18 (va_up (x.2 18) 0 _) k
      by_cases e : k = 18
      · rw [e, va_up_self, va_up_self]
      · rw [va_up_ne _ _ e, va_up_ne _ _ (show k ≠ 19 by omega), va_up_ne (k := 18) _ _ e]
    · show va_up (va_up (va_up x.2 13 _) 19 _) 18 _ (100 + i) = va_up (va_up x.2 13 _) 18 _ (100 + i)
      rw [va_up_ne (k := 18) _ _ (by omega), va_up_ne (k := 19) _ _ (by omega), va_up_ne (k := 18) _ _ (by omega)]
/-- a visit of this week -/
theorem Rel.week {q : Nat} {x y : St} (h : Rel q x y) (j : Nat) (hj : j < x.1 1 0) : Rel q (uN x 10 j (x.1 9 0 + 1)) (uN y 11 j 1) := by
  obtain ⟨hI, hJ, hKK, hQ, hFD, hFB, hMI, hBK, hCS, hE⟩ := h
  obtain ⟨hn0, hn1, hn2, hn3, hn4, hn5, hc7, hc8, hc5, hc54, hc4, hc50, hc9', hc12, hc10, hcj⟩ := hI
  obtain ⟨m0, m1, m7, m8, m5, m6, m9, m12, m11⟩ := hMI
  refine ⟨⟨hn0, hn1, hn2, hn3, hn4, hn5, hc7, hc8, hc5, hc54, hc4, fun i s => ?_, hc9', hc12, fun i => ?_, hcj⟩, CJ_c (x := x) rfl rfl hJ, CK_c (x := x) rfl rfl rfl hKK, CQ_c (x := x) rfl rfl rfl hQ, FrD_c (x := x) rfl rfl rfl rfl hFD, FrB_c (x := x) rfl rfl rfl rfl (fun i hi => va_up_ne _ _ (by omega)) (fun _ _ _ _ => rfl) (fun _ => rfl) rfl hFB, ⟨m0, m1, m7, m8, m5, m6, m9, m12, fun i => ?_⟩, BK_c (x := x) rfl rfl rfl rfl rfl hBK, hCS, ?_⟩
  · show va_up x.1 10 _ (50 + i) s < 10
    rw [va_up_ne _ _ (by omega)]; exact hc50 i s
  · show va_up (x.1 10) j (x.1 9 0 + 1) i ≤ x.1 9 0 + 1
    by_cases c : i = j
    · rw [c, va_up_self]; exact Nat.le_refl _
    · rw [va_up_ne _ _ c]; exact hc10 i
  · show va_up (y.1 11) j 1 i ≤ 1
    by_cases c : i = j
    · rw [c, va_up_self]; exact Nat.le_refl _
    · rw [va_up_ne _ _ c]; exact m11 i
  · refine ⟨fun m hm i => ?_, hE.2.1, fun i s hi hs => ?_, fun i hi => ?_, hE.2.2.2.2.1, hE.2.2.2.2.2⟩
    · show va_up x.1 10 _ m i = va_up y.1 11 _ m i
      rw [va_up_ne _ _ (by omega), va_up_ne _ _ (by omega)]; exact hE.1 m hm i
    · show va_up x.1 10 _ (50 + i) s = y.1 6 (8 * i + s)
      rw [va_up_ne _ _ (by omega)]; exact hE.2.2.1 i s hi hs
    · show va_up (y.1 11) j 1 i = if va_up (x.1 10) j (x.1 9 0 + 1) i = x.1 9 0 + 1 then 1 else 0
      by_cases c : i = j
      · rw [c, va_up_self, va_up_self, if_pos rfl]
      · rw [va_up_ne _ _ c, va_up_ne _ _ c]; exact hE.2.2.2.1 i hi
