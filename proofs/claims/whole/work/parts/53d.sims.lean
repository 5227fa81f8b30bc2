theorem sim_changeNeedle {q : Nat} {x y : St} (hR : Rel q x y) (hq : q < 512) (b : Int32) : Sim ["java/lang/IndexOutOfBoundsException", "java/lang/UnsupportedOperationException"] (cp_changeNeedle x b) (mp_changeNeedle y b) q := by
  unfold cp_changeNeedle mp_changeNeedle
  rw [← hR.n 1 0 (by decide)]
  by_cases c1 : inB b (x.1 1 0) = true
  · rw [if_pos c1, if_pos c1, ← hR.i 17 0 (by decide)]
    have hv := hR.vis (ix b) (by have := hR.n4; have := ix_lt c1; omega)
    rw [hv]
    by_cases c2 : x.1 10 (ix b) = x.1 9 0 + 1
    · rw [if_pos c2, if_pos c2, if_neg (show ¬ (1 : Nat) = 0 by decide)]
      by_cases c3 : (5 : Int32) ≤ x.2 17 0
      · rw [if_pos c3, if_neg (Int32.not_lt.mpr c3)]
        exact Sim.ok (hR.i 9 _ (by decide)) ((((hR.s.z 0 _).z 0 _).I 17 0 _ (Or.inr (Or.inr rfl))).I9 (ix b) 0 (ix_lt c1) (by decide) (by have : (0 : Int32).toInt = 0 := rfl; omega)) rfl
      · rw [if_neg c3, if_pos (Int32.not_le.mp c3)]
        exact Sim.thr 2 ((hR.s.z 0 _).z 0 _) rfl (by decide +kernel)
    · rw [if_neg c2, if_neg c2, if_pos rfl]
      exact Sim.thr 2 ((hR.s.z 0 _).z 0 _) rfl (by decide +kernel)
  · rw [if_neg c1, if_neg c1]
    exact Sim.thr 1 (hR.s.z 0 _) rfl (by decide +kernel)
theorem sim_burn {q : Nat} {x y : St} (hR : Rel q x y) (hq : q < 512) (b : Int32) : Sim ["java/lang/IndexOutOfBoundsException", "java/lang/UnsupportedOperationException"] (cp_burn x b) (mp_burn y b) q := by
  unfold cp_burn mp_burn
  rw [← hR.n 0 0 (by decide)]
  by_cases c1 : inB b (x.1 0 0) = true
  · rw [if_pos c1, if_pos c1, ← hR.p8 _ (ix_lt c1)]
    by_cases c2 : x.1 8 (ix b) = 1
    · rw [if_pos c2, if_pos c2]
      exact Sim.ok (hR.i 3 _ (by decide)) (((hR.s.z 0 _).z 0 _).burn (ix b) (ix_lt c1) c2) rfl
    · rw [if_neg c2, if_neg c2]
      exact Sim.thr 2 ((hR.s.z 0 _).z 0 _) rfl (by decide +kernel)
  · rw [if_neg c1, if_neg c1]
    exact Sim.thr 1 (hR.s.z 0 _) rfl (by decide +kernel)
theorem sim_ask {q : Nat} {x y : St} (hR : Rel q x y) (hq : q < 512) (b : Int32) (v : Int32) : Sim ["java/lang/IndexOutOfBoundsException", "java/lang/IllegalArgumentException", "java/lang/IllegalStateException"] (cp_ask x b v) (mp_ask y b v) q := by
  unfold cp_ask mp_ask
  rw [← hR.n 1 0 (by decide)]
  by_cases c1 : inB b (x.1 1 0) = true
  · rw [if_pos c1, if_pos c1]
    have hj4 : ix b < 4 := by have := hR.n4; have := ix_lt c1; omega
    by_cases c2 : v < 0
    · rw [if_pos c2, if_neg (fun h => absurd c2 (Int32.not_lt.mpr h.1))]
      exact Sim.thr 2 ((hR.s.z 0 _).z 0 _) rfl (by decide +kernel)
    · rw [if_neg c2]
      obtain ⟨s, hs, rfl⟩ := nI_of c2
      have es : ix (nI s) = s := ix_nI hs
      rw [es]
      by_cases c3 : s < 100
      · rw [if_pos c3, if_pos (And.intro (Int32.not_lt.mp c2) (show nI s ≤ (99 : Int32) from nI_le (b := 99) (by omega) (by omega))), ← hR.as (ix b) s hj4 c3]
        by_cases c4 : x.2 (100 + ix b) s < 99
        · rw [if_pos c4, if_neg (Int32.not_le.mpr c4)]
          exact Sim.ok rfl ((((hR.s.z 0 _).z 0 _).z 0 _).ask (ix b) s _ (ix_lt c1) c3) rfl
        · rw [if_neg c4, if_pos (Int32.not_lt.mp c4)]
          exact Sim.thr 3 (((hR.s.z 0 _).z 0 _).z 0 _) rfl (by decide +kernel)
      · rw [if_neg c3, if_neg (fun h => nI_ge (show 99 < s by omega) hs h.2)]
        exact Sim.thr 2 ((hR.s.z 0 _).z 0 _) rfl (by decide +kernel)
  · rw [if_neg c1, if_neg c1]
    exact Sim.thr 1 (hR.s.z 0 _) rfl (by decide +kernel)
theorem sim_insert {q : Nat} {x y : St} (hR : Rel q x y) (hq : q < 512) (b : Int32) (v : Int32) : Sim ["java/lang/IndexOutOfBoundsException", "java/lang/IllegalArgumentException", "java/lang/UnsupportedOperationException", "java/lang/IllegalStateException"] (cp_insert x b v) (mp_insert y b v) q := by
  unfold cp_insert mp_insert
  rw [← hR.n 1 0 (by decide)]
  by_cases d1 : v = 110
  · obtain rfl := d1
    skip
    have ek : cIx 110 = 1 := by decide
    rw [ek, show cCr (1 - 1) = 1 from rfl, show cCe (1 - 1) = 5 from rfl, if_neg (show ¬ 1 = 0 by decide)]
    rw [if_pos (show (110 : Int32) = 110 from rfl)]
    by_cases c1 : inB b (x.1 1 0) = true
    · rw [if_pos c1, if_pos c1, ← hR.i 10 _ (by decide)]
      by_cases c2 : x.2 10 (ix b) = 0
      · rw [if_pos c2, if_pos c2, ← hR.i 7 _ (by decide), ← hR.i 8 _ (by decide)]
        by_cases c3 : x.2 7 (ix b) + 1 ≤ 99
        · rw [if_pos c3, if_neg (Int32.not_lt.mpr c3)]
          exact Sim.ok rfl ((((((hR.s.z 0 _).z 0 _).z 0 _).z 0 _).I 7 _ _ (Or.inl ⟨by decide, ix_lt c1⟩)).I 8 _ _ (Or.inl ⟨by decide, ix_lt c1⟩)) rfl
        · rw [if_neg c3, if_pos (Int32.not_le.mp c3)]
          exact Sim.thr 4 ((((hR.s.z 0 _).z 0 _).z 0 _).z 0 _) rfl (by decide +kernel)
      · rw [if_neg c2, if_neg c2]
        exact Sim.thr 3 (((hR.s.z 0 _).z 0 _).z 0 _) rfl (by decide +kernel)
    · rw [if_neg c1, if_neg c1]
      exact Sim.thr 1 (hR.s.z 0 _) rfl (by decide +kernel)
  by_cases d2 : v = 100
  · obtain rfl := d2
    have ek : cIx 100 = 2 := by decide
    rw [ek, show cCr (2 - 1) = 2 from rfl, show cCe (2 - 1) = 10 from rfl, if_neg (show ¬ 2 = 0 by decide)]
    rw [if_neg (show ¬ (100 : Int32) = 110 by decide)]
    rw [if_pos (show (100 : Int32) = 100 from rfl)]
    by_cases c1 : inB b (x.1 1 0) = true
    · rw [if_pos c1, if_pos c1, ← hR.i 10 _ (by decide)]
      by_cases c2 : x.2 10 (ix b) = 0
      · rw [if_pos c2, if_pos c2, ← hR.i 7 _ (by decide), ← hR.i 8 _ (by decide)]
        by_cases c3 : x.2 7 (ix b) + 2 ≤ 99
        · rw [if_pos c3, if_neg (Int32.not_lt.mpr c3)]
          exact Sim.ok rfl ((((((hR.s.z 0 _).z 0 _).z 0 _).z 0 _).I 7 _ _ (Or.inl ⟨by decide, ix_lt c1⟩)).I 8 _ _ (Or.inl ⟨by decide, ix_lt c1⟩)) rfl
        · rw [if_neg c3, if_pos (Int32.not_le.mp c3)]
          exact Sim.thr 4 ((((hR.s.z 0 _).z 0 _).z 0 _).z 0 _) rfl (by decide +kernel)
      · rw [if_neg c2, if_neg c2]
        exact Sim.thr 3 (((hR.s.z 0 _).z 0 _).z 0 _) rfl (by decide +kernel)
    · rw [if_neg c1, if_neg c1]
      exact Sim.thr 1 (hR.s.z 0 _) rfl (by decide +kernel)
  by_cases d3 : v = 113
  · obtain rfl := d3
    have ek : cIx 113 = 3 := by decide
    rw [ek, show cCr (3 - 1) = 6 from rfl, show cCe (3 - 1) = 25 from rfl, if_neg (show ¬ 3 = 0 by decide)]
    rw [if_neg (show ¬ (113 : Int32) = 110 by decide)]
    rw [if_neg (show ¬ (113 : Int32) = 100 by decide)]
    rw [if_pos (show (113 : Int32) = 113 from rfl)]
    by_cases c1 : inB b (x.1 1 0) = true
    · rw [if_pos c1, if_pos c1, ← hR.i 10 _ (by decide)]
      by_cases c2 : x.2 10 (ix b) = 0
      · rw [if_pos c2, if_pos c2, ← hR.i 7 _ (by decide), ← hR.i 8 _ (by decide)]
        by_cases c3 : x.2 7 (ix b) + 6 ≤ 99
        · rw [if_pos c3, if_neg (Int32.not_lt.mpr c3)]
          exact Sim.ok rfl ((((((hR.s.z 0 _).z 0 _).z 0 _).z 0 _).I 7 _ _ (Or.inl ⟨by decide, ix_lt c1⟩)).I 8 _ _ (Or.inl ⟨by decide, ix_lt c1⟩)) rfl
        · rw [if_neg c3, if_pos (Int32.not_le.mp c3)]
          exact Sim.thr 4 ((((hR.s.z 0 _).z 0 _).z 0 _).z 0 _) rfl (by decide +kernel)
      · rw [if_neg c2, if_neg c2]
        exact Sim.thr 3 (((hR.s.z 0 _).z 0 _).z 0 _) rfl (by decide +kernel)
    · rw [if_neg c1, if_neg c1]
      exact Sim.thr 1 (hR.s.z 0 _) rfl (by decide +kernel)
  by_cases d4 : v = 115
  · obtain rfl := d4
    have ek : cIx 115 = 4 := by decide
    rw [ek, show cCr (4 - 1) = 6 from rfl, show cCe (4 - 1) = 0 from rfl, if_neg (show ¬ 4 = 0 by decide)]
    rw [if_neg (show ¬ (115 : Int32) = 110 by decide)]
    rw [if_neg (show ¬ (115 : Int32) = 100 by decide)]
    rw [if_neg (show ¬ (115 : Int32) = 113 by decide)]
    rw [if_pos (show (115 : Int32) = 115 from rfl)]
    by_cases c1 : inB b (x.1 1 0) = true
    · rw [if_pos c1, if_pos c1, ← hR.i 10 _ (by decide)]
      by_cases c2 : x.2 10 (ix b) = 0
      · rw [if_pos c2, if_pos c2, ← hR.i 7 _ (by decide), ← hR.i 8 _ (by decide)]
        by_cases c3 : x.2 7 (ix b) + 6 ≤ 99
        · rw [if_pos c3, if_neg (Int32.not_lt.mpr c3)]
          exact Sim.ok rfl ((((((hR.s.z 0 _).z 0 _).z 0 _).z 0 _).I 7 _ _ (Or.inl ⟨by decide, ix_lt c1⟩)).I 8 _ _ (Or.inl ⟨by decide, ix_lt c1⟩)) rfl
        · rw [if_neg c3, if_pos (Int32.not_le.mp c3)]
          exact Sim.thr 4 ((((hR.s.z 0 _).z 0 _).z 0 _).z 0 _) rfl (by decide +kernel)
      · rw [if_neg c2, if_neg c2]
        exact Sim.thr 3 (((hR.s.z 0 _).z 0 _).z 0 _) rfl (by decide +kernel)
    · rw [if_neg c1, if_neg c1]
      exact Sim.thr 1 (hR.s.z 0 _) rfl (by decide +kernel)
  have ek : cIx v = 0 := by unfold cIx; rw [if_neg d1, if_neg d2, if_neg d3, if_neg d4]
  rw [ek, if_pos rfl, if_neg d1, if_neg d2, if_neg d3, if_neg d4]
  by_cases c1 : inB b (x.1 1 0) = true
  · rw [if_pos c1, if_pos c1]
    exact Sim.thr 2 ((hR.s.z 0 _).z 0 _) rfl (by decide +kernel)
  · rw [if_neg c1, if_neg c1]
    exact Sim.thr 1 (hR.s.z 0 _) rfl (by decide +kernel)
