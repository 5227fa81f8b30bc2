theorem capD_ok {x : St} (hI : CI x) (hQ : CQ x) (h : x.1 0 0 < 30) : x.1 0 0 + 1 ≤ capD x ∧ (capD x = 10 ∨ capD x = 15 ∨ capD x = 22 ∨ capD x = 33) := by
  have h2 := hI.2.2.1
  have h3 := hQ.2.2
  unfold capD
  by_cases c : x.1 0 0 < x.1 2 0
  · rw [if_pos c]; omega
  · rw [if_neg c]
    by_cases c2 : x.1 2 0 = 0
    · rw [if_pos c2]; omega
    · rw [if_neg c2]; omega
theorem capB_ok {x : St} (hQ : CQ x) : capB x = 10 := by
  have h3 := hQ.2.1
  unfold capB
  by_cases c : x.1 3 0 = 0
  · rw [if_pos c]
  · rw [if_neg c]; omega
theorem capQ_ok {x : St} (hQ : CQ x) (j : Nat) : capQ x j = 10 := by
  have h3 := hQ.1 j
  unfold capQ
  by_cases c : x.1 4 j = 0
  · rw [if_pos c]
  · rw [if_neg c]; omega
theorem sim_addDisc {q : Nat} {x y : St} (hR : Rel q x y) (hq : q < 512) (a : Int32) (st : Int32) (fw : Int32) : Sim ["java/lang/IllegalArgumentException", "java/lang/IllegalStateException"] (cp_addDisc x a st fw) (mp_addDisc y a st fw) q := by
  unfold cp_addDisc mp_addDisc
  by_cases c1 : 0 ≤ a ∧ a ≤ 99
  · rw [if_pos c1, if_pos c1]
    by_cases c2 : 1 ≤ st ∧ st ≤ 50
    · rw [if_pos c2, if_pos c2]
      by_cases c3 : 0 ≤ fw ∧ fw ≤ 99
      · rw [if_pos c3, if_pos c3, ← hR.n 0 0 (by decide)]
        by_cases c4 : x.1 0 0 < 30
        · rw [if_pos c4, if_neg (by omega)]
          obtain ⟨s, hs, rfl⟩ := nI_of2 (M := 99) (n := 99) rfl (Int32.not_lt.mpr c1.1) c1.2
          have es : ix (nI s) = s := ix_nI (by omega)
          rw [es]
          have k := capD_ok hR.1 hR.2.2.2.1 c4
          exact Sim.ok (by rw [Nat.add_sub_cancel]) (((hR.s.z 0 _).z 0 _).addD s st fw (capD x) (x.2 20 0 + 1) c4 (by omega) c2.1 c2.2 c3.1 c3.2 k.1 k.2) rfl
        · rw [if_neg c4, if_pos (by omega)]
          exact Sim.thr 2 ((hR.s.z 0 _).z 0 _) rfl (by decide +kernel)
      · rw [if_neg c3, if_neg c3]
        exact Sim.thr 1 (hR.s.z 0 _) rfl (by decide +kernel)
    · rw [if_neg c2, if_neg c2]
      exact Sim.thr 1 (hR.s.z 0 _) rfl (by decide +kernel)
  · rw [if_neg c1, if_neg c1]
    exact Sim.thr 1 (hR.s.z 0 _) rfl (by decide +kernel)
theorem sim_addBox {q : Nat} {x y : St} (hR : Rel q x y) (hq : q < 512) (sh : Int32) (ta : Int32) : Sim ["java/lang/IllegalArgumentException", "java/lang/IllegalStateException"] (cp_addBox x sh ta) (mp_addBox y sh ta) q := by
  unfold cp_addBox mp_addBox
  by_cases c1 : 0 ≤ sh ∧ sh ≤ 60
  · rw [if_pos c1, if_pos c1]
    by_cases c2 : 0 ≤ ta ∧ ta ≤ 9
    · rw [if_pos c2, if_pos c2, ← hR.n 1 0 (by decide)]
      by_cases c4 : x.1 1 0 < 4
      · rw [if_pos c4, if_neg (by omega)]
        exact Sim.ok (by rw [Nat.add_sub_cancel]) (((hR.s.z 0 _).z 0 _).addB sh ta (capB x) (x.2 21 0 + 1) c4 (capB_ok hR.2.2.2.1)) rfl
      · rw [if_neg c4, if_pos (by omega)]
        exact Sim.thr 2 ((hR.s.z 0 _).z 0 _) rfl (by decide +kernel)
    · rw [if_neg c2, if_neg c2]
      exact Sim.thr 1 (hR.s.z 0 _) rfl (by decide +kernel)
  · rw [if_neg c1, if_neg c1]
    exact Sim.thr 1 (hR.s.z 0 _) rfl (by decide +kernel)
theorem sim_press {q : Nat} {x y : St} (hR : Rel q x y) (hq : q < 512) (b : Int32) (k : Int32) : Sim ["java/lang/IndexOutOfBoundsException", "java/lang/UnsupportedOperationException", "java/lang/IllegalStateException"] (cp_press x b k) (mp_press y b k) q := by
  unfold cp_press mp_press
  rw [← hR.n 1 0 (by decide)]
  by_cases c1 : inB b (x.1 1 0) = true
  · by_cases c2 : inB k 10 = true
    · rw [if_pos c1, if_pos c2, if_pos (And.intro c1 c2)]
      rw [← hR.n 7 _ (by decide), ← hR.i 7 _ (by decide), ← hR.n 5 _ (by decide)]
      by_cases c3 : x.2 7 (ix b) ≤ 0
      · rw [if_pos c3, if_pos c3]
        exact Sim.thr 2 ((hR.s.z 0 _).z 0 _) rfl (by decide +kernel)
      · rw [if_neg c3, if_neg c3]
        by_cases c4 : x.1 7 (10 * ix b + ix k) = 0
        · rw [if_pos c4, if_pos c4]
          exact Sim.thr 2 ((hR.s.z 0 _).z 0 _) rfl (by decide +kernel)
        · rw [if_neg c4, if_neg c4]
          by_cases c5 : x.1 5 (ix b) < 8
          · rw [if_pos c5, if_neg (by omega)]
            refine Sim.ok ?_ ((((((hR.s.z 0 _).z 0 _).z 0 _)).I 7 (ix b) (x.2 7 (ix b) - 1) (Or.inl ⟨by decide, ix_lt c1⟩)).qadd (ix b) (ix k) _ _ (ix_lt c1) c5 (ix_lt c2) (capQ_ok (x := uI x 7 (ix b) (x.2 7 (ix b) - 1)) hR.2.2.2.1 (ix b))) rfl
            have e : (qAdd (uI x 7 (ix b) (x.2 7 (ix b) - 1)) (ix b) (ix k) (capQ (uI x 7 (ix b) (x.2 7 (ix b) - 1)) (ix b)) ((uI x 7 (ix b) (x.2 7 (ix b) - 1)).2 22 (ix b) + 1)).1 5 = va_up (x.1 5) (ix b) (x.1 5 (ix b) + 1) := (va_up_ne _ _ (by omega)).trans rfl
            rw [e, va_up_self]
          · rw [if_neg c5, if_pos (by omega)]
            exact Sim.thr 3 (((hR.s.z 0 _).z 0 _).z 0 _) rfl (by decide +kernel)
    · rw [if_pos c1, if_neg c2, if_neg (fun h => c2 h.2)]
      exact Sim.thr 1 (hR.s.z 0 _) rfl (by decide +kernel)
  · rw [if_neg c1, if_neg (fun h => c1 h.1)]
    exact Sim.thr 1 (hR.s.z 0 _) rfl (by decide +kernel)
theorem sim_visit {q : Nat} {x y : St} (hR : Rel q x y) (hq : q < 512) (b : Int32) : Sim ["java/lang/IndexOutOfBoundsException", "java/lang/UnsupportedOperationException"] (cp_visit x b) (mp_visit y b) q := by
  unfold cp_visit mp_visit
  rw [← hR.n 1 0 (by decide)]
  by_cases c1 : inB b (x.1 1 0) = true
  · rw [if_pos c1, if_pos c1, ← hR.i 17 0 (by decide), ← hR.i 8 _ (by decide), ← hR.i 4 _ (by decide), ← hR.i 13 _ (by decide), ← hR.i 18 0 (by decide), ← hR.i 11 _ (by decide)]
    have hv := hR.vis (ix b) (by have := hR.n4; have := ix_lt c1; omega)
    rw [hv]
    have hj := ix_lt c1
    by_cases c2 : x.1 10 (ix b) = x.1 9 0 + 1
    · rw [if_pos c2, if_pos c2, if_neg (show ¬ (1 : Nat) = 0 by decide)]
      exact Sim.thr 2 ((hR.s.z 0 _).z 0 _) rfl (by decide +kernel)
    · rw [if_neg c2, if_neg c2, if_pos rfl]
      by_cases c3 : (40 : Int32) ≤ x.2 17 0
      · rw [if_pos c3, if_neg (Int32.not_lt.mpr c3)]
        generalize ix b = j at hj
        refine Sim.ok rfl ?_ rfl
        have h := (((((((((hR.s.z 0 0).z 0 0).I 17 0 (x.2 17 0 - 40) (Or.inr (Or.inr rfl))).week j hj).I10 j 0 hj (Or.inl rfl)).money j (x.2 8 j * x.2 4 j / 100) (x.2 8 j) hj).I 12 j (5 * x.2 11 j - x.2 8 j) (Or.inl ⟨by decide, hj⟩)).I 11 j 0 (Or.inl ⟨by decide, hj⟩)).I 8 j 0 (Or.inl ⟨by decide, hj⟩))
        refine cast ?_ h
        refine congrArg (fun z => Rel (q + 1) z _) ?_
        refine Prod.ext rfl (funext fun k => ?_)
        rcases (show k = 8 ∨ k = 10 ∨ k = 11 ∨ k = 12 ∨ k = 13 ∨ k = 17 ∨ k = 18 ∨ k = 19 ∨ (k ≠ 8 ∧ k ≠ 10 ∧ k ≠ 11 ∧ k ≠ 12 ∧ k ≠ 13 ∧ k ≠ 17 ∧ k ≠ 18 ∧ k ≠ 19) by omega) with rfl | rfl | rfl | rfl | rfl | rfl | rfl | rfl | ⟨n1, n2, n3, n4, n5, n6, n7, n8⟩
        iterate 8 (· rfl)
        simp only [uI, uN, va_up, if_neg n1, if_neg n2, if_neg n3, if_neg n4, if_neg n5, if_neg n6, if_neg n7, if_neg n8]
      · rw [if_neg c3, if_pos (Int32.not_le.mp c3)]
        exact Sim.thr 2 ((hR.s.z 0 _).z 0 _) rfl (by decide +kernel)
  · rw [if_neg c1, if_neg c1]
    exact Sim.thr 1 (hR.s.z 0 _) rfl (by decide +kernel)
