theorem sim_getCredits {q : Nat} {x y : St} (hR : Rel q x y) (hq : q < 512) (b : Int32) : Sim ["java/lang/IndexOutOfBoundsException"] (cp_getCredits x b) (mp_getCredits y b) q := by
  unfold cp_getCredits mp_getCredits
  rw [← hR.n 1 0 (by decide)]
  by_cases c1 : inB b (x.1 1 0) = true
  · rw [if_pos c1, if_pos c1]
    exact Sim.ok (hR.i 7 _ (by decide)) (hR.s.z 0 _) rfl
  · rw [if_neg c1, if_neg c1]
    exact Sim.thr 1 (hR.s.z 0 _) rfl (by decide +kernel)
theorem sim_getCents {q : Nat} {x y : St} (hR : Rel q x y) (hq : q < 512) (b : Int32) : Sim ["java/lang/IndexOutOfBoundsException"] (cp_getCents x b) (mp_getCents y b) q := by
  unfold cp_getCents mp_getCents
  rw [← hR.n 1 0 (by decide)]
  by_cases c1 : inB b (x.1 1 0) = true
  · rw [if_pos c1, if_pos c1]
    exact Sim.ok (hR.i 8 _ (by decide)) (hR.s.z 0 _) rfl
  · rw [if_neg c1, if_neg c1]
    exact Sim.thr 1 (hR.s.z 0 _) rfl (by decide +kernel)
theorem sim_getNeedle {q : Nat} {x y : St} (hR : Rel q x y) (hq : q < 512) (b : Int32) : Sim ["java/lang/IndexOutOfBoundsException"] (cp_getNeedle x b) (mp_getNeedle y b) q := by
  unfold cp_getNeedle mp_getNeedle
  rw [← hR.n 1 0 (by decide)]
  by_cases c1 : inB b (x.1 1 0) = true
  · rw [if_pos c1, if_pos c1]
    exact Sim.ok (hR.i 9 _ (by decide)) (hR.s.z 0 _) rfl
  · rw [if_neg c1, if_neg c1]
    exact Sim.thr 1 (hR.s.z 0 _) rfl (by decide +kernel)
theorem sim_getShort {q : Nat} {x y : St} (hR : Rel q x y) (hq : q < 512) (b : Int32) : Sim ["java/lang/IndexOutOfBoundsException"] (cp_getShort x b) (mp_getShort y b) q := by
  unfold cp_getShort mp_getShort
  rw [← hR.n 1 0 (by decide)]
  by_cases c1 : inB b (x.1 1 0) = true
  · rw [if_pos c1, if_pos c1]
    exact Sim.ok (hR.i 12 _ (by decide)) (hR.s.z 0 _) rfl
  · rw [if_neg c1, if_neg c1]
    exact Sim.thr 1 (hR.s.z 0 _) rfl (by decide +kernel)
theorem sim_getShare {q : Nat} {x y : St} (hR : Rel q x y) (hq : q < 512) (b : Int32) : Sim ["java/lang/IndexOutOfBoundsException"] (cp_getShare x b) (mp_getShare y b) q := by
  unfold cp_getShare mp_getShare
  rw [← hR.n 1 0 (by decide)]
  by_cases c1 : inB b (x.1 1 0) = true
  · rw [if_pos c1, if_pos c1]
    exact Sim.ok (hR.i 13 _ (by decide)) (hR.s.z 0 _) rfl
  · rw [if_neg c1, if_neg c1]
    exact Sim.thr 1 (hR.s.z 0 _) rfl (by decide +kernel)
theorem sim_getQueued {q : Nat} {x y : St} (hR : Rel q x y) (hq : q < 512) (b : Int32) : Sim ["java/lang/IndexOutOfBoundsException"] (cp_getQueued x b) (mp_getQueued y b) q := by
  unfold cp_getQueued mp_getQueued
  rw [← hR.n 1 0 (by decide)]
  by_cases c1 : inB b (x.1 1 0) = true
  · rw [if_pos c1, if_pos c1]
    exact Sim.ok (by rw [hR.n 5 _ (by decide)]) (hR.s.z 0 _) rfl
  · rw [if_neg c1, if_neg c1]
    exact Sim.thr 1 (hR.s.z 0 _) rfl (by decide +kernel)
theorem sim_isJammed {q : Nat} {x y : St} (hR : Rel q x y) (hq : q < 512) (b : Int32) : Sim ["java/lang/IndexOutOfBoundsException"] (cp_isJammed x b) (mp_isJammed y b) q := by
  unfold cp_isJammed mp_isJammed
  rw [← hR.n 1 0 (by decide)]
  by_cases c1 : inB b (x.1 1 0) = true
  · rw [if_pos c1, if_pos c1, ← hR.i 10 _ (by decide)]
    by_cases c2 : x.2 10 (ix b) = 0
    · rw [if_pos c2]
      exact Sim.ok c2 (hR.s.z 0 _) rfl
    · rw [if_neg c2]
      exact Sim.ok ((hR.1.2.2.2.2.2.2.2.2.2.2.2.2.2.2.2 (ix b)).resolve_left c2) (hR.s.z 0 _) rfl
  · rw [if_neg c1, if_neg c1]
    exact Sim.thr 1 (hR.s.z 0 _) rfl (by decide +kernel)
theorem sim_getWheel {q : Nat} {x y : St} (hR : Rel q x y) (hq : q < 512) (b : Int32) (k : Int32) : Sim ["java/lang/IndexOutOfBoundsException"] (cp_getWheel x b k) (mp_getWheel y b k) q := by
  unfold cp_getWheel mp_getWheel
  rw [← hR.n 1 0 (by decide)]
  by_cases c1 : inB b (x.1 1 0) = true
  · by_cases c2 : inB k 10 = true
    · rw [if_pos c1, if_pos c2, if_pos (And.intro c1 c2)]
      exact Sim.ok (hR.i 14 _ (by decide)) (hR.s.z 0 _) rfl
    · rw [if_pos c1, if_neg c2, if_neg (fun h => c2 h.2)]
      exact Sim.thr 1 (hR.s.z 0 _) rfl (by decide +kernel)
  · rw [if_neg c1, if_neg (fun h => c1 h.1)]
    exact Sim.thr 1 (hR.s.z 0 _) rfl (by decide +kernel)
theorem sim_getWear {q : Nat} {x y : St} (hR : Rel q x y) (hq : q < 512) (b : Int32) : Sim ["java/lang/IndexOutOfBoundsException"] (cp_getWear x b) (mp_getWear y b) q := by
  unfold cp_getWear mp_getWear
  rw [← hR.n 0 0 (by decide)]
  by_cases c1 : inB b (x.1 0 0) = true
  · rw [if_pos c1, if_pos c1]
    exact Sim.ok (hR.i 3 _ (by decide)) (hR.s.z 0 _) rfl
  · rw [if_neg c1, if_neg c1]
    exact Sim.thr 1 (hR.s.z 0 _) rfl (by decide +kernel)
theorem sim_getPlace {q : Nat} {x y : St} (hR : Rel q x y) (hq : q < 512) (b : Int32) : Sim ["java/lang/IndexOutOfBoundsException"] (cp_getPlace x b) (mp_getPlace y b) q := by
  unfold cp_getPlace mp_getPlace
  rw [← hR.n 0 0 (by decide)]
  by_cases c1 : inB b (x.1 0 0) = true
  · rw [if_pos c1, if_pos c1, ← hR.p8 _ (ix_lt c1)]
    generalize x.1 8 (ix b) = p
    by_cases c2 : p = 0
    · rw [if_pos c2, c2]
      exact Sim.ok (by decide) (hR.s.z 0 _) rfl
    · rw [if_neg c2]
      by_cases c3 : p < 2
      · rw [if_pos c3, show p = 1 by omega]
        exact Sim.ok (by decide) (hR.s.z 0 _) rfl
      · rw [if_neg c3]
        refine Sim.ok ?_ (hR.s.z 0 _) rfl
        obtain ⟨r, rfl⟩ : ∃ r, p = r + 2 := ⟨p - 2, by omega⟩
        rw [show ((r + 2 - 2) / 10) * 10 + (r + 2 - 2) % 10 = r by omega, ← nI_add, show (nI 2) = 2 from rfl, Int32.add_sub_cancel]
  · rw [if_neg c1, if_neg c1]
    exact Sim.thr 1 (hR.s.z 0 _) rfl (by decide +kernel)
theorem sim_setRisk {q : Nat} {x y : St} (hR : Rel q x y) (hq : q < 512) (b : Int32) (v : Int32) : Sim ["java/lang/IndexOutOfBoundsException", "java/lang/IllegalArgumentException"] (cp_setRisk x b v) (mp_setRisk y b v) q := by
  unfold cp_setRisk mp_setRisk
  rw [← hR.n 1 0 (by decide)]
  by_cases c1 : inB b (x.1 1 0) = true
  · rw [if_pos c1, if_pos c1]
    by_cases c2 : 0 ≤ v ∧ v ≤ 20
    · rw [if_pos c2, if_pos c2]
      exact Sim.ok (hR.i 6 _ (by decide)) (((hR.s.z 0 _).z 0 _).I 6 _ _ (Or.inl ⟨by decide, ix_lt c1⟩)) rfl
    · rw [if_neg c2, if_neg c2]
      exact Sim.thr 2 ((hR.s.z 0 _).z 0 _) rfl (by decide +kernel)
  · rw [if_neg c1, if_neg c1]
    exact Sim.thr 1 (hR.s.z 0 _) rfl (by decide +kernel)
theorem sim_setSeed {q : Nat} {x y : St} (hR : Rel q x y) (hq : q < 512) (v : Int32) : Sim ["java/lang/IllegalArgumentException"] (cp_setSeed x v) (mp_setSeed y v) q := by
  unfold cp_setSeed mp_setSeed
  by_cases c2 : 1 ≤ v ∧ v ≤ 2147483646
  · rw [if_pos c2, if_pos c2]
    exact Sim.ok (hR.i 16 _ (by decide)) ((hR.s.z 0 _).I 16 _ _ (Or.inr (Or.inl rfl))) rfl
  · rw [if_neg c2, if_neg c2]
    exact Sim.thr 1 (hR.s.z 0 _) rfl (by decide +kernel)
theorem sim_pull {q : Nat} {x y : St} (hR : Rel q x y) (hq : q < 512) (b : Int32) : Sim ["java/lang/IndexOutOfBoundsException"] (cp_pull x b) (mp_pull y b) q := by
  unfold cp_pull mp_pull
  rw [← hR.n 0 0 (by decide)]
  by_cases c1 : inB b (x.1 0 0) = true
  · rw [if_pos c1, if_pos c1, ← hR.p8 _ (ix_lt c1)]
    have e : pW x (ix b) (nI (x.1 9 0)) = pD y (ix b) (if x.1 8 (ix b) < 2 then -1 else y.2 5 ((x.1 8 (ix b) - 2) / 10)) (nI (y.1 9 0)) := by
      unfold pW
      rw [pD_eq hR _ _ _ (ix_lt c1), hR.n 9 0 (by decide), hR.i 5 _ (by decide)]
    by_cases c2 : x.1 8 (ix b) < 2
    · rw [if_pos c2] at e ⊢
      exact Sim.ok e (hR.s.z 0 _) rfl
    · rw [if_neg c2] at e ⊢
      exact Sim.ok e (hR.s.z 0 _) rfl
  · rw [if_neg c1, if_neg c1]
    exact Sim.thr 1 (hR.s.z 0 _) rfl (by decide +kernel)
theorem sim_pullIn {q : Nat} {x y : St} (hR : Rel q x y) (hq : q < 512) (b : Int32) (v : Int32) : Sim ["java/lang/IndexOutOfBoundsException"] (cp_pullIn x b v) (mp_pullIn y b v) q := by
  unfold cp_pullIn mp_pullIn
  rw [← hR.n 1 0 (by decide)]
  rw [← hR.n 0 0 (by decide)]
  by_cases c1 : inB b (x.1 1 0) = true
  · rw [if_pos c1, if_pos c1]
    by_cases c2 : inB v (x.1 0 0) = true
    · rw [if_pos c2, if_pos c2]
      refine Sim.ok ?_ (hR.s.z 0 _) rfl
      rw [pD_eq hR _ _ _ (ix_lt c2), hR.n 9 0 (by decide), hR.i 5 _ (by decide)]
      rfl
    · rw [if_neg c2, if_neg c2]
      exact Sim.thr 1 (hR.s.z 0 _) rfl (by decide +kernel)
  · rw [if_neg c1, if_neg c1]
    exact Sim.thr 1 (hR.s.z 0 _) rfl (by decide +kernel)
theorem sim_worth {q : Nat} {x y : St} (hR : Rel q x y) (hq : q < 512) (b : Int32) (k : Int32) (v : Int32) : Sim ["java/lang/IndexOutOfBoundsException", "java/lang/UnsupportedOperationException"] (cp_worth x b k v) (mp_worth y b k v) q := by
  unfold cp_worth mp_worth
  rw [← hR.n 0 0 (by decide)]
  rw [← hR.n 1 0 (by decide)]
  by_cases c1 : inB b (x.1 1 0) = true
  · by_cases c2 : inB k 10 = true
    · rw [if_pos c1, if_pos c2, if_pos (And.intro c1 c2)]
      by_cases c3 : inB v (x.1 0 0) = true
      · rw [if_pos c3, if_pos c3, ← hR.p8 _ (ix_lt c3)]
        by_cases c4 : x.1 8 (ix v) = 1
        · rw [if_pos c4, if_pos c4]
          refine Sim.ok ?_ ((hR.s.z 0 _).z 0 _) rfl
          rw [pD_eq hR _ _ _ (ix_lt c3), pS_eq hR, hR.n 9 0 (by decide), hR.i 5 _ (by decide), show (10 * ix b + ix k) / 10 = ix b by have := ix_lt c2; omega]
          rfl
        · rw [if_neg c4, if_neg c4]
          exact Sim.thr 2 ((hR.s.z 0 _).z 0 _) rfl (by decide +kernel)
      · rw [if_neg c3, if_neg c3]
        exact Sim.thr 1 (hR.s.z 0 _) rfl (by decide +kernel)
    · rw [if_pos c1, if_neg c2, if_neg (fun h => c2 h.2)]
      exact Sim.thr 1 (hR.s.z 0 _) rfl (by decide +kernel)
  · rw [if_neg c1, if_neg (fun h => c1 h.1)]
    exact Sim.thr 1 (hR.s.z 0 _) rfl (by decide +kernel)
theorem sim_getWeek {q : Nat} {x y : St} (hR : Rel q x y) (hq : q < 512) : SimG (cp_getWeek x) (mp_getWeek y) q := by
  unfold cp_getWeek mp_getWeek
  exact ⟨rfl, by show nI (x.1 9 0) = nI (y.1 9 0); rw [hR.n 9 0 (by decide)], hR.s⟩
theorem sim_getMinutes {q : Nat} {x y : St} (hR : Rel q x y) (hq : q < 512) : SimG (cp_getMinutes x) (mp_getMinutes y) q := by
  unfold cp_getMinutes mp_getMinutes
  exact ⟨rfl, hR.i 17 0 (by decide), hR.s⟩
theorem sim_getEarned {q : Nat} {x y : St} (hR : Rel q x y) (hq : q < 512) : SimG (cp_getEarned x) (mp_getEarned y) q := by
  unfold cp_getEarned mp_getEarned
  exact ⟨rfl, hR.i 18 0 (by decide), hR.s⟩
theorem sim_discAt {q : Nat} {x y : St} (hR : Rel q x y) (hq : q < 512) (b : Int32) (k : Int32) : Sim ["java/lang/IndexOutOfBoundsException", "java/util/NoSuchElementException"] (cp_discAt x b k) (mp_discAt y b k) q := by
  unfold cp_discAt mp_discAt
  rw [← hR.n 1 0 (by decide)]
  by_cases c1 : inB b (x.1 1 0) = true
  · by_cases c2 : inB k 10 = true
    · rw [if_pos c1, if_pos c2, if_pos (And.intro c1 c2)]
      rw [← hR.n 7 _ (by decide)]
      by_cases c3 : x.1 7 (10 * ix b + ix k) = 0
      · rw [if_pos c3, if_pos c3]
        exact Sim.thr 2 ((hR.s.z 0 _).z 0 _) rfl (by decide +kernel)
      · rw [if_neg c3, if_neg c3]
        exact Sim.ok rfl ((hR.s.z 0 _).z 0 _) rfl
    · rw [if_pos c1, if_neg c2, if_neg (fun h => c2 h.2)]
      exact Sim.thr 1 (hR.s.z 0 _) rfl (by decide +kernel)
  · rw [if_neg c1, if_neg (fun h => c1 h.1)]
    exact Sim.thr 1 (hR.s.z 0 _) rfl (by decide +kernel)
