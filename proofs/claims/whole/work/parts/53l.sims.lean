theorem sim_play {q : Nat} {x y : St} (hR : Rel q x y) (hq : q < 512) (b : Int32) : Sim ["java/lang/IndexOutOfBoundsException", "java/lang/UnsupportedOperationException", "java/util/NoSuchElementException"] (cp_play x b) (mp_play y b) q := by
  unfold cp_play mp_play
  rw [← hR.n 1 0 (by decide)]
  by_cases c1 : inB b (x.1 1 0) = true
  · rw [if_pos c1, if_pos c1, ← hR.i 10 _ (by decide)]
    have hj := ix_lt c1
    have hj4 : ix b < 4 := by have := hR.n4; omega
    generalize ix b = j at hj hj4 ⊢
    by_cases c2 : x.2 10 j = 0
    · rw [if_pos c2, if_pos c2, ← hR.n 5 _ (by decide)]
      by_cases c3 : x.1 5 j = 0
      · rw [if_pos c3, if_pos c3]
        exact Sim.thr 3 (((hR.s.z 0 _).z 0 _).z 0 _) rfl (by decide +kernel)
      · rw [if_neg c3, if_neg c3, ← hR.i 16 0 (by decide), ← hR.i 6 _ (by decide), ← hR.i 7 _ (by decide)]
        generalize ((((x.2 16 0).toInt64) * 48271) - (((x.2 16 0).toInt64) * 48271) / 2147483647 * 2147483647).toInt32 = S
        obtain ⟨n, hn⟩ : ∃ n, x.1 5 j = n + 1 := ⟨x.1 5 j - 1, by omega⟩
        have hk := hR.qu j 0 hj4 (by omega)
        rw [Nat.add_zero] at hk
        have hk10 := hR.1.2.2.2.2.2.2.2.2.2.2.2.1 j 0
        rw [← hk]
        obtain ⟨k, ek⟩ : ∃ k, k = x.1 (50 + j) 0 := ⟨_, rfl⟩
        rw [← ek] at hk10 ⊢
        rw [← hR.n 7 _ (by decide), ← hR.i 3 _ (by decide), hn, Nat.add_sub_cancel]
        have hR1 := (((hR.s.z 0 0).z 0 0).z 0 0).I 16 0 S (Or.inr (Or.inl rfl))
        have hRs := hR1.qrem j n ((uI x 16 0 S).2 22 j + 1) hj hn
        by_cases c4 : x.2 6 j ≤ S - S / 100 * 100
        · rw [if_pos c4, if_pos c4]
          have y28 : (fU (stP j) (uN (uI (uI (uI (uI y 28 0 0) 28 0 0) 28 0 0) 16 0 S) 5 j n) n).2 = (uI (uI (uI (uI y 28 0 0) 28 0 0) 28 0 0) 16 0 S).2 := (fP j _ n).1
          generalize fU (stP j) (uN (uI (uI (uI (uI y 28 0 0) 28 0 0) 28 0 0) 16 0 S) 5 j n) n = Y at hRs y28 ⊢
          have s7 : (qRem (uI x 16 0 S) j n ((uI x 16 0 S).2 22 j + 1)).1 7 = x.1 7 := (va_up_ne _ _ (by omega)).trans (va_up_ne _ _ (by omega))
          have s1 : (qRem (uI x 16 0 S) j n ((uI x 16 0 S).2 22 j + 1)).1 1 = x.1 1 := (va_up_ne _ _ (by omega)).trans (va_up_ne _ _ (by omega))
          have ep0 : cp_playNext (uI x 16 0 S) j = pn2 (qRem (uI x 16 0 S) j n ((uI x 16 0 S).2 22 j + 1)) j (10 * j + k) := by
            unfold cp_playNext
            rw [show (uI x 16 0 S).1 5 j = n + 1 from hn, Nat.add_sub_cancel, ek]
            rfl
          have u28 : ∀ v, (uI Y 7 j v).2 28 0 = 0 := fun v => by
            have e : (uI Y 7 j v).2 28 = Y.2 28 := rfl
            rw [e, y28]
            rfl
          have s2 : (qRem (uI x 16 0 S) j n ((uI x 16 0 S).2 22 j + 1)).2 7 = x.2 7 := rfl
          have s3 : (qRem (uI x 16 0 S) j n ((uI x 16 0 S).2 22 j + 1)).2 3 = x.2 3 := rfl
          have s9 : (qRem (uI x 16 0 S) j n ((uI x 16 0 S).2 22 j + 1)).2 9 = x.2 9 := rfl
          rw [ep0]
          generalize qRem (uI x 16 0 S) j n ((uI x 16 0 S).2 22 j + 1) = X at hRs s7 s1 s2 s3 s9 ⊢
          by_cases c5 : x.1 7 (10 * j + k) = 0
          · have ep : pn2 X j (10 * j + k) = (0, uI X 7 j (x.2 7 j + 1)) := by unfold pn2; rw [s7, if_pos c5, s2]
            rw [ep, if_pos rfl, if_pos c5]
            exact Sim.ok rfl (hRs.I 7 j _ (Or.inl ⟨by decide, by rw [s1]; exact hj⟩)) (u28 _)
          · rw [if_neg c5]
            by_cases c6 : x.2 3 (x.1 7 (10 * j + k) - 1) < 60
            · have ep : pn2 X j (10 * j + k) = (1, plD X j (10 * j + k) (x.1 7 (10 * j + k) - 1) 1) := by unfold pn2; rw [s7, if_neg c5, s3, if_pos c6]
              rw [ep, if_neg (show ¬ (1 : Int32) = 0 by decide), if_pos c6]
              refine Sim.ok rfl (hRs.wears (by omega) j k (x.1 7 (10 * j + k) - 1) 1 (by rw [s1]; exact hj) hk10 (by rw [s7]; omega) (by rw [s3]; exact lt_t.mp c6) (by decide) (by decide) ?_) ?_
              · rw [s9]
                have := (hR.2.2.2.2.2.2.2.1.2.2 j).2
                have k1 : (1 : Int32).toInt = 1 := rfl
                omega
              · have e : (mp_wears Y (10 * j + k) 1).2 28 = Y.2 28 := rfl
                rw [e, y28]
                rfl
            · have ep : pn2 X j (10 * j + k) = (0, uI X 7 j (x.2 7 j + 1)) := by unfold pn2; rw [s7, if_neg c5, s3, if_neg c6, s2]
              rw [ep, if_pos rfl, if_neg c6]
              exact Sim.ok rfl (hRs.I 7 j _ (Or.inl ⟨by decide, by rw [s1]; exact hj⟩)) (u28 _)
        · rw [if_neg c4, if_neg c4]
          exact Sim.ok rfl (hR1.I10 j 1 hj (Or.inr rfl)) rfl
    · rw [if_neg c2, if_neg c2]
      exact Sim.thr 2 ((hR.s.z 0 _).z 0 _) rfl (by decide +kernel)
  · rw [if_neg c1, if_neg c1]
    exact Sim.thr 1 (hR.s.z 0 _) rfl (by decide +kernel)
