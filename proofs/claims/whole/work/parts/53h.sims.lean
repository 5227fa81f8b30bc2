theorem sw1_e {x : St} {a v : Nat} (h : x.1 7 a = 0) : sw1 x a v = uI (uN x 7 a v) 14 a 0 := by
  unfold sw1 sw0
  rw [if_pos h]
theorem sw1_f {x : St} {a v d : Nat} (h : x.1 7 a = d + 1) : sw1 x a v = uI (uN (uI (uN x 8 d 1) 23 d (nI ((x.1 8 d - 2) % 10))) 7 a v) 14 a 0 := by
  unfold sw1 sw0
  rw [if_neg (by omega), h, Nat.add_sub_cancel]
theorem uN_14 (s : St) (a v : Nat) : uN (uI (uN s 7 a 0) 14 a 0) 7 a v = uI (uN s 7 a v) 14 a 0 := by
  show uI (uN (uN s 7 a 0) 7 a v) 14 a 0 = _
  rw [uN_uN]
theorem sim_change {q : Nat} {x y : St} (hR : Rel q x y) (hq : q < 512) (b : Int32) (k : Int32) (v : Int32) : Sim ["java/lang/IndexOutOfBoundsException", "java/lang/UnsupportedOperationException"] (cp_change x b k v) (mp_change y b k v) q := by
  unfold cp_change mp_change
  rw [← hR.n 1 0 (by decide)]
  by_cases c1 : inB b (x.1 1 0) = true
  · by_cases c2 : inB k 10 = true
    · rw [if_pos c1, if_pos c2, if_pos (And.intro c1 c2)]
      have hv := hR.vis (ix b) (by have := hR.n4; have := ix_lt c1; omega)
      rw [hv, ← hR.i 17 0 (by decide), ← hR.n 7 _ (by decide)]
      have hj := ix_lt c1
      have hj4 : ix b < 4 := by have := hR.n4; omega
      have hk := ix_lt c2
      generalize ix b = j at hj hj4 ⊢
      generalize ix k = i at hk ⊢
      have ha : 10 * j + i < 10 * x.1 1 0 := by omega
      obtain ⟨a, ea⟩ : ∃ a, a = 10 * j + i := ⟨_, rfl⟩
      rw [← ea] at ha ⊢
      have hR1 := ((hR.s.z 0 0).z 0 0).I 17 0 (x.2 17 0 - 10) (Or.inr (Or.inr rfl))
      by_cases d1 : v = -1
      · rw [if_pos d1, if_pos d1]
        by_cases c3 : x.1 10 j = x.1 9 0 + 1
        · rw [if_pos c3, if_pos c3, if_neg (show ¬ (1 : Nat) = 0 by decide)]
          by_cases c4 : (10 : Int32) ≤ x.2 17 0
          · rw [if_pos c4, if_neg (Int32.not_lt.mpr c4)]
            by_cases c5 : x.1 7 a = 0
            · rw [if_pos c5, if_pos c5, sw1_e (x := uI x 17 0 (x.2 17 0 - 10)) c5, uN_self (s := uI x 17 0 (x.2 17 0 - 10)) c5, uN_self (s := uI (uI (uI y 28 0 0) 28 0 0) 17 0 (x.2 17 0 - 10)) ((hR.n 7 a (by decide)).symm.trans c5)]
              exact Sim.ok rfl (hR1.I14 a 0 ha) rfl
            · rw [if_neg c5, if_neg c5]
              obtain ⟨d, hd⟩ : ∃ d, x.1 7 a = d + 1 := ⟨x.1 7 a - 1, by omega⟩
              rw [hd, Nat.add_sub_cancel, sw1_f (x := uI x 17 0 (x.2 17 0 - 10)) hd]
              exact Sim.ok rfl ((hR1.take a d _ hd).I14 a 0 ha) rfl
          · rw [if_neg c4, if_pos (Int32.not_le.mp c4)]
            exact Sim.thr 2 ((hR.s.z 0 _).z 0 _) rfl (by decide +kernel)
        · rw [if_neg c3, if_neg c3, if_pos rfl]
          exact Sim.thr 2 ((hR.s.z 0 _).z 0 _) rfl (by decide +kernel)
      · rw [if_neg d1, if_neg d1, ← hR.n 0 0 (by decide)]
        by_cases c6 : inB v (x.1 0 0) = true
        · rw [if_pos c6, if_pos c6, ← hR.p8 _ (ix_lt c6), ← hR.n 12 _ (by decide)]
          have he := ix_lt c6
          generalize ix v = e at he ⊢
          by_cases c3 : x.1 10 j = x.1 9 0 + 1
          · rw [if_pos c3, if_pos c3, if_neg (show ¬ (1 : Nat) = 0 by decide)]
            by_cases c7 : x.1 8 e = 1
            · rw [if_pos c7, if_pos c7]
              by_cases c4 : (10 : Int32) ≤ x.2 17 0
              · rw [if_pos c4, if_neg (Int32.not_lt.mpr c4), Nat.add_comm a 2]
                have hso := hR.1.2.2.2.2.2.2.2.2.2.2.2.2.2.1 e
                by_cases c5 : x.1 7 a = 0
                · rw [if_pos c5, if_pos c5, sw1_e (x := uI x 17 0 (x.2 17 0 - 10)) c5]
                  exact Sim.ok rfl (((hR1.I14 a 0 ha).put a e he c7 ha c5).ask j (x.1 12 e) 0 hj hso) rfl
                · rw [if_neg c5, if_neg c5]
                  obtain ⟨d, hd⟩ : ∃ d, x.1 7 a = d + 1 := ⟨x.1 7 a - 1, by omega⟩
                  rw [hd, Nat.add_sub_cancel, sw1_f (x := uI x 17 0 (x.2 17 0 - 10)) hd]
                  have h := (((hR1.take a d (nI (((uI x 17 0 (x.2 17 0 - 10)).1 8 d - 2) % 10)) hd).I14 a 0 ha).put a e he (by
                    show va_up (x.1 8) d 1 e = 1
                    by_cases c : e = d
                    · rw [c, va_up_self]
                    · rw [va_up_ne _ _ c]; exact c7) ha (by show va_up (x.1 7) a 0 a = 0; rw [va_up_self])).ask j (x.1 12 e) 0 hj hso
                  rw [uN_14, uN_14] at h
                  exact Sim.ok rfl h rfl
              · rw [if_neg c4, if_pos (Int32.not_le.mp c4)]
                exact Sim.thr 2 ((hR.s.z 0 _).z 0 _) rfl (by decide +kernel)
            · rw [if_neg c7, if_neg c7]
              exact Sim.thr 2 ((hR.s.z 0 _).z 0 _) rfl (by decide +kernel)
          · rw [if_neg c3, if_neg c3, if_pos rfl]
            exact Sim.thr 2 ((hR.s.z 0 _).z 0 _) rfl (by decide +kernel)
        · rw [if_neg c6, if_neg c6]
          exact Sim.thr 1 (hR.s.z 0 _) rfl (by decide +kernel)
    · rw [if_pos c1, if_neg c2, if_neg (fun h => c2 h.2)]
      exact Sim.thr 1 (hR.s.z 0 _) rfl (by decide +kernel)
  · rw [if_neg c1, if_neg (fun h => c1 h.1)]
    exact Sim.thr 1 (hR.s.z 0 _) rfl (by decide +kernel)
