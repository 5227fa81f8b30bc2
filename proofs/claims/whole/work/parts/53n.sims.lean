theorem sim_pass {q : Nat} {x y : St} (hR : Rel q x y) (hq : q < 512) : Sim ["java/lang/IllegalStateException"] (cp_pass x) (mp_pass y) q := by
  unfold cp_pass mp_pass
  rw [← hR.n 9 0 (by decide), ← hR.n 1 0 (by decide)]
  by_cases c1 : x.1 9 0 < 99
  · rw [if_pos c1, if_neg (by omega)]
    obtain ⟨b1, b2, b3, b4, b5⟩ := pass_out (hR.s.z 0 0) hq (fun j => (hR.2.2.2.2.2.2.2.1.2.2 j).2) (x.1 1 0) (Nat.le_refl _)
    generalize fU stB x (x.1 1 0) = X at b1 b2 b3 b5 ⊢
    generalize fU stG (uI y 28 0 0) (10 * x.1 1 0) = Y at b1 b4 ⊢
    refine Sim.ok rfl ((b1.I 17 0 600 (Or.inr (Or.inr rfl))).next (x.1 9 0) c1 (by show X.1 9 0 = x.1 9 0; rw [b2])) ?_
    rw [(fV _ 4).1]
    have e : (uI (uN Y 9 0 (x.1 9 0 + 1)) 17 0 600).2 28 = Y.2 28 := rfl
    rw [e, b4]
    rfl
  · rw [if_neg c1, if_pos (by omega)]
    exact Sim.thr 1 (hR.s.z 0 _) rfl (by decide +kernel)
