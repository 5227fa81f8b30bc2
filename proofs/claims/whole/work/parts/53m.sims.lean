theorem pass_step {q : Nat} {X Y : St} (h : Rel (q + 1) X Y) (hq : q < 512) (k t : Nat) (hk : k < X.1 1 0) (ht : t < 10) (hb : (X.2 9 k).toInt ≤ 100 * (q : Int) + 9 * (t : Int)) (h10 : X.2 10 k = 0) : Rel (q + 1) (stU k (nI (X.1 9 0)) t X) (stG (10 * k + t) Y) ∧ (stU k (nI (X.1 9 0)) t X).1 = X.1 ∧ (stU k (nI (X.1 9 0)) t X).2 10 = X.2 10 ∧ (stG (10 * k + t) Y).2 28 = Y.2 28 ∧ ((stU k (nI (X.1 9 0)) t X).2 9 k).toInt ≤ 100 * (q : Int) + 9 * ((t : Int) + 1) ∧ ∀ j, j ≠ k → (stU k (nI (X.1 9 0)) t X).2 9 j = X.2 9 j := by
  unfold stU stG
  rw [show (10 * k + t) / 10 = k by omega, ← h.i 10 k (by decide), if_pos h10, ← h.n 7 _ (by decide)]
  by_cases c1 : X.1 7 (10 * k + t) = 0
  · rw [if_pos c1, if_pos c1]
    exact ⟨h, rfl, rfl, rfl, by omega, fun _ _ => rfl⟩
  · rw [if_neg c1, if_neg c1, ← h.i 3 _ (by decide)]
    obtain ⟨d, hd⟩ : ∃ d, X.1 7 (10 * k + t) = d + 1 := ⟨X.1 7 (10 * k + t) - 1, by omega⟩
    have hdn : d < X.1 0 0 := by have := h.1.2.2.2.2.2.2.1 (10 * k + t); omega
    have eS : pS Y (10 * k + t) (Y.2 5 k) (nI (Y.1 9 0)) = pD X d (X.2 5 k) (nI (X.1 9 0)) := by
      rw [← pS_eq h, ← h.i 5 k (by decide), ← h.n 9 0 (by decide)]
      unfold pS
      rw [if_neg c1, hd, Nat.add_sub_cancel]
    rw [eS, hd, Nat.add_sub_cancel, ← h.i 8 k (by decide)]
    by_cases c2 : X.2 3 d < 60
    · rw [if_pos c2, if_neg (Int32.not_le.mpr c2)]
      have hp := pD_in h d (X.2 5 k) hdn
      generalize pD X d (X.2 5 k) (nI (X.1 9 0)) = p at hp
      have k8 : (8 : Int32).toInt = 8 := rfl
      have ep : (p / 8).toInt = p.toInt / 8 := by rw [ti_div hp.1 (by rw [k8]; omega), k8]
      have hn := (h.2.2.2.2.2.2.2.1.2.2 k).1
      refine ⟨(h.I 8 k (X.2 8 k + 5 * (p / 8)) (Or.inl ⟨by decide, hk⟩)).wears (by omega) k t d (p / 8) hk ht hd (lt_t.mp c2) (by rw [ep]; omega) (by rw [ep]; omega) ?_, rfl, rfl, rfl, ?_, fun j hj => ?_⟩
      · show (X.2 9 k).toInt + (p / 8).toInt ≤ _
        rw [ep]; omega
      · show (va_up (X.2 9) k (X.2 9 k + p / 8) k).toInt ≤ _
        rw [va_up_self, ti_add (by rw [ep]; omega) (by rw [ep]; omega), ep]; omega
      · show va_up (X.2 9) k (X.2 9 k + p / 8) j = X.2 9 j
        rw [va_up_ne _ _ hj]
    · rw [if_neg c2, if_pos (Int32.not_lt.mp c2)]
      exact ⟨h, rfl, rfl, rfl, by omega, fun _ _ => rfl⟩
theorem pass_in {q : Nat} {X Y0 : St} (k : Nat) (h : Rel (q + 1) X (fU stG Y0 (10 * k))) (hq : q < 512) (hk : k < X.1 1 0) (hb : (X.2 9 k).toInt ≤ 100 * (q : Int)) (h10 : X.2 10 k = 0) (t : Nat) (ht : t ≤ 10) : Rel (q + 1) (fU (stU k (nI (X.1 9 0))) X t) (fU stG Y0 (10 * k + t)) ∧ (fU (stU k (nI (X.1 9 0))) X t).1 = X.1 ∧ (fU (stU k (nI (X.1 9 0))) X t).2 10 = X.2 10 ∧ (fU stG Y0 (10 * k + t)).2 28 = (fU stG Y0 (10 * k)).2 28 ∧ ((fU (stU k (nI (X.1 9 0))) X t).2 9 k).toInt ≤ 100 * (q : Int) + 9 * (t : Int) ∧ ∀ j, j ≠ k → (fU (stU k (nI (X.1 9 0))) X t).2 9 j = X.2 9 j := by
  induction t with
  | zero => exact ⟨h, rfl, rfl, rfl, by show (X.2 9 k).toInt ≤ _; omega, fun _ _ => rfl⟩
  | succ t ih =>
    obtain ⟨a1, a2, a3, a4, a5, a6⟩ := ih (by omega)
    rw [fU_s, show fU stG Y0 (10 * k + (t + 1)) = stG (10 * k + t) (fU stG Y0 (10 * k + t)) from rfl]
    generalize fU (stU k (nI (X.1 9 0))) X t = Z at a1 a2 a3 a5 a6 ⊢
    generalize fU stG Y0 (10 * k + t) = V at a1 a4 ⊢
    have e9 : nI (X.1 9 0) = nI (Z.1 9 0) := by rw [a2]
    rw [e9]
    obtain ⟨b1, b2, b3, b4, b5, b6⟩ := pass_step a1 hq k t (by rw [a2]; exact hk) (by omega) a5 (by rw [a3]; exact h10)
    exact ⟨b1, b2.trans a2, b3.trans a3, b4.trans a4, by rw [show ((t + 1 : Nat) : Int) = (t : Int) + 1 by omega]; exact b5, fun j hj => (b6 j hj).trans (a6 j hj)⟩
theorem pass_jam {Y0 : St} (k : Nat) (h : (fU stG Y0 (10 * k)).2 10 k ≠ 0) (t : Nat) (ht : t ≤ 10) : fU stG Y0 (10 * k + t) = fU stG Y0 (10 * k) := by
  induction t with
  | zero => rfl
  | succ t ih =>
    rw [show fU stG Y0 (10 * k + (t + 1)) = stG (10 * k + t) (fU stG Y0 (10 * k + t)) from rfl, ih (by omega)]
    clear ih
    generalize fU stG Y0 (10 * k) = V at h ⊢
    unfold stG
    rw [show (10 * k + t) / 10 = k by omega, if_neg h]
theorem pass_out {q : Nat} {x Y0 : St} (h : Rel (q + 1) x Y0) (hq : q < 512) (hb : ∀ j, (x.2 9 j).toInt ≤ 100 * (q : Int)) (k : Nat) (hk : k ≤ x.1 1 0) : Rel (q + 1) (fU stB x k) (fU stG Y0 (10 * k)) ∧ (fU stB x k).1 = x.1 ∧ (fU stB x k).2 10 = x.2 10 ∧ (fU stG Y0 (10 * k)).2 28 = Y0.2 28 ∧ ∀ j, k ≤ j → ((fU stB x k).2 9 j).toInt ≤ 100 * (q : Int) := by
  induction k with
  | zero => exact ⟨h, rfl, rfl, rfl, fun j _ => hb j⟩
  | succ k ih =>
    obtain ⟨a1, a2, a3, a4, a5⟩ := ih (by omega)
    rw [fU_s, show 10 * (k + 1) = 10 * k + 10 by omega]
    generalize fU stB x k = X at a1 a2 a3 a5 ⊢
    unfold stB
    by_cases c : X.2 10 k = 0
    · rw [if_pos c]
      obtain ⟨b1, b2, b3, b4, b5, b6⟩ := pass_in k a1 hq (by rw [a2]; omega) (a5 k (Nat.le_refl _)) c 10 (Nat.le_refl _)
      exact ⟨b1, b2.trans a2, b3.trans a3, b4.trans a4, fun j hj => by rw [b6 j (by omega)]; exact a5 j (by omega)⟩
    · rw [if_neg c]
      have e := pass_jam (Y0 := Y0) k (by rw [← a1.i 10 k (by decide)]; exact c) 10 (Nat.le_refl _)
      rw [e]
      exact ⟨a1, a2, a3, a4, fun j hj => a5 j (by omega)⟩
theorem fV (Y : St) (m : Nat) : (fU stV Y m).2 = Y.2 ∧ ∀ k i, (fU stV Y m).1 k i = if k = 11 ∧ i < m then 0 else Y.1 k i := by
  induction m with
  | zero => exact ⟨rfl, fun k i => by rw [if_neg (by omega)]; rfl⟩
  | succ m ih =>
    obtain ⟨h1, h2⟩ := ih
    rw [fU_s]
    generalize fU stV Y m = F at h1 h2
    refine ⟨h1, fun k i => ?_⟩
    show va_up F.1 11 (va_up (F.1 11) m 0) k i = _
    by_cases c : k = 11
    · rw [c, va_up_self]
      by_cases c2 : i = m
      · rw [c2, va_up_self, if_pos (by omega)]
      · rw [va_up_ne _ _ c2, h2]
        by_cases c3 : i < m
        · rw [if_pos ⟨rfl, c3⟩, if_pos ⟨rfl, by omega⟩]
        · rw [if_neg (fun z => c3 z.2), if_neg (by omega)]
    · rw [va_up_ne _ _ c, h2, if_neg (fun z => c z.1), if_neg (fun z => c z.1)]
/-- the next week -/
theorem Rel.next {q : Nat} {x y : St} (h : Rel q x y) (w : Nat) (hw : w < 99) (ew : x.1 9 0 = w) : Rel q (uN x 9 0 (w + 1)) (fU stV (uN y 9 0 (w + 1)) 4) := by
  have f9 := h.fn 9 (by decide)
  obtain ⟨hI, hJ, hKK, hQ, hFD, hFB, hMI, hBK, hCS, hE⟩ := h
  obtain ⟨hn0, hn1, hn2, hn3, hn4, hn5, hc7, hc8, hc5, hc54, hc4, hc50, hc9, hc12, hc10, hcj⟩ := hI
  obtain ⟨m0, m1, m7, m8, m5, m6, m9, m12, m11⟩ := hMI
  obtain ⟨p2, p1⟩ := fV (uN y 9 0 (w + 1)) 4
  generalize fU stV (uN y 9 0 (w + 1)) 4 = Y at p1 p2 ⊢
  have y11 : ∀ i, Y.1 11 i = if i < 4 then 0 else y.1 11 i := fun i => by
    rw [p1 11 i]
    by_cases c : i < 4
    · rw [if_pos ⟨rfl, c⟩, if_pos c]
    · rw [if_neg (fun z => c z.2), if_neg c]; rfl
  have y9 : Y.1 9 = va_up (y.1 9) 0 (w + 1) := funext fun i => by rw [p1 9 i, if_neg (fun z => absurd z.1 (by decide))]; rfl
  have yn : ∀ k, k ≠ 9 → k ≠ 11 → Y.1 k = y.1 k := fun k h1 h2 => funext fun i => by rw [p1 k i, if_neg (fun z => h2 z.1)]; show va_up y.1 9 _ k i = y.1 k i; rw [va_up_ne _ _ h1]
  have p2 : Y.2 = y.2 := p2
  refine ⟨⟨hn0, hn1, hn2, hn3, hn4, hn5, hc7, hc8, hc5, hc54, hc4, fun i s => ?_, ?_, hc12, fun i => ?_, hcj⟩, CJ_c (x := x) rfl rfl hJ, CK_c (x := x) rfl rfl rfl hKK, CQ_c (x := x) rfl rfl rfl hQ, FrD_c (x := x) rfl rfl rfl rfl hFD, FrB_c (x := x) rfl rfl rfl rfl (fun i hi => rfl) (fun _ _ _ _ => rfl) (fun _ => rfl) rfl hFB, ?_, BK_c (x := x) rfl rfl rfl rfl rfl hBK, hCS, ?_⟩
  · show va_up x.1 9 _ (50 + i) s < 10
    rw [va_up_ne _ _ (by omega)]; exact hc50 i s
  · show w + 1 ≤ 99
    omega
  · show x.1 10 i ≤ w + 1 + 1
    have := hc10 i
    omega
  · unfold MI
    rw [yn 0 (by decide) (by decide), yn 1 (by decide) (by decide), yn 7 (by decide) (by decide), yn 8 (by decide) (by decide), yn 5 (by decide) (by decide), yn 6 (by decide) (by decide), yn 12 (by decide) (by decide), y9]
    refine ⟨m0, m1, m7, m8, m5, m6, by rw [va_up_self]; omega, m12, fun i => ?_⟩
    rw [y11]
    by_cases c : i < 4
    · rw [if_pos c]; omega
    · rw [if_neg c]; exact m11 i
  · unfold EQ
    rw [p2, yn 8 (by decide) (by decide), yn 6 (by decide) (by decide)]
    refine ⟨fun m hm i => ?_, hE.2.1, fun i s hi hs => ?_, fun i hi => ?_, hE.2.2.2.2.1, hE.2.2.2.2.2⟩
    · by_cases c : m = 9
      · rw [c, y9]
        show va_up (x.1 9) 0 (w + 1) i = _
        rw [f9]
      · rw [yn m c (by omega)]
        show va_up x.1 9 _ m i = _
        rw [va_up_ne _ _ c]
        exact hE.1 m hm i
    · show va_up x.1 9 _ (50 + i) s = y.1 6 (8 * i + s)
      rw [va_up_ne _ _ (by omega)]; exact hE.2.2.1 i s hi hs
    · rw [y11, if_pos hi]
      show 0 = if x.1 10 i = w + 1 + 1 then 1 else 0
      have := hc10 i
      rw [if_neg (by omega)]
