def R3 (x : St) (c : Nat) : T3 := ((x.2 c 0).toInt, (x.2 c 1).toInt, (x.2 c 2).toInt)
theorem insT_is (v a b c p q s : Int) (h1 : b ≤ a) (h2 : c ≤ b) (h : (v ≤ c ∧ p = a ∧ q = b ∧ s = c) ∨ (v ≤ b ∧ c < v ∧ p = a ∧ q = b ∧ s = v) ∨ (v ≤ a ∧ b < v ∧ p = a ∧ q = v ∧ s = b) ∨ (a < v ∧ p = v ∧ q = a ∧ s = b)) : ((p, q, s) : T3) = insT v (a, b, c) := by
  unfold insT
  show _ = (if v ≤ a then (if v ≤ b then (if v ≤ c then (a, b, c) else (a, b, v)) else (a, v, b)) else (v, a, b) : T3)
  rcases h with ⟨k1, k2, k3, k4⟩ | ⟨k1, k0, k2, k3, k4⟩ | ⟨k1, k0, k2, k3, k4⟩ | ⟨k0, k2, k3, k4⟩
  · rw [if_pos (by omega), if_pos (by omega), if_pos k1, k2, k3, k4]
  · rw [if_pos (by omega), if_pos k1, if_neg (by omega), k2, k3, k4]
  · rw [if_pos k1, if_neg (by omega), k2, k3, k4]
  · rw [if_neg (by omega), k2, k3, k4]
theorem u_e (s : St) (c i : Nat) (v : Int32) : (uI s c i v).2 c i = v := by
  show va_up s.2 c (va_up (s.2 c) i v) c i = v
  rw [va_up_self, va_up_self]
theorem u_n (s : St) (c i j : Nat) (v : Int32) (h : j ≠ i) : (uI s c i v).2 c j = s.2 c j := by
  show va_up s.2 c (va_up (s.2 c) i v) c j = s.2 c j
  rw [va_up_self, va_up_ne _ _ h]
theorem rk_T (c : Nat) (v : Int32) (x : St) (hs : srt (R3 x c)) : R3 (rk c v x) c = insT v.toInt (R3 x c) := by
  have hs1 : (x.2 c 1).toInt ≤ (x.2 c 0).toInt := hs.1
  have hs2 : (x.2 c 2).toInt ≤ (x.2 c 1).toInt := hs.2
  have e : rk c v x = (rkS c 2 (rkS c 1 (rkS c 0 (v, x)))).2 := rfl
  rw [e]
  have key : ∀ S : St, ∀ p q s : Int32, S.2 c 0 = p → S.2 c 1 = q → S.2 c 2 = s → ((v.toInt ≤ (x.2 c 2).toInt ∧ p.toInt = (x.2 c 0).toInt ∧ q.toInt = (x.2 c 1).toInt ∧ s.toInt = (x.2 c 2).toInt) ∨ (v.toInt ≤ (x.2 c 1).toInt ∧ (x.2 c 2).toInt < v.toInt ∧ p.toInt = (x.2 c 0).toInt ∧ q.toInt = (x.2 c 1).toInt ∧ s.toInt = v.toInt) ∨ (v.toInt ≤ (x.2 c 0).toInt ∧ (x.2 c 1).toInt < v.toInt ∧ p.toInt = (x.2 c 0).toInt ∧ q.toInt = v.toInt ∧ s.toInt = (x.2 c 1).toInt) ∨ ((x.2 c 0).toInt < v.toInt ∧ p.toInt = v.toInt ∧ q.toInt = (x.2 c 0).toInt ∧ s.toInt = (x.2 c 1).toInt)) → R3 S c = insT v.toInt (R3 x c) := by
    intro S p q s h0 h1 h2 h
    show ((S.2 c 0).toInt, (S.2 c 1).toInt, (S.2 c 2).toInt) = _
    rw [h0, h1, h2]
    exact insT_is _ _ _ _ _ _ _ hs1 hs2 h
  by_cases h1 : v ≤ x.2 c 0
  · have e0 : rkS c 0 (v, x) = (v, x) := if_pos h1
    have t1 := le_t.mp h1
    rw [e0]
    by_cases h2 : v ≤ x.2 c 1
    · have e1 : rkS c 1 (v, x) = (v, x) := if_pos h2
      have t2 := le_t.mp h2
      rw [e1]
      by_cases h3 : v ≤ x.2 c 2
      · have e2 : rkS c 2 (v, x) = (v, x) := if_pos h3
        have t3 := le_t.mp h3
        rw [e2]
        exact key x _ _ _ rfl rfl rfl (by omega)
      · have e2 : rkS c 2 (v, x) = (x.2 c 2, uI x c 2 v) := if_neg h3
        have t3 : ¬ v.toInt ≤ (x.2 c 2).toInt := fun z => h3 (le_t.mpr z)
        rw [e2]
        exact key (uI x c 2 v) _ _ _ (u_n x c 2 0 v (by decide)) (u_n x c 2 1 v (by decide)) (u_e x c 2 v) (by omega)
    · have e1 : rkS c 1 (v, x) = (x.2 c 1, uI x c 1 v) := if_neg h2
      have t2 : ¬ v.toInt ≤ (x.2 c 1).toInt := fun z => h2 (le_t.mpr z)
      rw [e1]
      have r2 := u_n x c 1 2 v (by decide)
      by_cases h3 : x.2 c 1 ≤ (uI x c 1 v).2 c 2
      · have e2 : rkS c 2 (x.2 c 1, uI x c 1 v) = (x.2 c 1, uI x c 1 v) := if_pos h3
        have t3 := le_t.mp h3
        rw [r2] at t3
        rw [e2]
        exact key (uI x c 1 v) _ _ _ (u_n x c 1 0 v (by decide)) (u_e x c 1 v) r2 (by omega)
      · have e2 : rkS c 2 (x.2 c 1, uI x c 1 v) = ((uI x c 1 v).2 c 2, uI (uI x c 1 v) c 2 (x.2 c 1)) := if_neg h3
        rw [e2]
        exact key (uI (uI x c 1 v) c 2 (x.2 c 1)) _ _ _ ((u_n _ c 2 0 _ (by decide)).trans (u_n x c 1 0 v (by decide))) ((u_n _ c 2 1 _ (by decide)).trans (u_e x c 1 v)) (u_e _ c 2 _) (by omega)
  · have e0 : rkS c 0 (v, x) = (x.2 c 0, uI x c 0 v) := if_neg h1
    have t1 : ¬ v.toInt ≤ (x.2 c 0).toInt := fun z => h1 (le_t.mpr z)
    have r0 := u_e x c 0 v
    have r1 := u_n x c 0 1 v (by decide)
    have r2 := u_n x c 0 2 v (by decide)
    rw [e0]
    generalize uI x c 0 v = X at r0 r1 r2
    by_cases h2 : x.2 c 0 ≤ X.2 c 1
    · have e1 : rkS c 1 (x.2 c 0, X) = (x.2 c 0, X) := if_pos h2
      have t2 := le_t.mp h2
      rw [r1] at t2
      rw [e1]
      by_cases h3 : x.2 c 0 ≤ X.2 c 2
      · have e2 : rkS c 2 (x.2 c 0, X) = (x.2 c 0, X) := if_pos h3
        have t3 := le_t.mp h3
        rw [r2] at t3
        rw [e2]
        exact key X _ _ _ r0 r1 r2 (by omega)
      · have e2 : rkS c 2 (x.2 c 0, X) = (X.2 c 2, uI X c 2 (x.2 c 0)) := if_neg h3
        rw [e2]
        exact key (uI X c 2 (x.2 c 0)) _ _ _ ((u_n X c 2 0 _ (by decide)).trans r0) ((u_n X c 2 1 _ (by decide)).trans r1) (u_e X c 2 _) (by omega)
    · have e1 : rkS c 1 (x.2 c 0, X) = (X.2 c 1, uI X c 1 (x.2 c 0)) := if_neg h2
      have q0 := (u_n X c 1 0 (x.2 c 0) (by decide)).trans r0
      have q1 := u_e X c 1 (x.2 c 0)
      have q2 := (u_n X c 1 2 (x.2 c 0) (by decide)).trans r2
      rw [e1, r1]
      generalize uI X c 1 (x.2 c 0) = V at q0 q1 q2
      by_cases h3 : x.2 c 1 ≤ V.2 c 2
      · have e2 : rkS c 2 (x.2 c 1, V) = (x.2 c 1, V) := if_pos h3
        have t3 := le_t.mp h3
        rw [q2] at t3
        rw [e2]
        exact key V _ _ _ q0 q1 q2 (by omega)
      · have e2 : rkS c 2 (x.2 c 1, V) = (V.2 c 2, uI V c 2 (x.2 c 1)) := if_neg h3
        rw [e2]
        exact key (uI V c 2 (x.2 c 1)) _ _ _ ((u_n V c 2 0 _ (by decide)).trans q0) ((u_n V c 2 1 _ (by decide)).trans q1) (u_e V c 2 _) (by omega)
theorem fl_T (c : Nat) (v : Int32) (x : St) : R3 (fl c v x) c = (v.toInt, v.toInt, v.toInt) := by
  have e : fl c v x = uI (uI (uI x c 0 v) c 1 v) c 2 v := rfl
  rw [e]
  show (((uI (uI (uI x c 0 v) c 1 v) c 2 v).2 c 0).toInt, ((uI (uI (uI x c 0 v) c 1 v) c 2 v).2 c 1).toInt, ((uI (uI (uI x c 0 v) c 1 v) c 2 v).2 c 2).toInt) = _
  rw [u_e, u_n _ _ _ _ _ (by decide), u_n _ _ _ _ _ (by decide), u_e, u_n _ _ _ _ _ (by decide), u_e]
theorem pD_cg {x x' : St} (h1 : x'.1 = x.1) (e1 : x'.2 1 = x.2 1) (e2 : x'.2 2 = x.2 2) (e3 : x'.2 3 = x.2 3) (d : Nat) (ta w : Int32) : pD x' d ta w = pD x d ta w := by
  unfold pD
  rw [h1, e1, e2, e3]
theorem pS_cg {x x' : St} (h1 : x'.1 = x.1) (e1 : x'.2 1 = x.2 1) (e2 : x'.2 2 = x.2 2) (e3 : x'.2 3 = x.2 3) (a : Nat) (ta w : Int32) : pS x' a ta w = pS x a ta w := by
  unfold pS
  rw [pD_cg h1 e1 e2 e3, h1]
def gF (x : St) (j : Nat) : Nat → Option Int := fun d => if x.1 8 d = 1 then some (pD x d (x.2 5 j) (nI (x.1 9 0))).toInt else none
def lF (x : St) (j : Nat) : Nat → Option Int := fun k => some (-(pS x (10 * j + k) (x.2 5 j) (nI (x.1 9 0))).toInt)
theorem row24 (j : Nat) (x : St) : R3 (wRG j x) 24 = fU (stT (gF x j)) (0, 0, 0) (x.1 0 0) := by
  unfold wRG
  have key : ∀ n, R3 (fU (stRG j) (fl 24 0 x) n) 24 = fU (stT (gF x j)) (0, 0, 0) n ∧ (fU (stRG j) (fl 24 0 x) n).1 = x.1 ∧ ∀ m, m ≠ 24 → (fU (stRG j) (fl 24 0 x) n).2 m = x.2 m := by
    intro n
    induction n with
    | zero => exact ⟨fl_T 24 0 x, fl_k 24 0 x⟩
    | succ n ih =>
      obtain ⟨a1, a2, a3⟩ := ih
      rw [fU_s, fU_s]
      have hs := tf_srt (gF x j) (0, 0, 0) ⟨Int.le_refl _, Int.le_refl _⟩ n
      rw [← a1] at hs
      generalize fU (stRG j) (fl 24 0 x) n = Z at a1 a2 a3 hs
      have ep : pD Z n (Z.2 5 j) (nI (Z.1 9 0)) = pD x n (x.2 5 j) (nI (x.1 9 0)) := by
        rw [a3 5 (by decide), a2]
        exact pD_cg a2 (a3 1 (by decide)) (a3 2 (by decide)) (a3 3 (by decide)) _ _ _
      unfold stRG
      rw [ep, a2]
      by_cases c : x.1 8 n = 1
      · rw [if_pos c, stT_v (F := gF x j) (i := n) _ (if_pos c)]
        have h := rk_k 24 (pD x n (x.2 5 j) (nI (x.1 9 0))) Z
        refine ⟨by rw [rk_T _ _ _ hs, a1], h.1.trans a2, fun m hm => (h.2 m hm).trans (a3 m hm)⟩
      · rw [if_neg c, stT_n (F := gF x j) (i := n) _ (if_neg c)]
        exact ⟨a1, a2, a3⟩
  exact (key _).1
theorem row25 (j : Nat) (x : St) (hneg : ∀ k, (-(pS x (10 * j + k) (x.2 5 j) (nI (x.1 9 0)))).toInt = -(pS x (10 * j + k) (x.2 5 j) (nI (x.1 9 0))).toInt) : R3 (wRL j x) 25 = fU (stT (lF x j)) (-1000, -1000, -1000) 10 := by
  unfold wRL
  have key : ∀ n, R3 (fU (stRL j) (fl 25 (-1000) x) n) 25 = fU (stT (lF x j)) (-1000, -1000, -1000) n ∧ (fU (stRL j) (fl 25 (-1000) x) n).1 = x.1 ∧ ∀ m, m ≠ 25 → (fU (stRL j) (fl 25 (-1000) x) n).2 m = x.2 m := by
    intro n
    induction n with
    | zero => exact ⟨fl_T 25 (-1000) x, fl_k 25 (-1000) x⟩
    | succ n ih =>
      obtain ⟨a1, a2, a3⟩ := ih
      rw [fU_s, fU_s]
      have hs := tf_srt (lF x j) (-1000, -1000, -1000) ⟨Int.le_refl _, Int.le_refl _⟩ n
      rw [← a1] at hs
      generalize fU (stRL j) (fl 25 (-1000) x) n = Z at a1 a2 a3 hs
      have ep : pS Z (10 * j + n) (Z.2 5 j) (nI (Z.1 9 0)) = pS x (10 * j + n) (x.2 5 j) (nI (x.1 9 0)) := by
        rw [a3 5 (by decide), a2]
        exact pS_cg a2 (a3 1 (by decide)) (a3 2 (by decide)) (a3 3 (by decide)) _ _ _
      unfold stRL
      rw [ep, stT_v (F := lF x j) (i := n) _ rfl, ← hneg n]
      have h := rk_k 25 (-(pS x (10 * j + n) (x.2 5 j) (nI (x.1 9 0)))) Z
      exact ⟨by rw [rk_T _ _ _ hs, a1], h.1.trans a2, fun m hm => (h.2 m hm).trans (a3 m hm)⟩
  exact (key 10).1
def gY (y : St) (j : Nat) : Nat → Option Int := fun d => if y.1 8 d = 1 then (if y.2 26 d = 0 then some (pD y d (y.2 5 j) (nI (y.1 9 0))).toInt else none) else none
def hY (y : St) (j : Nat) : Nat → Option Int := fun k => if y.2 27 k = 0 then some (-(pS y (10 * j + k) (y.2 5 ((10 * j + k) / 10)) (nI (y.1 9 0))).toInt) else none
theorem pickS (y : St) (j n : Nat) : (fU (stS y j) 0 n = 0 ∧ ∀ i, i < n → gY y j i = none) ∨ ∃ d v, fU (stS y j) 0 n = d + 1 ∧ d < n ∧ gY y j d = some v ∧ v = (pD y d (y.2 5 j) (nI (y.1 9 0))).toInt ∧ ∀ i, i < n → ∀ u, gY y j i = some u → u ≤ v := by
  induction n with
  | zero => exact Or.inl ⟨rfl, fun i h => absurd h (Nat.not_lt_zero i)⟩
  | succ n ih =>
    rw [fU_s]
    generalize fU (stS y j) 0 n = p at ih
    have keep : gY y j n = none → stS y j n p = p → (stS y j n p = 0 ∧ ∀ i, i < n + 1 → gY y j i = none) ∨ ∃ d v, stS y j n p = d + 1 ∧ d < n + 1 ∧ gY y j d = some v ∧ v = (pD y d (y.2 5 j) (nI (y.1 9 0))).toInt ∧ ∀ i, i < n + 1 → ∀ u, gY y j i = some u → u ≤ v := by
      intro hn hp
      rw [hp]
      rcases ih with ⟨h1, h2⟩ | ⟨d, v, h1, h2, h3, h5, h4⟩
      · refine Or.inl ⟨h1, fun i hi => ?_⟩
        by_cases e : i = n
        · rw [e]; exact hn
        · exact h2 i (by omega)
      · refine Or.inr ⟨d, v, h1, by omega, h3, h5, fun i hi u hu => ?_⟩
        by_cases e : i = n
        · rw [e, hn] at hu; cases hu
        · exact h4 i (by omega) u hu
    by_cases c1 : y.1 8 n = 1
    · by_cases c2 : y.2 26 n = 0
      · have hg : gY y j n = some (pD y n (y.2 5 j) (nI (y.1 9 0))).toInt := by unfold gY; rw [if_pos c1, if_pos c2]
        unfold stS
        rw [if_pos c1, if_pos c2]
        rcases ih with ⟨h1, h2⟩ | ⟨d, v, h1, h2, h3, h5, h4⟩
        · rw [if_pos h1]
          refine Or.inr ⟨n, _, rfl, by omega, hg, rfl, fun i hi u hu => ?_⟩
          by_cases e : i = n
          · rw [e, hg] at hu; cases hu; exact Int.le_refl _
          · rw [h2 i (by omega)] at hu; cases hu
        · rw [if_neg (by omega), h1, Nat.add_sub_cancel]
          by_cases c3 : pD y n (y.2 5 j) (nI (y.1 9 0)) ≤ pD y d (y.2 5 j) (nI (y.1 9 0))
          · rw [if_pos c3]
            have t3 := le_t.mp c3
            refine Or.inr ⟨d, v, rfl, by omega, h3, h5, fun i hi u hu => ?_⟩
            by_cases e : i = n
            · rw [e, hg] at hu; cases hu; omega
            · exact h4 i (by omega) u hu
          · rw [if_neg c3]
            have t3 : ¬ (pD y n (y.2 5 j) (nI (y.1 9 0))).toInt ≤ (pD y d (y.2 5 j) (nI (y.1 9 0))).toInt := fun z => c3 (le_t.mpr z)
            refine Or.inr ⟨n, _, rfl, by omega, hg, rfl, fun i hi u hu => ?_⟩
            by_cases e : i = n
            · rw [e, hg] at hu; cases hu; exact Int.le_refl _
            · have := h4 i (by omega) u hu; omega
      · exact keep (by unfold gY; rw [if_pos c1, if_neg c2]) (by unfold stS; rw [if_pos c1, if_neg c2])
    · exact keep (by unfold gY; rw [if_neg c1]) (by unfold stS; rw [if_neg c1])
theorem pickW (y : St) (j n : Nat) : (fU (stW y j) 0 n = 0 ∧ ∀ i, i < n → hY y j i = none) ∨ ∃ d v, fU (stW y j) 0 n = d + 1 ∧ d < n ∧ hY y j d = some v ∧ v = -(pS y (10 * j + d) (y.2 5 ((10 * j + d) / 10)) (nI (y.1 9 0))).toInt ∧ ∀ i, i < n → ∀ u, hY y j i = some u → u ≤ v := by
  induction n with
  | zero => exact Or.inl ⟨rfl, fun i h => absurd h (Nat.not_lt_zero i)⟩
  | succ n ih =>
    rw [fU_s]
    generalize fU (stW y j) 0 n = p at ih
    by_cases c2 : y.2 27 n = 0
    · have hg : hY y j n = some (-(pS y (10 * j + n) (y.2 5 ((10 * j + n) / 10)) (nI (y.1 9 0))).toInt) := by unfold hY; rw [if_pos c2]
      unfold stW
      rw [if_pos c2]
      rcases ih with ⟨h1, h2⟩ | ⟨d, v, h1, h2, h3, h5, h4⟩
      · rw [if_pos h1]
        refine Or.inr ⟨n, _, rfl, by omega, hg, rfl, fun i hi u hu => ?_⟩
        by_cases e : i = n
        · rw [e, hg] at hu; cases hu; exact Int.le_refl _
        · rw [h2 i (by omega)] at hu; cases hu
      · rw [if_neg (by omega), h1, Nat.add_sub_cancel]
        by_cases c3 : pS y (10 * j + d) (y.2 5 ((10 * j + d) / 10)) (nI (y.1 9 0)) ≤ pS y (10 * j + n) (y.2 5 ((10 * j + n) / 10)) (nI (y.1 9 0))
        · rw [if_pos c3]
          have t3 := le_t.mp c3
          refine Or.inr ⟨d, v, rfl, by omega, h3, h5, fun i hi u hu => ?_⟩
          by_cases e : i = n
          · rw [e, hg] at hu; cases hu; omega
          · exact h4 i (by omega) u hu
        · rw [if_neg c3]
          have t3 : ¬ (pS y (10 * j + d) (y.2 5 ((10 * j + d) / 10)) (nI (y.1 9 0))).toInt ≤ (pS y (10 * j + n) (y.2 5 ((10 * j + n) / 10)) (nI (y.1 9 0))).toInt := fun z => c3 (le_t.mpr z)
          refine Or.inr ⟨n, _, rfl, by omega, hg, rfl, fun i hi u hu => ?_⟩
          by_cases e : i = n
          · rw [e, hg] at hu; cases hu; exact Int.le_refl _
          · have := h4 i (by omega) u hu; omega
    · have hn : hY y j n = none := by unfold hY; rw [if_neg c2]
      have hp : stW y j n p = p := by unfold stW; rw [if_neg c2]
      rw [hp]
      rcases ih with ⟨h1, h2⟩ | ⟨d, v, h1, h2, h3, h5, h4⟩
      · refine Or.inl ⟨h1, fun i hi => ?_⟩
        by_cases e : i = n
        · rw [e]; exact hn
        · exact h2 i (by omega)
      · refine Or.inr ⟨d, v, h1, by omega, h3, h5, fun i hi u hu => ?_⟩
        by_cases e : i = n
        · rw [e, hn] at hu; cases hu
        · exact h4 i (by omega) u hu
