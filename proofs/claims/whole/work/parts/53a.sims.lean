/-! ===== the class against the model: how the relation is kept ===== -/
def cp_isSound (x : St) : Option String × Int32 × St := (none, 1, fU stN x (x.1 1 0))
theorem CI_cg {x x' : St} (h1 : x'.1 = x.1) (h10 : x'.2 10 = x.2 10) (h : CI x) : CI x' := by
  unfold CI
  rw [h1, h10]
  exact h
theorem CJ_cg {x x' : St} (h1 : x'.1 = x.1) (h : CJ x) : CJ x' := by
  unfold CJ
  rw [h1]
  exact h
theorem CK_cg {x x' : St} (h1 : x'.1 = x.1) (h : CK x) : CK x' := by
  unfold CK
  rw [h1]
  exact h
theorem CQ_cg {x x' : St} (h1 : x'.1 = x.1) (h : CQ x) : CQ x' := by
  unfold CQ
  rw [h1]
  exact h
theorem MI_cg {x x' : St} (h1 : x'.1 = x.1) (h : MI x) : MI x' := by
  unfold MI
  rw [h1]
  exact h
theorem FrD_cg {x x' : St} (h1 : x'.1 = x.1) (h3 : x'.2 3 = x.2 3) (h23 : x'.2 23 = x.2 23) (h : FrD x) : FrD x' := by
  unfold FrD
  rw [h1, h3, h23]
  exact h
theorem FrB_cg {x x' : St} (h1 : x'.1 = x.1) (hm : ∀ m j, x.1 1 0 ≤ j → (6 ≤ m ∧ m ≤ 13) ∨ m = 22 → x'.2 m j = x.2 m j) (h100 : ∀ j, x'.2 (100 + j) = x.2 (100 + j)) (h14 : x'.2 14 = x.2 14) (h : FrB x) : FrB x' := by
  unfold FrB
  rw [h1, h14]
  refine ⟨fun j hj => ?_, h.2⟩
  rw [hm 6 j hj (by decide), hm 7 j hj (by decide), hm 8 j hj (by decide), hm 9 j hj (by decide), hm 10 j hj (by decide), hm 11 j hj (by decide), hm 12 j hj (by decide), hm 13 j hj (by decide), hm 22 j hj (by decide), h100 j]
  exact h.1 j hj
theorem BK_cg {k : Nat} {x x' : St} (h1 : x'.1 = x.1) (e1 : x'.2 1 = x.2 1) (e2 : x'.2 2 = x.2 2) (e3 : x'.2 3 = x.2 3) (e9 : x'.2 9 = x.2 9) (h : BK k x) : BK k x' := by
  unfold BK
  rw [h1, e1, e2, e3, e9]
  exact h
theorem stH_cg {x x' : St} (h : x'.2 13 = x.2 13) : stH x' = stH x := by
  funext n q
  unfold stH
  rw [h]
theorem CSm_cg {x x' : St} (h1 : x'.1 = x.1) (e13 : x'.2 13 = x.2 13) (e18 : x'.2 18 = x.2 18) (e19 : x'.2 19 = x.2 19) (h : CSm x) : CSm x' := by
  unfold CSm
  rw [stH_cg e13, h1, e18, e19]
  exact h
theorem EQ_I {x y : St} (h : EQ x y) (k i : Nat) (v : Int32) (hk : k < 15 ∨ (15 < k ∧ k < 100)) : EQ (uI x k i v) (uI y k i v) := by
  refine ⟨h.1, h.2.1, h.2.2.1, h.2.2.2.1, fun k' hk' i' => ?_, fun j s hj hs => ?_⟩
  · show va_up x.2 k (va_up (x.2 k) i v) k' i' = va_up y.2 k (va_up (y.2 k) i v) k' i'
    by_cases e : k' = k
    · rw [e, va_up_self, va_up_self]
      by_cases e2 : i' = i
      · rw [e2, va_up_self, va_up_self]
      · rw [va_up_ne _ _ e2, va_up_ne _ _ e2]
        exact h.2.2.2.2.1 k (e ▸ hk') i'
    · rw [va_up_ne _ _ e, va_up_ne _ _ e]
      exact h.2.2.2.2.1 k' hk' i'
  · show va_up x.2 k (va_up (x.2 k) i v) (100 + j) s = va_up y.2 k (va_up (y.2 k) i v) 15 (100 * j + s)
    rw [va_up_ne _ _ (by omega), va_up_ne _ _ (by omega)]
    exact h.2.2.2.2.2 j s hj hs
theorem EQ_y {x y y' : St} (h : EQ x y) (h1 : y'.1 = y.1) (h2 : ∀ k, k < 20 → y'.2 k = y.2 k) : EQ x y' := by
  unfold EQ
  rw [h1]
  refine ⟨h.1, h.2.1, h.2.2.1, h.2.2.2.1, fun k' hk' i' => ?_, fun j s hj hs => ?_⟩
  · rw [h2 k' (by omega)]; exact h.2.2.2.2.1 k' hk' i'
  · rw [h2 15 (by omega)]; exact h.2.2.2.2.2 j s hj hs
theorem EQ_x {x x' y : St} (h : EQ x y) (h1 : x'.1 = x.1) (h2 : ∀ k, k < 19 → x'.2 k = x.2 k) (h3 : ∀ j, x'.2 (100 + j) = x.2 (100 + j)) : EQ x' y := by
  unfold EQ
  rw [h1]
  refine ⟨h.1, h.2.1, h.2.2.1, h.2.2.2.1, fun k' hk' i' => ?_, fun j s hj hs => ?_⟩
  · rw [h2 k' (by omega)]; exact h.2.2.2.2.1 k' hk' i'
  · rw [h3 j]; exact h.2.2.2.2.2 j s hj hs
theorem Rel.n {q : Nat} {x y : St} (h : Rel q x y) (k i : Nat) (hk : k = 0 ∨ k = 1 ∨ k = 5 ∨ k = 7 ∨ k = 9 ∨ k = 12) : x.1 k i = y.1 k i := h.2.2.2.2.2.2.2.2.2.1 k hk i
theorem Rel.p8 {q : Nat} {x y : St} (h : Rel q x y) (d : Nat) (hd : d < x.1 0 0) : x.1 8 d = y.1 8 d := h.2.2.2.2.2.2.2.2.2.2.1 d hd
theorem Rel.qu {q : Nat} {x y : St} (h : Rel q x y) (j i : Nat) (hj : j < 4) (hi : i < x.1 5 j) : x.1 (50 + j) i = y.1 6 (8 * j + i) := h.2.2.2.2.2.2.2.2.2.2.2.1 j i hj hi
theorem Rel.vis {q : Nat} {x y : St} (h : Rel q x y) (j : Nat) (hj : j < 4) : y.1 11 j = if x.1 10 j = x.1 9 0 + 1 then 1 else 0 := h.2.2.2.2.2.2.2.2.2.2.2.2.1 j hj
theorem Rel.i {q : Nat} {x y : St} (h : Rel q x y) (k i : Nat) (hk : (1 ≤ k ∧ k ≤ 14) ∨ k = 16 ∨ k = 17 ∨ k = 18) : x.2 k i = y.2 k i := h.2.2.2.2.2.2.2.2.2.2.2.2.2.1 k hk i
theorem Rel.as {q : Nat} {x y : St} (h : Rel q x y) (j s : Nat) (hj : j < 4) (hs : s < 100) : x.2 (100 + j) s = y.2 15 (100 * j + s) := h.2.2.2.2.2.2.2.2.2.2.2.2.2.2 j s hj hs
theorem Rel.s {k : Nat} {x y : St} (h : Rel k x y) : Rel (k + 1) x y := by
  obtain ⟨h1, h2, h3, h4, h5, h6, h7, ⟨b1, b2, b3⟩, h9, h10⟩ := h
  exact ⟨h1, h2, h3, h4, h5, h6, h7, ⟨b1, b2, fun j => ⟨(b3 j).1, by have := (b3 j).2; omega⟩⟩, h9, h10⟩
theorem Rel.y {k : Nat} {x y y' : St} (h : Rel k x y) (h1 : y'.1 = y.1) (h2 : ∀ k, k < 20 → y'.2 k = y.2 k) : Rel k x y' := by
  obtain ⟨hI, hJ, hKK, hQ, hFD, hFB, hMI, hBK, hCS, hE⟩ := h
  exact ⟨hI, hJ, hKK, hQ, hFD, hFB, MI_cg h1 hMI, hBK, hCS, EQ_y hE h1 h2⟩
theorem Rel.z {k : Nat} {x y : St} (h : Rel k x y) (i : Nat) (v : Int32) : Rel k x (uI y 28 i v) := h.y rfl (fun m hm => va_up_ne _ _ (by omega))
theorem Rel.x {k : Nat} {x x' y : St} (h : Rel k x y) (h1 : x'.1 = x.1) (h2 : ∀ k, k < 24 → x'.2 k = x.2 k) (h3 : ∀ j, x'.2 (100 + j) = x.2 (100 + j)) : Rel k x' y := by
  obtain ⟨hI, hJ, hKK, hQ, hFD, hFB, hMI, hBK, hCS, hE⟩ := h
  exact ⟨CI_cg h1 (h2 10 (by decide)) hI, CJ_cg h1 hJ, CK_cg h1 hKK, CQ_cg h1 hQ, FrD_cg h1 (h2 3 (by decide)) (h2 23 (by decide)) hFD, FrB_cg h1 (fun m j _ hm => by rw [h2 m (by omega)]) h3 (h2 14 (by decide)) hFB, hMI, BK_cg h1 (h2 1 (by decide)) (h2 2 (by decide)) (h2 3 (by decide)) (h2 9 (by decide)) hBK, CSm_cg h1 (h2 13 (by decide)) (h2 18 (by decide)) (h2 19 (by decide)) hCS, EQ_x hE h1 (fun m hm => h2 m (by omega)) h3⟩
theorem Rel.I {q : Nat} {x y : St} (h : Rel q x y) (k i : Nat) (v : Int32) (hk : ((k = 6 ∨ k = 7 ∨ k = 8 ∨ k = 11 ∨ k = 12) ∧ i < x.1 1 0) ∨ k = 16 ∨ k = 17) : Rel q (uI x k i v) (uI y k i v) := by
  obtain ⟨hI, hJ, hKK, hQ, hFD, hFB, hMI, hBK, hCS, hE⟩ := h
  have n : ∀ m, m ≠ k → (uI x k i v).2 m = x.2 m := fun m hm => va_up_ne _ _ hm
  refine ⟨CI_cg (x := x) rfl (n 10 (by omega)) hI, CJ_cg (x := x) rfl hJ, CK_cg (x := x) rfl hKK, CQ_cg (x := x) rfl hQ, FrD_cg (x := x) rfl (n 3 (by omega)) (n 23 (by omega)) hFD, FrB_cg (x := x) rfl (fun m j hj hm => ?_) (fun j => n (100 + j) (by omega)) (n 14 (by omega)) hFB, MI_cg rfl hMI, BK_cg (x := x) rfl (n 1 (by omega)) (n 2 (by omega)) (n 3 (by omega)) (n 9 (by omega)) hBK, CSm_cg (x := x) rfl (n 13 (by omega)) (n 18 (by omega)) (n 19 (by omega)) hCS, EQ_I hE k i v (by omega)⟩
  by_cases e : m = k
  · show va_up x.2 k (va_up (x.2 k) i v) m j = x.2 m j
    rw [e, va_up_self, va_up_ne _ _ (by omega)]
  · rw [n m e]
theorem ix_lt {b : Int32} {n : Nat} (h : inB b n = true) : ix b < n := by
  unfold inB at h
  exact of_decide_eq_true (Bool.and_eq_true_iff.mp h).2
theorem Sim.ok {α : Type} {lst : List String} {r r' : α} {x y : St} {k : Nat} (h : r = r') (h2 : Rel (k + 1) x y) (h28 : y.2 28 0 = 0) : Sim lst (none, r, x) (r', y) k := ⟨fun _ => h28, fun X h => (by cases h), fun _ => h, h2⟩
theorem Sim.thr {α : Type} {lst : List String} {X : String} {r r' : α} {x y : St} {k : Nat} (c : Int32) (h2 : Rel (k + 1) x y) (h28 : y.2 28 0 = c) (hc : c = lcd lst X) : Sim lst (some X, r, x) (r', y) k := ⟨fun h => (by cases h), fun X h => (by cases h; rw [← hc]; exact h28), fun h => (by cases h), h2⟩
theorem pD_eq {q : Nat} {x y : St} (h : Rel q x y) (d : Nat) (ta w : Int32) (hd : d < x.1 0 0) : pD x d ta w = pD y d ta w := by
  unfold pD
  rw [h.p8 d hd, h.i 2 d (by decide), h.n 12 d (by decide), h.i 1 d (by decide), h.i 3 d (by decide)]
theorem pS_eq {q : Nat} {x y : St} (h : Rel q x y) (a : Nat) (ta w : Int32) : pS x a ta w = pS y a ta w := by
  unfold pS
  rw [h.n 7 a (by decide)]
  by_cases c : y.1 7 a = 0
  · rw [if_pos c, if_pos c]
  · rw [if_neg c, if_neg c]
    refine pD_eq h _ ta w ?_
    have h7 := h.1.2.2.2.2.2.2.1 a
    rw [h.n 7 a (by decide)] at h7
    omega
