theorem CJ_c {x x' : St} (h7 : x'.1 7 = x.1 7) (h8 : x'.1 8 = x.1 8) (h : CJ x) : CJ x' := by
  unfold CJ
  rw [h7, h8]
  exact h
theorem CK_c {x x' : St} (h0 : x'.1 0 = x.1 0) (h7 : x'.1 7 = x.1 7) (h8 : x'.1 8 = x.1 8) (h : CK x) : CK x' := by
  unfold CK
  rw [h0, h7, h8]
  exact h
theorem CQ_c {x x' : St} (h2 : x'.1 2 = x.1 2) (h3 : x'.1 3 = x.1 3) (h4 : x'.1 4 = x.1 4) (h : CQ x) : CQ x' := by
  unfold CQ
  rw [h2, h3, h4]
  exact h
theorem FrD_c {x x' : St} (h0 : x'.1 0 = x.1 0) (h8 : x'.1 8 = x.1 8) (h3 : x'.2 3 = x.2 3) (h23 : x'.2 23 = x.2 23) (h : FrD x) : FrD x' := by
  unfold FrD
  rw [h0, h8, h3, h23]
  exact h
theorem BK_c {k : Nat} {x x' : St} (h0 : x'.1 0 = x.1 0) (e1 : x'.2 1 = x.2 1) (e2 : x'.2 2 = x.2 2) (e3 : x'.2 3 = x.2 3) (e9 : x'.2 9 = x.2 9) (h : BK k x) : BK k x' := by
  unfold BK
  rw [h0, e1, e2, e3, e9]
  exact h
theorem FrB_c {x x' : St} (h1 : x'.1 1 = x.1 1) (h4 : x'.1 4 = x.1 4) (h5 : x'.1 5 = x.1 5) (h7 : x'.1 7 = x.1 7) (h10 : ∀ j, x.1 1 0 ≤ j → x'.1 10 j = x.1 10 j) (hm : ∀ m j, x.1 1 0 ≤ j → (6 ≤ m ∧ m ≤ 13) ∨ m = 22 → x'.2 m j = x.2 m j) (h100 : ∀ j, x'.2 (100 + j) = x.2 (100 + j)) (h14 : x'.2 14 = x.2 14) (h : FrB x) : FrB x' := by
  unfold FrB
  rw [h1, h4, h5, h7, h14]
  refine ⟨fun j hj => ?_, h.2⟩
  rw [h10 j hj, hm 6 j hj (by decide), hm 7 j hj (by decide), hm 8 j hj (by decide), hm 9 j hj (by decide), hm 10 j hj (by decide), hm 11 j hj (by decide), hm 12 j hj (by decide), hm 13 j hj (by decide), hm 22 j hj (by decide), h100 j]
  exact h.1 j hj
theorem Rel.f {q : Nat} {x y : St} (h : Rel q x y) (k : Nat) (hk : (1 ≤ k ∧ k ≤ 14) ∨ k = 16 ∨ k = 17 ∨ k = 18) : x.2 k = y.2 k := funext (fun i => h.i k i hk)
theorem Rel.fn {q : Nat} {x y : St} (h : Rel q x y) (k : Nat) (hk : k = 0 ∨ k = 1 ∨ k = 5 ∨ k = 7 ∨ k = 9 ∨ k = 12) : x.1 k = y.1 k := funext (fun i => h.n k i hk)
theorem Rel.n4 {q : Nat} {x y : St} (h : Rel q x y) : x.1 1 0 ≤ 4 := h.1.2.1
/-- the needle -/
theorem Rel.I9 {q : Nat} {x y : St} (h : Rel q x y) (i : Nat) (v : Int32) (hi : i < x.1 1 0) (h0 : 0 ≤ v.toInt) (h1 : v.toInt ≤ 100 * (q : Int)) : Rel q (uI x 9 i v) (uI y 9 i v) := by
  obtain ⟨hI, hJ, hKK, hQ, hFD, hFB, hMI, hBK, hCS, hE⟩ := h
  refine ⟨CI_cg (x := x) rfl rfl hI, CJ_cg (x := x) rfl hJ, CK_cg (x := x) rfl hKK, CQ_cg (x := x) rfl hQ, FrD_cg (x := x) rfl rfl rfl hFD, FrB_cg (x := x) rfl (fun m j hj hm => ?_) (fun j => va_up_ne _ _ (by omega)) rfl hFB, MI_cg (x := y) rfl hMI, ⟨hBK.1, hBK.2.1, fun j => ?_⟩, CSm_cg (x := x) rfl rfl rfl rfl hCS, EQ_I hE 9 i v (by omega)⟩
  · show va_up x.2 9 (va_up (x.2 9) i v) m j = x.2 m j
    by_cases e : m = 9
    · rw [e, va_up_self, va_up_ne _ _ (by omega)]
    · rw [va_up_ne _ _ e]
  · show 0 ≤ (va_up (x.2 9) i v j).toInt ∧ (va_up (x.2 9) i v j).toInt ≤ 100 * (q : Int)
    by_cases e : j = i
    · rw [e, va_up_self]; exact ⟨h0, h1⟩
    · rw [va_up_ne _ _ e]; exact hBK.2.2 j
/-- jammed, or no more -/
theorem Rel.I10 {q : Nat} {x y : St} (h : Rel q x y) (i : Nat) (v : Int32) (hi : i < x.1 1 0) (hv : v = 0 ∨ v = 1) : Rel q (uI x 10 i v) (uI y 10 i v) := by
  obtain ⟨hI, hJ, hKK, hQ, hFD, hFB, hMI, hBK, hCS, hE⟩ := h
  obtain ⟨hn0, hn1, hn2, hn3, hn4, hn5, hc7, hc8, hc5, hc54, hc4, hc50, hc9, hc12, hc10, hcj⟩ := hI
  refine ⟨⟨hn0, hn1, hn2, hn3, hn4, hn5, hc7, hc8, hc5, hc54, hc4, hc50, hc9, hc12, hc10, fun j => ?_⟩, CJ_cg (x := x) rfl hJ, CK_cg (x := x) rfl hKK, CQ_cg (x := x) rfl hQ, FrD_cg (x := x) rfl rfl rfl hFD, FrB_cg (x := x) rfl (fun m j hj hm => ?_) (fun j => va_up_ne _ _ (by omega)) rfl hFB, MI_cg (x := y) rfl hMI, BK_cg (x := x) rfl rfl rfl rfl rfl hBK, CSm_cg (x := x) rfl rfl rfl rfl hCS, EQ_I hE 10 i v (by omega)⟩
  · show va_up (x.2 10) i v j = 0 ∨ va_up (x.2 10) i v j = 1
    by_cases e : j = i
    · rw [e, va_up_self]; exact hv
    · rw [va_up_ne _ _ e]; exact hcj j
  · show va_up x.2 10 (va_up (x.2 10) i v) m j = x.2 m j
    by_cases e : m = 10
    · rw [e, va_up_self, va_up_ne _ _ (by omega)]
    · rw [va_up_ne _ _ e]
/-- a disc of the van is burnt -/
theorem Rel.burn {q : Nat} {x y : St} (h : Rel q x y) (d : Nat) (hd : d < x.1 0 0) (h1 : x.1 8 d = 1) : Rel q (uN x 8 d 0) (uN y 8 d 0) := by
  obtain ⟨hI, hJ, hKK, hQ, hFD, hFB, hMI, hBK, hCS, hE⟩ := h
  obtain ⟨hn0, hn1, hn2, hn3, hn4, hn5, hc7, hc8, hc5, hc54, hc4, hc50, hc9, hc12, hc10, hcj⟩ := hI
  obtain ⟨m0, m1, m7, m8, m5, m6, m9, m12, m11⟩ := hMI
  refine ⟨⟨hn0, hn1, hn2, hn3, hn4, hn5, hc7, fun e => ?_, hc5, hc54, hc4, fun j i => ?_, hc9, hc12, hc10, hcj⟩, fun a e he => ?_, fun e he h2 => ?_, CQ_c (x := x) rfl rfl rfl hQ, fun e he => ?_, FrB_c (x := x) rfl rfl rfl rfl (fun _ _ => rfl) (fun _ _ _ _ => rfl) (fun _ => rfl) rfl hFB, ⟨m0, m1, m7, fun e => ?_, m5, m6, m9, m12, m11⟩, BK_c (x := x) rfl rfl rfl rfl rfl hBK, hCS, ?_⟩
  · show va_up (x.1 8) d 0 e < 2 + 10 * x.1 1 0
    by_cases c : e = d
    · rw [c, va_up_self]; omega
    · rw [va_up_ne _ _ c]; exact hc8 e
  · show va_up x.1 8 _ (50 + j) i < 10
    rw [va_up_ne _ _ (by omega)]; exact hc50 j i
  · have q1 := hJ a e he
    show va_up (x.1 8) d 0 e = 2 + a
    by_cases c : e = d
    · rw [c] at q1; omega
    · rw [va_up_ne _ _ c]; exact q1
  · have h2 : 2 ≤ va_up (x.1 8) d 0 e := h2
    show x.1 7 (va_up (x.1 8) d 0 e - 2) = e + 1
    by_cases c : e = d
    · rw [c, va_up_self] at h2; omega
    · rw [va_up_ne _ _ c] at h2 ⊢; exact hKK e he h2
  · have q1 := hFD e he
    show va_up (x.1 8) d 0 e = 1 ∧ _
    rw [va_up_ne _ _ (by have : x.1 0 0 ≤ e := he; omega)]; exact q1
  · show va_up (y.1 8) d 0 e < 42
    by_cases c : e = d
    · rw [c, va_up_self]; omega
    · rw [va_up_ne _ _ c]; exact m8 e
  · refine ⟨fun k hk i => ?_, fun e he => ?_, fun j i hj hi => ?_, hE.2.2.2.1, hE.2.2.2.2.1, hE.2.2.2.2.2⟩
    · show va_up x.1 8 _ k i = va_up y.1 8 _ k i
      rw [va_up_ne _ _ (by omega), va_up_ne _ _ (by omega)]; exact hE.1 k hk i
    · show va_up (x.1 8) d 0 e = va_up (y.1 8) d 0 e
      by_cases c : e = d
      · rw [c, va_up_self, va_up_self]
      · rw [va_up_ne _ _ c, va_up_ne _ _ c]; exact hE.2.1 e he
    · show va_up x.1 8 _ (50 + j) i = y.1 6 (8 * j + i)
      rw [va_up_ne _ _ (by omega)]; exact hE.2.2.1 j i hj hi
/-- asked -/
theorem Rel.ask {q : Nat} {x y : St} (h : Rel q x y) (j s : Nat) (v : Int32) (hj : j < x.1 1 0) (hs : s < 100) : Rel q (uI x (100 + j) s v) (uI y 15 (100 * j + s) v) := by
  obtain ⟨hI, hJ, hKK, hQ, hFD, hFB, hMI, hBK, hCS, hE⟩ := h
  have n4 := hI.2.1
  have n : ∀ m, m < 100 → (uI x (100 + j) s v).2 m = x.2 m := fun m hm => va_up_ne _ _ (by omega)
  refine ⟨CI_cg (x := x) rfl (n 10 (by omega)) hI, CJ_cg (x := x) rfl hJ, CK_cg (x := x) rfl hKK, CQ_cg (x := x) rfl hQ, FrD_cg (x := x) rfl (n 3 (by omega)) (n 23 (by omega)) hFD, ⟨fun i hi => ?_, fun a ha => ?_⟩, MI_cg (x := y) rfl hMI, BK_cg (x := x) rfl (n 1 (by omega)) (n 2 (by omega)) (n 3 (by omega)) (n 9 (by omega)) hBK, CSm_cg (x := x) rfl (n 13 (by omega)) (n 18 (by omega)) (n 19 (by omega)) hCS, ?_⟩
  · have hi : x.1 1 0 ≤ i := hi
    rw [n 6 (by omega), n 7 (by omega), n 8 (by omega), n 9 (by omega), n 10 (by omega), n 11 (by omega), n 12 (by omega), n 13 (by omega), n 22 (by omega)]
    have e : (uI x (100 + j) s v).2 (100 + i) = x.2 (100 + i) := va_up_ne _ _ (by omega)
    rw [e]
    exact hFB.1 i hi
  · rw [n 14 (by omega)]; exact hFB.2 a ha
  · refine ⟨hE.1, hE.2.1, hE.2.2.1, hE.2.2.2.1, fun k hk i => ?_, fun j' s' hj' hs' => ?_⟩
    · show va_up x.2 (100 + j) _ k i = va_up y.2 15 _ k i
      rw [va_up_ne _ _ (by omega), va_up_ne _ _ (by omega)]; exact hE.2.2.2.2.1 k hk i
    · show va_up x.2 (100 + j) (va_up (x.2 (100 + j)) s v) (100 + j') s' = va_up (y.2 15) (100 * j + s) v (100 * j' + s')
      by_cases c : j' = j
      · rw [c, va_up_self]
        by_cases c2 : s' = s
        · rw [c2, va_up_self, va_up_self]
        · rw [va_up_ne _ _ c2, va_up_ne _ _ (by omega)]; exact hE.2.2.2.2.2 j s' (by omega) hs'
      · rw [va_up_ne _ _ (by omega), va_up_ne _ _ (by omega)]; exact hE.2.2.2.2.2 j' s' hj' hs'
