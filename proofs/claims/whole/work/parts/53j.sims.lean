theorem bm32 {v : Int} (h1 : -2147483648 ≤ v) (h2 : v < 2147483648) : v.bmod (2 ^ 32) = v := Int.bmod_eq_of_le (by omega) (by omega)
theorem ti_add {a b : Int32} (h1 : -2147483648 ≤ a.toInt + b.toInt) (h2 : a.toInt + b.toInt < 2147483648) : (a + b).toInt = a.toInt + b.toInt := by rw [Int32.toInt_add, bm32 h1 h2]
theorem ti_sub {a b : Int32} (h1 : -2147483648 ≤ a.toInt - b.toInt) (h2 : a.toInt - b.toInt < 2147483648) : (a - b).toInt = a.toInt - b.toInt := by rw [Int32.toInt_sub, bm32 h1 h2]
theorem ti_mul {a b : Int32} (h1 : -2147483648 ≤ a.toInt * b.toInt) (h2 : a.toInt * b.toInt < 2147483648) : (a * b).toInt = a.toInt * b.toInt := by rw [Int32.toInt_mul, bm32 h1 h2]
theorem ti_div {a b : Int32} (h0 : 0 ≤ a.toInt) (hb : 0 < b.toInt) : (a / b).toInt = a.toInt / b.toInt := by
  have h3 := Int32.toInt_lt a
  have h4 : a.toInt / b.toInt ≤ a.toInt := Int.ediv_le_self _ h0
  have h5 : 0 ≤ a.toInt / b.toInt := Int.ediv_nonneg h0 (by omega)
  rw [Int32.toInt_div, Int.tdiv_eq_ediv_of_nonneg h0]
  exact bm32 (by omega) (by omega)
theorem pB_in {so ta st fr we w : Int32} (hs1 : 1 ≤ st.toInt) (hs2 : st.toInt ≤ 50) (hf : 0 ≤ fr.toInt) (hw : w.toInt ≤ 99) (hfw : fr.toInt ≤ w.toInt) (h1 : 0 ≤ we.toInt) (h2 : we.toInt ≤ 20000) : 0 ≤ (pB so ta st fr we w).toInt ∧ (pB so ta st fr we w).toInt ≤ 75 := by
  have k0 : (0 : Int32).toInt = 0 := rfl
  have k2 : (2 : Int32).toInt = 2 := rfl
  have k5 : (5 : Int32).toInt = 5 := rfl
  have k10 : (10 : Int32).toInt = 10 := rfl
  have e1 : (w - fr).toInt = w.toInt - fr.toInt := ti_sub (by omega) (by omega)
  have e2 : (2 * (w - fr)).toInt = 2 * (w.toInt - fr.toInt) := by rw [ti_mul (by rw [k2, e1]; omega) (by rw [k2, e1]; omega), k2, e1]
  have e3 : (st - 2 * (w - fr)).toInt = st.toInt - 2 * (w.toInt - fr.toInt) := by rw [ti_sub (by rw [e2]; omega) (by rw [e2]; omega), e2]
  have e4 : (st / 5).toInt = st.toInt / 5 := by rw [ti_div (by omega) (by rw [k5]; omega), k5]
  unfold pB
  show 0 ≤ (let a := if st - 2 * (w - fr) < st / 5 then st / 5 else st - 2 * (w - fr); let b := if so - so / 10 * 10 = ta then a + a / 2 else a; if b - we / 10 < 0 then 0 else b - we / 10 : Int32).toInt ∧ _
  obtain ⟨a, ea⟩ : ∃ a, a = if st - 2 * (w - fr) < st / 5 then st / 5 else st - 2 * (w - fr) := ⟨_, rfl⟩
  rw [← ea]
  have ha : 0 ≤ a.toInt ∧ a.toInt ≤ 50 := by
    rw [ea]
    by_cases c : st - 2 * (w - fr) < st / 5
    · rw [if_pos c, e4]; omega
    · rw [if_neg c]
      have c' : ¬ (st - 2 * (w - fr)).toInt < (st / 5).toInt := fun z => c (lt_t.mpr z)
      rw [e3, e4] at c'
      rw [e3]; omega
  have e5 : (a / 2).toInt = a.toInt / 2 := by rw [ti_div (by omega) (by rw [k2]; omega), k2]
  obtain ⟨b, eb⟩ : ∃ b, b = if so - so / 10 * 10 = ta then a + a / 2 else a := ⟨_, rfl⟩
  show 0 ≤ (let b := if so - so / 10 * 10 = ta then a + a / 2 else a; if b - we / 10 < 0 then 0 else b - we / 10 : Int32).toInt ∧ (let b := if so - so / 10 * 10 = ta then a + a / 2 else a; if b - we / 10 < 0 then 0 else b - we / 10 : Int32).toInt ≤ 75
  rw [← eb]
  have hb : 0 ≤ b.toInt ∧ b.toInt ≤ 75 := by
    rw [eb]
    by_cases c : so - so / 10 * 10 = ta
    · rw [if_pos c, ti_add (by rw [e5]; omega) (by rw [e5]; omega), e5]; omega
    · rw [if_neg c]; omega
  show 0 ≤ (if b - we / 10 < 0 then 0 else b - we / 10 : Int32).toInt ∧ (if b - we / 10 < 0 then 0 else b - we / 10 : Int32).toInt ≤ 75
  have e6 : (we / 10).toInt = we.toInt / 10 := by rw [ti_div h1 (by rw [k10]; omega), k10]
  have e7 : (b - we / 10).toInt = b.toInt - we.toInt / 10 := by rw [ti_sub (by rw [e6]; omega) (by rw [e6]; omega), e6]
  by_cases c : b - we / 10 < 0
  · rw [if_pos c, k0]; omega
  · rw [if_neg c]
    have c' : ¬ (b - we / 10).toInt < (0 : Int32).toInt := fun z => c (lt_t.mpr z)
    rw [k0, e7] at c'
    rw [e7]; omega
theorem pD_in {q : Nat} {x y : St} (hR : Rel q x y) (d : Nat) (ta : Int32) (hd : d < x.1 0 0) : 0 ≤ (pD x d ta (nI (x.1 9 0))).toInt ∧ (pD x d ta (nI (x.1 9 0))).toInt ≤ 75 := by
  have hb := hR.2.2.2.2.2.2.2.1
  have h9 := hR.1.2.2.2.2.2.2.2.2.2.2.2.2.1
  have k0 : (0 : Int32).toInt = 0 := rfl
  have e9 := nI_toInt (n := x.1 9 0) (by omega)
  unfold pD
  by_cases c : x.1 8 d = 0
  · rw [if_pos c, k0]; omega
  · rw [if_neg c]
    by_cases c2 : x.2 2 d ≤ nI (x.1 9 0)
    · rw [if_pos c2]
      have h1 := hb.1 d hd
      have h3 := hb.2.1 d
      exact pB_in h1.1 h1.2.1 h1.2.2.1 (by rw [e9]; omega) (le_t.mp c2) h3.1 h3.2
    · rw [if_neg c2, k0]; omega
theorem Rel.I3 {q : Nat} {x y : St} (h : Rel q x y) (d : Nat) (v : Int32) (hd : d < x.1 0 0) (h0 : 0 ≤ v.toInt) (h1 : v.toInt ≤ 20000) : Rel q (uI x 3 d v) (uI y 3 d v) := by
  obtain ⟨hI, hJ, hKK, hQ, hFD, hFB, hMI, hBK, hCS, hE⟩ := h
  refine ⟨CI_cg (x := x) rfl rfl hI, CJ_cg (x := x) rfl hJ, CK_cg (x := x) rfl hKK, CQ_cg (x := x) rfl hQ, fun e he => ?_, FrB_cg (x := x) rfl (fun m j hj hm => ?_) (fun j => va_up_ne _ _ (by omega)) rfl hFB, MI_cg (x := y) rfl hMI, ⟨hBK.1, fun e => ?_, hBK.2.2⟩, CSm_cg (x := x) rfl rfl rfl rfl hCS, EQ_I hE 3 d v (by omega)⟩
  · have he : x.1 0 0 ≤ e := he
    show x.1 8 e = 1 ∧ va_up (x.2 3) d v e = 0 ∧ x.2 23 e = 0
    rw [va_up_ne _ _ (by omega)]
    exact hFD e he
  · show va_up x.2 3 (va_up (x.2 3) d v) m j = x.2 m j
    rw [va_up_ne _ _ (by omega)]
  · show 0 ≤ (va_up (x.2 3) d v e).toInt ∧ (va_up (x.2 3) d v e).toInt ≤ 20000
    by_cases c : e = d
    · rw [c, va_up_self]; exact ⟨h0, h1⟩
    · rw [va_up_ne _ _ c]; exact hBK.2.1 e
/-- a disc is played n times -/
theorem Rel.wears {q : Nat} {x y : St} (h : Rel q x y) (hq : q ≤ 512) (j k d : Nat) (n : Int32) (hj : j < x.1 1 0) (hk : k < 10) (h7 : x.1 7 (10 * j + k) = d + 1) (hw : (x.2 3 d).toInt < 60) (h0 : 0 ≤ n.toInt) (h9 : n.toInt ≤ 9) (hb : (x.2 9 j).toInt + n.toInt ≤ 100 * (q : Int)) : Rel q (plD x j (10 * j + k) d n) (mp_wears y (10 * j + k) n) := by
  have hn := h.2.2.2.2.2.2.2.1.2.2 j
  have hwr := h.2.2.2.2.2.2.2.1.2.1 d
  have hd : d < x.1 0 0 := by have := h.1.2.2.2.2.2.2.1 (10 * j + k); omega
  have k1 : (1 : Int32).toInt = 1 := rfl
  have k40 : (40 : Int32).toInt = 40 := rfl
  have e1 : (x.2 9 j / 40).toInt = (x.2 9 j).toInt / 40 := by rw [ti_div hn.1 (by rw [k40]; omega), k40]
  have e2 : (1 + x.2 9 j / 40).toInt = 1 + (x.2 9 j).toInt / 40 := by rw [ti_add (by rw [k1, e1]; omega) (by rw [k1, e1]; omega), k1, e1]
  have b0 : 0 ≤ 1 + (x.2 9 j).toInt / 40 := by omega
  have b1 : 1 + (x.2 9 j).toInt / 40 ≤ 1281 := by omega
  have m0 : 0 ≤ n.toInt * (1 + (x.2 9 j).toInt / 40) := Int.mul_nonneg h0 b0
  have m1 : n.toInt * (1 + (x.2 9 j).toInt / 40) ≤ 9 * 1281 := Int.mul_le_mul h9 b1 b0 (by omega)
  have e3 : (n * (1 + x.2 9 j / 40)).toInt = n.toInt * (1 + (x.2 9 j).toInt / 40) := by rw [ti_mul (by rw [e2]; omega) (by rw [e2]; omega), e2]
  have e4 : (x.2 3 d + n * (1 + x.2 9 j / 40)).toInt = (x.2 3 d).toInt + n.toInt * (1 + (x.2 9 j).toInt / 40) := by rw [ti_add (by rw [e3]; omega) (by rw [e3]; omega), e3]
  have e5 : (x.2 9 j + n).toInt = (x.2 9 j).toInt + n.toInt := ti_add (by omega) (by omega)
  have hR := (((h.I14 (10 * j + k) (x.2 14 (10 * j + k) + n) (by omega)).I3 d (x.2 3 d + n * (1 + x.2 9 j / 40)) hd (by rw [e4]; omega) (by rw [e4]; omega)).I9 j (x.2 9 j + n) hj (by rw [e5]; omega) (by rw [e5]; omega)).I 11 j (x.2 11 j + n) (Or.inl ⟨by decide, hj⟩)
  have em : mp_wears y (10 * j + k) n = uI (uI (uI (uI y 14 (10 * j + k) (x.2 14 (10 * j + k) + n)) 11 j (x.2 11 j + n)) 3 d (x.2 3 d + n * (1 + x.2 9 j / 40))) 9 j (x.2 9 j + n) := by
    unfold mp_wears
    rw [show (10 * j + k) / 10 = j by omega, ← h.n 7 _ (by decide), h7, Nat.add_sub_cancel, ← h.i 14 _ (by decide), ← h.i 11 _ (by decide), ← h.i 3 _ (by decide), ← h.i 9 _ (by decide)]
  rw [em]
  refine cast ?_ hR
  refine congrArg (fun z => Rel q _ z) ?_
  refine Prod.ext rfl (funext fun m => ?_)
  rcases (show m = 14 ∨ m = 11 ∨ m = 3 ∨ m = 9 ∨ (m ≠ 14 ∧ m ≠ 11 ∧ m ≠ 3 ∧ m ≠ 9) by omega) with rfl | rfl | rfl | rfl | ⟨n1, n2, n3, n4⟩
  iterate 4 (· rfl)
  simp only [uI, va_up, if_neg n1, if_neg n2, if_neg n3, if_neg n4]
