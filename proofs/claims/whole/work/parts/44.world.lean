/-! ===== the run's world where the addresses change too ===== -/
/-- cells that are one, or rows of references that agree below their length -/
def sameE (e' e : va_E) : Prop := e' = e ∨ ∃ (cA : ClassId) (n : Nat) (f f' : Nat → Option Nat), e = .inl (cA, n, .inr (.inr (.inr (.inr f)))) ∧ e' = .inl (cA, n, .inr (.inr (.inr (.inr f')))) ∧ ∀ i, i < n → f' i = f i
section CELG
variable {q : wQ} {g g9 : Nat → Nat} {x z y : St} {oL : Nat → Int64} {oD : Nat → UInt64}
theorem cel_live (hI : CI x) (hg : ∀ t, liv x.1 t → t ≠ 2 → t ≠ 4 → (t < 230 ∨ 240 ≤ t) → g9 t = g t) {t : Nat} (ht : liv x.1 t) (h1 : t = 1 → g9 2 = g 2) (h3 : t = 3 → g9 4 = g 4) (h22 : ∀ j, t = 220 + j → j < 10 → g9 (230 + j) = g (230 + j)) : sameE (cel q g9 x y oL oD t) (cel q g x y oL oD t) := by
  obtain ⟨hn0, hn1, hn2, hn3, hn4, hn5, hc7, hc8, hc5, hc54, hc4, hc50, hc9, hc12, hc10, hcj⟩ := id hI
  unfold cel
  by_cases c1 : t < 10
  · rw [if_pos c1, if_pos c1]
    refine Or.inl ?_
    have c2 : t = 0 ∨ t = 1 ∨ t = 2 ∨ t = 3 ∨ t = 4 ∨ t = 5 ∨ t = 6 := by unfold liv at ht; omega
    rcases c2 with rfl | rfl | rfl | rfl | rfl | rfl | rfl
    · have e1 := hg 1 lv_r1 (by decide) (by decide) (Or.inl (by decide))
      have e3 := hg 3 lv_r3 (by decide) (by decide) (Or.inl (by decide))
      have e5 := hg 5 lv_r5 (by decide) (by decide) (Or.inl (by decide))
      have e6 := hg 6 lv_r6 (by decide) (by decide) (Or.inl (by decide))
      simp only [cRt, e1, e3, e5, e6]
    · have e2 := h1 rfl
      simp only [cRt, e2]
    · have e2 : (fun i => if i < x.1 0 0 then some (g9 (100 + i)) else none) = (fun i => if i < x.1 0 0 then some (g (100 + i)) else none) := by
        funext i
        by_cases h : i < x.1 0 0
        · rw [if_pos h, if_pos h, hg (100 + i) (lv_di h hn0) (by omega) (by omega) (Or.inl (by omega))]
        · rw [if_neg h, if_neg h]
      simp only [cRt, cArO, e2]
    · have e4 := h3 rfl
      simp only [cRt, e4]
    · have e2 : (fun i => if i < x.1 1 0 then some (g9 (200 + i)) else none) = (fun i => if i < x.1 1 0 then some (g (200 + i)) else none) := by
        funext i
        by_cases h : i < x.1 1 0
        · rw [if_pos h, if_pos h, hg (200 + i) (lv_bx h hn1) (by omega) (by omega) (Or.inl (by omega))]
        · rw [if_neg h, if_neg h]
      simp only [cRt, cArO, e2]
    · rfl
    · rfl
  rw [if_neg c1, if_neg c1]
  by_cases c2 : t < 40
  · rw [if_pos c2, if_pos c2]
    refine Or.inl ?_
    by_cases c3 : t = 10
    · subst c3
      have em : ∀ k, 10 ≤ k → k < 34 → g9 k = g k := fun k a b => hg k (lv_md a b) (by omega) (by omega) (Or.inl (by omega))
      simp only [cMd, em 11 (by decide) (by decide), em 12 (by decide) (by decide), em 13 (by decide) (by decide), em 14 (by decide) (by decide), em 15 (by decide) (by decide), em 16 (by decide) (by decide), em 17 (by decide) (by decide), em 18 (by decide) (by decide), em 19 (by decide) (by decide), em 20 (by decide) (by decide), em 21 (by decide) (by decide), em 22 (by decide) (by decide), em 23 (by decide) (by decide), em 24 (by decide) (by decide), em 25 (by decide) (by decide), em 26 (by decide) (by decide), em 27 (by decide) (by decide), em 28 (by decide) (by decide), em 29 (by decide) (by decide), em 30 (by decide) (by decide), em 31 (by decide) (by decide), em 32 (by decide) (by decide), em 33 (by decide) (by decide)]
    · unfold cMd
      split <;> first | rfl | exact absurd rfl c3
  rw [if_neg c2, if_neg c2]
  by_cases c3 : t < 100
  · rw [if_pos c3, if_pos c3]; exact Or.inl rfl
  rw [if_neg c3, if_neg c3]
  by_cases c4 : t < 200
  · rw [if_pos c4, if_pos c4]
    refine Or.inl ?_
    unfold cDi
    by_cases h : x.1 8 (t - 100) < 2
    · simp only [h, ↓reduceIte]
    · have q8 := hc8 (t - 100)
      rw [hg (200 + (x.1 8 (t - 100) - 2) / 10) (lv_bx (by omega) hn1) (by omega) (by omega) (Or.inl (by omega))]
  rw [if_neg c4, if_neg c4]
  by_cases c5 : t < 210
  · rw [if_pos c5, if_pos c5]
    refine Or.inl ?_
    have hj : t - 200 < x.1 1 0 := by unfold liv at ht; omega
    unfold cBx
    rw [hg (210 + (t - 200)) (lv_sa hj hn1) (by omega) (by omega) (Or.inl (by omega)), hg (220 + (t - 200)) (lv_ql hj hn1) (by omega) (by omega) (Or.inl (by omega)), hg (240 + (t - 200)) (lv_as hj hn1) (by omega) (by omega) (Or.inr (by omega))]
  rw [if_neg c5, if_neg c5]
  by_cases c6 : t < 220
  · rw [if_pos c6, if_pos c6]
    have hj : t - 210 < x.1 1 0 := by unfold liv at ht; omega
    refine Or.inr ⟨_, 10, _, _, rfl, rfl, fun i hi => ?_⟩
    show some (g9 (300 + 10 * (t - 210) + i)) = some (g (300 + 10 * (t - 210) + i))
    rw [show 300 + 10 * (t - 210) + i = 300 + (10 * (t - 210) + i) by omega, hg (300 + (10 * (t - 210) + i)) (lv_sl (by omega) hn1) (by omega) (by omega) (Or.inr (by omega))]
  rw [if_neg c6, if_neg c6]
  by_cases c7 : t < 230
  · rw [if_pos c7, if_pos c7]
    refine Or.inl ?_
    unfold cQl
    rw [h22 (t - 220) (by omega) (by omega)]
  rw [if_neg c7, if_neg c7]
  by_cases c8 : t < 240
  · rw [if_pos c8, if_pos c8]
    refine Or.inl ?_
    have hj : t - 230 < x.1 1 0 := by unfold liv at ht; omega
    have e2 : (fun i => if i < x.1 5 (t - 230) then some (g9 (300 + 10 * (t - 230) + x.1 (50 + (t - 230)) i)) else none) = (fun i => if i < x.1 5 (t - 230) then some (g (300 + 10 * (t - 230) + x.1 (50 + (t - 230)) i)) else none) := by
      funext i
      have q5 := hc50 (t - 230) i
      rw [show 300 + 10 * (t - 230) + x.1 (50 + (t - 230)) i = 300 + (10 * (t - 230) + x.1 (50 + (t - 230)) i) by omega, hg (300 + (10 * (t - 230) + x.1 (50 + (t - 230)) i)) (lv_sl (by omega) hn1) (by omega) (by omega) (Or.inr (by omega))]
    simp only [cQa, cArO, e2]
  rw [if_neg c8, if_neg c8]
  by_cases c9 : t < 300
  · rw [if_pos c9, if_pos c9]; exact Or.inl rfl
  rw [if_neg c9, if_neg c9]
  refine Or.inl ?_
  unfold cSl
  by_cases h : x.1 7 (t - 300) = 0
  · simp only [h, ↓reduceIte]
  · have q7 := hc7 (t - 300)
    rw [hg (100 + (x.1 7 (t - 300) - 1)) (lv_di (by omega) hn0) (by omega) (by omega) (Or.inl (by omega))]
theorem cel_st {t : Nat} (hr : t < 10 → cRt q g z t = cRt q g x t) (hd : ∀ d, t = 100 + d → d < 100 → cDi g z d = cDi g x d) (hb : ∀ j, t = 200 + j → j < 10 → cBx g z j = cBx g x j) (hl : ∀ j, t = 220 + j → j < 10 → cQl q g z j = cQl q g x j) (ha : ∀ j, t = 230 + j → j < 10 → cQa q g z j = cQa q g x j) (hk : ∀ j, t = 240 + j → j < 60 → cAs q z j = cAs q x j) (hs : ∀ a, t = 300 + a → cSl g z a = cSl g x a) : cel q g z y oL oD t = cel q g x y oL oD t := by
  unfold cel
  by_cases h1 : t < 10
  · rw [if_pos h1, if_pos h1]; exact hr h1
  rw [if_neg h1, if_neg h1]
  by_cases h2 : t < 40
  · rw [if_pos h2, if_pos h2]
  rw [if_neg h2, if_neg h2]
  by_cases h3 : t < 100
  · rw [if_pos h3, if_pos h3]
  rw [if_neg h3, if_neg h3]
  by_cases h4 : t < 200
  · rw [if_pos h4, if_pos h4]; exact hd _ (by omega) (by omega)
  rw [if_neg h4, if_neg h4]
  by_cases h5 : t < 210
  · rw [if_pos h5, if_pos h5]; exact hb _ (by omega) (by omega)
  rw [if_neg h5, if_neg h5]
  by_cases h6 : t < 220
  · rw [if_pos h6, if_pos h6]
  rw [if_neg h6, if_neg h6]
  by_cases h7 : t < 230
  · rw [if_pos h7, if_pos h7]; exact hl _ (by omega) (by omega)
  rw [if_neg h7, if_neg h7]
  by_cases h8 : t < 240
  · rw [if_pos h8, if_pos h8]; exact ha _ (by omega) (by omega)
  rw [if_neg h8, if_neg h8]
  by_cases h9 : t < 300
  · rw [if_pos h9, if_pos h9]; exact hk _ (by omega) (by omega)
  rw [if_neg h9, if_neg h9]
  exact hs _ (by omega)
theorem sameE.of {e1 e2 e3 : va_E} (h : e1 = e2) (h2 : sameE e2 e3) : sameE e1 e3 := by rw [h]; exact h2
end CELG
/-- press: a slot is put into the queue -/
def qAdd (x : St) (j k c9 : Nat) (md9 : Int32) : St := uN (uN (uN (uI x 22 j md9) 4 j c9) 5 j (x.1 5 j + 1)) (50 + j) (x.1 5 j) k
theorem qAdd_k (x : St) (j k c9 : Nat) (md9 : Int32) {m i : Nat} (h4 : m ≠ 4) (h5 : m ≠ 5) (h50 : m ≠ 50 + j) : (qAdd x j k c9 md9).1 m i = x.1 m i := by
  unfold qAdd
  simp only [uN, uI, va_up, h4, h5, h50, ↓reduceIte]
theorem qAdd_4 (x : St) (j k c9 : Nat) (md9 : Int32) (i : Nat) : (qAdd x j k c9 md9).1 4 i = if i = j then c9 else x.1 4 i := by
  unfold qAdd
  have e : ¬ (4 = 50 + j) := by omega
  simp [uN, uI, va_up, e]
theorem qAdd_5 (x : St) (j k c9 : Nat) (md9 : Int32) (i : Nat) : (qAdd x j k c9 md9).1 5 i = if i = j then x.1 5 j + 1 else x.1 5 i := by
  unfold qAdd
  have e : ¬ (5 = 50 + j) := by omega
  simp [uN, uI, va_up, e]
theorem qAdd_50 (x : St) (j k c9 : Nat) (md9 : Int32) (i : Nat) : (qAdd x j k c9 md9).1 (50 + j) i = if i = x.1 5 j then k else x.1 (50 + j) i := by
  unfold qAdd
  have e4 : ¬ (50 + j = 4) := by omega
  have e5 : ¬ (50 + j = 5) := by omega
  simp [uN, uI, va_up, e4, e5]
theorem qAdd_2 (x : St) (j k c9 : Nat) (md9 : Int32) {m : Nat} (h : m ≠ 22) : (qAdd x j k c9 md9).2 m = x.2 m := by
  unfold qAdd
  simp only [uN, uI, va_up, h, ↓reduceIte]
theorem qAdd_22 (x : St) (j k c9 : Nat) (md9 : Int32) (i : Nat) : (qAdd x j k c9 md9).2 22 i = if i = j then md9 else x.2 22 i := by
  unfold qAdd
  simp [uN, uI, va_up]
theorem pq_add {E : wE} {o : wO} {g g9 : Nat → Nat} {x y : St} {H : Heap} {j k c9 : Nat} {md9 : Int32} (hI : CI x) (hj : j < x.1 1 0) (hk : k < 10) (hc9 : c9 ≠ 0) (hg : ∀ t, t ≠ 230 + j → g9 t = g t) (h : wH E.1 E.2.2 g9 (fun t => liv x.1 t ∨ t = 230 + j) (va_up (va_up (cel E.2.1 g x y o.1 o.2) (230 + j) (cArO E.2.1 c9 (x.1 5 j + 1) (va_up (fun i => g (300 + 10 * j + x.1 (50 + j) i)) (x.1 5 j) (g (300 + (10 * j + k)))))) (220 + j) (cLst md9 c9 (x.1 5 j + 1) E.2.1.2 (g9 (230 + j)))) H) : wHS E o g9 (qAdd x j k c9 md9) y H := by
  have hn1 := hI.2.1
  refine wH_fin h (fun t ht => ?_)
  have hlv : liv x.1 t ∨ t = 230 + j := by
    unfold liv at ht ⊢
    rw [qAdd_k _ _ _ _ _ (by decide) (by decide) (by omega), qAdd_k _ _ _ _ _ (by decide) (by decide) (by omega), qAdd_k _ _ _ _ _ (by decide) (by decide) (by omega), qAdd_k _ _ _ _ _ (by decide) (by decide) (by omega), qAdd_4] at ht
    by_cases e : t - 230 = j
    · by_cases e2 : t = 230 + j
      · exact Or.inr e2
      · rw [if_pos e] at ht; omega
    · rw [if_neg e] at ht; omega
  refine ⟨hlv, ?_⟩
  by_cases e1 : t = 220 + j
  · subst e1
    refine Or.inl ?_
    rw [va_up_self, cel_ql (by omega)]
    show cLst ((qAdd x j k c9 md9).2 22 j) ((qAdd x j k c9 md9).1 4 j) ((qAdd x j k c9 md9).1 5 j) E.2.1.2 (g9 (230 + j)) = _
    rw [qAdd_22, qAdd_4, qAdd_5, if_pos rfl, if_pos rfl, if_pos rfl]
  rw [va_up_ne _ _ e1]
  by_cases e2 : t = 230 + j
  · subst e2
    refine Or.inl ?_
    rw [va_up_self, cel_qa (by omega)]
    show cArO E.2.1 ((qAdd x j k c9 md9).1 4 j) ((qAdd x j k c9 md9).1 5 j) (fun i => g9 (300 + 10 * j + (qAdd x j k c9 md9).1 (50 + j) i)) = _
    rw [qAdd_4, qAdd_5, if_pos rfl, if_pos rfl]
    have e3 : (fun i => g9 (300 + 10 * j + (qAdd x j k c9 md9).1 (50 + j) i)) = va_up (fun i => g (300 + 10 * j + x.1 (50 + j) i)) (x.1 5 j) (g (300 + (10 * j + k))) := by
      funext i
      rw [qAdd_50]
      by_cases e : i = x.1 5 j
      · rw [if_pos e, e, va_up_self, hg _ (by omega), Nat.add_assoc]
      · rw [if_neg e, va_up_ne _ _ e, hg _ (by omega)]
    rw [e3]
  rw [va_up_ne _ _ e2]
  have hl : liv x.1 t := hlv.elim id (fun q => absurd q e2)
  refine sameE.of (cel_st (x := x) (fun c1 => ?_) (fun d hd hd1 => ?_) (fun i hi hi1 => ?_) (fun i hi hi1 => ?_) (fun i hi hi1 => ?_) (fun i hi hi1 => ?_) (fun a ha => ?_)) (cel_live hI (fun t' _ _ _ c => hg t' (by omega)) hl (fun _ => hg 2 (by omega)) (fun _ => hg 4 (by omega)) (fun i hi _ => hg (230 + i) (by omega)))
  · have e0 : ∀ m i, m ≠ 4 → m ≠ 5 → m < 50 → (qAdd x j k c9 md9).1 m i = x.1 m i := fun m i a b c => qAdd_k _ _ _ _ _ a b (by omega)
    have f0 : ∀ m, m ≠ 22 → (qAdd x j k c9 md9).2 m = x.2 m := fun m a => qAdd_2 _ _ _ _ _ a
    unfold cRt
    split <;> simp only [e0 0 0 (by decide) (by decide) (by decide), e0 1 0 (by decide) (by decide) (by decide), e0 2 0 (by decide) (by decide) (by decide), e0 3 0 (by decide) (by decide) (by decide), e0 9 0 (by decide) (by decide) (by decide), f0 16 (by decide), f0 17 (by decide), f0 18 (by decide), f0 19 (by decide), f0 20 (by decide), f0 21 (by decide), f0 24 (by decide), f0 25 (by decide)]
  · unfold cDi
    simp only [qAdd_k x j k c9 md9 (m := 12) (i := d) (by decide) (by decide) (by omega), qAdd_k x j k c9 md9 (m := 8) (i := d) (by decide) (by decide) (by omega), qAdd_2 x j k c9 md9 (m := 1) (by decide), qAdd_2 x j k c9 md9 (m := 2) (by decide), qAdd_2 x j k c9 md9 (m := 3) (by decide), qAdd_2 x j k c9 md9 (m := 23) (by decide)]
  · unfold cBx
    simp only [qAdd_k x j k c9 md9 (m := 10) (i := i) (by decide) (by decide) (by omega), qAdd_2 x j k c9 md9 (m := 4) (by decide), qAdd_2 x j k c9 md9 (m := 5) (by decide), qAdd_2 x j k c9 md9 (m := 6) (by decide), qAdd_2 x j k c9 md9 (m := 7) (by decide), qAdd_2 x j k c9 md9 (m := 8) (by decide), qAdd_2 x j k c9 md9 (m := 9) (by decide), qAdd_2 x j k c9 md9 (m := 10) (by decide), qAdd_2 x j k c9 md9 (m := 11) (by decide), qAdd_2 x j k c9 md9 (m := 12) (by decide), qAdd_2 x j k c9 md9 (m := 13) (by decide)]
  · have ne : i ≠ j := by omega
    unfold cQl
    rw [qAdd_22, qAdd_4, qAdd_5, if_neg ne, if_neg ne, if_neg ne]
  · have ne : i ≠ j := by omega
    unfold cQa
    rw [qAdd_4, qAdd_5, if_neg ne, if_neg ne]
    have e3 : (fun a => g9 (300 + 10 * i + (qAdd x j k c9 md9).1 (50 + i) a)) = (fun a => g9 (300 + 10 * i + x.1 (50 + i) a)) := by
      funext a
      rw [qAdd_k _ _ _ _ _ (by omega) (by omega) (by omega)]
    rw [e3]
  · unfold cAs
    rw [qAdd_2 _ _ _ _ _ (by omega)]
  · unfold cSl
    simp only [qAdd_k x j k c9 md9 (m := 7) (i := a) (by decide) (by decide) (by omega), qAdd_2 x j k c9 md9 (m := 14) (by decide)]
/-- play: the first slot of the queue goes -/
def qRem (x : St) (j n : Nat) (md9 : Int32) : St := (va_up (va_up x.1 5 (va_up (x.1 5) j n)) (50 + j) (fun i => x.1 (50 + j) (i + 1)), va_up x.2 22 (va_up (x.2 22) j md9))
theorem qRem_k (x : St) (j n : Nat) (md9 : Int32) {m : Nat} (h5 : m ≠ 5) (h50 : m ≠ 50 + j) : (qRem x j n md9).1 m = x.1 m := by
  unfold qRem
  simp only [va_up, h5, h50, ↓reduceIte]
theorem qRem_5 (x : St) (j n : Nat) (md9 : Int32) (i : Nat) : (qRem x j n md9).1 5 i = if i = j then n else x.1 5 i := by
  unfold qRem
  have e : ¬ (5 = 50 + j) := by omega
  simp [va_up, e]
theorem qRem_50 (x : St) (j n : Nat) (md9 : Int32) (i : Nat) : (qRem x j n md9).1 (50 + j) i = x.1 (50 + j) (i + 1) := by
  unfold qRem
  simp [va_up]
theorem qRem_2 (x : St) (j n : Nat) (md9 : Int32) {m : Nat} (h : m ≠ 22) : (qRem x j n md9).2 m = x.2 m := by
  unfold qRem
  simp only [va_up, h, ↓reduceIte]
theorem qRem_22 (x : St) (j n : Nat) (md9 : Int32) (i : Nat) : (qRem x j n md9).2 22 i = if i = j then md9 else x.2 22 i := by
  unfold qRem
  simp [va_up]
theorem pq_rem {E : wE} {o : wO} {g : Nat → Nat} {x y : St} {H : Heap} {j n : Nat} {md9 : Int32} (hj : j < 4) (h0 : x.1 4 j ≠ 0) (h : wH E.1 E.2.2 g (liv x.1) (va_up (va_up (cel E.2.1 g x y o.1 o.2) (230 + j) (cArO E.2.1 (x.1 4 j) n (fun i => g (300 + 10 * j + x.1 (50 + j) (i + 1))))) (220 + j) (.inr (2, [.int md9, .ref (g (230 + j)), .int (nI n)]))) H) : wHS E o g (qRem x j n md9) y H := by
  refine wH_cg h (fun t ht => ?_)
  have hlv : liv x.1 t := by
    unfold liv at ht ⊢
    rw [qRem_k _ _ _ _ (by decide) (by omega), qRem_k _ _ _ _ (by decide) (by omega), qRem_k _ _ _ _ (by decide) (by omega), qRem_k _ _ _ _ (by decide) (by omega), qRem_k _ _ _ _ (by decide) (by omega)] at ht
    exact ht
  refine ⟨hlv, ?_⟩
  by_cases e1 : t = 220 + j
  · subst e1
    rw [va_up_self, cel_ql (by omega)]
    show cLst ((qRem x j n md9).2 22 j) ((qRem x j n md9).1 4 j) ((qRem x j n md9).1 5 j) E.2.1.2 (g (230 + j)) = _
    rw [qRem_22, qRem_k _ _ _ _ (by decide) (by omega), qRem_5, if_pos rfl, if_pos rfl]
    unfold cLst
    rw [if_neg h0]
  rw [va_up_ne _ _ e1]
  by_cases e2 : t = 230 + j
  · subst e2
    rw [va_up_self, cel_qa (by omega)]
    show cArO E.2.1 ((qRem x j n md9).1 4 j) ((qRem x j n md9).1 5 j) (fun i => g (300 + 10 * j + (qRem x j n md9).1 (50 + j) i)) = _
    have e3 : (fun i => g (300 + 10 * j + (qRem x j n md9).1 (50 + j) i)) = (fun i => g (300 + 10 * j + x.1 (50 + j) (i + 1))) := by
      funext i
      rw [qRem_50]
    rw [qRem_k _ _ _ _ (by decide) (by omega), qRem_5, if_pos rfl, e3]
  rw [va_up_ne _ _ e2]
  refine cel_st (x := x) (fun c1 => ?_) (fun d hd hd1 => ?_) (fun i hi hi1 => ?_) (fun i hi hi1 => ?_) (fun i hi hi1 => ?_) (fun i hi hi1 => ?_) (fun a ha => ?_)
  · have e0 : ∀ m, m ≠ 5 → m < 50 → (qRem x j n md9).1 m = x.1 m := fun m a b => qRem_k _ _ _ _ a (by omega)
    have f0 : ∀ m, m ≠ 22 → (qRem x j n md9).2 m = x.2 m := fun m a => qRem_2 _ _ _ _ a
    unfold cRt
    split <;> simp only [e0 0 (by decide) (by decide), e0 1 (by decide) (by decide), e0 2 (by decide) (by decide), e0 3 (by decide) (by decide), e0 9 (by decide) (by decide), f0 16 (by decide), f0 17 (by decide), f0 18 (by decide), f0 19 (by decide), f0 20 (by decide), f0 21 (by decide), f0 24 (by decide), f0 25 (by decide)]
  · unfold cDi
    simp only [qRem_k x j n md9 (m := 12) (by decide) (by omega), qRem_k x j n md9 (m := 8) (by decide) (by omega), qRem_2 x j n md9 (m := 1) (by decide), qRem_2 x j n md9 (m := 2) (by decide), qRem_2 x j n md9 (m := 3) (by decide), qRem_2 x j n md9 (m := 23) (by decide)]
  · unfold cBx
    simp only [qRem_k x j n md9 (m := 10) (by decide) (by omega), qRem_2 x j n md9 (m := 4) (by decide), qRem_2 x j n md9 (m := 5) (by decide), qRem_2 x j n md9 (m := 6) (by decide), qRem_2 x j n md9 (m := 7) (by decide), qRem_2 x j n md9 (m := 8) (by decide), qRem_2 x j n md9 (m := 9) (by decide), qRem_2 x j n md9 (m := 10) (by decide), qRem_2 x j n md9 (m := 11) (by decide), qRem_2 x j n md9 (m := 12) (by decide), qRem_2 x j n md9 (m := 13) (by decide)]
  · have ne : i ≠ j := by omega
    unfold cQl
    rw [qRem_22, qRem_k _ _ _ _ (by decide) (by omega), qRem_5, if_neg ne, if_neg ne]
  · have ne : i ≠ j := by omega
    unfold cQa
    rw [qRem_k _ _ _ _ (by decide) (by omega), qRem_5, if_neg ne, qRem_k _ _ _ _ (by omega) (by omega)]
  · unfold cAs
    rw [qRem_2 _ _ _ _ (by omega)]
  · unfold cSl
    simp only [qRem_k x j n md9 (m := 7) (by decide) (by omega), qRem_2 x j n md9 (m := 14) (by decide)]
