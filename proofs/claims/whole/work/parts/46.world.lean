/-! ===== a disc more, a box more ===== -/
/-- what is not there yet is as new -/
def FrD (x : St) : Prop := ∀ d, x.1 0 0 ≤ d → x.1 8 d = 1 ∧ x.2 3 d = 0 ∧ x.2 23 d = 0
def FrB (x : St) : Prop := (∀ j, x.1 1 0 ≤ j → x.2 6 j = 0 ∧ x.2 7 j = 0 ∧ x.2 8 j = 0 ∧ x.2 9 j = 0 ∧ x.2 10 j = 0 ∧ x.2 11 j = 0 ∧ x.2 12 j = 0 ∧ x.2 13 j = 0 ∧ x.2 22 j = 0 ∧ x.1 10 j = 0 ∧ x.1 4 j = 0 ∧ x.1 5 j = 0 ∧ (j < 4 → ∀ s, x.2 (100 + j) s = 0)) ∧ ∀ a, 10 * x.1 1 0 ≤ a → x.1 7 a = 0 ∧ x.2 14 a = 0
def dAdd (x : St) (so : Nat) (st fw : Int32) (c9 : Nat) (md9 : Int32) : St := uI (uN (uN (uI (uI (uN x 12 (x.1 0 0) so) 1 (x.1 0 0) st) 2 (x.1 0 0) fw) 2 0 c9) 0 0 (x.1 0 0 + 1)) 20 0 md9
theorem dAdd_k (x : St) (so : Nat) (st fw : Int32) (c9 : Nat) (md9 : Int32) {m : Nat} (h0 : m ≠ 0) (h2 : m ≠ 2) (h12 : m ≠ 12) : (dAdd x so st fw c9 md9).1 m = x.1 m := by
  unfold dAdd
  simp only [uN, uI, va_up, h0, h2, h12, ↓reduceIte]
theorem dAdd_0 (x : St) (so : Nat) (st fw : Int32) (c9 : Nat) (md9 : Int32) : (dAdd x so st fw c9 md9).1 0 0 = x.1 0 0 + 1 := by
  unfold dAdd
  simp [uN, uI, va_up]
theorem dAdd_2c (x : St) (so : Nat) (st fw : Int32) (c9 : Nat) (md9 : Int32) : (dAdd x so st fw c9 md9).1 2 0 = c9 := by
  unfold dAdd
  simp [uN, uI, va_up]
theorem dAdd_12 (x : St) (so : Nat) (st fw : Int32) (c9 : Nat) (md9 : Int32) (d : Nat) : (dAdd x so st fw c9 md9).1 12 d = if d = x.1 0 0 then so else x.1 12 d := by
  unfold dAdd
  simp [uN, uI, va_up]
theorem dAdd_i (x : St) (so : Nat) (st fw : Int32) (c9 : Nat) (md9 : Int32) {m : Nat} (h1 : m ≠ 1) (h2 : m ≠ 2) (h20 : m ≠ 20) : (dAdd x so st fw c9 md9).2 m = x.2 m := by
  unfold dAdd
  simp only [uN, uI, va_up, h1, h2, h20, ↓reduceIte]
theorem dAdd_i1 (x : St) (so : Nat) (st fw : Int32) (c9 : Nat) (md9 : Int32) (d : Nat) : (dAdd x so st fw c9 md9).2 1 d = if d = x.1 0 0 then st else x.2 1 d := by
  unfold dAdd
  simp [uN, uI, va_up]
theorem dAdd_i2 (x : St) (so : Nat) (st fw : Int32) (c9 : Nat) (md9 : Int32) (d : Nat) : (dAdd x so st fw c9 md9).2 2 d = if d = x.1 0 0 then fw else x.2 2 d := by
  unfold dAdd
  simp [uN, uI, va_up]
theorem dAdd_i20 (x : St) (so : Nat) (st fw : Int32) (c9 : Nat) (md9 : Int32) : (dAdd x so st fw c9 md9).2 20 0 = md9 := by
  unfold dAdd
  simp [uN, uI, va_up]
theorem pd_add {E : wE} {o : wO} {g g9 : Nat → Nat} {q9 : Nat} {x y : St} {H : Heap} {so c9 : Nat} {st fw md9 : Int32} (hI : CI x) (hFr : FrD x) (hlt : x.1 0 0 < 30) (hc9 : c9 ≠ 0) (hg : ∀ t, t ≠ 2 → g9 t = va_up g 900 q9 t) (h : wH E.1 E.2.2 g9 (fun t => (liv x.1 t ∨ t = 900) ∨ t = 2) (va_up (va_up (va_up (cel E.2.1 g x y o.1 o.2) 900 (.inr (4, [.int (nI (x.1 0 0)), .int (nI so), .int st, .int fw, .int 0, .int 0, .null, .int 0]))) 2 (cArO E.2.1 c9 (x.1 0 0 + 1) (va_up (fun i => g (100 + i)) (x.1 0 0) q9))) 1 (cLst md9 c9 (x.1 0 0 + 1) E.2.1.2 (g9 2))) H) : wHS E o (fun t => g9 (if t = 100 + x.1 0 0 then 900 else t)) (dAdd x so st fw c9 md9) y H := by
  have hn1 := hI.2.1
  have hn0 := hI.1
  obtain ⟨n, en⟩ : ∃ z, z = x.1 0 0 := ⟨_, rfl⟩
  obtain ⟨z, ez⟩ : ∃ z, z = dAdd x so st fw c9 md9 := ⟨_, rfl⟩
  obtain ⟨g8, e8⟩ : ∃ z, z = fun t => g9 (if t = 100 + x.1 0 0 then 900 else t) := ⟨_, rfl⟩
  rw [← ez, ← e8]
  have zk : ∀ m, m ≠ 0 → m ≠ 2 → m ≠ 12 → z.1 m = x.1 m := fun m a b c => by rw [ez]; exact dAdd_k _ _ _ _ _ _ a b c
  have z0 : z.1 0 0 = n + 1 := by rw [ez, en]; exact dAdd_0 _ _ _ _ _ _
  have z2 : z.1 2 0 = c9 := by rw [ez]; exact dAdd_2c _ _ _ _ _ _
  have z12 : ∀ d, z.1 12 d = if d = n then so else x.1 12 d := fun d => by rw [ez, en]; exact dAdd_12 _ _ _ _ _ _ d
  have zi : ∀ m, m ≠ 1 → m ≠ 2 → m ≠ 20 → z.2 m = x.2 m := fun m a b c => by rw [ez]; exact dAdd_i _ _ _ _ _ _ a b c
  have zi1 : ∀ d, z.2 1 d = if d = n then st else x.2 1 d := fun d => by rw [ez, en]; exact dAdd_i1 _ _ _ _ _ _ d
  have zi2 : ∀ d, z.2 2 d = if d = n then fw else x.2 2 d := fun d => by rw [ez, en]; exact dAdd_i2 _ _ _ _ _ _ d
  have zi20 : z.2 20 0 = md9 := by rw [ez]; exact dAdd_i20 _ _ _ _ _ _
  have hlv : ∀ t, liv z.1 t → t = 100 + n ∨ liv x.1 t ∨ t = 2 := by
    intro t ht
    unfold liv at ht ⊢
    rw [z0, z2, zk 3 (by decide) (by decide) (by decide), zk 1 (by decide) (by decide) (by decide), zk 4 (by decide) (by decide) (by decide)] at ht
    omega
  have hg8 : ∀ t, t ≠ 100 + n → g8 t = g9 t := fun t ht => by rw [e8]; show g9 (if t = 100 + x.1 0 0 then 900 else t) = _; rw [if_neg (by omega)]
  have hgo : ∀ t, t ≠ 100 + n → t ≠ 2 → t ≠ 900 → g8 t = g t := fun t a b c => by rw [hg8 t a, hg t b, va_up_ne _ _ c]
  have hgn : g8 (100 + n) = q9 := by rw [e8]; show g9 (if 100 + n = 100 + x.1 0 0 then 900 else 100 + n) = _; rw [if_pos (by rw [en]), hg 900 (by decide), va_up_self]
  have h900 : ¬ liv x.1 900 := by unfold liv; omega
  have hb900 : ∀ t, liv x.1 t → t < 900 := by intro t ht; unfold liv at ht; omega
  have hnn : ¬ liv x.1 (100 + n) := by unfold liv; omega
  rw [← en] at h
  have h2 := wH_re (g' := g8) (live' := liv z.1) (F' := fun t => (va_up (va_up (va_up (cel E.2.1 g x y o.1 o.2) 900 (.inr (4, [.int (nI n), .int (nI so), .int st, .int fw, .int 0, .int 0, .null, .int 0]))) 2 (cArO E.2.1 c9 (n + 1) (va_up (fun i => g (100 + i)) n q9))) 1 (cLst md9 c9 (n + 1) E.2.1.2 (g9 2))) (if t = 100 + n then 900 else t)) h (fun t => if t = 100 + n then 900 else t) (fun t ht => ?_) (fun t t' ht ht' e => ?_)
  · refine wH_ce h2 (fun t ht => ?_)
    show sameE (cel E.2.1 g8 z y o.1 o.2 t) _
    by_cases e1 : t = 100 + n
    · refine Or.inl ?_
      rw [if_pos e1, va_up_ne _ _ (by decide), va_up_ne _ _ (by decide), va_up_self, e1, cel_di (by omega)]
      have f := hFr n (by omega)
      unfold cDi
      rw [z12, if_pos rfl, zi1, if_pos rfl, zi2, if_pos rfl, zi 3 (by decide) (by decide) (by decide), f.2.1, zk 8 (by decide) (by decide) (by decide), f.1, zi 23 (by decide) (by decide) (by decide), f.2.2]
      rfl
    rw [if_neg e1]
    by_cases e2 : t = 1
    · refine Or.inl ?_
      rw [e2, va_up_self, cel_rt (by decide)]
      show cLst (z.2 20 0) (z.1 2 0) (z.1 0 0) E.2.1.2 (g8 2) = _
      rw [zi20, z2, z0, hg8 2 (by omega)]
    rw [va_up_ne _ _ e2]
    by_cases e3 : t = 2
    · refine Or.inl ?_
      rw [e3, va_up_self, cel_rt (by decide)]
      show cArO E.2.1 (z.1 2 0) (z.1 0 0) (fun i => g8 (100 + i)) = _
      rw [z2, z0]
      have e4 : (fun i => if i < n + 1 then some (g8 (100 + i)) else none) = (fun i => if i < n + 1 then some (va_up (fun i => g (100 + i)) n q9 i) else none) := by
        funext i
        by_cases q : i = n
        · rw [q, hgn, va_up_self]
        · rw [va_up_ne _ _ q]
          by_cases q2 : i < n + 1
          · rw [if_pos q2, if_pos q2, hgo _ (by omega) (by omega) (by omega)]
          · rw [if_neg q2, if_neg q2]
      unfold cArO
      rw [e4]
    rw [va_up_ne _ _ e3]
    have hl : liv x.1 t := ((hlv t ht).resolve_left e1).resolve_right e3
    have hl9 := hb900 t hl
    rw [va_up_ne _ _ (by omega)]
    refine sameE.of (cel_st (x := x) (fun c1 => ?_) (fun d hd hd1 => ?_) (fun i hi hi1 => ?_) (fun i hi hi1 => ?_) (fun i hi hi1 => ?_) (fun i hi hi1 => ?_) (fun a ha => ?_)) (cel_live hI (fun t' a b c d => hgo t' (fun q => hnn (q ▸ a)) b (fun q => h900 (q ▸ a))) hl (fun q => absurd q e2) (fun _ => hgo 4 (by omega) (by omega) (by omega)) (fun i hi _ => hgo (230 + i) (by omega) (by omega) (by omega)))
    · have c3 : t = 0 ∨ t = 3 ∨ t = 4 ∨ t = 5 ∨ t = 6 := by unfold liv at hl; omega
      rcases c3 with rfl | rfl | rfl | rfl | rfl
      · simp only [cRt, zi 16 (by decide) (by decide) (by decide), zk 9 (by decide) (by decide) (by decide), zi 17 (by decide) (by decide) (by decide), zi 19 (by decide) (by decide) (by decide), zi 18 (by decide) (by decide) (by decide)]
      · simp only [cRt, zi 21 (by decide) (by decide) (by decide), zk 3 (by decide) (by decide) (by decide), zk 1 (by decide) (by decide) (by decide)]
      · simp only [cRt, zk 3 (by decide) (by decide) (by decide), zk 1 (by decide) (by decide) (by decide)]
      · simp only [cRt, zi 24 (by decide) (by decide) (by decide)]
      · simp only [cRt, zi 25 (by decide) (by decide) (by decide)]
    · have ne : ¬ d = n := by omega
      unfold cDi
      rw [z12, if_neg ne, zi1, if_neg ne, zi2, if_neg ne, zi 3 (by decide) (by decide) (by decide), zk 8 (by decide) (by decide) (by decide), zi 23 (by decide) (by decide) (by decide)]
    · unfold cBx
      rw [zi 4 (by decide) (by decide) (by decide), zi 5 (by decide) (by decide) (by decide), zi 6 (by decide) (by decide) (by decide), zi 7 (by decide) (by decide) (by decide), zi 8 (by decide) (by decide) (by decide), zi 9 (by decide) (by decide) (by decide), zi 10 (by decide) (by decide) (by decide), zk 10 (by decide) (by decide) (by decide), zi 11 (by decide) (by decide) (by decide), zi 12 (by decide) (by decide) (by decide), zi 13 (by decide) (by decide) (by decide)]
    · unfold cQl
      rw [zi 22 (by decide) (by decide) (by decide), zk 4 (by decide) (by decide) (by decide), zk 5 (by decide) (by decide) (by decide)]
    · unfold cQa
      rw [zk 4 (by decide) (by decide) (by decide), zk 5 (by decide) (by decide) (by decide), zk (50 + i) (by omega) (by omega) (by omega)]
    · unfold cAs
      rw [zi (100 + i) (by omega) (by omega) (by omega)]
    · unfold cSl
      rw [zk 7 (by decide) (by decide) (by decide), zi 14 (by decide) (by decide) (by decide)]
  · refine ⟨by unfold liv at ht; omega, ?_, ?_, rfl⟩
    · by_cases e1 : t = 100 + n
      · rw [if_pos e1]; exact Or.inl (Or.inr rfl)
      · rw [if_neg e1]
        rcases (hlv t ht).resolve_left e1 with q | q
        · exact Or.inl (Or.inl q)
        · exact Or.inr q
    · rw [e8, en]
  · try dsimp only at e
    have a1 : t < 900 ∨ t = 100 + n := by unfold liv at ht; omega
    have a2 : t' < 900 ∨ t' = 100 + n := by unfold liv at ht'; omega
    split at e <;> split at e <;> omega
/-- a new box's tags -/
def fmB (n t : Nat) : Nat := if t = 200 + n then 900 else if t = 210 + n then 901 else if t = 220 + n then 902 else if t = 240 + n then 903 else if 300 + 10 * n ≤ t ∧ t < 310 + 10 * n then t - (300 + 10 * n) + 910 else t
theorem fmB_cs (n t : Nat) (h : t < 900) : (fmB n t < 900 ∧ fmB n t = t) ∨ (fmB n t = 900 ∧ t = 200 + n) ∨ (fmB n t = 901 ∧ t = 210 + n) ∨ (fmB n t = 902 ∧ t = 220 + n) ∨ (fmB n t = 903 ∧ t = 240 + n) ∨ (910 ≤ fmB n t ∧ fmB n t < 920 ∧ t + 910 = fmB n t + (300 + 10 * n)) := by
  unfold fmB
  by_cases c1 : t = 200 + n
  · rw [if_pos c1]; omega
  rw [if_neg c1]
  by_cases c2 : t = 210 + n
  · rw [if_pos c2]; omega
  rw [if_neg c2]
  by_cases c3 : t = 220 + n
  · rw [if_pos c3]; omega
  rw [if_neg c3]
  by_cases c4 : t = 240 + n
  · rw [if_pos c4]; omega
  rw [if_neg c4]
  by_cases c5 : 300 + 10 * n ≤ t ∧ t < 310 + 10 * n
  · rw [if_pos c5]; omega
  rw [if_neg c5]
  omega
def bAdd (x : St) (sh ta : Int32) (c9 : Nat) (md9 : Int32) : St := uI (uN (uN (uI (uI x 4 (x.1 1 0) sh) 5 (x.1 1 0) ta) 3 0 c9) 1 0 (x.1 1 0 + 1)) 21 0 md9
theorem bAdd_k (x : St) (sh ta : Int32) (c9 : Nat) (md9 : Int32) {m : Nat} (h1 : m ≠ 1) (h3 : m ≠ 3) : (bAdd x sh ta c9 md9).1 m = x.1 m := by
  unfold bAdd
  simp only [uN, uI, va_up, h1, h3, ↓reduceIte]
theorem bAdd_1 (x : St) (sh ta : Int32) (c9 : Nat) (md9 : Int32) : (bAdd x sh ta c9 md9).1 1 0 = x.1 1 0 + 1 := by
  unfold bAdd
  simp [uN, uI, va_up]
theorem bAdd_3 (x : St) (sh ta : Int32) (c9 : Nat) (md9 : Int32) : (bAdd x sh ta c9 md9).1 3 0 = c9 := by
  unfold bAdd
  simp [uN, uI, va_up]
theorem bAdd_i (x : St) (sh ta : Int32) (c9 : Nat) (md9 : Int32) {m : Nat} (h4 : m ≠ 4) (h5 : m ≠ 5) (h21 : m ≠ 21) : (bAdd x sh ta c9 md9).2 m = x.2 m := by
  unfold bAdd
  simp only [uN, uI, va_up, h4, h5, h21, ↓reduceIte]
theorem bAdd_i4 (x : St) (sh ta : Int32) (c9 : Nat) (md9 : Int32) (j : Nat) : (bAdd x sh ta c9 md9).2 4 j = if j = x.1 1 0 then sh else x.2 4 j := by
  unfold bAdd
  simp [uN, uI, va_up]
theorem bAdd_i5 (x : St) (sh ta : Int32) (c9 : Nat) (md9 : Int32) (j : Nat) : (bAdd x sh ta c9 md9).2 5 j = if j = x.1 1 0 then ta else x.2 5 j := by
  unfold bAdd
  simp [uN, uI, va_up]
theorem bAdd_i21 (x : St) (sh ta : Int32) (c9 : Nat) (md9 : Int32) : (bAdd x sh ta c9 md9).2 21 0 = md9 := by
  unfold bAdd
  simp [uN, uI, va_up]
theorem pb_add {E : wE} {o : wO} {g g2 g9 : Nat → Nat} {q9 : Nat} {x y : St} {H : Heap} {c9 : Nat} {sh ta md9 : Int32} {B0 : va_E} (hI : CI x) (hFr : FrB x) (hlt : x.1 1 0 < 4) (hc9 : c9 ≠ 0) (hg2 : ∀ t, t < 901 → g2 t = va_up g 900 q9 t) (hg : ∀ t, t ≠ 4 → g9 t = g2 t) (h : wH E.1 E.2.2 g9 (fun t => ((liv x.1 t ∨ t = 900) ∨ (901 ≤ t ∧ t < 904) ∨ (910 ≤ t ∧ t < 920)) ∨ t = 4) (va_up (va_up (fun t => if t < 900 then va_up (cel E.2.1 g x y o.1 o.2) 900 B0 t else bxF E.2.1 g2 (nI (x.1 1 0)) sh ta t) 4 (cArO E.2.1 c9 (x.1 1 0 + 1) (va_up (fun i => g (200 + i)) (x.1 1 0) (g2 900)))) 3 (cLst md9 c9 (x.1 1 0 + 1) E.2.1.2 (g9 4))) H) : wHS E o (fun t => g9 (fmB (x.1 1 0) t)) (bAdd x sh ta c9 md9) y H := by
  have hn0 := hI.1
  obtain ⟨n, en⟩ : ∃ z, z = x.1 1 0 := ⟨_, rfl⟩
  obtain ⟨z, ez⟩ : ∃ z, z = bAdd x sh ta c9 md9 := ⟨_, rfl⟩
  obtain ⟨g8, e8⟩ : ∃ z, z = fun t => g9 (fmB (x.1 1 0) t) := ⟨_, rfl⟩
  rw [← ez, ← e8]
  rw [← en] at h hlt
  have zk : ∀ m, m ≠ 1 → m ≠ 3 → z.1 m = x.1 m := fun m a b => by rw [ez]; exact bAdd_k _ _ _ _ _ a b
  have z1 : z.1 1 0 = n + 1 := by rw [ez, en]; exact bAdd_1 _ _ _ _ _
  have z3 : z.1 3 0 = c9 := by rw [ez]; exact bAdd_3 _ _ _ _ _
  have zi : ∀ m, m ≠ 4 → m ≠ 5 → m ≠ 21 → z.2 m = x.2 m := fun m a b c => by rw [ez]; exact bAdd_i _ _ _ _ _ a b c
  have zi4 : ∀ j, z.2 4 j = if j = n then sh else x.2 4 j := fun j => by rw [ez, en]; exact bAdd_i4 _ _ _ _ _ j
  have zi5 : ∀ j, z.2 5 j = if j = n then ta else x.2 5 j := fun j => by rw [ez, en]; exact bAdd_i5 _ _ _ _ _ j
  have zi21 : z.2 21 0 = md9 := by rw [ez]; exact bAdd_i21 _ _ _ _ _
  have hg8 : ∀ t, g8 t = g9 (fmB n t) := fun t => by rw [e8, en]
  have fm0 : ∀ t, t ≠ 200 + n → t ≠ 210 + n → t ≠ 220 + n → t ≠ 240 + n → (t < 300 + 10 * n ∨ 310 + 10 * n ≤ t) → fmB n t = t := fun t a b c d e => by
    unfold fmB
    rw [if_neg a, if_neg b, if_neg c, if_neg d, if_neg (by omega)]
  have fm1 : fmB n (200 + n) = 900 := by unfold fmB; rw [if_pos rfl]
  have fm2 : fmB n (210 + n) = 901 := by unfold fmB; rw [if_neg (by omega), if_pos rfl]
  have fm3 : fmB n (220 + n) = 902 := by unfold fmB; rw [if_neg (by omega), if_neg (by omega), if_pos rfl]
  have fm4 : fmB n (240 + n) = 903 := by unfold fmB; rw [if_neg (by omega), if_neg (by omega), if_neg (by omega), if_pos rfl]
  have fm5 : ∀ k, k < 10 → fmB n (300 + (10 * n + k)) = 910 + k := fun k hk => by unfold fmB; rw [if_neg (by omega), if_neg (by omega), if_neg (by omega), if_neg (by omega), if_pos (by omega)]; omega
  have f0 := hFr.1 n (by omega)
  have hlv : ∀ t, liv z.1 t → (liv x.1 t ∧ fmB n t = t) ∨ t = 4 ∨ t = 200 + n ∨ t = 210 + n ∨ t = 220 + n ∨ t = 240 + n ∨ (300 + 10 * n ≤ t ∧ t < 310 + 10 * n) := by
    intro t ht
    have c4 : x.1 4 n = 0 := f0.2.2.2.2.2.2.2.2.2.2.1
    by_cases e230 : t = 230 + n
    · exfalso
      unfold liv at ht
      rw [z3, zk 0 (by decide) (by decide), zk 2 (by decide) (by decide), z1, zk 4 (by decide) (by decide), e230, show 230 + n - 230 = n by omega] at ht
      omega
    by_cases es : t = 4 ∨ t = 200 + n ∨ t = 210 + n ∨ t = 220 + n ∨ t = 240 + n ∨ (300 + 10 * n ≤ t ∧ t < 310 + 10 * n)
    · exact Or.inr es
    · refine Or.inl ⟨?_, fm0 t (by omega) (by omega) (by omega) (by omega) (by omega)⟩
      unfold liv at ht ⊢
      rw [z3, zk 0 (by decide) (by decide), zk 2 (by decide) (by decide), z1, zk 4 (by decide) (by decide)] at ht
      omega
  have hb900 : ∀ t, liv x.1 t → t < 900 := by intro t ht; unfold liv at ht; omega
  have hgo : ∀ t, liv x.1 t → t ≠ 4 → g8 t = g t := by
    intro t ht h4
    have q := hb900 t ht
    have e : fmB n t = t := fm0 t (by unfold liv at ht; omega) (by unfold liv at ht; omega) (by unfold liv at ht; omega) (by unfold liv at ht; omega) (by unfold liv at ht; omega)
    rw [hg8, e, hg t h4, hg2 t (by omega), va_up_ne _ _ (by omega)]
  have h2 := wH_re (g' := g8) (live' := liv z.1) (F' := fun t => (va_up (va_up (fun t => if t < 900 then va_up (cel E.2.1 g x y o.1 o.2) 900 B0 t else bxF E.2.1 g2 (nI n) sh ta t) 4 (cArO E.2.1 c9 (n + 1) (va_up (fun i => g (200 + i)) n (g2 900)))) 3 (cLst md9 c9 (n + 1) E.2.1.2 (g9 4))) (fmB n t)) h (fmB n) (fun t ht => ?_) (fun t t' ht ht' e => ?_)
  · refine wH_ce h2 (fun t ht => ?_)
    show sameE (cel E.2.1 g8 z y o.1 o.2 t) _
    rcases hlv t ht with ⟨hl, ef⟩ | e1 | e1 | e1 | e1 | e1 | e1
    · rw [ef]
      have hl9 := hb900 t hl
      by_cases e2 : t = 3
      · refine Or.inl ?_
        rw [e2, va_up_self, cel_rt (by decide)]
        show cLst (z.2 21 0) (z.1 3 0) (z.1 1 0) E.2.1.2 (g8 4) = _
        rw [zi21, z3, z1, hg8, fm0 4 (by omega) (by omega) (by omega) (by omega) (by omega)]
      rw [va_up_ne _ _ e2]
      by_cases e3 : t = 4
      · refine Or.inl ?_
        rw [e3, va_up_self, cel_rt (by decide)]
        show cArO E.2.1 (z.1 3 0) (z.1 1 0) (fun i => g8 (200 + i)) = _
        rw [z3, z1]
        have e4 : (fun i => if i < n + 1 then some (g8 (200 + i)) else none) = (fun i => if i < n + 1 then some (va_up (fun i => g (200 + i)) n (g2 900) i) else none) := by
          funext i
          by_cases q : i = n
          · rw [q, hg8, fm1, va_up_self, hg 900 (by decide)]
          · rw [va_up_ne _ _ q]
            by_cases q2 : i < n + 1
            · rw [if_pos q2, if_pos q2, hgo (200 + i) (lv_bx (by omega) (by omega)) (by omega)]
            · rw [if_neg q2, if_neg q2]
        unfold cArO
        rw [e4]
      rw [va_up_ne _ _ e3, if_pos hl9, va_up_ne _ _ (by omega)]
      refine sameE.of (cel_st (x := x) (fun c1 => ?_) (fun d hd hd1 => ?_) (fun i hi hi1 => ?_) (fun i hi hi1 => ?_) (fun i hi hi1 => ?_) (fun i hi hi1 => ?_) (fun a ha => ?_)) (cel_live hI (fun t' a b c d => hgo t' a c) hl (fun _ => ?_) (fun q => absurd q e2) (fun i hi _ => ?_))
      · have c3 : t = 0 ∨ t = 1 ∨ t = 2 ∨ t = 5 ∨ t = 6 := by unfold liv at hl; omega
        rcases c3 with rfl | rfl | rfl | rfl | rfl
        · simp only [cRt, zi 16 (by decide) (by decide) (by decide), zk 9 (by decide) (by decide), zi 17 (by decide) (by decide) (by decide), zi 19 (by decide) (by decide) (by decide), zi 18 (by decide) (by decide) (by decide)]
        · simp only [cRt, zi 20 (by decide) (by decide) (by decide), zk 2 (by decide) (by decide), zk 0 (by decide) (by decide)]
        · simp only [cRt, zk 2 (by decide) (by decide), zk 0 (by decide) (by decide)]
        · simp only [cRt, zi 24 (by decide) (by decide) (by decide)]
        · simp only [cRt, zi 25 (by decide) (by decide) (by decide)]
      · unfold cDi
        rw [zk 12 (by decide) (by decide), zi 1 (by decide) (by decide) (by decide), zi 2 (by decide) (by decide) (by decide), zi 3 (by decide) (by decide) (by decide), zk 8 (by decide) (by decide), zi 23 (by decide) (by decide) (by decide)]
      · have ne : ¬ i = n := by intro q; unfold liv at hl; omega
        unfold cBx
        rw [zi4, if_neg ne, zi5, if_neg ne, zi 6 (by decide) (by decide) (by decide), zi 7 (by decide) (by decide) (by decide), zi 8 (by decide) (by decide) (by decide), zi 9 (by decide) (by decide) (by decide), zi 10 (by decide) (by decide) (by decide), zk 10 (by decide) (by decide), zi 11 (by decide) (by decide) (by decide), zi 12 (by decide) (by decide) (by decide), zi 13 (by decide) (by decide) (by decide)]
      · unfold cQl
        rw [zi 22 (by decide) (by decide) (by decide), zk 4 (by decide) (by decide), zk 5 (by decide) (by decide)]
      · unfold cQa
        rw [zk 4 (by decide) (by decide), zk 5 (by decide) (by decide), zk (50 + i) (by omega) (by omega)]
      · unfold cAs
        rw [zi (100 + i) (by omega) (by omega) (by omega)]
      · unfold cSl
        rw [zk 7 (by decide) (by decide), zi 14 (by decide) (by decide) (by decide)]
      · rw [hg8, fm0 2 (by omega) (by omega) (by omega) (by omega) (by omega), hg 2 (by decide), hg2 2 (by decide), va_up_ne _ _ (by decide)]
      · rw [hg8, fm0 (230 + i) (by omega) (by omega) (by omega) (by omega) (by omega), hg (230 + i) (by omega), hg2 (230 + i) (by omega), va_up_ne _ _ (by omega)]
    · refine Or.inl ?_
      rw [e1, fm0 4 (by omega) (by omega) (by omega) (by omega) (by omega), va_up_ne _ _ (by decide), va_up_self, cel_rt (by decide)]
      show cArO E.2.1 (z.1 3 0) (z.1 1 0) (fun i => g8 (200 + i)) = _
      rw [z3, z1]
      have e4 : (fun i => if i < n + 1 then some (g8 (200 + i)) else none) = (fun i => if i < n + 1 then some (va_up (fun i => g (200 + i)) n (g2 900) i) else none) := by
        funext i
        by_cases q : i = n
        · rw [q, hg8, fm1, va_up_self, hg 900 (by decide)]
        · rw [va_up_ne _ _ q]
          by_cases q2 : i < n + 1
          · rw [if_pos q2, if_pos q2, hgo (200 + i) (lv_bx (by omega) (by omega)) (by omega)]
          · rw [if_neg q2, if_neg q2]
      unfold cArO
      rw [e4]
    · refine Or.inl ?_
      rw [e1, fm1, va_up_ne _ _ (by decide), va_up_ne _ _ (by decide), if_neg (by decide), cel_bx (by omega)]
      obtain ⟨a6, a7, a8, a9, a10, a11, a12, a13, a22, b10, b4, b5, b100⟩ := f0
      unfold cBx bxF
      rw [if_pos rfl, zi4, if_pos rfl, zi5, if_pos rfl, zi 6 (by decide) (by decide) (by decide), zi 7 (by decide) (by decide) (by decide), zi 8 (by decide) (by decide) (by decide), zi 9 (by decide) (by decide) (by decide), zi 10 (by decide) (by decide) (by decide), zk 10 (by decide) (by decide), zi 11 (by decide) (by decide) (by decide), zi 12 (by decide) (by decide) (by decide), zi 13 (by decide) (by decide) (by decide), a6, a7, a8, a9, a10, a11, a12, a13, b10, hg8, fm2, hg8, fm3, hg8, fm4, hg 901 (by decide), hg 902 (by decide), hg 903 (by decide)]
      rfl
    · rw [e1, fm2, va_up_ne _ _ (by decide), va_up_ne _ _ (by decide), if_neg (by decide), cel_sa (by omega)]
      refine Or.inr ⟨E.2.1.1 2, 10, _, _, rfl, rfl, fun i hi => ?_⟩
      show some (g8 (300 + 10 * n + i)) = some (g2 (910 + i))
      rw [Nat.add_assoc, hg8, fm5 i hi, hg _ (by omega)]
    · refine Or.inl ?_
      rw [e1, fm3, va_up_ne _ _ (by decide), va_up_ne _ _ (by decide), if_neg (by decide), cel_ql (by omega)]
      obtain ⟨a6, a7, a8, a9, a10, a11, a12, a13, a22, b10, b4, b5, b100⟩ := f0
      unfold cQl cLst bxF
      rw [zi 22 (by decide) (by decide) (by decide), zk 4 (by decide) (by decide), zk 5 (by decide) (by decide), a22, b4, b5]
      rfl
    · refine Or.inl ?_
      rw [e1, fm4, va_up_ne _ _ (by decide), va_up_ne _ _ (by decide), if_neg (by decide), cel_as (by omega)]
      obtain ⟨a6, a7, a8, a9, a10, a11, a12, a13, a22, b10, b4, b5, b100⟩ := f0
      unfold cAs bxF
      rw [if_neg (by decide), if_neg (by decide), if_neg (by decide), if_pos rfl, zi (100 + n) (by omega) (by omega) (by omega), show x.2 (100 + n) = fun _ => 0 from funext (b100 (by omega))]
    · obtain ⟨k, hk, rfl⟩ : ∃ k, k < 10 ∧ t = 300 + (10 * n + k) := ⟨t - (300 + 10 * n), by omega, by omega⟩
      refine Or.inl ?_
      have a7 := hFr.2 (10 * n + k) (by omega)
      have ek : (10 * n + k) % 10 = k := by omega
      rw [fm5 k hk, va_up_ne _ _ (by omega), va_up_ne _ _ (by omega), if_neg (by omega), cel_sl]
      unfold cSl bxF
      rw [zk 7 (by decide) (by decide), a7.1, zi 14 (by decide) (by decide) (by decide), a7.2, ek, show 910 + k - 910 = k by omega, if_pos rfl, if_neg (show ¬ 910 + k = 900 by omega), if_neg (show ¬ 910 + k = 901 by omega), if_neg (show ¬ 910 + k = 902 by omega), if_neg (show ¬ 910 + k = 903 by omega)]
  · refine ⟨by unfold liv at ht; omega, ?_, hg8 t, rfl⟩
    rcases hlv t ht with ⟨hl, ef⟩ | e1 | e1 | e1 | e1 | e1 | e1
    · rw [ef]; exact Or.inl (Or.inl (Or.inl hl))
    · rw [e1, fm0 4 (by omega) (by omega) (by omega) (by omega) (by omega)]; exact Or.inr rfl
    · rw [e1, fm1]; exact Or.inl (Or.inl (Or.inr rfl))
    · rw [e1, fm2]; exact Or.inl (Or.inr (Or.inl (by omega)))
    · rw [e1, fm3]; exact Or.inl (Or.inr (Or.inl (by omega)))
    · rw [e1, fm4]; exact Or.inl (Or.inr (Or.inl (by omega)))
    · obtain ⟨k, hk, rfl⟩ : ∃ k, k < 10 ∧ t = 300 + (10 * n + k) := ⟨t - (300 + 10 * n), by omega, by omega⟩
      rw [fm5 k hk]
      exact Or.inl (Or.inr (Or.inr (by omega)))
  · have a1 : t < 900 := by unfold liv at ht; omega
    have a2 : t' < 900 := by unfold liv at ht'; omega
    have b1 := fmB_cs n t a1
    have b2 := fmB_cs n t' a2
    rw [e] at b1
    omega
