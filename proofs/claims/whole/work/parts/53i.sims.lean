theorem fU_cg {α : Type} {f g : Nat → α → α} {a : α} (n : Nat) (h : ∀ i, i < n → ∀ q, f i q = g i q) : fU f a n = fU g a n := by
  induction n with
  | zero => rfl
  | succ n ih => rw [fU_s, fU_s, ih (fun i hi => h i (by omega)), h n (by omega)]
theorem ws_eq {q : Nat} {x y : St} (hR : Rel q x y) : fU (stWs y) ((0 : Nat), (0 : Nat)) (y.1 0 0) = fU (stWs x) ((0 : Nat), (0 : Nat)) (x.1 0 0) := by
  rw [← hR.n 0 0 (by decide)]
  refine fU_cg _ (fun i hi p => ?_)
  unfold stWs
  rw [hR.p8 i hi, hR.i 3 i (by decide)]
theorem ws_le (x : St) (n : Nat) : (fU (stWs x) ((0 : Nat), (0 : Nat)) n).1 ≤ n ∧ (fU (stWs x) ((0 : Nat), (0 : Nat)) n).2 ≤ n := by
  induction n with
  | zero => exact ⟨Nat.le_refl _, Nat.le_refl _⟩
  | succ n ih =>
    rw [fU_s]
    generalize fU (stWs x) ((0 : Nat), (0 : Nat)) n = p at ih
    unfold stWs
    split
    · exact ⟨by omega, by omega⟩
    · split
      · exact ⟨by show p.1 + 1 ≤ n + 1; omega, by show p.2 ≤ n + 1; omega⟩
      · exact ⟨by show p.1 + 1 ≤ n + 1; omega, by show p.2 + 1 ≤ n + 1; omega⟩
theorem wn_f2d : ∀ a, a < 31 → ∀ b, b < 31 → b ≠ 0 → FP.f2d (FP.fdiv (FP.i2f (nI a)) (FP.i2f (nI b))) &&& 0x7fffffffffffffff ≤ 0x7ff0000000000000 := by decide +kernel
theorem wn_f2de : ∀ a, a < 31 → ∀ b, b < 31 → b ≠ 0 → Op.cmpValue (FP.dcmp (FP.f2d (FP.fdiv (FP.i2f (nI a)) (FP.i2f (nI b)))) (FP.f2d (FP.fdiv (FP.i2f (nI a)) (FP.i2f (nI b))))) .l = 0 := by decide +kernel
theorem nan_ws {q : Nat} {x y : St} (hR : Rel q x y) : (cp_wornShare x).1 = none → vf_n64 (FP.f2d (cp_wornShare x).2.1) := by
  unfold cp_wornShare
  have h := ws_le x (x.1 0 0)
  have h0 := hR.1.1
  generalize fU (stWs x) ((0 : Nat), (0 : Nat)) (x.1 0 0) = p at h ⊢
  by_cases c : p.1 = 0
  · rw [if_pos c]; intro z; cases z
  · rw [if_neg c]
    intro _
    exact wn_f2d p.2 (by omega) p.1 (by omega) c
theorem eq_ws {q : Nat} {x y : St} (hR : Rel q x y) : (cp_wornShare x).1 = none → Op.cmpValue (FP.dcmp (FP.f2d (cp_wornShare x).2.1) (FP.f2d (cp_wornShare x).2.1)) .l = 0 := by
  unfold cp_wornShare
  have h := ws_le x (x.1 0 0)
  have h0 := hR.1.1
  generalize fU (stWs x) ((0 : Nat), (0 : Nat)) (x.1 0 0) = p at h ⊢
  by_cases c : p.1 = 0
  · rw [if_pos c]; intro z; cases z
  · rw [if_neg c]
    intro _
    exact wn_f2de p.2 (by omega) p.1 (by omega) c
theorem sim_wornShare {q : Nat} {x y : St} (hR : Rel q x y) (hq : q < 512) : Sim ["java/lang/ArithmeticException"] (cp_wornShare x) (mp_wornShare y) q := by
  unfold cp_wornShare mp_wornShare
  rw [ws_eq hR]
  generalize fU (stWs x) ((0 : Nat), (0 : Nat)) (x.1 0 0) = p
  by_cases c : p.1 = 0
  · rw [if_pos c, if_pos c]
    exact Sim.thr 1 (hR.s.z 0 _) rfl (by decide +kernel)
  · rw [if_neg c, if_neg c]
    exact Sim.ok rfl (hR.s.z 0 _) rfl
theorem sim_checksum {q : Nat} {x y : St} (hR : Rel q x y) (hq : q < 512) : SimG (cp_checksum x) (mp_checksum y) q := by
  unfold cp_checksum mp_checksum
  refine ⟨rfl, ?_, hR.s⟩
  show (31 * ((31 * (fU (stD x) (fU (stC x) 7 (x.1 0 0)) (x.1 1 0))) + ((x.2 18 0).toInt64))) + ((x.2 16 0).toInt64) = (31 * ((31 * (fU (stD y) (fU (stC y) 7 (y.1 0 0)) (y.1 1 0))) + ((y.2 18 0).toInt64))) + ((y.2 16 0).toInt64)
  have e1 : stC x = stC y := by
    funext i p
    unfold stC
    rw [hR.i 3 i (by decide)]
  have e2 : stD x = stD y := by
    funext i p
    unfold stD
    rw [hR.i 8 i (by decide), hR.i 7 i (by decide), hR.i 9 i (by decide)]
  rw [e1, e2, hR.n 0 0 (by decide), hR.n 1 0 (by decide), hR.i 18 0 (by decide), hR.i 16 0 (by decide)]
theorem lt_t {a b : Int32} : a < b ↔ a.toInt < b.toInt := Int32.lt_iff_toInt_lt
theorem le_t {a b : Int32} : a ≤ b ↔ a.toInt ≤ b.toInt := Int32.le_iff_toInt_le
theorem ma_c (x : St) (j n : Nat) : ((fU (stM x j) ((0 : Int32), (0 : Nat)) n).2 = 0 ∧ (fU (stM x j) ((0 : Int32), (0 : Nat)) n).1.toInt = 0 ∧ ∀ i, i < n → (x.2 (100 + j) i).toInt ≤ 0) ∨ ∃ k, (fU (stM x j) ((0 : Int32), (0 : Nat)) n).2 = k + 1 ∧ k < n ∧ (fU (stM x j) ((0 : Int32), (0 : Nat)) n).1 = x.2 (100 + j) k ∧ 0 < (x.2 (100 + j) k).toInt ∧ (∀ i, i < n → (x.2 (100 + j) i).toInt ≤ (x.2 (100 + j) k).toInt) ∧ ∀ i, i < k → (x.2 (100 + j) i).toInt < (x.2 (100 + j) k).toInt := by
  induction n with
  | zero => exact Or.inl ⟨rfl, rfl, fun i h => absurd h (Nat.not_lt_zero i)⟩
  | succ n ih =>
    rw [fU_s]
    generalize fU (stM x j) ((0 : Int32), (0 : Nat)) n = p at ih
    unfold stM
    by_cases c : x.2 (100 + j) n ≤ p.1
    · rw [if_pos c]
      have c' := le_t.mp c
      rcases ih with ⟨h1, h2, h3⟩ | ⟨k, h1, h2, h3, h4, h5, h6⟩
      · refine Or.inl ⟨h1, h2, fun i hi => ?_⟩
        by_cases e : i = n
        · rw [e]; omega
        · exact h3 i (by omega)
      · refine Or.inr ⟨k, h1, by omega, h3, h4, fun i hi => ?_, h6⟩
        rw [h3] at c'
        by_cases e : i = n
        · rw [e]; exact c'
        · exact h5 i (by omega)
    · rw [if_neg c]
      have c' : ¬ (x.2 (100 + j) n).toInt ≤ p.1.toInt := fun z => c (le_t.mpr z)
      refine Or.inr ⟨n, rfl, by omega, rfl, ?_, fun i hi => ?_, fun i hi => ?_⟩
      · rcases ih with ⟨h1, h2, h3⟩ | ⟨k, h1, h2, h3, h4, h5, h6⟩
        · omega
        · rw [h3] at c'; omega
      · by_cases e : i = n
        · rw [e]; exact Int.le_refl _
        · rcases ih with ⟨h1, h2, h3⟩ | ⟨k, h1, h2, h3, h4, h5, h6⟩
          · have := h3 i (by omega); omega
          · have := h5 i (by omega); rw [h3] at c'; omega
      · rcases ih with ⟨h1, h2, h3⟩ | ⟨k, h1, h2, h3, h4, h5, h6⟩
        · have := h3 i (by omega); omega
        · have := h5 i (by omega); rw [h3] at c'; omega
theorem ma_m (y : St) (j n : Nat) (hn : n ≤ 100) : ∃ q, fD (stA y j) 0 100 n = q ∧ q < 100 ∧ (q = 0 ∨ 100 - n ≤ q) ∧ (∀ i, 100 - n ≤ i → i < 100 → (y.2 15 (100 * j + i)).toInt ≤ (y.2 15 (100 * j + q)).toInt) ∧ ∀ i, 100 - n ≤ i → i < q → (y.2 15 (100 * j + i)).toInt < (y.2 15 (100 * j + q)).toInt := by
  induction n with
  | zero => exact ⟨0, rfl, by decide, Or.inl rfl, fun i h1 h2 => by omega, fun i h1 h2 => by omega⟩
  | succ n ih =>
    obtain ⟨q, h0, h1, h2, h3, h4⟩ := ih (by omega)
    show ∃ q, stA y j (100 - 1 - n) (fD (stA y j) 0 100 n) = q ∧ _
    rw [h0]
    obtain ⟨t, et⟩ : ∃ t, t = 100 - 1 - n := ⟨_, rfl⟩
    rw [← et]
    unfold stA
    by_cases c : y.2 15 (100 * j + t) < y.2 15 (100 * j + q)
    · rw [if_pos c]
      have c' := lt_t.mp c
      refine ⟨q, rfl, h1, by omega, fun i a b => ?_, fun i a b => ?_⟩
      · by_cases e : i = t
        · rw [e]; omega
        · exact h3 i (by omega) b
      · by_cases e : i = t
        · rw [e]; omega
        · exact h4 i (by omega) b
    · rw [if_neg c]
      have c' : ¬ (y.2 15 (100 * j + t)).toInt < (y.2 15 (100 * j + q)).toInt := fun z => c (lt_t.mpr z)
      refine ⟨t, rfl, by omega, by omega, fun i a b => ?_, fun i a b => by omega⟩
      by_cases e : i = t
      · rw [e]; exact Int.le_refl _
      · have := h3 i (by omega) b; omega
theorem sim_mostAsked {q : Nat} {x y : St} (hR : Rel q x y) (hq : q < 512) (b : Int32) : Sim ["java/lang/IndexOutOfBoundsException", "java/util/NoSuchElementException"] (cp_mostAsked x b) (mp_mostAsked y b) q := by
  unfold cp_mostAsked mp_mostAsked
  rw [← hR.n 1 0 (by decide)]
  by_cases c1 : inB b (x.1 1 0) = true
  · rw [if_pos c1, if_pos c1]
    have hj4 : ix b < 4 := by have := hR.n4; have := ix_lt c1; omega
    have hc := ma_c x (ix b) 100
    obtain ⟨k, e, k1, k2, k3, k4⟩ := ma_m y (ix b) 100 (Nat.le_refl _)
    rw [e]
    generalize fU (stM x (ix b)) ((0 : Int32), (0 : Nat)) 100 = p at hc ⊢
    have ek := hR.as (ix b) k hj4 k1
    rcases hc with ⟨h1, h2, h3⟩ | ⟨m, h1, h2, h3, h4, h5, h6⟩
    · have q1 := h3 k k1
      rw [if_pos h1, if_pos (le_t.mpr (by rw [← ek]; exact q1))]
      exact Sim.thr 2 ((hR.s.z 0 _).z 0 _) rfl (by decide +kernel)
    · have em := hR.as (ix b) m hj4 h2
      have a1 := k3 m (by omega) h2
      have a2 := h5 k k1
      rw [← em, ← ek] at a1
      rw [if_neg (by omega), if_neg (fun z => by have z := le_t.mp z; rw [← ek, show (0 : Int32).toInt = 0 from rfl] at z; omega)]
      have ekm : k = m := by
        by_cases c2 : k < m
        · have := h6 k c2; omega
        · by_cases c3 : m < k
          · have q2 := k4 m (by omega) c3
            rw [← em, ← ek] at q2
            omega
          · omega
      exact Sim.ok (by rw [h1, Nat.add_sub_cancel, ekm]) ((hR.s.z 0 _).z 0 _) rfl
  · rw [if_neg c1, if_neg c1]
    exact Sim.thr 1 (hR.s.z 0 _) rfl (by decide +kernel)
theorem le_c (x : St) (j n : Nat) : (fU (stK x j) 0 n = 0 ∧ ∀ i, i < n → x.1 7 (10 * j + i) = 0) ∨ ∃ k, fU (stK x j) 0 n = k + 1 ∧ k < n ∧ x.1 7 (10 * j + k) ≠ 0 ∧ (∀ i, i < n → x.1 7 (10 * j + i) ≠ 0 → (x.2 14 (10 * j + k)).toInt ≤ (x.2 14 (10 * j + i)).toInt) ∧ ∀ i, i < k → x.1 7 (10 * j + i) ≠ 0 → (x.2 14 (10 * j + k)).toInt < (x.2 14 (10 * j + i)).toInt := by
  induction n with
  | zero => exact Or.inl ⟨rfl, fun i h => absurd h (Nat.not_lt_zero i)⟩
  | succ n ih =>
    rw [fU_s]
    generalize fU (stK x j) 0 n = p at ih
    unfold stK
    by_cases c0 : x.1 7 (10 * j + n) = 0
    · rw [if_pos c0]
      rcases ih with ⟨h1, h3⟩ | ⟨k, h1, h2, h3, h5, h6⟩
      · refine Or.inl ⟨h1, fun i hi => ?_⟩
        by_cases e : i = n
        · rw [e]; exact c0
        · exact h3 i (by omega)
      · refine Or.inr ⟨k, h1, by omega, h3, fun i hi h7 => ?_, h6⟩
        by_cases e : i = n
        · rw [e] at h7; exact absurd c0 h7
        · exact h5 i (by omega) h7
    · rw [if_neg c0]
      rcases ih with ⟨h1, h3⟩ | ⟨k, h1, h2, h3, h5, h6⟩
      · rw [if_pos h1]
        refine Or.inr ⟨n, rfl, by omega, c0, fun i hi h7 => ?_, fun i hi h7 => absurd (h3 i hi) h7⟩
        by_cases e : i = n
        · rw [e]; exact Int.le_refl _
        · exact absurd (h3 i (by omega)) h7
      · rw [if_neg (by omega), h1, Nat.add_sub_cancel]
        by_cases c : x.2 14 (10 * j + k) ≤ x.2 14 (10 * j + n)
        · rw [if_pos c]
          have c' := le_t.mp c
          refine Or.inr ⟨k, rfl, by omega, h3, fun i hi h7 => ?_, h6⟩
          by_cases e : i = n
          · rw [e]; exact c'
          · exact h5 i (by omega) h7
        · rw [if_neg c]
          have c' : ¬ (x.2 14 (10 * j + k)).toInt ≤ (x.2 14 (10 * j + n)).toInt := fun z => c (le_t.mpr z)
          refine Or.inr ⟨n, rfl, by omega, c0, fun i hi h7 => ?_, fun i hi h7 => ?_⟩
          · by_cases e : i = n
            · rw [e]; exact Int.le_refl _
            · have := h5 i (by omega) h7; omega
          · have := h5 i (by omega) h7; omega
theorem le_m (y : St) (j n : Nat) (hn : n ≤ 10) : (fD (stL y j) 0 10 n = 0 ∧ ∀ i, 10 - n ≤ i → i < 10 → y.1 7 (10 * j + i) = 0) ∨ ∃ k, fD (stL y j) 0 10 n = k + 1 ∧ k < 10 ∧ 10 - n ≤ k ∧ y.1 7 (10 * j + k) ≠ 0 ∧ (∀ i, 10 - n ≤ i → i < 10 → y.1 7 (10 * j + i) ≠ 0 → (y.2 14 (10 * j + k)).toInt ≤ (y.2 14 (10 * j + i)).toInt) ∧ ∀ i, 10 - n ≤ i → i < k → y.1 7 (10 * j + i) ≠ 0 → (y.2 14 (10 * j + k)).toInt < (y.2 14 (10 * j + i)).toInt := by
  induction n with
  | zero => exact Or.inl ⟨rfl, fun i h1 h2 => by omega⟩
  | succ n ih =>
    have ih := ih (by omega)
    show (stL y j (10 - 1 - n) (fD (stL y j) 0 10 n) = 0 ∧ _) ∨ ∃ k, stL y j (10 - 1 - n) (fD (stL y j) 0 10 n) = k + 1 ∧ _
    generalize fD (stL y j) 0 10 n = p at ih ⊢
    obtain ⟨t, et⟩ : ∃ t, t = 10 - 1 - n := ⟨_, rfl⟩
    rw [← et]
    unfold stL
    by_cases c0 : y.1 7 (10 * j + t) = 0
    · rw [if_pos c0]
      rcases ih with ⟨h1, h3⟩ | ⟨k, h1, h2, h3, h4, h5, h6⟩
      · refine Or.inl ⟨h1, fun i a b => ?_⟩
        by_cases e : i = t
        · rw [e]; exact c0
        · exact h3 i (by omega) b
      · refine Or.inr ⟨k, h1, h2, by omega, h4, fun i a b h7 => ?_, fun i a b h7 => ?_⟩
        · by_cases e : i = t
          · rw [e] at h7; exact absurd c0 h7
          · exact h5 i (by omega) b h7
        · by_cases e : i = t
          · rw [e] at h7; exact absurd c0 h7
          · exact h6 i (by omega) b h7
    · rw [if_neg c0]
      rcases ih with ⟨h1, h3⟩ | ⟨k, h1, h2, h3, h4, h5, h6⟩
      · rw [if_pos h1]
        refine Or.inr ⟨t, rfl, by omega, by omega, c0, fun i a b h7 => ?_, fun i a b h7 => by omega⟩
        by_cases e : i = t
        · rw [e]; exact Int.le_refl _
        · exact absurd (h3 i (by omega) b) h7
      · rw [if_neg (by omega), h1, Nat.add_sub_cancel]
        by_cases c : y.2 14 (10 * j + k) < y.2 14 (10 * j + t)
        · rw [if_pos c]
          have c' := lt_t.mp c
          refine Or.inr ⟨k, rfl, h2, by omega, h4, fun i a b h7 => ?_, fun i a b h7 => ?_⟩
          · by_cases e : i = t
            · rw [e]; omega
            · exact h5 i (by omega) b h7
          · by_cases e : i = t
            · rw [e]; omega
            · exact h6 i (by omega) b h7
        · rw [if_neg c]
          have c' : ¬ (y.2 14 (10 * j + k)).toInt < (y.2 14 (10 * j + t)).toInt := fun z => c (lt_t.mpr z)
          refine Or.inr ⟨t, rfl, by omega, by omega, c0, fun i a b h7 => ?_, fun i a b h7 => by omega⟩
          by_cases e : i = t
          · rw [e]; exact Int.le_refl _
          · have := h5 i (by omega) b h7; omega
theorem sim_least {q : Nat} {x y : St} (hR : Rel q x y) (hq : q < 512) (b : Int32) : Sim ["java/lang/IndexOutOfBoundsException", "java/util/NoSuchElementException"] (cp_least x b) (mp_least y b) q := by
  unfold cp_least mp_least
  rw [← hR.n 1 0 (by decide)]
  by_cases c1 : inB b (x.1 1 0) = true
  · rw [if_pos c1, if_pos c1]
    generalize ix b = j
    have hc := le_c x j 10
    have hm := le_m y j 10 (Nat.le_refl _)
    generalize fU (stK x j) 0 10 = p at hc ⊢
    generalize fD (stL y j) 0 10 10 = p2 at hm ⊢
    have e7 := fun i => hR.n 7 i (by decide)
    have e14 := fun i => hR.i 14 i (by decide)
    rcases hc with ⟨h1, h3⟩ | ⟨k, h1, h2, h3, h5, h6⟩
    · rcases hm with ⟨k1, k3⟩ | ⟨m, k1, k2, k3, k4, k5, k6⟩
      · rw [if_pos h1, if_pos k1]
        exact Sim.thr 2 ((hR.s.z 0 _).z 0 _) rfl (by decide +kernel)
      · exact absurd ((e7 _).symm.trans (h3 m k2)) k4
    · rcases hm with ⟨k1, k3⟩ | ⟨m, k1, k2, k3, k4, k5, k6⟩
      · exact absurd ((e7 _).trans (k3 k (by omega) h2)) h3
      · rw [if_neg (by omega), if_neg (by omega)]
        have a1 := h5 m k2 (by rw [e7]; exact k4)
        have a2 := k5 k (by omega) h2 (by rw [← e7]; exact h3)
        rw [← e14, ← e14] at a2
        have ekm : k = m := by
          by_cases c2 : k < m
          · have q2 := k6 k (by omega) c2 (by rw [← e7]; exact h3)
            rw [← e14, ← e14] at q2
            omega
          · by_cases c3 : m < k
            · have := h6 m c3 (by rw [e7]; exact k4); omega
            · omega
        exact Sim.ok (by rw [h1, k1, Nat.add_sub_cancel, Nat.add_sub_cancel, show (10 * j + k) % 10 = k by omega, ekm]) ((hR.s.z 0 _).z 0 _) rfl
  · rw [if_neg c1, if_neg c1]
    exact Sim.thr 1 (hR.s.z 0 _) rfl (by decide +kernel)
