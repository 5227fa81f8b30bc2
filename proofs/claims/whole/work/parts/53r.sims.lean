def tm (a b : Int) : Int := if a + b < 0 then 0 else a + b
def smT (a b : T3) : Nat → Int
  | 0 => 0
  | 1 => tm a.1 b.1
  | 2 => tm a.1 b.1 + tm a.2.1 b.2.1
  | _ => tm a.1 b.1 + tm a.2.1 b.2.1 + tm a.2.2 b.2.2
theorem tm_in {a b : Int} (h1 : a ≤ 75) (h2 : b ≤ 0) : 0 ≤ tm a b ∧ tm a b ≤ 75 := by
  unfold tm
  by_cases c : a + b < 0
  · rw [if_pos c]; omega
  · rw [if_neg c]; omega
theorem term_T {u v : Int32} (h1 : 0 ≤ u.toInt) (h2 : u.toInt ≤ 75) (h3 : v.toInt ≤ 0) : (if u + v < 0 then 0 else u + v : Int32).toInt = tm u.toInt v.toInt := by
  have h4 := Int32.le_toInt v
  have e : (u + v).toInt = u.toInt + v.toInt := ti_add (by omega) (by omega)
  have k0 : (0 : Int32).toInt = 0 := rfl
  unfold tm
  by_cases c : u + v < 0
  · have c' := lt_t.mp c
    rw [e, k0] at c'
    rw [if_pos c, if_pos c', k0]
  · have c' : ¬ (u + v).toInt < (0 : Int32).toInt := fun z => c (lt_t.mpr z)
    rw [e, k0] at c'
    rw [if_neg c, if_neg c', e]
theorem class_T (Z : St) (a b : T3) (ha : R3 Z 24 = a) (hb : R3 Z 25 = b) (h0 : 0 ≤ a.2.2) (hs : srt a) (h1 : a.1 ≤ 75) (hsb : srt b) (h2 : b.1 ≤ 0) (v : Nat) (hv : v ≤ 3) : (fU (stSm Z) 0 v).toInt = smT a b v := by
  obtain ⟨a0, a1, a2⟩ := a
  obtain ⟨b0, b1, b2⟩ := b
  have ea0 : (Z.2 24 0).toInt = a0 := congrArg Prod.fst ha
  have ea1 : (Z.2 24 1).toInt = a1 := congrArg (fun z => z.2.1) ha
  have ea2 : (Z.2 24 2).toInt = a2 := congrArg (fun z => z.2.2) ha
  have eb0 : (Z.2 25 0).toInt = b0 := congrArg Prod.fst hb
  have eb1 : (Z.2 25 1).toInt = b1 := congrArg (fun z => z.2.1) hb
  have eb2 : (Z.2 25 2).toInt = b2 := congrArg (fun z => z.2.2) hb
  have q1 : a1 ≤ a0 := hs.1
  have q2 : a2 ≤ a1 := hs.2
  have q3 : b1 ≤ b0 := hsb.1
  have q4 : b2 ≤ b1 := hsb.2
  have h0 : 0 ≤ a2 := h0
  have h1 : a0 ≤ 75 := h1
  have h2 : b0 ≤ 0 := h2
  have t0 := term_T (u := Z.2 24 0) (v := Z.2 25 0) (by omega) (by omega) (by omega)
  have t1 := term_T (u := Z.2 24 1) (v := Z.2 25 1) (by omega) (by omega) (by omega)
  have t2 := term_T (u := Z.2 24 2) (v := Z.2 25 2) (by omega) (by omega) (by omega)
  rw [ea0, eb0] at t0
  rw [ea1, eb1] at t1
  rw [ea2, eb2] at t2
  have i0 := tm_in (a := a0) (b := b0) (by omega) (by omega)
  have i1 := tm_in (a := a1) (b := b1) (by omega) (by omega)
  have i2 := tm_in (a := a2) (b := b2) (by omega) (by omega)
  have k0 : (0 : Int32).toInt = 0 := rfl
  have s1 : (fU (stSm Z) 0 1).toInt = tm a0 b0 := by
    rw [fU_s, fU_0]
    unfold stSm
    rw [ti_add (by rw [t0, k0]; omega) (by rw [t0, k0]; omega), t0, k0, Int.zero_add]
  have s2 : (fU (stSm Z) 0 2).toInt = tm a0 b0 + tm a1 b1 := by
    rw [fU_s]
    generalize fU (stSm Z) 0 1 = p at s1
    unfold stSm
    rw [ti_add (by rw [t1, s1]; omega) (by rw [t1, s1]; omega), t1, s1]
  have s3 : (fU (stSm Z) 0 3).toInt = tm a0 b0 + tm a1 b1 + tm a2 b2 := by
    rw [fU_s]
    generalize fU (stSm Z) 0 2 = p at s2
    unfold stSm
    rw [ti_add (by rw [t2, s2]; omega) (by rw [t2, s2]; omega), t2, s2]
  rcases (show v = 0 ∨ v = 1 ∨ v = 2 ∨ v = 3 by omega) with rfl | rfl | rfl | rfl
  · rfl
  · exact s1
  · exact s2
  · exact s3
theorem fBW_sh (j : Nat) (p : Int32 × St) (n : Nat) : fU (stBW j) p (n + 1) = fU (stBW j) (stBW j 0 p) n := by
  induction n with
  | zero => rfl
  | succ n ih =>
    rw [fU_s, ih, fU_s]
    rfl
def PP (y : St) (j : Nat) : Prop := (∀ d, d < y.1 0 0 → 0 ≤ (pD y d (y.2 5 j) (nI (y.1 9 0))).toInt ∧ (pD y d (y.2 5 j) (nI (y.1 9 0))).toInt ≤ 75) ∧ ∀ k, k < 10 → 0 ≤ (pS y (10 * j + k) (y.2 5 ((10 * j + k) / 10)) (nI (y.1 9 0))).toInt ∧ (pS y (10 * j + k) (y.2 5 ((10 * j + k) / 10)) (nI (y.1 9 0))).toInt ≤ 75
abbrev mk (y : St) (d k : Nat) : St := uI (uI y 26 d 1) 27 k 1
theorem mk_g (y : St) (j d k : Nat) : gY (mk y d k) j = wout (gY y j) d := by
  funext i
  show (if y.1 8 i = 1 then (if va_up (y.2 26) d 1 i = 0 then some (pD y i (y.2 5 j) (nI (y.1 9 0))).toInt else none) else none) = if i = d then none else gY y j i
  by_cases c : i = d
  · rw [if_pos c, c, va_up_self, if_neg (show ¬ (1 : Int32) = 0 by decide)]
    split <;> rfl
  · rw [if_neg c, va_up_ne _ _ c]
    rfl
theorem mk_h (y : St) (j d k : Nat) : hY (mk y d k) j = wout (hY y j) k := by
  funext i
  show (if va_up (y.2 27) k 1 i = 0 then some (-(pS y (10 * j + i) (y.2 5 ((10 * j + i) / 10)) (nI (y.1 9 0))).toInt) else none) = if i = k then none else hY y j i
  by_cases c : i = k
  · rw [if_pos c, c, va_up_self, if_neg (show ¬ (1 : Int32) = 0 by decide)]
  · rw [if_neg c, va_up_ne _ _ c]
    rfl
theorem mk_T {n : Nat} {y : St} (d k : Nat) (h : Tk n y) : Tk (n + 1) (mk y d k) := by
  obtain ⟨l, hl, h⟩ := h
  refine ⟨k :: l, by rw [List.length_cons]; omega, fun i hi hne => ?_⟩
  by_cases c : i = k
  · rw [c]; exact List.mem_cons_self
  · refine List.mem_cons_of_mem _ (h i hi ?_)
    have e : (mk y d k).2 27 i = y.2 27 i := by
      show va_up (y.2 27) k 1 i = y.2 27 i
      rw [va_up_ne _ _ c]
    rw [← e]; exact hne
abbrev z3 : T3 := (0, 0, 0)
abbrev m3 : T3 := (-1000, -1000, -1000)
theorem z3_s : srt z3 := ⟨Int.le_refl _, Int.le_refl _⟩
theorem m3_s : srt m3 := ⟨Int.le_refl _, Int.le_refl _⟩
theorem hY_le {y : St} {j : Nat} (hP : PP y j) : (fU (stT (hY y j)) m3 10).1 ≤ 0 := by
  refine tf_le _ m3 m3_s 0 (by show (-1000 : Int) ≤ 0; omega) 10 (fun i hi v hv => ?_)
  unfold hY at hv
  by_cases c : y.2 27 i = 0
  · rw [if_pos c] at hv
    cases hv
    have := (hP.2 i hi).1
    omega
  · rw [if_neg c] at hv; cases hv
theorem tm_0 {b : Int} (h : b ≤ 0) : tm 0 b = 0 := by
  unfold tm
  by_cases c : 0 + b < 0
  · rw [if_pos c]
  · rw [if_neg c]; omega
theorem smT_0 (b : T3) (hs : srt b) (h : b.1 ≤ 0) (v : Nat) : smT z3 b v = 0 := by
  have h1 := hs.1
  have h2 := hs.2
  have e0 : tm 0 b.1 = 0 := tm_0 h
  have e1 : tm 0 b.2.1 = 0 := tm_0 (by omega)
  have e2 : tm 0 b.2.2 = 0 := tm_0 (by omega)
  match v with
  | 0 => rfl
  | 1 => exact e0
  | 2 => show tm 0 b.1 + tm 0 b.2.1 = 0; rw [e0, e1]; rfl
  | v + 3 => show tm 0 b.1 + tm 0 b.2.1 + tm 0 b.2.2 = 0; rw [e0, e1, e2]; rfl
theorem smT_s (a b a' b' : T3) (v : Nat) (hv : v ≤ 2) (h1 : a.2.1 = a'.1) (h2 : a.2.2 = a'.2.1) (h3 : b.2.1 = b'.1) (h4 : b.2.2 = b'.2.1) : smT a b (v + 1) = tm a.1 b.1 + smT a' b' v := by
  rcases (show v = 0 ∨ v = 1 ∨ v = 2 by omega) with rfl | rfl | rfl
  · show tm a.1 b.1 = tm a.1 b.1 + 0
    omega
  · show tm a.1 b.1 + tm a.2.1 b.2.1 = tm a.1 b.1 + tm a'.1 b'.1
    rw [h1, h3]
  · show tm a.1 b.1 + tm a.2.1 b.2.1 + tm a.2.2 b.2.2 = tm a.1 b.1 + (tm a'.1 b'.1 + tm a'.2.1 b'.2.1)
    rw [h1, h2, h3, h4, Int.add_assoc]
theorem greedy (j v : Nat) : ∀ (p : Int32 × St), v ≤ 3 → Tk (3 - v) p.2 → 0 ≤ p.1.toInt → p.1.toInt ≤ 75 * (3 - (v : Int)) → PP p.2 j → (fU (stBW j) p v).1.toInt = p.1.toInt + smT (fU (stT (gY p.2 j)) z3 (p.2.1 0 0)) (fU (stT (hY p.2 j)) m3 10) v := by
  induction v with
  | zero => intro p h1 h2 h3 h4 hP; show p.1.toInt = p.1.toInt + 0; omega
  | succ v ih =>
    intro p hv hT h3 h4 hP
    rw [fBW_sh]
    obtain ⟨r, y⟩ := p
    have hT : Tk (3 - (v + 1)) y := hT
    have h3 : 0 ≤ r.toInt := h3
    have h4 : r.toInt ≤ 75 * (3 - ((v + 1 : Nat) : Int)) := h4
    have hP : PP y j := hP
    show (fU (stBW j) (stBW j 0 (r, y)) v).1.toInt = r.toInt + smT (fU (stT (gY y j)) z3 (y.1 0 0)) (fU (stT (hY y j)) m3 10) (v + 1)
    have hsb := tf_srt (hY y j) m3 m3_s 10
    have hb0 := hY_le hP
    rcases pickS y j (y.1 0 0) with ⟨c1, c2⟩ | ⟨d, a, c1, c2, c3, c5, c4⟩
    · have e : stBW j 0 (r, y) = (r, y) := if_pos c1
      have e2 := ih (r, y) (by omega) (by
        obtain ⟨l, hl, h⟩ := hT
        exact ⟨l, by omega, h⟩) h3 (by show r.toInt ≤ _; omega) hP
      rw [e, e2, tf_non _ z3 _ c2]
      show r.toInt + smT z3 (fU (stT (hY y j)) m3 10) v = r.toInt + smT z3 (fU (stT (hY y j)) m3 10) (v + 1)
      rw [smT_0 _ hsb hb0, smT_0 _ hsb hb0]
    · obtain ⟨k0, hk0, hk1⟩ := Tk_free hT (by omega)
      rcases pickW y j 10 with ⟨w1, w2⟩ | ⟨k, b, w1, w2, w3, w5, w4⟩
      · exact absurd w1 (fW_ne y j hk1 10 hk0)
      · have eD : bwD j y = d + 1 := c1
        have eW : bwW j y = k + 1 := w1
        have eM : bwM y j (bwD j y) (bwW j y) = pD y d (y.2 5 j) (nI (y.1 9 0)) - pS y (10 * j + k) (y.2 5 ((10 * j + k) / 10)) (nI (y.1 9 0)) := by rw [eD, eW]; rfl
        have e : stBW j 0 (r, y) = (if bwM y j (bwD j y) (bwW j y) ≤ 0 then r + 0 else r + bwM y j (bwD j y) (bwW j y), mk y d k) := by
          show (if bwD j y = 0 then (r, y) else (if bwM y j (bwD j y) (bwW j y) ≤ 0 then r + 0 else r + bwM y j (bwD j y) (bwW j y), mk y (bwD j y - 1) (bwW j y - 1))) = _
          rw [if_neg (by rw [eD]; omega), eD, eW, Nat.add_sub_cancel, Nat.add_sub_cancel]
        have b1 := hP.1 d c2
        have b2 := hP.2 k w2
        have tM : (bwM y j (bwD j y) (bwW j y)).toInt = a + b := by rw [eM, ti_sub (by omega) (by omega), c5, w5]; omega
        have k00 : (0 : Int32).toInt = 0 := rfl
        have tr : (if bwM y j (bwD j y) (bwW j y) ≤ 0 then r + 0 else r + bwM y j (bwD j y) (bwW j y)).toInt = r.toInt + tm a b := by
          unfold tm
          by_cases c : bwM y j (bwD j y) (bwW j y) ≤ 0
          · have c' := le_t.mp c
            rw [tM, k00] at c'
            rw [if_pos c, Int32.add_zero]
            by_cases c6 : a + b < 0
            · rw [if_pos c6]; omega
            · rw [if_neg c6]; omega
          · have c' : ¬ (bwM y j (bwD j y) (bwW j y)).toInt ≤ (0 : Int32).toInt := fun z => c (le_t.mpr z)
            rw [tM, k00] at c'
            rw [if_neg c, ti_add (by rw [tM]; omega) (by rw [tM]; omega), tM, if_neg (by omega)]
        have hta := tm_in (a := a) (b := b) (by omega) (by omega)
        rw [e]
        generalize (if bwM y j (bwD j y) (bwW j y) ≤ 0 then r + 0 else r + bwM y j (bwD j y) (bwW j y)) = r2 at tr
        have e2 := ih (r2, mk y d k) (by omega) (by
          have h := mk_T d k hT
          rw [show 3 - (v + 1) + 1 = 3 - v by omega] at h
          exact h) (by show 0 ≤ r2.toInt; omega) (by show r2.toInt ≤ _; omega) hP
        rw [e2]
        show r2.toInt + smT (fU (stT (gY (mk y d k) j)) z3 (y.1 0 0)) (fU (stT (hY (mk y d k) j)) m3 10) v = _
        rw [mk_g, mk_h]
        have x1 := tf_max (gY y j) z3 z3_s (y.1 0 0) d c2 a c3 (by show (0 : Int) ≤ a; omega) c4
        have x2 := tf_max (hY y j) m3 m3_s 10 k w2 b w3 (by show (-1000 : Int) ≤ b; omega) w4
        rw [smT_s _ _ _ _ v (by omega) x1.2.1 x1.2.2 x2.2.1 x2.2.2, x1.1, x2.1, tr]
        omega
theorem fZ_26 (y : St) (i n : Nat) (hi : i < n) : (fU stZ y n).2 26 i = 0 := by
  induction n with
  | zero => omega
  | succ n ih =>
    rw [fU_s]
    generalize fU stZ y n = Z at ih
    show va_up (Z.2 26) n 0 i = 0
    by_cases c : i = n
    · rw [c, va_up_self]
    · rw [va_up_ne _ _ c]; exact ih (by omega)
theorem fZ_k (y : St) (n : Nat) : (fU stZ y n).1 = y.1 ∧ ∀ m, m ≠ 26 → m ≠ 27 → (fU stZ y n).2 m = y.2 m := by
  induction n with
  | zero => exact ⟨rfl, fun _ _ _ => rfl⟩
  | succ n ih =>
    rw [fU_s]
    generalize fU stZ y n = Z at ih
    exact ⟨ih.1, fun m a b => ((va_up_ne _ _ b).trans (va_up_ne _ _ a)).trans (ih.2 m a b)⟩
theorem fBW_k (j : Nat) (p : Int32 × St) (n : Nat) : (fU (stBW j) p n).2.1 = p.2.1 ∧ ∀ m, m ≠ 26 → m ≠ 27 → (fU (stBW j) p n).2.2 m = p.2.2 m := by
  induction n with
  | zero => exact ⟨rfl, fun _ _ _ => rfl⟩
  | succ n ih =>
    rw [fU_s]
    generalize fU (stBW j) p n = Z at ih
    unfold stBW
    by_cases c : bwD j Z.2 = 0
    · rw [if_pos c]; exact ih
    · rw [if_neg c]; exact ⟨ih.1, fun m a b => ((va_up_ne _ _ b).trans (va_up_ne _ _ a)).trans (ih.2 m a b)⟩
theorem pS_in {q : Nat} {x y : St} (hR : Rel q x y) (a : Nat) (ta : Int32) : 0 ≤ (pS x a ta (nI (x.1 9 0))).toInt ∧ (pS x a ta (nI (x.1 9 0))).toInt ≤ 75 := by
  unfold pS
  by_cases c : x.1 7 a = 0
  · rw [if_pos c, show (0 : Int32).toInt = 0 from rfl]; omega
  · rw [if_neg c]
    have h7 := hR.1.2.2.2.2.2.2.1 a
    exact pD_in hR _ ta (by omega)
theorem neg_T {v : Int32} (h1 : 0 ≤ v.toInt) (h2 : v.toInt ≤ 75) : (-v).toInt = -v.toInt := by rw [Int32.toInt_neg, bm32 (by omega) (by omega)]
theorem rows_x {q : Nat} {x y : St} (hR : Rel q x y) (j : Nat) : R3 (wRL j (wRG j x)) 24 = fU (stT (gF x j)) z3 (x.1 0 0) ∧ R3 (wRL j (wRG j x)) 25 = fU (stT (lF x j)) m3 10 := by
  have hg := row24 j x
  have k1 := wRG_k j x
  generalize wRG j x = X at hg k1 ⊢
  have eS : ∀ k, pS X (10 * j + k) (X.2 5 j) (nI (X.1 9 0)) = pS x (10 * j + k) (x.2 5 j) (nI (x.1 9 0)) := fun k => by
    rw [k1.2 5 (by decide), k1.1]
    exact pS_cg k1.1 (k1.2 1 (by decide)) (k1.2 2 (by decide)) (k1.2 3 (by decide)) _ _ _
  have hl := row25 j X (fun k => by rw [eS]; have b := pS_in hR (10 * j + k) (x.2 5 j); exact neg_T b.1 b.2)
  have k2 := wRL_k j X
  generalize wRL j X = Z at hl k2 ⊢
  refine ⟨?_, ?_⟩
  · rw [← hg]
    unfold R3
    rw [k2.2 24 (by decide)]
  · rw [hl]
    refine tf_cg _ _ (fun k _ => ?_)
    show some (-(pS X (10 * j + k) (X.2 5 j) (nI (X.1 9 0))).toInt) = some (-(pS x (10 * j + k) (x.2 5 j) (nI (x.1 9 0))).toInt)
    rw [eS]
theorem rows_b {q : Nat} {x y : St} (hR : Rel q x y) (j : Nat) : 0 ≤ (fU (stT (gF x j)) z3 (x.1 0 0)).2.2 ∧ (fU (stT (gF x j)) z3 (x.1 0 0)).1 ≤ 75 ∧ (fU (stT (lF x j)) m3 10).1 ≤ 0 := by
  refine ⟨tf_lo _ z3 z3_s _, tf_le _ z3 z3_s 75 (by show (0 : Int) ≤ 75; omega) _ (fun i hi v hv => ?_), tf_le _ m3 m3_s 0 (by show (-1000 : Int) ≤ 0; omega) _ (fun i hi v hv => ?_)⟩
  · unfold gF at hv
    by_cases c : x.1 8 i = 1
    · rw [if_pos c] at hv
      cases hv
      exact (pD_in hR i _ hi).2
    · rw [if_neg c] at hv; cases hv
  · cases hv
    have := (pS_in hR (10 * j + i) (x.2 5 j)).1
    omega
theorem sim_bestWorth {q : Nat} {x y : St} (hR : Rel q x y) (hq : q < 512) (b : Int32) (v : Int32) : Sim ["java/lang/IndexOutOfBoundsException", "java/lang/IllegalArgumentException"] (cp_bestWorth x b v) (mp_bestWorth y b v) q := by
  unfold cp_bestWorth mp_bestWorth
  rw [← hR.n 1 0 (by decide)]
  by_cases c1 : inB b (x.1 1 0) = true
  · rw [if_pos c1, if_pos c1]
    generalize ix b = j
    by_cases c2 : 0 ≤ v ∧ v ≤ 3
    · rw [if_pos c2, if_pos c2]
      obtain ⟨w, hw, rfl⟩ := nI_of2 (M := 3) (n := 3) rfl (Int32.not_lt.mpr c2.1) c2.2
      have ew : ix (nI w) = w := ix_nI (by omega)
      rw [ew]
      obtain ⟨r1, r2⟩ := rows_x hR j
      obtain ⟨q1, q2, q3⟩ := rows_b hR j
      have k1 := wRG_k j x
      have k2 := wRL_k j (wRG j x)
      generalize wRG j x = X at r1 r2 k1 k2 ⊢
      generalize wRL j X = Z at r1 r2 k2 ⊢
      have hc := class_T Z _ _ r1 r2 q1 (tf_srt _ z3 z3_s _) q2 (tf_srt _ m3 m3_s _) q3 w hw
      have z1 := fZ_k (uI (uI y 28 0 0) 28 0 0) 30
      have z2 : ∀ i, i < 30 → (fU stZ (uI (uI y 28 0 0) 28 0 0) 30).2 26 i = 0 := fun i hi => fZ_26 _ i 30 hi
      have z4 : ∀ k, k < 10 → (fU stZ (uI (uI y 28 0 0) 28 0 0) 30).2 27 k = 0 := fun k hk => fZ_30 _ k hk 20
      generalize fU stZ (uI (uI y 28 0 0) 28 0 0) 30 = Y at z1 z2 z4 ⊢
      have y1 : Y.1 = y.1 := z1.1
      have i1 : Y.2 1 = y.2 1 := z1.2 1 (by decide) (by decide)
      have i2 : Y.2 2 = y.2 2 := z1.2 2 (by decide) (by decide)
      have i3 : Y.2 3 = y.2 3 := z1.2 3 (by decide) (by decide)
      have i5 : Y.2 5 = y.2 5 := z1.2 5 (by decide) (by decide)
      have n30 := hR.1.1
      have eD : ∀ d, d < x.1 0 0 → pD Y d (Y.2 5 j) (nI (Y.1 9 0)) = pD x d (x.2 5 j) (nI (x.1 9 0)) := fun d hd => by
        rw [i5, y1, pD_cg y1 i1 i2 i3, ← pD_eq hR _ _ _ hd, hR.i 5 j (by decide), hR.n 9 0 (by decide)]
      have eS : ∀ k, k < 10 → pS Y (10 * j + k) (Y.2 5 ((10 * j + k) / 10)) (nI (Y.1 9 0)) = pS x (10 * j + k) (x.2 5 j) (nI (x.1 9 0)) := fun k hk => by
        rw [i5, y1, pS_cg y1 i1 i2 i3, ← pS_eq hR, hR.i 5 j (by decide), hR.n 9 0 (by decide), show (10 * j + k) / 10 = j by omega]
      have hg := greedy j w (0, Y) hw ⟨[], Nat.zero_le _, fun k hk h => absurd (z4 k hk) h⟩ (Int.le_refl _) (by show (0 : Int) ≤ _; omega) ⟨fun d hd => by
          rw [show ((0 : Int32), Y).2 = Y from rfl, y1, ← hR.n 0 0 (by decide)] at hd
          show 0 ≤ (pD Y d (Y.2 5 j) (nI (Y.1 9 0))).toInt ∧ (pD Y d (Y.2 5 j) (nI (Y.1 9 0))).toInt ≤ 75
          rw [eD d hd]
          exact pD_in hR d _ hd, fun k hk => by
          show 0 ≤ (pS Y (10 * j + k) (Y.2 5 ((10 * j + k) / 10)) (nI (Y.1 9 0))).toInt ∧ (pS Y (10 * j + k) (Y.2 5 ((10 * j + k) / 10)) (nI (Y.1 9 0))).toInt ≤ 75
          rw [eS k hk]
          exact pS_in hR _ _⟩
      have f1 : fU (stT (gY Y j)) z3 (Y.1 0 0) = fU (stT (gF x j)) z3 (x.1 0 0) := by
        rw [y1, ← hR.n 0 0 (by decide)]
        refine tf_cg _ _ (fun d hd => ?_)
        show (if Y.1 8 d = 1 then (if Y.2 26 d = 0 then some (pD Y d (Y.2 5 j) (nI (Y.1 9 0))).toInt else none) else none) = if x.1 8 d = 1 then some (pD x d (x.2 5 j) (nI (x.1 9 0))).toInt else none
        rw [eD d hd, z2 d (by omega), if_pos rfl, y1, hR.p8 d hd]
      have f2 : fU (stT (hY Y j)) m3 10 = fU (stT (lF x j)) m3 10 := by
        refine tf_cg _ _ (fun k hk => ?_)
        show (if Y.2 27 k = 0 then some (-(pS Y (10 * j + k) (Y.2 5 ((10 * j + k) / 10)) (nI (Y.1 9 0))).toInt) else none) = some (-(pS x (10 * j + k) (x.2 5 j) (nI (x.1 9 0))).toInt)
        rw [eS k hk, z4 k hk, if_pos rfl]
      rw [show ((0 : Int32), Y).2 = Y from rfl, f1, f2, show ((0 : Int32), Y).1.toInt = 0 from rfl, Int.zero_add] at hg
      have kb := fBW_k j (0, Y) w
      generalize fU (stBW j) (0, Y) w = P at hg kb ⊢
      refine Sim.ok (Int32.toInt_inj.mp (hc.trans hg.symm)) ?_ ?_
      · refine (hR.s.x (k2.1.trans k1.1) (fun m hm => (k2.2 m (by omega)).trans (k1.2 m (by omega))) (fun i => (k2.2 _ (by omega)).trans (k1.2 _ (by omega)))).y (kb.1.trans z1.1) (fun m hm => ?_)
        rw [kb.2 m (by omega) (by omega), z1.2 m (by omega) (by omega)]
        exact (va_up_ne _ _ (by omega)).trans (va_up_ne _ _ (by omega))
      · rw [kb.2 28 (by decide) (by decide), z1.2 28 (by decide) (by decide)]
        rfl
    · rw [if_neg c2, if_neg c2]
      exact Sim.thr 2 ((hR.s.z 0 _).z 0 _) rfl (by decide +kernel)
  · rw [if_neg c1, if_neg c1]
    exact Sim.thr 1 (hR.s.z 0 _) rfl (by decide +kernel)
theorem best_all {k : Nat} {x y : St} (hR : Rel k x y) : ∀ j, j < x.1 1 0 → ∀ x8 : St, x8 = fU stN x j → ∀ a d, 10 * j ≤ a → a < 10 * j + 10 → d < (stN j x8).1 0 0 → (stN j x8).1 8 d = 1 → pD (stN j x8) d ((stN j x8).2 5 j) (nI ((stN j x8).1 9 0)) - pS (stN j x8) a ((stN j x8).2 5 j) (nI ((stN j x8).1 9 0)) ≤ fU (stSm (stN j x8)) 0 1 := by
  intro j hj x8 e8 a d ha1 ha2 hd h8
  have kx := stN_f x j
  rw [← e8] at kx
  have hR8 : Rel k x8 y := hR.x kx.1 (fun m hm => kx.2 m (by omega) (by omega)) (fun i => kx.2 _ (by omega) (by omega))
  obtain ⟨r1, r2⟩ := rows_x hR8 j
  obtain ⟨q1, q2, q3⟩ := rows_b hR8 j
  have kz := stN_k j x8
  have eN : stN j x8 = wRL j (wRG j x8) := rfl
  rw [← eN] at r1 r2
  generalize stN j x8 = Z at r1 r2 kz hd h8 ⊢
  have hc := class_T Z _ _ r1 r2 q1 (tf_srt _ z3 z3_s _) q2 (tf_srt _ m3 m3_s _) q3 1 (by decide)
  obtain ⟨c, rfl⟩ : ∃ c, a = 10 * j + c := ⟨a - 10 * j, by omega⟩
  rw [kz.1] at hd h8
  have eD : pD Z d (Z.2 5 j) (nI (Z.1 9 0)) = pD x8 d (x8.2 5 j) (nI (x8.1 9 0)) := by
    rw [kz.2 5 (by decide) (by decide), kz.1]
    exact pD_cg kz.1 (kz.2 1 (by decide) (by decide)) (kz.2 2 (by decide) (by decide)) (kz.2 3 (by decide) (by decide)) _ _ _
  have eS : pS Z (10 * j + c) (Z.2 5 j) (nI (Z.1 9 0)) = pS x8 (10 * j + c) (x8.2 5 j) (nI (x8.1 9 0)) := by
    rw [kz.2 5 (by decide) (by decide), kz.1]
    exact pS_cg kz.1 (kz.2 1 (by decide) (by decide)) (kz.2 2 (by decide) (by decide)) (kz.2 3 (by decide) (by decide)) _ _ _
  rw [eD, eS]
  have b1 := pD_in hR8 d (x8.2 5 j) hd
  have b2 := pS_in hR8 (10 * j + c) (x8.2 5 j)
  have g1 := tf_ge (gF x8 j) z3 z3_s (x8.1 0 0) d hd _ (if_pos h8)
  have g2 := tf_ge (lF x8 j) m3 m3_s 10 c (by omega) _ rfl
  refine le_t.mpr ?_
  rw [hc, ti_sub (by omega) (by omega)]
  show _ ≤ tm (fU (stT (gF x8 j)) z3 (x8.1 0 0)).1 (fU (stT (lF x8 j)) m3 10).1
  generalize (fU (stT (gF x8 j)) z3 (x8.1 0 0)).1 = A at g1
  generalize (fU (stT (lF x8 j)) m3 10).1 = B at g2
  unfold tm
  by_cases c9 : A + B < 0
  · rw [if_pos c9]; omega
  · rw [if_neg c9]; omega
