def ad (p q : Nat × Int32) : Nat × Int32 := (p.1 + q.1, p.2 + q.2)
theorem ad_0 (p : Nat × Int32) : ad p (0, 0) = p := by
  show (p.1 + 0, p.2 + 0) = p
  rw [Nat.add_zero, Int32.add_zero]
theorem ad_0' (p : Nat × Int32) : ad (0, 0) p = p := by
  show (0 + p.1, 0 + p.2) = p
  rw [Nat.zero_add, Int32.zero_add]
theorem ad_4 (a b c d : Nat × Int32) : ad (ad a b) (ad c d) = ad (ad a c) (ad b d) := by
  show (a.1 + b.1 + (c.1 + d.1), a.2 + b.2 + (c.2 + d.2)) = (a.1 + c.1 + (b.1 + d.1), a.2 + c.2 + (b.2 + d.2))
  refine Prod.ext (by show a.1 + b.1 + (c.1 + d.1) = a.1 + c.1 + (b.1 + d.1); omega) ?_
  show a.2 + b.2 + (c.2 + d.2) = a.2 + c.2 + (b.2 + d.2)
  rw [Int32.add_assoc, ← Int32.add_assoc b.2, Int32.add_comm b.2, Int32.add_assoc c.2, ← Int32.add_assoc]
def sm (F : Nat → Nat × Int32) (n : Nat) : Nat × Int32 := fU (fun i q => ad q (F i)) (0, 0) n
theorem sm_s (F : Nat → Nat × Int32) (n : Nat) : sm F (n + 1) = ad (sm F n) (F n) := rfl
theorem sm_0 {F : Nat → Nat × Int32} (n : Nat) (h : ∀ i, i < n → F i = (0, 0)) : sm F n = (0, 0) := by
  induction n with
  | zero => rfl
  | succ n ih => rw [sm_s, ih (fun i hi => h i (by omega)), h n (by omega), ad_0]
theorem sm_1 {F : Nat → Nat × Int32} (n k : Nat) (hk : k < n) (h : ∀ i, i < n → i ≠ k → F i = (0, 0)) : sm F n = F k := by
  induction n with
  | zero => omega
  | succ n ih =>
    rw [sm_s]
    by_cases c : k = n
    · rw [sm_0 n (fun i hi => h i (by omega) (by omega)), ad_0', c]
    · rw [ih (by omega) (fun i hi hne => h i (by omega) hne), h n (by omega) (fun z => c z.symm), ad_0]
theorem sm_add (F G : Nat → Nat × Int32) (n : Nat) : sm (fun i => ad (F i) (G i)) n = ad (sm F n) (sm G n) := by
  induction n with
  | zero => rfl
  | succ n ih => rw [sm_s, sm_s, sm_s, ih, ad_4]
theorem sm_cg {F G : Nat → Nat × Int32} (n : Nat) (h : ∀ i, i < n → F i = G i) : sm F n = sm G n := by
  induction n with
  | zero => rfl
  | succ n ih => rw [sm_s, sm_s, ih (fun i hi => h i (by omega)), h n (by omega)]
theorem sm_swap (F : Nat → Nat → Nat × Int32) (n m : Nat) : sm (fun a => sm (F a) n) m = sm (fun d => sm (fun a => F a d) m) n := by
  induction m with
  | zero => exact (sm_0 n (fun i _ => rfl)).symm
  | succ m ih =>
    rw [sm_s, ih, ← sm_add]
    rfl
theorem mean_eq {q : Nat} {x y : St} (hR : Rel q x y) : fU (stMq y) ((0 : Nat), (0 : Int32)) 40 = fU (stMp x) ((0 : Nat), (0 : Int32)) (x.1 0 0) := by
  have e1 : fU (stMp x) ((0 : Nat), (0 : Int32)) (x.1 0 0) = sm (fun d => if x.1 8 d < 2 then (0, 0) else (1, pW x d (nI (x.1 9 0)))) (x.1 0 0) := by
    refine fU_cg _ (fun i hi p => ?_)
    unfold stMp
    show _ = ad p (if x.1 8 i < 2 then (0, 0) else (1, pW x i (nI (x.1 9 0))))
    by_cases c : x.1 8 i < 2
    · rw [if_pos c, if_pos c, ad_0]
    · rw [if_neg c, if_neg c]; rfl
  have e2 : fU (stMq y) ((0 : Nat), (0 : Int32)) 40 = sm (fun a => if x.1 7 a = 0 then (0, 0) else (1, pS x a (x.2 5 (a / 10)) (nI (x.1 9 0)))) 40 := by
    refine fU_cg _ (fun i hi p => ?_)
    unfold stMq
    rw [← hR.n 7 i (by decide), ← pS_eq hR, ← hR.i 5 _ (by decide), ← hR.n 9 0 (by decide)]
    show _ = ad p (if x.1 7 i = 0 then (0, 0) else (1, pS x i (x.2 5 (i / 10)) (nI (x.1 9 0))))
    by_cases c : x.1 7 i = 0
    · rw [if_pos c, if_pos c]
      have e : pS x i (x.2 5 (i / 10)) (nI (x.1 9 0)) = 0 := by unfold pS; rw [if_pos c]
      rw [e]; rfl
    · rw [if_neg c, if_neg c]; rfl
  have hJ := hR.2.1
  have hK := hR.2.2.1
  have h7 := hR.1.2.2.2.2.2.2.1
  have h8 := hR.1.2.2.2.2.2.2.2.1
  have h4 := hR.n4
  rw [e1, e2]
  have e3 : sm (fun a => if x.1 7 a = 0 then ((0 : Nat), (0 : Int32)) else (1, pS x a (x.2 5 (a / 10)) (nI (x.1 9 0)))) 40 = sm (fun a => sm (fun d => if x.1 7 a = d + 1 then ((1 : Nat), pW x d (nI (x.1 9 0))) else (0, 0)) (x.1 0 0)) 40 := by
    refine sm_cg _ (fun a ha => ?_)
    show (if x.1 7 a = 0 then ((0 : Nat), (0 : Int32)) else _) = _
    by_cases c : x.1 7 a = 0
    · rw [if_pos c]
      exact (sm_0 _ (fun d _ => if_neg (by omega))).symm
    · rw [if_neg c]
      obtain ⟨d, hd⟩ : ∃ d, x.1 7 a = d + 1 := ⟨x.1 7 a - 1, by omega⟩
      have e := hJ a d hd
      have hdn : d < x.1 0 0 := by have := h7 a; omega
      rw [sm_1 _ d hdn (fun i _ hne => if_neg (by omega))]
      show _ = if x.1 7 a = d + 1 then _ else _
      rw [if_pos hd]
      refine Prod.ext rfl ?_
      show pS x a (x.2 5 (a / 10)) (nI (x.1 9 0)) = pW x d (nI (x.1 9 0))
      unfold pS pW
      rw [if_neg c, hd, Nat.add_sub_cancel, e, if_neg (by omega), show 2 + a - 2 = a by omega]
  have e4 : sm (fun d => sm (fun a => if x.1 7 a = d + 1 then ((1 : Nat), pW x d (nI (x.1 9 0))) else (0, 0)) 40) (x.1 0 0) = sm (fun d => if x.1 8 d < 2 then (0, 0) else (1, pW x d (nI (x.1 9 0)))) (x.1 0 0) := by
    refine sm_cg _ (fun d hd => ?_)
    show sm (fun a => if x.1 7 a = d + 1 then ((1 : Nat), pW x d (nI (x.1 9 0))) else (0, 0)) 40 = if x.1 8 d < 2 then ((0 : Nat), (0 : Int32)) else (1, pW x d (nI (x.1 9 0)))
    by_cases c : x.1 8 d < 2
    · rw [if_pos c]
      exact sm_0 _ (fun a _ => if_neg (fun z => by have := hJ a d z; omega))
    · rw [if_neg c]
      have k := hK d hd (by omega)
      have b := h8 d
      rw [sm_1 _ (x.1 8 d - 2) (by omega) (fun a _ hne => if_neg (fun z => by have := hJ a d z; omega))]
      show (if x.1 7 (x.1 8 d - 2) = d + 1 then _ else _) = _
      rw [if_pos k]
  rw [e3, sm_swap (fun a d => if x.1 7 a = d + 1 then ((1 : Nat), pW x d (nI (x.1 9 0))) else (0, 0)), e4]
theorem mp_le {q : Nat} {x y : St} (hR : Rel q x y) (m : Nat) (hm : m ≤ x.1 0 0) : (fU (stMp x) ((0 : Nat), (0 : Int32)) m).1 ≤ m ∧ ∃ t, (fU (stMp x) ((0 : Nat), (0 : Int32)) m).2 = nI t ∧ t ≤ 75 * m := by
  induction m with
  | zero => exact ⟨Nat.le_refl _, 0, nI_0.symm, Nat.le_refl _⟩
  | succ m ih =>
    obtain ⟨h1, t, h2, h3⟩ := ih (by omega)
    rw [fU_s]
    generalize fU (stMp x) ((0 : Nat), (0 : Int32)) m = p at h1 h2
    unfold stMp
    by_cases c : x.1 8 m < 2
    · rw [if_pos c]; exact ⟨by omega, t, h2, by omega⟩
    · rw [if_neg c]
      have b := pD_in hR m (if x.1 8 m < 2 then -1 else x.2 5 ((x.1 8 m - 2) / 10)) (by omega)
      have e : pW x m (nI (x.1 9 0)) = pD x m (if x.1 8 m < 2 then -1 else x.2 5 ((x.1 8 m - 2) / 10)) (nI (x.1 9 0)) := rfl
      rw [e]
      generalize pD x m (if x.1 8 m < 2 then -1 else x.2 5 ((x.1 8 m - 2) / 10)) (nI (x.1 9 0)) = v at b
      obtain ⟨u, hu, rfl⟩ := nI_of (x := v) (fun z => by have z := lt_t.mp z; rw [show (0 : Int32).toInt = 0 from rfl] at z; omega)
      rw [nI_toInt hu] at b
      refine ⟨by show p.1 + 1 ≤ m + 1; omega, t + u, ?_, by omega⟩
      show p.2 + nI u = nI (t + u)
      rw [h2, nI_add]
theorem hNx {k : Nat} {x y : St} (hR : Rel k x y) : ∀ q : Nat × Int32, q = fU (stMp x) ((0 : Nat), (0 : Int32)) (x.1 0 0) → ¬ q.1 = 0 → vf_n64 (FP.ddiv (FP.i2d q.2) (FP.i2d (nI q.1))) := by
  intro q hq h0
  obtain ⟨h1, t, h2, h3⟩ := mp_le hR (x.1 0 0) (Nat.le_refl _)
  rw [← hq] at h1 h2
  have hn := hR.1.1
  rw [h2]
  exact wn_nand (by omega) (by omega) h0
theorem hNy {k : Nat} {x y : St} (hR : Rel k x y) : ∀ q : Nat × Int32, q = fU (stMq y) ((0 : Nat), (0 : Int32)) 40 → ¬ q.1 = 0 → vf_n64 (FP.ddiv (FP.i2d q.2) (FP.i2d (nI q.1))) := by
  intro q hq h0
  rw [mean_eq hR] at hq
  exact hNx hR q hq h0
theorem Rel0 : Rel 0 x0 y0 := by
  have k0 : (0 : Int32).toInt = 0 := rfl
  refine ⟨⟨by decide, by decide, by decide, by decide, by decide, by decide, fun a => Nat.le_refl _, fun d => by show 1 < 2 + 10 * 0; omega, fun j => by show 0 ≤ 8; omega, fun j => Nat.le_refl _, fun j => by show 0 ≤ 60; omega, fun j i => ?_, by decide, fun d => by show 0 < 100; omega, fun j => by show 0 ≤ 0 + 1; omega, fun j => Or.inl rfl⟩, fun a d h => absurd (show 0 = d + 1 from h) (by omega), fun d hd => absurd hd (Nat.not_lt_zero d), ⟨fun j => Or.inl rfl, Or.inl rfl, Or.inl rfl⟩, fun d _ => ⟨rfl, rfl, rfl⟩, ⟨fun j _ => ⟨rfl, rfl, rfl, rfl, rfl, rfl, rfl, rfl, rfl, rfl, rfl, rfl, fun h s => ?_⟩, fun a _ => ⟨rfl, rfl⟩⟩, ⟨by decide, by decide, fun a => Nat.le_refl _, fun d => by show 2 < 42; omega, fun j => by show 0 ≤ 8; omega, fun j => by show 0 < 10; omega, by decide, fun d => by show 0 < 100; omega, fun j => by show 0 ≤ 1; omega⟩, ⟨fun d hd => absurd hd (Nat.not_lt_zero d), fun d => by show 0 ≤ (0 : Int32).toInt ∧ (0 : Int32).toInt ≤ 20000; rw [k0]; omega, fun j => by show 0 ≤ (0 : Int32).toInt ∧ (0 : Int32).toInt ≤ 100 * ((0 : Nat) : Int); rw [k0]; omega⟩, rfl, ⟨fun k hk i => ?_, fun d hd => absurd hd (Nat.not_lt_zero d), fun j i _ hi => absurd hi (Nat.not_lt_zero i), fun j _ => rfl, fun k _ i => rfl, fun j s _ _ => ?_⟩⟩
  · show (if 50 + j = 8 then 1 else 0) < 10
    rw [if_neg (by omega)]; omega
  · show s0 (100 + j) s = 0
    unfold s0
    rw [if_neg (by omega), if_neg (by omega)]
  · show (if k = 8 then 1 else 0) = if k = 8 then 2 else 0
    rw [if_neg (by omega), if_neg (by omega)]
  · show s0 (100 + j) s = s0 15 (100 * j + s)
    unfold s0
    rw [if_neg (by omega), if_neg (by omega)]
    rfl
theorem rkS_k (c : Nat) (p : Int32 × St) (n : Nat) : (fU (rkS c) p n).2.1 = p.2.1 ∧ ∀ m, m ≠ c → (fU (rkS c) p n).2.2 m = p.2.2 m := by
  induction n with
  | zero => exact ⟨rfl, fun _ _ => rfl⟩
  | succ n ih =>
    rw [fU_s]
    generalize fU (rkS c) p n = F at ih
    unfold rkS
    split
    · exact ih
    · exact ⟨ih.1, fun m hm => (va_up_ne _ _ hm).trans (ih.2 m hm)⟩
theorem rk_k (c : Nat) (v : Int32) (x : St) : (rk c v x).1 = x.1 ∧ ∀ m, m ≠ c → (rk c v x).2 m = x.2 m := rkS_k c (v, x) 3
theorem fl_k (c : Nat) (v : Int32) (x : St) : (fl c v x).1 = x.1 ∧ ∀ m, m ≠ c → (fl c v x).2 m = x.2 m := by
  unfold fl
  generalize 3 = n
  induction n with
  | zero => exact ⟨rfl, fun _ _ => rfl⟩
  | succ n ih =>
    rw [fU_s]
    generalize fU (flS c v) x n = F at ih
    exact ⟨ih.1, fun m hm => (va_up_ne _ _ hm).trans (ih.2 m hm)⟩
theorem wRG_k (j : Nat) (x : St) : (wRG j x).1 = x.1 ∧ ∀ m, m ≠ 24 → (wRG j x).2 m = x.2 m := by
  unfold wRG
  generalize x.1 0 0 = n
  induction n with
  | zero => exact fl_k 24 0 x
  | succ n ih =>
    rw [fU_s]
    generalize fU (stRG j) (fl 24 0 x) n = F at ih
    unfold stRG
    split
    · have h := rk_k 24 (pD F n (F.2 5 j) (nI (F.1 9 0))) F
      exact ⟨h.1.trans ih.1, fun m hm => (h.2 m hm).trans (ih.2 m hm)⟩
    · exact ih
theorem wRL_k (j : Nat) (x : St) : (wRL j x).1 = x.1 ∧ ∀ m, m ≠ 25 → (wRL j x).2 m = x.2 m := by
  unfold wRL
  generalize 10 = n
  induction n with
  | zero => exact fl_k 25 _ x
  | succ n ih =>
    rw [fU_s]
    generalize fU (stRL j) (fl 25 (-1000) x) n = F at ih
    unfold stRL
    have h := rk_k 25 (-(pS F (10 * j + n) (F.2 5 j) (nI (F.1 9 0)))) F
    exact ⟨h.1.trans ih.1, fun m hm => (h.2 m hm).trans (ih.2 m hm)⟩
theorem stN_k (j : Nat) (x : St) : (stN j x).1 = x.1 ∧ ∀ m, m ≠ 24 → m ≠ 25 → (stN j x).2 m = x.2 m := by
  unfold stN
  have h1 := wRG_k j x
  generalize wRG j x = X at h1
  have h2 := wRL_k j X
  generalize wRL j X = Z at h2
  exact ⟨h2.1.trans h1.1, fun m a b => (h2.2 m b).trans (h1.2 m a)⟩
theorem stN_f (x : St) (n : Nat) : (fU stN x n).1 = x.1 ∧ ∀ m, m ≠ 24 → m ≠ 25 → (fU stN x n).2 m = x.2 m := by
  induction n with
  | zero => exact ⟨rfl, fun _ _ _ => rfl⟩
  | succ n ih =>
    rw [fU_s]
    generalize fU stN x n = F at ih
    have h := stN_k n F
    exact ⟨h.1.trans ih.1, fun m a b => (h.2 m a b).trans (ih.2 m a b)⟩
theorem sim_meanPull {q : Nat} {x y : St} (hR : Rel q x y) (hq : q < 512) : Sim ["java/lang/ArithmeticException"] (cp_meanPull x) (mp_meanPull y) q := by
  unfold cp_meanPull mp_meanPull
  rw [mean_eq hR]
  generalize fU (stMp x) ((0 : Nat), (0 : Int32)) (x.1 0 0) = p
  by_cases c : p.1 = 0
  · rw [if_pos c, if_pos c]
    exact Sim.thr 1 (hR.s.z 0 _) rfl (by decide +kernel)
  · rw [if_neg c, if_neg c]
    exact Sim.ok rfl (hR.s.z 0 _) rfl
theorem sim_isSound {q : Nat} {x y : St} (hR : Rel q x y) (hq : q < 512) : SimG (cp_isSound x) (mp_isSound y) q := by
  have h := stN_f x (x.1 1 0)
  unfold cp_isSound mp_isSound
  generalize fU stN x (x.1 1 0) = X at h ⊢
  exact ⟨rfl, rfl, hR.s.x h.1 (fun k hk => h.2 k (by omega) (by omega)) (fun j => h.2 _ (by omega) (by omega))⟩
