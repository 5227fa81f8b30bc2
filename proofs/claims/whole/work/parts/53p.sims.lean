/-! ===== bestWorth: ranked in the class, greedy in the model ===== -/
abbrev T3 : Type := Int × Int × Int
def insT (v : Int) (r : T3) : T3 := if v ≤ r.1 then (if v ≤ r.2.1 then (if v ≤ r.2.2 then r else (r.1, r.2.1, v)) else (r.1, v, r.2.1)) else (v, r.1, r.2.1)
def srt (r : T3) : Prop := r.2.1 ≤ r.1 ∧ r.2.2 ≤ r.2.1
theorem insT_srt (v : Int) (r : T3) (h : srt r) : srt (insT v r) := by
  obtain ⟨a, b, c⟩ := r
  have h1 : b ≤ a := h.1
  have h2 : c ≤ b := h.2
  unfold insT
  show srt (if v ≤ a then (if v ≤ b then (if v ≤ c then (a, b, c) else (a, b, v)) else (a, v, b)) else (v, a, b))
  by_cases c1 : v ≤ a
  · rw [if_pos c1]
    by_cases c2 : v ≤ b
    · rw [if_pos c2]
      by_cases c3 : v ≤ c
      · rw [if_pos c3]; exact ⟨h1, h2⟩
      · rw [if_neg c3]; exact ⟨h1, c2⟩
    · rw [if_neg c2]; exact ⟨c1, by show b ≤ v; omega⟩
  · rw [if_neg c1]; exact ⟨by show a ≤ v; omega, h1⟩
/-- an entry of the row counts what was put in -/
theorem insT_ge (v : Int) (r : T3) (h : srt r) (t : Int) : (t ≤ (insT v r).1 ↔ t ≤ v ∨ t ≤ r.1) ∧ (t ≤ (insT v r).2.1 ↔ (t ≤ v ∧ t ≤ r.1) ∨ t ≤ r.2.1) ∧ (t ≤ (insT v r).2.2 ↔ (t ≤ v ∧ t ≤ r.2.1) ∨ t ≤ r.2.2) := by
  obtain ⟨a, b, c⟩ := r
  have h1 : b ≤ a := h.1
  have h2 : c ≤ b := h.2
  unfold insT
  show (t ≤ (if v ≤ a then (if v ≤ b then (if v ≤ c then (a, b, c) else (a, b, v)) else (a, v, b)) else (v, a, b) : T3).1 ↔ t ≤ v ∨ t ≤ a) ∧ (t ≤ (if v ≤ a then (if v ≤ b then (if v ≤ c then (a, b, c) else (a, b, v)) else (a, v, b)) else (v, a, b) : T3).2.1 ↔ (t ≤ v ∧ t ≤ a) ∨ t ≤ b) ∧ (t ≤ (if v ≤ a then (if v ≤ b then (if v ≤ c then (a, b, c) else (a, b, v)) else (a, v, b)) else (v, a, b) : T3).2.2 ↔ (t ≤ v ∧ t ≤ b) ∨ t ≤ c)
  by_cases c1 : v ≤ a
  · rw [if_pos c1]
    by_cases c2 : v ≤ b
    · rw [if_pos c2]
      by_cases c3 : v ≤ c
      · rw [if_pos c3]
        show (t ≤ a ↔ t ≤ v ∨ t ≤ a) ∧ (t ≤ b ↔ (t ≤ v ∧ t ≤ a) ∨ t ≤ b) ∧ (t ≤ c ↔ (t ≤ v ∧ t ≤ b) ∨ t ≤ c)
        omega
      · rw [if_neg c3]
        show (t ≤ a ↔ t ≤ v ∨ t ≤ a) ∧ (t ≤ b ↔ (t ≤ v ∧ t ≤ a) ∨ t ≤ b) ∧ (t ≤ v ↔ (t ≤ v ∧ t ≤ b) ∨ t ≤ c)
        omega
    · rw [if_neg c2]
      show (t ≤ a ↔ t ≤ v ∨ t ≤ a) ∧ (t ≤ v ↔ (t ≤ v ∧ t ≤ a) ∨ t ≤ b) ∧ (t ≤ b ↔ (t ≤ v ∧ t ≤ b) ∨ t ≤ c)
      omega
  · rw [if_neg c1]
    show (t ≤ v ↔ t ≤ v ∨ t ≤ a) ∧ (t ≤ a ↔ (t ≤ v ∧ t ≤ a) ∨ t ≤ b) ∧ (t ≤ b ↔ (t ≤ v ∧ t ≤ b) ∨ t ≤ c)
    omega
/-- a row is known by what it is above -/
theorem T3_ext (r s : T3) (h : ∀ t : Int, (t ≤ r.1 ↔ t ≤ s.1) ∧ (t ≤ r.2.1 ↔ t ≤ s.2.1) ∧ (t ≤ r.2.2 ↔ t ≤ s.2.2)) : r = s := by
  obtain ⟨a, b, c⟩ := r
  obtain ⟨a', b', c'⟩ := s
  have e1 : a = a' := by
    have p := (h a).1
    have q := (h a').1
    have p : a ≤ a ↔ a ≤ a' := p
    have q : a' ≤ a ↔ a' ≤ a' := q
    omega
  have e2 : b = b' := by
    have p := (h b).2.1
    have q := (h b').2.1
    have p : b ≤ b ↔ b ≤ b' := p
    have q : b' ≤ b ↔ b' ≤ b' := q
    omega
  have e3 : c = c' := by
    have p := (h c).2.2
    have q := (h c').2.2
    have p : c ≤ c ↔ c ≤ c' := p
    have q : c' ≤ c ↔ c' ≤ c' := q
    omega
  rw [e1, e2, e3]
theorem insT_comm (v w : Int) (r : T3) (h : srt r) : insT v (insT w r) = insT w (insT v r) := by
  refine T3_ext _ _ (fun t => ?_)
  have a1 := insT_ge v (insT w r) (insT_srt w r h) t
  have a2 := insT_ge w (insT v r) (insT_srt v r h) t
  have a3 := insT_ge v r h t
  have a4 := insT_ge w r h t
  rw [a1.1, a1.2.1, a1.2.2, a2.1, a2.2.1, a2.2.2, a3.1, a3.2.1, a3.2.2, a4.1, a4.2.1, a4.2.2]
  have h1 := h.1
  have h2 := h.2
  omega
def stT (F : Nat → Option Int) (i : Nat) (r : T3) : T3 := match F i with
  | none => r
  | some v => insT v r
theorem stT_n {F : Nat → Option Int} {i : Nat} (r : T3) (h : F i = none) : stT F i r = r := by unfold stT; rw [h]
theorem stT_v {F : Nat → Option Int} {i : Nat} {v : Int} (r : T3) (h : F i = some v) : stT F i r = insT v r := by unfold stT; rw [h]
theorem tf_srt (F : Nat → Option Int) (r : T3) (h : srt r) (n : Nat) : srt (fU (stT F) r n) := by
  induction n with
  | zero => exact h
  | succ n ih =>
    rw [fU_s]
    cases e : F n with
    | none => rw [stT_n _ e]; exact ih
    | some v => rw [stT_v _ e]; exact insT_srt v _ ih
theorem tf_cg {F G : Nat → Option Int} (r : T3) (n : Nat) (h : ∀ i, i < n → F i = G i) : fU (stT F) r n = fU (stT G) r n := fU_cg n (fun i hi p => by unfold stT; rw [h i hi])
def wout (F : Nat → Option Int) (d : Nat) : Nat → Option Int := fun i => if i = d then none else F i
theorem tf_out (F : Nat → Option Int) (r : T3) (h : srt r) (d : Nat) (v : Int) (hv : F d = some v) (n : Nat) (hd : d < n) : fU (stT F) r n = insT v (fU (stT (wout F d)) r n) := by
  induction n with
  | zero => omega
  | succ n ih =>
    rw [fU_s, fU_s]
    by_cases c : d = n
    · rw [stT_v _ (c ▸ hv), stT_n (F := wout F d) _ (if_pos c.symm)]
      rw [tf_cg r n (G := wout F d) (fun i hi => (if_neg (by omega)).symm)]
    · rw [ih (by omega)]
      have hs := tf_srt (wout F d) r h n
      generalize fU (stT (wout F d)) r n = s at hs
      have e : wout F d n = F n := if_neg (fun z => c z.symm)
      cases e2 : F n with
      | none => rw [stT_n _ e2, stT_n (F := wout F d) _ (e.trans e2)]
      | some w => rw [stT_v _ e2, stT_v (F := wout F d) _ (e.trans e2), insT_comm _ _ _ hs]
theorem tf_le (F : Nat → Option Int) (r : T3) (h : srt r) (M : Int) (hr : r.1 ≤ M) (n : Nat) (hF : ∀ i, i < n → ∀ v, F i = some v → v ≤ M) : (fU (stT F) r n).1 ≤ M := by
  induction n with
  | zero => exact hr
  | succ n ih =>
    have ih := ih (fun i hi => hF i (by omega))
    rw [fU_s]
    cases e : F n with
    | none => rw [stT_n _ e]; exact ih
    | some v =>
      rw [stT_v _ e]
      have hs := tf_srt F r h n
      generalize fU (stT F) r n = s at hs ih
      have h1 := hF n (by omega) v e
      have h2 := (insT_ge v s hs (insT v s).1).1.mp (Int.le_refl _)
      omega
theorem tf_ge (F : Nat → Option Int) (r : T3) (h : srt r) (n d : Nat) (hd : d < n) (v : Int) (hv : F d = some v) : v ≤ (fU (stT F) r n).1 := by
  rw [tf_out F r h d v hv n hd]
  exact (insT_ge v _ (tf_srt _ r h n) v).1.mpr (Or.inl (Int.le_refl _))
theorem tf_lo (F : Nat → Option Int) (r : T3) (h : srt r) (n : Nat) : r.2.2 ≤ (fU (stT F) r n).2.2 := by
  induction n with
  | zero => exact Int.le_refl _
  | succ n ih =>
    rw [fU_s]
    cases e : F n with
    | none => rw [stT_n _ e]; exact ih
    | some v =>
      rw [stT_v _ e]
      have hs := tf_srt F r h n
      generalize fU (stT F) r n = s at hs ih
      exact (insT_ge v s hs r.2.2).2.2.mpr (Or.inr ih)
theorem tf_non (F : Nat → Option Int) (r : T3) (n : Nat) (h : ∀ i, i < n → F i = none) : fU (stT F) r n = r := by
  induction n with
  | zero => rfl
  | succ n ih => rw [fU_s, stT_n _ (h n (by omega)), ih (fun i hi => h i (by omega))]
/-- the greatest, and the row of the others -/
theorem tf_max (F : Nat → Option Int) (r : T3) (h : srt r) (n d : Nat) (hd : d < n) (v : Int) (hv : F d = some v) (hr : r.1 ≤ v) (hm : ∀ i, i < n → ∀ u, F i = some u → u ≤ v) : (fU (stT F) r n).1 = v ∧ (fU (stT F) r n).2.1 = (fU (stT (wout F d)) r n).1 ∧ (fU (stT F) r n).2.2 = (fU (stT (wout F d)) r n).2.1 := by
  rw [tf_out F r h d v hv n hd]
  have h1 := tf_le (wout F d) r h v hr n (fun i hi u hu => hm i hi u (by
    unfold wout at hu
    by_cases c : i = d
    · rw [if_pos c] at hu; cases hu
    · rw [if_neg c] at hu; exact hu))
  have hs := tf_srt (wout F d) r h n
  generalize fU (stT (wout F d)) r n = s at hs h1
  obtain ⟨a, b, c⟩ := s
  have h1 : a ≤ v := h1
  have hs1 : b ≤ a := hs.1
  have hs2 : c ≤ b := hs.2
  unfold insT
  show (if v ≤ a then (if v ≤ b then (if v ≤ c then (a, b, c) else (a, b, v)) else (a, v, b)) else (v, a, b) : T3).1 = v ∧ (if v ≤ a then (if v ≤ b then (if v ≤ c then (a, b, c) else (a, b, v)) else (a, v, b)) else (v, a, b) : T3).2.1 = a ∧ (if v ≤ a then (if v ≤ b then (if v ≤ c then (a, b, c) else (a, b, v)) else (a, v, b)) else (v, a, b) : T3).2.2 = b
  by_cases c1 : v ≤ a
  · rw [if_pos c1]
    by_cases c2 : v ≤ b
    · rw [if_pos c2]
      by_cases c3 : v ≤ c
      · rw [if_pos c3]; exact ⟨by show a = v; omega, by show b = a; omega, by show c = b; omega⟩
      · rw [if_neg c3]; exact ⟨by show a = v; omega, by show b = a; omega, by show v = b; omega⟩
    · rw [if_neg c2]; exact ⟨by show a = v; omega, by show v = a; omega, rfl⟩
  · rw [if_neg c1]; exact ⟨rfl, rfl, rfl⟩
