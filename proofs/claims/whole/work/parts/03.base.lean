/-! ===== a world told by tags: the cell of tag t lies at g t and holds F t; 'live' says which tags there are ===== -/
def wH (D : va_G) (sz0 : Nat) (g : Nat → Nat) (live : Nat → Prop) (F : Nat → va_E) (H : Heap) : Prop :=
  (∀ t, live t → t < 1000) ∧ (∀ t, live t → va_at D vwCl (g t, F t) H) ∧ (∀ t t', live t → live t' → g t = g t' → t = t') ∧ ∀ t, live t → sz0 ≤ g t
theorem wL_ex (live : Nat → Prop) : ∀ n : Nat, ∃ L : List Nat, (∀ i j t : Nat, L[i]? = some t → L[j]? = some t → i = j) ∧ ∀ t, t ∈ L ↔ (t < n ∧ live t)
  | 0 => ⟨[], fun i j t h => by simp at h, fun t => by simp⟩
  | n + 1 => by
    obtain ⟨L, h1, h2⟩ := wL_ex live n
    by_cases hn : live n
    · refine ⟨n :: L, fun i j t hi hj => ?_, fun t => ?_⟩
      · cases i with
        | zero =>
          cases j with
          | zero => rfl
          | succ j =>
            rw [List.getElem?_cons_zero] at hi
            rw [List.getElem?_cons_succ] at hj
            cases hi
            have := ((h2 n).mp (List.mem_of_getElem? hj)).1
            omega
        | succ i =>
          rw [List.getElem?_cons_succ] at hi
          cases j with
          | zero =>
            rw [List.getElem?_cons_zero] at hj
            cases hj
            have := ((h2 n).mp (List.mem_of_getElem? hi)).1
            omega
          | succ j =>
            rw [List.getElem?_cons_succ] at hj
            rw [h1 i j t hi hj]
      · rw [List.mem_cons, h2 t]
        constructor
        · rintro (rfl | ⟨q1, q2⟩)
          · exact ⟨by omega, hn⟩
          · exact ⟨by omega, q2⟩
        · rintro ⟨q1, q2⟩
          by_cases e : t = n
          · exact Or.inl e
          · exact Or.inr ⟨by omega, q2⟩
    · refine ⟨L, h1, fun t => ?_⟩
      rw [h2 t]
      constructor
      · rintro ⟨q1, q2⟩
        exact ⟨by omega, q2⟩
      · rintro ⟨q1, q2⟩
        refine ⟨?_, q2⟩
        by_cases e : t = n
        · rw [e] at q2; exact absurd q2 hn
        · omega
noncomputable def wL (live : Nat → Prop) : List Nat := Classical.choose (wL_ex live 1000)
noncomputable def wW (g : Nat → Nat) (live : Nat → Prop) (F : Nat → va_E) : va_W := (wL live).map (fun t => (g t, F t))
theorem wL_mem {live : Nat → Prop} (h : ∀ t, live t → t < 1000) {t : Nat} : t ∈ wL live ↔ live t :=
  ((Classical.choose_spec (wL_ex live 1000)).2 t).trans ⟨fun q => q.2, fun q => ⟨h t q, q⟩⟩
theorem wL_inj {live : Nat → Prop} {i j t : Nat} (hi : (wL live)[i]? = some t) (hj : (wL live)[j]? = some t) : i = j := (Classical.choose_spec (wL_ex live 1000)).1 i j t hi hj
theorem wW_at {g : Nat → Nat} {live : Nat → Prop} {F : Nat → va_E} {k : Nat} {q : Nat × va_E} (h : (wW g live F)[k]? = some q) : ∃ t, (wL live)[k]? = some t ∧ q = (g t, F t) := by
  unfold wW at h
  rw [List.getElem?_map] at h
  cases hk : (wL live)[k]? with
  | none => rw [hk] at h; cases h
  | some t => rw [hk] at h; exact ⟨t, rfl, (Option.some.inj h).symm⟩
theorem wW_P {D : va_G} {sz0 : Nat} {g : Nat → Nat} {live : Nat → Prop} {F : Nat → va_E} {H : Heap} (h : wH D sz0 g live F H) : va_P D vwCl (wW g live F) H := by
  intro k q hk
  obtain ⟨t, h1, rfl⟩ := wW_at hk
  exact h.2.1 t ((wL_mem h.1).mp (List.mem_of_getElem? h1))
theorem wW_D {D : va_G} {sz0 : Nat} {g : Nat → Nat} {live : Nat → Prop} {F : Nat → va_E} {H : Heap} (h : wH D sz0 g live F H) : va_D (fun q => sz0 ≤ q) (wW g live F) := by
  refine ⟨fun i j p q hi hj hpq => ?_, fun k q hk => ?_⟩
  · obtain ⟨t, h1, rfl⟩ := wW_at hi
    obtain ⟨t', h2, rfl⟩ := wW_at hj
    have ht : t = t' := h.2.2.1 t t' ((wL_mem h.1).mp (List.mem_of_getElem? h1)) ((wL_mem h.1).mp (List.mem_of_getElem? h2)) hpq
    subst ht
    exact wL_inj h1 h2
  · obtain ⟨t, h1, rfl⟩ := wW_at hk
    exact h.2.2.2 t ((wL_mem h.1).mp (List.mem_of_getElem? h1))
theorem wW_get {D : va_G} {sz0 : Nat} {g : Nat → Nat} {live : Nat → Prop} {F : Nat → va_E} {H : Heap} (h : wH D sz0 g live F H) {t : Nat} (ht : live t) : ∃ k : Nat, (wL live)[k]? = some t ∧ (wW g live F)[k]? = some (g t, F t) := by
  obtain ⟨k, hk⟩ := List.getElem?_of_mem ((wL_mem h.1).mpr ht)
  refine ⟨k, hk, ?_⟩
  unfold wW
  rw [List.getElem?_map, hk]
  rfl
theorem wH_of {D : va_G} {sz0 : Nat} {g : Nat → Nat} {live : Nat → Prop} {F : Nat → va_E} {H : Heap} (hb : ∀ t, live t → t < 1000) (hP : va_P D vwCl (wW g live F) H) (hD : va_D (fun q => sz0 ≤ q) (wW g live F)) : wH D sz0 g live F H := by
  have key : ∀ t, live t → ∃ k : Nat, (wL live)[k]? = some t ∧ (wW g live F)[k]? = some (g t, F t) := by
    intro t ht
    obtain ⟨k, hk⟩ := List.getElem?_of_mem ((wL_mem hb).mpr ht)
    refine ⟨k, hk, ?_⟩
    unfold wW
    rw [List.getElem?_map, hk]
    rfl
  refine ⟨hb, fun t ht => ?_, fun t t' ht ht' e => ?_, fun t ht => ?_⟩
  · obtain ⟨k, -, h2⟩ := key t ht
    exact hP k _ h2
  · obtain ⟨k, h1, h2⟩ := key t ht
    obtain ⟨k', h3, h4⟩ := key t' ht'
    have hk := hD.1 k k' _ _ h2 h4 e
    subst hk
    exact Option.some.inj (h1.symm.trans h3)
  · obtain ⟨k, -, h2⟩ := key t ht
    exact hD.2 k _ h2
theorem wW_set {g : Nat → Nat} {live : Nat → Prop} {F : Nat → va_E} {k t : Nat} {e : va_E} (hk : (wL live)[k]? = some t) : (wW g live F).set k (g t, e) = wW g live (va_up F t e) := by
  refine List.ext_getElem? fun i => ?_
  by_cases hi : i = k
  · subst hi
    have hl : i < (wW g live F).length := by
      unfold wW
      rw [List.length_map]
      exact (List.getElem?_eq_some_iff.mp hk).1
    rw [List.getElem?_set_self hl]
    unfold wW
    rw [List.getElem?_map, hk]
    simp [va_up]
  · rw [List.getElem?_set_ne (Ne.symm hi)]
    unfold wW
    rw [List.getElem?_map, List.getElem?_map]
    cases hj : (wL live)[i]? with
    | none => rfl
    | some t' =>
      have hne : t' ≠ t := fun e' => hi (wL_inj (by rw [hj, e']) hk)
      simp [va_up, hne]
theorem wH_put {D : va_G} {sz0 : Nat} {g : Nat → Nat} {live : Nat → Prop} {F : Nat → va_E} {H1 : Heap} {k t : Nat} {e : va_E} (hb : ∀ t, live t → t < 1000) (hk : (wL live)[k]? = some t) (hP : va_P D vwCl ((wW g live F).set k (g t, e)) H1) (hD : va_D (fun q => sz0 ≤ q) ((wW g live F).set k (g t, e))) : wH D sz0 g live (va_up F t e) H1 := by
  rw [wW_set hk] at hP hD
  exact wH_of hb hP hD
theorem wH_one {D : va_G} {sz0 : Nat} {g : Nat → Nat} {live : Nat → Prop} {F : Nat → va_E} {H : Heap} (h : wH D sz0 g live F H) {t : Nat} {e : va_E} (ht : live t) (hF : F t = e) : va_P D vwCl [(g t, e)] H := by
  intro k q hk
  have hz : k < 1 := (List.getElem?_eq_some_iff.mp hk).1
  rw [show k = 0 by omega] at hk
  cases hk
  rw [← hF]
  exact h.2.1 t ht
theorem wH_new {D : va_G} {sz0 : Nat} {g : Nat → Nat} {live : Nat → Prop} {F : Nat → va_E} {H H1 : Heap} (h : wH D sz0 g live F H) {t a : Nat} {e : va_E} (ht : ¬ live t) (ht2 : t < 1000) (hP : va_P D vwCl (wW g live F ++ [(a, e)]) H1) (hD : va_D (fun q => sz0 ≤ q) (wW g live F ++ [(a, e)])) : wH D sz0 (va_up g t a) (fun x => live x ∨ x = t) (va_up F t e) H1 := by
  have old : ∀ x, live x → ∃ k : Nat, k < (wW g live F).length ∧ (wW g live F ++ [(a, e)])[k]? = some (g x, F x) ∧ (wL live)[k]? = some x := by
    intro x hx
    obtain ⟨k, h1, h2⟩ := wW_get h hx
    have hl := (List.getElem?_eq_some_iff.mp h2).1
    exact ⟨k, hl, by rw [List.getElem?_append_left hl]; exact h2, h1⟩
  have new : (wW g live F ++ [(a, e)])[(wW g live F).length]? = some (a, e) := by
    rw [List.getElem?_append_right (Nat.le_refl _), Nat.sub_self]; rfl
  have ne : ∀ x, live x → x ≠ t := fun x hx e' => ht (e' ▸ hx)
  refine ⟨fun x hx => ?_, fun x hx => ?_, fun x y hx hy hxy => ?_, fun x hx => ?_⟩
  · rcases hx with hx | rfl
    · exact h.1 x hx
    · exact ht2
  · rcases hx with hx | rfl
    · obtain ⟨k, -, h1, -⟩ := old x hx
      rw [va_up_ne _ _ (ne x hx), va_up_ne _ _ (ne x hx)]
      exact hP k _ h1
    · rw [va_up_self, va_up_self]
      exact hP _ _ new
  · rcases hx with hx | rfl <;> rcases hy with hy | rfl
    · rw [va_up_ne _ _ (ne x hx), va_up_ne _ _ (ne y hy)] at hxy
      exact h.2.2.1 x y hx hy hxy
    · rw [va_up_ne _ _ (ne x hx), va_up_self] at hxy
      obtain ⟨k, hl, h1, -⟩ := old x hx
      have := hD.1 _ _ _ _ h1 new hxy
      omega
    · rw [va_up_ne _ _ (ne y hy), va_up_self] at hxy
      obtain ⟨k, hl, h1, -⟩ := old y hy
      have := hD.1 _ _ _ _ h1 new hxy.symm
      omega
    · rfl
  · rcases hx with hx | rfl
    · rw [va_up_ne _ _ (ne x hx)]
      exact h.2.2.2 x hx
    · rw [va_up_self]
      exact hD.2 _ _ new
/-- the same cells by other names, or fewer -/
theorem wH_re {D : va_G} {sz0 : Nat} {g g' : Nat → Nat} {live live' : Nat → Prop} {F F' : Nat → va_E} {H : Heap} (h : wH D sz0 g live F H) (f : Nat → Nat) (hf : ∀ t, live' t → t < 1000 ∧ live (f t) ∧ g' t = g (f t) ∧ F' t = F (f t)) (hi : ∀ t t', live' t → live' t' → f t = f t' → t = t') : wH D sz0 g' live' F' H := by
  refine ⟨fun t ht => (hf t ht).1, fun t ht => ?_, fun t t' ht ht' e => ?_, fun t ht => ?_⟩
  · obtain ⟨-, h1, h2, h3⟩ := hf t ht
    rw [h2, h3]
    exact h.2.1 _ h1
  · obtain ⟨-, h1, h2, h3⟩ := hf t ht
    obtain ⟨-, h4, h5, h6⟩ := hf t' ht'
    exact hi t t' ht ht' (h.2.2.1 _ _ h1 h4 (by rw [← h2, ← h5]; exact e))
  · obtain ⟨-, h1, h2, h3⟩ := hf t ht
    rw [h2]
    exact h.2.2.2 _ h1
theorem wH_cg {D : va_G} {sz0 : Nat} {g : Nat → Nat} {live live' : Nat → Prop} {F F' : Nat → va_E} {H : Heap} (h : wH D sz0 g live F H) (hf : ∀ t, live' t → live t ∧ F' t = F t) : wH D sz0 g live' F' H :=
  wH_re h (fun t => t) (fun t ht => ⟨h.1 t (hf t ht).1, (hf t ht).1, rfl, (hf t ht).2⟩) (fun _ _ _ _ e => e)
theorem wH.lt {D : va_G} {sz0 : Nat} {g : Nat → Nat} {live : Nat → Prop} {F : Nat → va_E} {H : Heap} (h : wH D sz0 g live F H) {t : Nat} (ht : live t) : g t < H.size := (h.2.1 t ht).lt
theorem wH.kept {D : va_G} {sz0 : Nat} {g : Nat → Nat} {live : Nat → Prop} {F : Nat → va_E} {H H1 : Heap} (h : wH D sz0 g live F H) (hk : ∀ q : Nat, q < H.size → H1[q]? = H[q]?) : wH D sz0 g live F H1 :=
  ⟨h.1, fun t ht => (h.2.1 t ht).kept (hk _ (h.lt ht)), h.2.2⟩
section ROWS
variable {p : Program} {l : Launch} {e : Env} {R : Room} {s : State} {m : MethodId} {args : Array Value} {below : List Frame} {meth : Method} {c : Code} {H : Heap} {locs : List Loc} {cells slots : Nat} {Q : State → Prop}
variable {cc : ByteArray} {pc : Nat} {ls : Array Slot} {rest : List Value} {D : va_G} {tys : List (ClassId × FieldType)} {H0 : Heap} {sz0 : Nat} {g : Nat → Nat} {live : Nat → Prop} {F : Nat → va_E}
theorem wr_get (hx : p.tables.exec = Jvm.exec) (hb : c.code = cc) {own ref C : String} {T : u_T} {N ci index : Nat} {Ts : List Cond} (hts : ∀ w ∈ Ts, w.before args s = true) (hin : ∀ w ∈ u_ws C T N, w ∈ Ts) (hown : s.vm.findClass own = some m.cls) (hK : va_K D vwCl tys s) (hH : wH D sz0 g live F H) {t : Nat} (ht : live t) {fs : List Value} (hF : F t = .inr (ci, fs)) (hc : vwCl[ci]? = some (C, T, N)) (k : Nat) (hk : k < N) (hlink : (Cond.fieldLink own index ref (T k).2.1 (T k).2.2.1).before args s = true) (hsame : ∀ x, s.fieldFound? (T k).1 (T k).2.1 (T k).2.2.1 = some x → s.fieldFound? ref (T k).2.1 (T k).2.2.1 = some x) {v : Value} (hv : fs[k]? = some v) (hdg : decode cc pc = .ok (.getfield index, 3))
    (kk : W p l e R s m args below meth c H locs cells slots Q (F0 m (pc + 3) ls (v :: rest))) : W p l e R s m args below meth c H locs cells slots Q (F0 m pc ls (.ref (g t) :: rest)) :=
  va_get hx hb hts hin hown hK (wH_one hH ht hF) 0 rfl hc k hk hlink hsame hv hdg kk
theorem wr_put (hx : p.tables.exec = Jvm.exec) (hb : c.code = cc) {own ref C : String} {T : u_T} {N ci index : Nat} {Ts : List Cond} (hts : ∀ w ∈ Ts, w.before args s = true) (hin : ∀ w ∈ u_ws C T N, w ∈ Ts) (ty0 : Nat → FieldType) (hty : ∀ k, k < N → parseFieldDescriptor (T k).2.2.1 = some (ty0 k)) (hnm : ∀ a, a < N → ∀ b, b < N → a ≠ b → (T a).2.1 ≠ (T b).2.1) (hown : s.vm.findClass own = some m.cls) (hK : va_K D vwCl tys s) (hH : wH D sz0 g live F H) (hS : va_S (fun q => sz0 ≤ q) H0 H locs) {t : Nat} (ht : live t) {fs : List Value} (hF : F t = .inr (ci, fs)) (hc : vwCl[ci]? = some (C, T, N)) (k : Nat) (hk : k < N) (hlink : (Cond.fieldLink own index ref (T k).2.1 (T k).2.2.1).before args s = true) (hsame : ∀ x, s.fieldFound? (T k).1 (T k).2.1 (T k).2.2.1 = some x → s.fieldFound? ref (T k).2.1 (T k).2.2.1 = some x) (hfin : (T k).2.2.2 = false) {ty : FieldType} {v : Value} (hd : parseFieldDescriptor (T k).2.2.1 = some ty) (hn : narrow ty v = v) (hfit : fits ty v = true) (hl : k < fs.length)
    (hdg : decode cc pc = .ok (.putfield index, 3)) (kk : ∀ (H1 : Heap) (locs1 : List Loc), wH D sz0 g live (va_up F t (.inr (ci, fs.set k v))) H1 → va_S (fun q => sz0 ≤ q) H0 H1 locs1 → W p l e R s m args below meth c H1 locs1 cells slots Q (F0 m (pc + 3) ls rest)) : W p l e R s m args below meth c H locs cells slots Q (F0 m pc ls (v :: .ref (g t) :: rest)) := by
  obtain ⟨q0, h1, h2⟩ := wW_get hH ht
  rw [hF] at h2
  exact va_put hx hb hts hin ty0 hty hnm hown hK (wW_P hH) (wW_D hH) hS q0 h2 hc k hk hlink hsame hfin hd hn hfit hl hdg (fun H1 locs1 hP hD hS1 => kk H1 locs1 (wH_put hH.1 h1 hP hD) hS1)
theorem wr_putF (hx : p.tables.exec = Jvm.exec) (hb : c.code = cc) {own ref C : String} {T : u_T} {N ci index : Nat} {Ts : List Cond} (hts : ∀ w ∈ Ts, w.before args s = true) (hin : ∀ w ∈ u_ws C T N, w ∈ Ts) (ty0 : Nat → FieldType) (hty : ∀ k, k < N → parseFieldDescriptor (T k).2.2.1 = some (ty0 k)) (hnm : ∀ a, a < N → ∀ b, b < N → a ≠ b → (T a).2.1 ≠ (T b).2.1) (hown : s.vm.findClass own = some m.cls) (hK : va_K D vwCl tys s) (hH : wH D sz0 g live F H) (hS : va_S (fun q => sz0 ≤ q) H0 H locs) {t : Nat} (ht : live t) {fs : List Value} (hF : F t = .inr (ci, fs)) (hc : vwCl[ci]? = some (C, T, N)) (k : Nat) (hk : k < N) (hlink : (Cond.fieldLink own index ref (T k).2.1 (T k).2.2.1).before args s = true) (hsame : ∀ x, s.fieldFound? (T k).1 (T k).2.1 (T k).2.2.1 = some x → s.fieldFound? ref (T k).2.1 (T k).2.2.1 = some x) (hfin : (T k).2.2.2 = true) (hin2 : meth.name = "<init>") (hdecl : (T k).1 = own) {ty : FieldType} {v : Value} (hd : parseFieldDescriptor (T k).2.2.1 = some ty) (hn : narrow ty v = v) (hfit : fits ty v = true) (hl : k < fs.length)
    (hdg : decode cc pc = .ok (.putfield index, 3)) (kk : ∀ (H1 : Heap) (locs1 : List Loc), wH D sz0 g live (va_up F t (.inr (ci, fs.set k v))) H1 → va_S (fun q => sz0 ≤ q) H0 H1 locs1 → W p l e R s m args below meth c H1 locs1 cells slots Q (F0 m (pc + 3) ls rest)) : W p l e R s m args below meth c H locs cells slots Q (F0 m pc ls (v :: .ref (g t) :: rest)) := by
  obtain ⟨q0, h1, h2⟩ := wW_get hH ht
  rw [hF] at h2
  exact va_putF hx hb hts hin ty0 hty hnm hown hK (wW_P hH) (wW_D hH) hS q0 h2 hc k hk hlink hsame hfin hin2 hdecl hd hn hfit hl hdg (fun H1 locs1 hP hD hS1 => kk H1 locs1 (wH_put hH.1 h1 hP hD) hS1)
theorem wr_iald (hx : p.tables.exec = Jvm.exec) (hb : c.code = cc) (hK : va_K D vwCl tys s) (hH : wH D sz0 g live F H) {t : Nat} (ht : live t) {cA : ClassId} {n : Nat} {f : Nat → Int32} (hF : F t = .inl (cA, n, .inl f)) (t0 : Nat) (hty : tys[t0]? = some (cA, .int)) {i : Int32} (hin : vp_in i n) {v : Int32} (hv : f i.toNatClampNeg = v) (hdg : decode cc pc = .ok (.iaload, 1))
    (kk : W p l e R s m args below meth c H locs cells slots Q (F0 m (pc + 1) ls (.int v :: rest))) : W p l e R s m args below meth c H locs cells slots Q (F0 m pc ls (.int i :: .ref (g t) :: rest)) := by
  subst hv
  exact va_iald hx hb hK (wH_one hH ht hF) 0 t0 rfl hty hin hdg kk
theorem wr_zald (hx : p.tables.exec = Jvm.exec) (hb : c.code = cc) (hK : va_K D vwCl tys s) (hH : wH D sz0 g live F H) {t : Nat} (ht : live t) {cA : ClassId} {n : Nat} {f : Nat → Int32} (hF : F t = .inl (cA, n, .inl f)) (t0 : Nat) (hty : tys[t0]? = some (cA, .boolean)) {i : Int32} (hin : vp_in i n) {v : Int32} (hv : f i.toNatClampNeg = v) (hdg : decode cc pc = .ok (.baload, 1))
    (kk : W p l e R s m args below meth c H locs cells slots Q (F0 m (pc + 1) ls (.int v :: rest))) : W p l e R s m args below meth c H locs cells slots Q (F0 m pc ls (.int i :: .ref (g t) :: rest)) := by
  subst hv
  exact va_zald hx hb hK (wH_one hH ht hF) 0 t0 rfl hty hin hdg kk
theorem wr_lald (hx : p.tables.exec = Jvm.exec) (hb : c.code = cc) (hK : va_K D vwCl tys s) (hH : wH D sz0 g live F H) {t : Nat} (ht : live t) {cA : ClassId} {n : Nat} {f : Nat → Int64} (hF : F t = .inl (cA, n, .inr (.inl f))) (t0 : Nat) (hty : tys[t0]? = some (cA, .long)) {i : Int32} (hin : vp_in i n) {v : Int64} (hv : f i.toNatClampNeg = v) (hdg : decode cc pc = .ok (.laload, 1))
    (kk : W p l e R s m args below meth c H locs cells slots Q (F0 m (pc + 1) ls (.long v :: rest))) : W p l e R s m args below meth c H locs cells slots Q (F0 m pc ls (.int i :: .ref (g t) :: rest)) := by
  subst hv
  exact va_lald hx hb hK (wH_one hH ht hF) 0 t0 rfl hty hin hdg kk
theorem wr_dald (hx : p.tables.exec = Jvm.exec) (hb : c.code = cc) (hK : va_K D vwCl tys s) (hH : wH D sz0 g live F H) {t : Nat} (ht : live t) {cA : ClassId} {n : Nat} {f : Nat → UInt64} (hF : F t = .inl (cA, n, .inr (.inr (.inr (.inl f))))) (t0 : Nat) (hty : tys[t0]? = some (cA, .double)) {i : Int32} (hin : vp_in i n) {v : UInt64} (hv : f i.toNatClampNeg = v) (hdg : decode cc pc = .ok (.daload, 1))
    (kk : W p l e R s m args below meth c H locs cells slots Q (F0 m (pc + 1) ls (.double v :: rest))) : W p l e R s m args below meth c H locs cells slots Q (F0 m pc ls (.int i :: .ref (g t) :: rest)) := by
  subst hv
  exact va_dald hx hb hK (wH_one hH ht hF) 0 t0 rfl hty hin hdg kk
theorem wr_aldq (hx : p.tables.exec = Jvm.exec) (hb : c.code = cc) (hK : va_K D vwCl tys s) (hH : wH D sz0 g live F H) {t : Nat} (ht : live t) {cA : ClassId} {C : String} {n : Nat} {f : Nat → Option Nat} (hF : F t = .inl (cA, n, .inr (.inr (.inr (.inr f))))) (t0 : Nat) (hty : tys[t0]? = some (cA, .object C)) {i : Int32} (hin : vp_in i n) {v : Value} (hv : va_rf (f i.toNatClampNeg) = v) (hdg : decode cc pc = .ok (.aaload, 1))
    (kk : W p l e R s m args below meth c H locs cells slots Q (F0 m (pc + 1) ls (v :: rest))) : W p l e R s m args below meth c H locs cells slots Q (F0 m pc ls (.int i :: .ref (g t) :: rest)) := by
  subst hv
  exact va_aldq hx hb hK (wH_one hH ht hF) 0 t0 rfl hty hin hdg kk
theorem wr_alen (hx : p.tables.exec = Jvm.exec) (hb : c.code = cc) (hK : va_K D vwCl tys s) (hH : wH D sz0 g live F H) {t : Nat} (ht : live t) {cA : ClassId} {x : vp_A} (hF : F t = .inl (cA, x)) (t0 : Nat) {ty : FieldType} (hty : tys[t0]? = some (cA, ty)) {v : Int32} (hv : Int32.ofNat x.1 = v) (hdg : decode cc pc = .ok (.arraylength, 1))
    (kk : W p l e R s m args below meth c H locs cells slots Q (F0 m (pc + 1) ls (.int v :: rest))) : W p l e R s m args below meth c H locs cells slots Q (F0 m pc ls (.ref (g t) :: rest)) :=
  va_alen hx hb hK (wH_one hH ht hF) 0 t0 rfl hty hv hdg kk
theorem wr_iast (hx : p.tables.exec = Jvm.exec) (hb : c.code = cc) (hK : va_K D vwCl tys s) (hH : wH D sz0 g live F H) (hS : va_S (fun q => sz0 ≤ q) H0 H locs) {t : Nat} (ht : live t) {cA : ClassId} {n : Nat} {f : Nat → Int32} (hF : F t = .inl (cA, n, .inl f)) (t0 : Nat) (hty : tys[t0]? = some (cA, .int)) {i x : Int32} (hin : vp_in i n) (hdg : decode cc pc = .ok (.iastore, 1))
    (kk : ∀ (H1 : Heap) (locs1 : List Loc), wH D sz0 g live (va_up F t (.inl (cA, n, .inl (upd f i.toNatClampNeg x)))) H1 → va_S (fun q => sz0 ≤ q) H0 H1 locs1 → W p l e R s m args below meth c H1 locs1 cells slots Q (F0 m (pc + 1) ls rest)) : W p l e R s m args below meth c H locs cells slots Q (F0 m pc ls (.int x :: .int i :: .ref (g t) :: rest)) := by
  obtain ⟨q0, h1, h2⟩ := wW_get hH ht
  rw [hF] at h2
  exact va_iast hx hb hK (wW_P hH) (wW_D hH) hS q0 t0 h2 hty hin hdg (fun H1 locs1 hP hD hS1 => kk H1 locs1 (wH_put hH.1 h1 hP hD) hS1)
theorem wr_zast (hx : p.tables.exec = Jvm.exec) (hb : c.code = cc) (hK : va_K D vwCl tys s) (hH : wH D sz0 g live F H) (hS : va_S (fun q => sz0 ≤ q) H0 H locs) {t : Nat} (ht : live t) {cA : ClassId} {n : Nat} {f : Nat → Int32} (hF : F t = .inl (cA, n, .inl f)) (t0 : Nat) (hty : tys[t0]? = some (cA, .boolean)) {i x : Int32} (hin : vp_in i n) (hdg : decode cc pc = .ok (.bastore, 1))
    (kk : ∀ (H1 : Heap) (locs1 : List Loc), wH D sz0 g live (va_up F t (.inl (cA, n, .inl (upd f i.toNatClampNeg (vp_nar .boolean x))))) H1 → va_S (fun q => sz0 ≤ q) H0 H1 locs1 → W p l e R s m args below meth c H1 locs1 cells slots Q (F0 m (pc + 1) ls rest)) : W p l e R s m args below meth c H locs cells slots Q (F0 m pc ls (.int x :: .int i :: .ref (g t) :: rest)) := by
  obtain ⟨q0, h1, h2⟩ := wW_get hH ht
  rw [hF] at h2
  exact va_zast hx hb hK (wW_P hH) (wW_D hH) hS q0 t0 h2 hty hin hdg (fun H1 locs1 hP hD hS1 => kk H1 locs1 (wH_put hH.1 h1 hP hD) hS1)
theorem wr_last (hx : p.tables.exec = Jvm.exec) (hb : c.code = cc) (hK : va_K D vwCl tys s) (hH : wH D sz0 g live F H) (hS : va_S (fun q => sz0 ≤ q) H0 H locs) {t : Nat} (ht : live t) {cA : ClassId} {n : Nat} {f : Nat → Int64} (hF : F t = .inl (cA, n, .inr (.inl f))) (t0 : Nat) (hty : tys[t0]? = some (cA, .long)) {i : Int32} {x : Int64} (hin : vp_in i n) (hdg : decode cc pc = .ok (.lastore, 1))
    (kk : ∀ (H1 : Heap) (locs1 : List Loc), wH D sz0 g live (va_up F t (.inl (cA, n, .inr (.inl (vp_updL f i.toNatClampNeg x))))) H1 → va_S (fun q => sz0 ≤ q) H0 H1 locs1 → W p l e R s m args below meth c H1 locs1 cells slots Q (F0 m (pc + 1) ls rest)) : W p l e R s m args below meth c H locs cells slots Q (F0 m pc ls (.long x :: .int i :: .ref (g t) :: rest)) := by
  obtain ⟨q0, h1, h2⟩ := wW_get hH ht
  rw [hF] at h2
  exact va_last hx hb hK (wW_P hH) (wW_D hH) hS q0 t0 h2 hty hin hdg (fun H1 locs1 hP hD hS1 => kk H1 locs1 (wH_put hH.1 h1 hP hD) hS1)
theorem wr_dast (hx : p.tables.exec = Jvm.exec) (hb : c.code = cc) (hK : va_K D vwCl tys s) (hH : wH D sz0 g live F H) (hS : va_S (fun q => sz0 ≤ q) H0 H locs) {t : Nat} (ht : live t) {cA : ClassId} {n : Nat} {f : Nat → UInt64} (hF : F t = .inl (cA, n, .inr (.inr (.inr (.inl f))))) (t0 : Nat) (hty : tys[t0]? = some (cA, .double)) {i : Int32} {x : UInt64} (hin : vp_in i n) (hdg : decode cc pc = .ok (.dastore, 1))
    (kk : ∀ (H1 : Heap) (locs1 : List Loc) (f1 : Nat → UInt64), f1 i.toNatClampNeg = x → wH D sz0 g live (va_up F t (.inl (cA, n, .inr (.inr (.inr (.inl f1)))))) H1 → va_S (fun q => sz0 ≤ q) H0 H1 locs1 → W p l e R s m args below meth c H1 locs1 cells slots Q (F0 m (pc + 1) ls rest)) : W p l e R s m args below meth c H locs cells slots Q (F0 m pc ls (.double x :: .int i :: .ref (g t) :: rest)) := by
  obtain ⟨q0, h1, h2⟩ := wW_get hH ht
  rw [hF] at h2
  exact va_dast hx hb hK (wW_P hH) (wW_D hH) hS q0 t0 h2 hty hin hdg (fun H1 locs1 hP hD hS1 => kk H1 locs1 _ (by simp [vf_upd]) (wH_put hH.1 h1 hP hD) hS1)
theorem wr_astqN (hx : p.tables.exec = Jvm.exec) (hb : c.code = cc) (hK : va_K D vwCl tys s) (hH : wH D sz0 g live F H) (hS : va_S (fun q => sz0 ≤ q) H0 H locs) {t : Nat} (ht : live t) {cA : ClassId} {C : String} {n : Nat} {f : Nat → Option Nat} (hF : F t = .inl (cA, n, .inr (.inr (.inr (.inr f))))) (t0 : Nat) (hty : tys[t0]? = some (cA, .object C)) {i : Int32} (hin : vp_in i n) (hdg : decode cc pc = .ok (.aastore, 1))
    (kk : ∀ (H1 : Heap) (locs1 : List Loc), wH D sz0 g live (va_up F t (.inl (cA, n, .inr (.inr (.inr (.inr (va_up f i.toNatClampNeg none))))))) H1 → va_S (fun q => sz0 ≤ q) H0 H1 locs1 → W p l e R s m args below meth c H1 locs1 cells slots Q (F0 m (pc + 1) ls rest)) : W p l e R s m args below meth c H locs cells slots Q (F0 m pc ls (.null :: .int i :: .ref (g t) :: rest)) := by
  obtain ⟨q0, h1, h2⟩ := wW_get hH ht
  rw [hF] at h2
  exact va_astqN hx hb hK (wW_P hH) (wW_D hH) hS q0 t0 h2 hty hin hdg (fun H1 locs1 hP hD hS1 => kk H1 locs1 (wH_put hH.1 h1 hP hD) hS1)
theorem wr_astq (hx : p.tables.exec = Jvm.exec) (hb : c.code = cc) (hK : va_K D vwCl tys s) (hH : wH D sz0 g live F H) (hS : va_S (fun q => sz0 ≤ q) H0 H locs) {t : Nat} (ht : live t) {cA : ClassId} {r : vw_C} {n : Nat} {f : Nat → Option Nat} (hF : F t = .inl (cA, n, .inr (.inr (.inr (.inr f))))) (t0 : Nat) (hty : tys[t0]? = some (cA, .object r.1)) {tv ci : Nat} (hv : live tv) {vs : List Value} (hFv : F tv = .inr (ci, vs)) (hc : vwCl[ci]? = some r) {i : Int32} (hin : vp_in i n) (hdg : decode cc pc = .ok (.aastore, 1))
    (kk : ∀ (H1 : Heap) (locs1 : List Loc), wH D sz0 g live (va_up F t (.inl (cA, n, .inr (.inr (.inr (.inr (va_up f i.toNatClampNeg (some (g tv)))))))))  H1 → va_S (fun q => sz0 ≤ q) H0 H1 locs1 → W p l e R s m args below meth c H1 locs1 cells slots Q (F0 m (pc + 1) ls rest)) : W p l e R s m args below meth c H locs cells slots Q (F0 m pc ls (.ref (g tv) :: .int i :: .ref (g t) :: rest)) := by
  obtain ⟨q0, h1, h2⟩ := wW_get hH ht
  obtain ⟨q1, -, h4⟩ := wW_get hH hv
  rw [hF] at h2
  rw [hFv] at h4
  exact va_astq hx hb hK (wW_P hH) (wW_D hH) hS q0 t0 q1 ci h2 hty h4 hc hin hdg (fun H1 locs1 hP hD hS1 => kk H1 locs1 (wH_put hH.1 h1 hP hD) hS1)
theorem wr_astqO (hx : p.tables.exec = Jvm.exec) (hb : c.code = cc) (hK : va_K D vwCl tys s) (hH : wH D sz0 g live F H) (hS : va_S (fun q => sz0 ≤ q) H0 H locs) {t : Nat} (ht : live t) {cA : ClassId} {r : vw_C} {E : String} {n : Nat} {f : Nat → Option Nat} (hF : F t = .inl (cA, n, .inr (.inr (.inr (.inr f))))) (t0 : Nat) (hty : tys[t0]? = some (cA, .object E)) {tv ci : Nat} (hv : live tv) {vs : List Value} (hFv : F tv = .inr (ci, vs)) (hc : vwCl[ci]? = some r) (hca : va_Nw (.castable r.1 E) s) {i : Int32} (hin : vp_in i n) (hdg : decode cc pc = .ok (.aastore, 1))
    (kk : ∀ (H1 : Heap) (locs1 : List Loc), wH D sz0 g live (va_up F t (.inl (cA, n, .inr (.inr (.inr (.inr (va_up f i.toNatClampNeg (some (g tv)))))))))  H1 → va_S (fun q => sz0 ≤ q) H0 H1 locs1 → W p l e R s m args below meth c H1 locs1 cells slots Q (F0 m (pc + 1) ls rest)) : W p l e R s m args below meth c H locs cells slots Q (F0 m pc ls (.ref (g tv) :: .int i :: .ref (g t) :: rest)) := by
  obtain ⟨q0, h1, h2⟩ := wW_get hH ht
  obtain ⟨q1, -, h4⟩ := wW_get hH hv
  rw [hF] at h2
  rw [hFv] at h4
  exact va_astqO hx hb hK (wW_P hH) (wW_D hH) hS q0 t0 q1 ci h2 hty hca h4 hc hin hdg (fun H1 locs1 hP hD hS1 => kk H1 locs1 (wH_put hH.1 h1 hP hD) hS1)
theorem wr_new (hx : p.tables.exec = Jvm.exec) (hb : c.code = cc) {own C : String} {T : u_T} {N ci index : Nat} {Ts : List Cond} (hts : ∀ w ∈ Ts, w.before args s = true) (hin : ∀ w ∈ u_ws C T N, w ∈ Ts) (ty : Nat → FieldType) (hty : ∀ k, k < N → parseFieldDescriptor (T k).2.2.1 = some (ty k)) (hown : s.vm.findClass own = some m.cls) (hcl : (Cond.classLink own index C).before args s = true) (hinst : (Cond.instantiable C N).before args s = true) (hini : (Cond.initialized C).before args s = true)
    (hK : va_K D vwCl tys s) (hH : wH D sz0 g live F H) (hS : va_S (fun q => sz0 ≤ q) H0 H locs) (hA : sz0 ≤ H0.size) (hc : vwCl[ci]? = some (C, T, N)) {fs : List Value} (hfs : ∀ j, j < N → defaultValue (ty j) = vp_V fs j) (t : Nat) (ht : ¬ live t) (ht2 : t < 1000) (hcells : cells + 1 ≤ R.cells) (hslots : slots + N ≤ R.slots) (hdg : decode cc pc = .ok (.new index, 3))
    (kk : ∀ (q : Nat) (H1 : Heap), wH D sz0 (va_up g t q) (fun x => live x ∨ x = t) (va_up F t (.inr (ci, fs))) H1 → va_S (fun q => sz0 ≤ q) H0 H1 locs → W p l e R s m args below meth c H1 locs (cells + 1) (slots + N) Q (F0 m (pc + 3) ls (.ref q :: rest))) : W p l e R s m args below meth c H locs cells slots Q (F0 m pc ls rest) :=
  va_new hx hb hts hin ty hty hown hcl hinst hini hK (wW_P hH) (wW_D hH) hS (fun q h => Nat.le_trans hA h) hc hfs hcells hslots hdg (fun q H1 hP hD hS1 => kk q H1 (wH_new hH ht ht2 hP hD) hS1)
theorem wr_newa (hx : p.tables.exec = Jvm.exec) (hb : c.code = cc) {atype : ArrayType} (harr : (Cond.arrayClass (newarray.typeOf atype)).before args s = true) {ty : FieldType} (hty : newarray.typeOf atype = ty) (hK : va_K D vwCl tys s) (hH : wH D sz0 g live F H) (hS : va_S (fun q => sz0 ≤ q) H0 H locs) (hA : sz0 ≤ H0.size) {n : Int32} {N' : Nat} {a0 : vp_A} (ha : ∀ cA : ClassId, vp_cell cA a0 = arrV cA N' (fun _ => defaultValue ty)) (hn : ¬ n < 0) (hN : n.toNatClampNeg = N') (hbytes : N' * componentBytes ty ≤ 536870912) (t : Nat) (ht : ¬ live t) (ht2 : t < 1000) (hcells : cells + 1 ≤ R.cells) (hslots : slots + N' ≤ R.slots) (hdg : decode cc pc = .ok (.newarray atype, 2))
    (kk : ∀ (q : Nat) (cA : ClassId) (H1 : Heap), va_K D vwCl (tys ++ [(cA, ty)]) s → wH D sz0 (va_up g t q) (fun x => live x ∨ x = t) (va_up F t (.inl (cA, a0))) H1 → va_S (fun q => sz0 ≤ q) H0 H1 locs → W p l e R s m args below meth c H1 locs (cells + 1) (slots + N') Q (F0 m (pc + 2) ls (.ref q :: rest))) : W p l e R s m args below meth c H locs cells slots Q (F0 m pc ls (.int n :: rest)) :=
  va_newa hx hb harr hty hK (wW_P hH) (wW_D hH) hS (fun q h => Nat.le_trans hA h) ha hn hN hbytes hcells hslots hdg (fun q cA H1 hK1 hP hD hS1 => kk q cA H1 hK1 (wH_new hH ht ht2 hP hD) hS1)
theorem wr_newq (hx : p.tables.exec = Jvm.exec) (hb : c.code = cc) {own C : String} {index : Nat} (hown : s.vm.findClass own = some m.cls) (hclink : (Cond.classLink own index C).before args s = true) (hover : va_AO C s) (hK : va_K D vwCl tys s) (hH : wH D sz0 g live F H) (hS : va_S (fun q => sz0 ≤ q) H0 H locs) (hA : sz0 ≤ H0.size) {n : Int32} {N' : Nat} (hn : ¬ n < 0) (hN : n.toNatClampNeg = N') (hbytes : N' * 4 ≤ 536870912) (t : Nat) (ht : ¬ live t) (ht2 : t < 1000) (hcells : cells + 1 ≤ R.cells) (hslots : slots + N' ≤ R.slots) (hdg : decode cc pc = .ok (.anewarray index, 3))
    (kk : ∀ (q : Nat) (cA : ClassId) (H1 : Heap), va_K D vwCl (tys ++ [(cA, .object C)]) s → wH D sz0 (va_up g t q) (fun x => live x ∨ x = t) (va_up F t (.inl (cA, N', .inr (.inr (.inr (.inr (fun _ => none))))))) H1 → va_S (fun q => sz0 ≤ q) H0 H1 locs → W p l e R s m args below meth c H1 locs (cells + 1) (slots + N') Q (F0 m (pc + 3) ls (.ref q :: rest))) : W p l e R s m args below meth c H locs cells slots Q (F0 m pc ls (.int n :: rest)) :=
  va_newq hx hb hown hclink hover hK (wW_P hH) (wW_D hH) hS (fun q h => Nat.le_trans hA h) hn hN hbytes hcells hslots hdg (fun q cA H1 hK1 hP hD hS1 => kk q cA H1 hK1 (wH_new hH ht ht2 hP hD) hS1)
end ROWS
/-- the number of an array class is one -/
theorem va_RA_one {U : State} {ty : FieldType} {a b : ClassId} (ha : va_RA U a ty) (hb : va_RA U b ty) : a = b := by
  cases ty with
  | object C =>
    obtain ⟨_, _, _, _, _, h1⟩ := ha
    obtain ⟨_, _, _, _, _, h2⟩ := hb
    exact Option.some.inj (h1.symm.trans h2)
  | _ => exact Option.some.inj (ha.symm.trans hb)
theorem va_K_one {D : va_G} {tys : List (ClassId × FieldType)} {s : State} {cA cB : ClassId} {ty : FieldType} (hK : va_K D vwCl (tys ++ [(cA, ty)]) s) (t0 : Nat) (h0 : tys[t0]? = some (cB, ty)) : cA = cB := by
  have h1 := (hK.2 tys.length (cA, ty) (by simp)).2
  have h2 := (hK.2 t0 (cB, ty) (by rw [List.getElem?_append_left (List.getElem?_eq_some_iff.mp h0).1]; exact h0)).2
  exact va_RA_one h1 h2
