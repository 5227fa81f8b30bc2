theorem pm_z {E : wE} {o : wO} {g : Nat → Nat} {x y : St} {H : Heap} {v : Int32} (h : wH E.1 E.2.2 g (liv x.1) (va_up (cel E.2.1 g x y o.1 o.2) 10 (.inr (7, [.ref (g 11), .ref (g 12), .ref (g 13), .ref (g 14), .ref (g 15), .int (nI (y.1 0 0)), .ref (g 16), .ref (g 17), .ref (g 18), .ref (g 19), .ref (g 20), .ref (g 21), .ref (g 22), .ref (g 23), .ref (g 24), .ref (g 25), .ref (g 26), .ref (g 27), .ref (g 28), .int (nI (y.1 1 0)), .ref (g 29), .ref (g 30), .ref (g 31), .ref (g 32), .ref (g 33), .int v, .int (nI (y.1 9 0)), .int (y.2 17 0), .int (y.2 18 0), .int (y.2 28 0)]))) H) : wHS E o g x (uI y 16 0 v) H :=
  wH_to h (fun _ h => h) (by rw [cel_md (by omega) (by omega)]; simp [cMd, uI, va_up]) (cel_cgM 10 (fun t _ _ h0 => by
    unfold cMd
    split <;> first | rfl | exact absurd rfl h0))
theorem pm_minutes {E : wE} {o : wO} {g : Nat → Nat} {x y : St} {H : Heap} {v : Int32} (h : wH E.1 E.2.2 g (liv x.1) (va_up (cel E.2.1 g x y o.1 o.2) 10 (.inr (7, [.ref (g 11), .ref (g 12), .ref (g 13), .ref (g 14), .ref (g 15), .int (nI (y.1 0 0)), .ref (g 16), .ref (g 17), .ref (g 18), .ref (g 19), .ref (g 20), .ref (g 21), .ref (g 22), .ref (g 23), .ref (g 24), .ref (g 25), .ref (g 26), .ref (g 27), .ref (g 28), .int (nI (y.1 1 0)), .ref (g 29), .ref (g 30), .ref (g 31), .ref (g 32), .ref (g 33), .int (y.2 16 0), .int (nI (y.1 9 0)), .int v, .int (y.2 18 0), .int (y.2 28 0)]))) H) : wHS E o g x (uI y 17 0 v) H :=
  wH_to h (fun _ h => h) (by rw [cel_md (by omega) (by omega)]; simp [cMd, uI, va_up]) (cel_cgM 10 (fun t _ _ h0 => by
    unfold cMd
    split <;> first | rfl | exact absurd rfl h0))
theorem pm_earned {E : wE} {o : wO} {g : Nat → Nat} {x y : St} {H : Heap} {v : Int32} (h : wH E.1 E.2.2 g (liv x.1) (va_up (cel E.2.1 g x y o.1 o.2) 10 (.inr (7, [.ref (g 11), .ref (g 12), .ref (g 13), .ref (g 14), .ref (g 15), .int (nI (y.1 0 0)), .ref (g 16), .ref (g 17), .ref (g 18), .ref (g 19), .ref (g 20), .ref (g 21), .ref (g 22), .ref (g 23), .ref (g 24), .ref (g 25), .ref (g 26), .ref (g 27), .ref (g 28), .int (nI (y.1 1 0)), .ref (g 29), .ref (g 30), .ref (g 31), .ref (g 32), .ref (g 33), .int (y.2 16 0), .int (nI (y.1 9 0)), .int (y.2 17 0), .int v, .int (y.2 28 0)]))) H) : wHS E o g x (uI y 18 0 v) H :=
  wH_to h (fun _ h => h) (by rw [cel_md (by omega) (by omega)]; simp [cMd, uI, va_up]) (cel_cgM 10 (fun t _ _ h0 => by
    unfold cMd
    split <;> first | rfl | exact absurd rfl h0))
theorem pm_thrown {E : wE} {o : wO} {g : Nat → Nat} {x y : St} {H : Heap} {v : Int32} (h : wH E.1 E.2.2 g (liv x.1) (va_up (cel E.2.1 g x y o.1 o.2) 10 (.inr (7, [.ref (g 11), .ref (g 12), .ref (g 13), .ref (g 14), .ref (g 15), .int (nI (y.1 0 0)), .ref (g 16), .ref (g 17), .ref (g 18), .ref (g 19), .ref (g 20), .ref (g 21), .ref (g 22), .ref (g 23), .ref (g 24), .ref (g 25), .ref (g 26), .ref (g 27), .ref (g 28), .int (nI (y.1 1 0)), .ref (g 29), .ref (g 30), .ref (g 31), .ref (g 32), .ref (g 33), .int (y.2 16 0), .int (nI (y.1 9 0)), .int (y.2 17 0), .int (y.2 18 0), .int v]))) H) : wHS E o g x (uI y 28 0 v) H :=
  wH_to h (fun _ h => h) (by rw [cel_md (by omega) (by omega)]; simp [cMd, uI, va_up]) (cel_cgM 10 (fun t _ _ h0 => by
    unfold cMd
    split <;> first | rfl | exact absurd rfl h0))
theorem pm_discs {E : wE} {o : wO} {g : Nat → Nat} {x y : St} {H : Heap} {v : Nat} (h : wH E.1 E.2.2 g (liv x.1) (va_up (cel E.2.1 g x y o.1 o.2) 10 (.inr (7, [.ref (g 11), .ref (g 12), .ref (g 13), .ref (g 14), .ref (g 15), .int (nI v), .ref (g 16), .ref (g 17), .ref (g 18), .ref (g 19), .ref (g 20), .ref (g 21), .ref (g 22), .ref (g 23), .ref (g 24), .ref (g 25), .ref (g 26), .ref (g 27), .ref (g 28), .int (nI (y.1 1 0)), .ref (g 29), .ref (g 30), .ref (g 31), .ref (g 32), .ref (g 33), .int (y.2 16 0), .int (nI (y.1 9 0)), .int (y.2 17 0), .int (y.2 18 0), .int (y.2 28 0)]))) H) : wHS E o g x (uN y 0 0 v) H :=
  wH_to h (fun _ h => h) (by rw [cel_md (by omega) (by omega)]; simp [cMd, uN, va_up]) (cel_cgM 10 (fun t _ _ h0 => by
    unfold cMd
    split <;> first | rfl | exact absurd rfl h0))
theorem pm_boxes {E : wE} {o : wO} {g : Nat → Nat} {x y : St} {H : Heap} {v : Nat} (h : wH E.1 E.2.2 g (liv x.1) (va_up (cel E.2.1 g x y o.1 o.2) 10 (.inr (7, [.ref (g 11), .ref (g 12), .ref (g 13), .ref (g 14), .ref (g 15), .int (nI (y.1 0 0)), .ref (g 16), .ref (g 17), .ref (g 18), .ref (g 19), .ref (g 20), .ref (g 21), .ref (g 22), .ref (g 23), .ref (g 24), .ref (g 25), .ref (g 26), .ref (g 27), .ref (g 28), .int (nI v), .ref (g 29), .ref (g 30), .ref (g 31), .ref (g 32), .ref (g 33), .int (y.2 16 0), .int (nI (y.1 9 0)), .int (y.2 17 0), .int (y.2 18 0), .int (y.2 28 0)]))) H) : wHS E o g x (uN y 1 0 v) H :=
  wH_to h (fun _ h => h) (by rw [cel_md (by omega) (by omega)]; simp [cMd, uN, va_up]) (cel_cgM 10 (fun t _ _ h0 => by
    unfold cMd
    split <;> first | rfl | exact absurd rfl h0))
theorem pm_week {E : wE} {o : wO} {g : Nat → Nat} {x y : St} {H : Heap} {v : Nat} (h : wH E.1 E.2.2 g (liv x.1) (va_up (cel E.2.1 g x y o.1 o.2) 10 (.inr (7, [.ref (g 11), .ref (g 12), .ref (g 13), .ref (g 14), .ref (g 15), .int (nI (y.1 0 0)), .ref (g 16), .ref (g 17), .ref (g 18), .ref (g 19), .ref (g 20), .ref (g 21), .ref (g 22), .ref (g 23), .ref (g 24), .ref (g 25), .ref (g 26), .ref (g 27), .ref (g 28), .int (nI (y.1 1 0)), .ref (g 29), .ref (g 30), .ref (g 31), .ref (g 32), .ref (g 33), .int (y.2 16 0), .int (nI v), .int (y.2 17 0), .int (y.2 18 0), .int (y.2 28 0)]))) H) : wHS E o g x (uN y 9 0 v) H :=
  wH_to h (fun _ h => h) (by rw [cel_md (by omega) (by omega)]; simp [cMd, uN, va_up]) (cel_cgM 10 (fun t _ _ h0 => by
    unfold cMd
    split <;> first | rfl | exact absurd rfl h0))
theorem pa_song {E : wE} {o : wO} {g : Nat → Nat} {x y : St} {H : Heap} {i : Nat} {ix : Int32} {v : Nat} (hi : ix.toNatClampNeg = i) (h : wH E.1 E.2.2 g (liv x.1) (va_up (cel E.2.1 g x y o.1 o.2) 11 (.inl (E.2.1.1 0, 30, .inl (upd (fun i => nI (y.1 12 i)) ix.toNatClampNeg (nI v))))) H) : wHS E o g x (uN y 12 i v) H := by
  subst hi
  exact wH_to h (fun _ h => h) (by
    rw [cel_md (by omega) (by omega)]
    show Sum.inl _ = Sum.inl _
    congr 4
    funext q
    by_cases hq : q = ix.toNatClampNeg <;> simp [uN, va_up, upd, hq]) (cel_cgM 11 (fun t _ _ h0 => by
    unfold cMd
    split <;> first | rfl | exact absurd rfl h0))
theorem pa_strength {E : wE} {o : wO} {g : Nat → Nat} {x y : St} {H : Heap} {i : Nat} {ix : Int32} {v : Int32} (hi : ix.toNatClampNeg = i) (h : wH E.1 E.2.2 g (liv x.1) (va_up (cel E.2.1 g x y o.1 o.2) 12 (.inl (E.2.1.1 0, 30, .inl (upd (y.2 1) ix.toNatClampNeg v)))) H) : wHS E o g x (uI y 1 i v) H := by
  subst hi
  exact wH_to h (fun _ h => h) rfl (cel_cgM 12 (fun t _ _ h0 => by
    unfold cMd
    split <;> first | rfl | exact absurd rfl h0))
theorem pa_from {E : wE} {o : wO} {g : Nat → Nat} {x y : St} {H : Heap} {i : Nat} {ix : Int32} {v : Int32} (hi : ix.toNatClampNeg = i) (h : wH E.1 E.2.2 g (liv x.1) (va_up (cel E.2.1 g x y o.1 o.2) 13 (.inl (E.2.1.1 0, 30, .inl (upd (y.2 2) ix.toNatClampNeg v)))) H) : wHS E o g x (uI y 2 i v) H := by
  subst hi
  exact wH_to h (fun _ h => h) rfl (cel_cgM 13 (fun t _ _ h0 => by
    unfold cMd
    split <;> first | rfl | exact absurd rfl h0))
theorem pa_wear {E : wE} {o : wO} {g : Nat → Nat} {x y : St} {H : Heap} {i : Nat} {ix : Int32} {v : Int32} (hi : ix.toNatClampNeg = i) (h : wH E.1 E.2.2 g (liv x.1) (va_up (cel E.2.1 g x y o.1 o.2) 14 (.inl (E.2.1.1 0, 30, .inl (upd (y.2 3) ix.toNatClampNeg v)))) H) : wHS E o g x (uI y 3 i v) H := by
  subst hi
  exact wH_to h (fun _ h => h) rfl (cel_cgM 14 (fun t _ _ h0 => by
    unfold cMd
    split <;> first | rfl | exact absurd rfl h0))
theorem pa_place {E : wE} {o : wO} {g : Nat → Nat} {x y : St} {H : Heap} {i : Nat} {ix : Int32} {v : Nat} (hi : ix.toNatClampNeg = i) (h : wH E.1 E.2.2 g (liv x.1) (va_up (cel E.2.1 g x y o.1 o.2) 15 (.inl (E.2.1.1 0, 30, .inl (upd (fun i => nI (y.1 8 i) - 2) ix.toNatClampNeg (nI v - 2))))) H) : wHS E o g x (uN y 8 i v) H := by
  subst hi
  exact wH_to h (fun _ h => h) (by
    rw [cel_md (by omega) (by omega)]
    show Sum.inl _ = Sum.inl _
    congr 4
    funext q
    by_cases hq : q = ix.toNatClampNeg <;> simp [uN, va_up, upd, hq]) (cel_cgM 15 (fun t _ _ h0 => by
    unfold cMd
    split <;> first | rfl | exact absurd rfl h0))
theorem pa_share {E : wE} {o : wO} {g : Nat → Nat} {x y : St} {H : Heap} {i : Nat} {ix : Int32} {v : Int32} (hi : ix.toNatClampNeg = i) (h : wH E.1 E.2.2 g (liv x.1) (va_up (cel E.2.1 g x y o.1 o.2) 16 (.inl (E.2.1.1 0, 4, .inl (upd (y.2 4) ix.toNatClampNeg v)))) H) : wHS E o g x (uI y 4 i v) H := by
  subst hi
  exact wH_to h (fun _ h => h) rfl (cel_cgM 16 (fun t _ _ h0 => by
    unfold cMd
    split <;> first | rfl | exact absurd rfl h0))
theorem pa_taste {E : wE} {o : wO} {g : Nat → Nat} {x y : St} {H : Heap} {i : Nat} {ix : Int32} {v : Int32} (hi : ix.toNatClampNeg = i) (h : wH E.1 E.2.2 g (liv x.1) (va_up (cel E.2.1 g x y o.1 o.2) 17 (.inl (E.2.1.1 0, 4, .inl (upd (y.2 5) ix.toNatClampNeg v)))) H) : wHS E o g x (uI y 5 i v) H := by
  subst hi
  exact wH_to h (fun _ h => h) rfl (cel_cgM 17 (fun t _ _ h0 => by
    unfold cMd
    split <;> first | rfl | exact absurd rfl h0))
theorem pa_risk {E : wE} {o : wO} {g : Nat → Nat} {x y : St} {H : Heap} {i : Nat} {ix : Int32} {v : Int32} (hi : ix.toNatClampNeg = i) (h : wH E.1 E.2.2 g (liv x.1) (va_up (cel E.2.1 g x y o.1 o.2) 18 (.inl (E.2.1.1 0, 4, .inl (upd (y.2 6) ix.toNatClampNeg v)))) H) : wHS E o g x (uI y 6 i v) H := by
  subst hi
  exact wH_to h (fun _ h => h) rfl (cel_cgM 18 (fun t _ _ h0 => by
    unfold cMd
    split <;> first | rfl | exact absurd rfl h0))
theorem pa_credits {E : wE} {o : wO} {g : Nat → Nat} {x y : St} {H : Heap} {i : Nat} {ix : Int32} {v : Int32} (hi : ix.toNatClampNeg = i) (h : wH E.1 E.2.2 g (liv x.1) (va_up (cel E.2.1 g x y o.1 o.2) 19 (.inl (E.2.1.1 0, 4, .inl (upd (y.2 7) ix.toNatClampNeg v)))) H) : wHS E o g x (uI y 7 i v) H := by
  subst hi
  exact wH_to h (fun _ h => h) rfl (cel_cgM 19 (fun t _ _ h0 => by
    unfold cMd
    split <;> first | rfl | exact absurd rfl h0))
theorem pa_cents {E : wE} {o : wO} {g : Nat → Nat} {x y : St} {H : Heap} {i : Nat} {ix : Int32} {v : Int32} (hi : ix.toNatClampNeg = i) (h : wH E.1 E.2.2 g (liv x.1) (va_up (cel E.2.1 g x y o.1 o.2) 20 (.inl (E.2.1.1 0, 4, .inl (upd (y.2 8) ix.toNatClampNeg v)))) H) : wHS E o g x (uI y 8 i v) H := by
  subst hi
  exact wH_to h (fun _ h => h) rfl (cel_cgM 20 (fun t _ _ h0 => by
    unfold cMd
    split <;> first | rfl | exact absurd rfl h0))
theorem pa_needle {E : wE} {o : wO} {g : Nat → Nat} {x y : St} {H : Heap} {i : Nat} {ix : Int32} {v : Int32} (hi : ix.toNatClampNeg = i) (h : wH E.1 E.2.2 g (liv x.1) (va_up (cel E.2.1 g x y o.1 o.2) 21 (.inl (E.2.1.1 0, 4, .inl (upd (y.2 9) ix.toNatClampNeg v)))) H) : wHS E o g x (uI y 9 i v) H := by
  subst hi
  exact wH_to h (fun _ h => h) rfl (cel_cgM 21 (fun t _ _ h0 => by
    unfold cMd
    split <;> first | rfl | exact absurd rfl h0))
theorem pa_queued {E : wE} {o : wO} {g : Nat → Nat} {x y : St} {H : Heap} {i : Nat} {ix : Int32} {v : Nat} (hi : ix.toNatClampNeg = i) (h : wH E.1 E.2.2 g (liv x.1) (va_up (cel E.2.1 g x y o.1 o.2) 22 (.inl (E.2.1.1 0, 4, .inl (upd (fun i => nI (y.1 5 i)) ix.toNatClampNeg (nI v))))) H) : wHS E o g x (uN y 5 i v) H := by
  subst hi
  exact wH_to h (fun _ h => h) (by
    rw [cel_md (by omega) (by omega)]
    show Sum.inl _ = Sum.inl _
    congr 4
    funext q
    by_cases hq : q = ix.toNatClampNeg <;> simp [uN, va_up, upd, hq]) (cel_cgM 22 (fun t _ _ h0 => by
    unfold cMd
    split <;> first | rfl | exact absurd rfl h0))
theorem pa_queue {E : wE} {o : wO} {g : Nat → Nat} {x y : St} {H : Heap} {i : Nat} {ix : Int32} {v : Nat} (hi : ix.toNatClampNeg = i) (h : wH E.1 E.2.2 g (liv x.1) (va_up (cel E.2.1 g x y o.1 o.2) 23 (.inl (E.2.1.1 0, 32, .inl (upd (fun i => nI (y.1 6 i)) ix.toNatClampNeg (nI v))))) H) : wHS E o g x (uN y 6 i v) H := by
  subst hi
  exact wH_to h (fun _ h => h) (by
    rw [cel_md (by omega) (by omega)]
    show Sum.inl _ = Sum.inl _
    congr 4
    funext q
    by_cases hq : q = ix.toNatClampNeg <;> simp [uN, va_up, upd, hq]) (cel_cgM 23 (fun t _ _ h0 => by
    unfold cMd
    split <;> first | rfl | exact absurd rfl h0))
theorem pa_plays {E : wE} {o : wO} {g : Nat → Nat} {x y : St} {H : Heap} {i : Nat} {ix : Int32} {v : Int32} (hi : ix.toNatClampNeg = i) (h : wH E.1 E.2.2 g (liv x.1) (va_up (cel E.2.1 g x y o.1 o.2) 24 (.inl (E.2.1.1 0, 4, .inl (upd (y.2 11) ix.toNatClampNeg v)))) H) : wHS E o g x (uI y 11 i v) H := by
  subst hi
  exact wH_to h (fun _ h => h) rfl (cel_cgM 24 (fun t _ _ h0 => by
    unfold cMd
    split <;> first | rfl | exact absurd rfl h0))
theorem pa_missing {E : wE} {o : wO} {g : Nat → Nat} {x y : St} {H : Heap} {i : Nat} {ix : Int32} {v : Int32} (hi : ix.toNatClampNeg = i) (h : wH E.1 E.2.2 g (liv x.1) (va_up (cel E.2.1 g x y o.1 o.2) 25 (.inl (E.2.1.1 0, 4, .inl (upd (y.2 12) ix.toNatClampNeg v)))) H) : wHS E o g x (uI y 12 i v) H := by
  subst hi
  exact wH_to h (fun _ h => h) rfl (cel_cgM 25 (fun t _ _ h0 => by
    unfold cMd
    split <;> first | rfl | exact absurd rfl h0))
theorem pa_landlord {E : wE} {o : wO} {g : Nat → Nat} {x y : St} {H : Heap} {i : Nat} {ix : Int32} {v : Int32} (hi : ix.toNatClampNeg = i) (h : wH E.1 E.2.2 g (liv x.1) (va_up (cel E.2.1 g x y o.1 o.2) 26 (.inl (E.2.1.1 0, 4, .inl (upd (y.2 13) ix.toNatClampNeg v)))) H) : wHS E o g x (uI y 13 i v) H := by
  subst hi
  exact wH_to h (fun _ h => h) rfl (cel_cgM 26 (fun t _ _ h0 => by
    unfold cMd
    split <;> first | rfl | exact absurd rfl h0))
theorem pa_jammed {E : wE} {o : wO} {g : Nat → Nat} {x y : St} {H : Heap} {i : Nat} {ix : Int32} {v : Int32} (hi : ix.toNatClampNeg = i) (hv : vp_nar .boolean v = v) (h : wH E.1 E.2.2 g (liv x.1) (va_up (cel E.2.1 g x y o.1 o.2) 27 (.inl (E.2.1.1 1, 4, .inl (upd (y.2 10) ix.toNatClampNeg (vp_nar .boolean v))))) H) : wHS E o g x (uI y 10 i v) H := by
  subst hi
  rw [hv] at h
  exact wH_to h (fun _ h => h) rfl (cel_cgM 27 (fun t _ _ h0 => by
    unfold cMd
    split <;> first | rfl | exact absurd rfl h0))
theorem pa_visited {E : wE} {o : wO} {g : Nat → Nat} {x y : St} {H : Heap} {i : Nat} {ix : Int32} {v : Nat} (hi : ix.toNatClampNeg = i) (hv : vp_nar .boolean (nI v) = (nI v)) (h : wH E.1 E.2.2 g (liv x.1) (va_up (cel E.2.1 g x y o.1 o.2) 28 (.inl (E.2.1.1 1, 4, .inl (upd (fun i => nI (y.1 11 i)) ix.toNatClampNeg (vp_nar .boolean (nI v)))))) H) : wHS E o g x (uN y 11 i v) H := by
  subst hi
  rw [hv] at h
  exact wH_to h (fun _ h => h) (by
    rw [cel_md (by omega) (by omega)]
    show Sum.inl _ = Sum.inl _
    congr 4
    funext q
    by_cases hq : q = ix.toNatClampNeg <;> simp [uN, va_up, upd, hq]) (cel_cgM 28 (fun t _ _ h0 => by
    unfold cMd
    split <;> first | rfl | exact absurd rfl h0))
theorem pa_slots {E : wE} {o : wO} {g : Nat → Nat} {x y : St} {H : Heap} {i : Nat} {ix : Int32} {v : Nat} (hi : ix.toNatClampNeg = i) (h : wH E.1 E.2.2 g (liv x.1) (va_up (cel E.2.1 g x y o.1 o.2) 29 (.inl (E.2.1.1 0, 40, .inl (upd (fun i => nI (y.1 7 i)) ix.toNatClampNeg (nI v))))) H) : wHS E o g x (uN y 7 i v) H := by
  subst hi
  exact wH_to h (fun _ h => h) (by
    rw [cel_md (by omega) (by omega)]
    show Sum.inl _ = Sum.inl _
    congr 4
    funext q
    by_cases hq : q = ix.toNatClampNeg <;> simp [uN, va_up, upd, hq]) (cel_cgM 29 (fun t _ _ h0 => by
    unfold cMd
    split <;> first | rfl | exact absurd rfl h0))
theorem pa_wheel {E : wE} {o : wO} {g : Nat → Nat} {x y : St} {H : Heap} {i : Nat} {ix : Int32} {v : Int32} (hi : ix.toNatClampNeg = i) (h : wH E.1 E.2.2 g (liv x.1) (va_up (cel E.2.1 g x y o.1 o.2) 30 (.inl (E.2.1.1 0, 40, .inl (upd (y.2 14) ix.toNatClampNeg v)))) H) : wHS E o g x (uI y 14 i v) H := by
  subst hi
  exact wH_to h (fun _ h => h) rfl (cel_cgM 30 (fun t _ _ h0 => by
    unfold cMd
    split <;> first | rfl | exact absurd rfl h0))
theorem pa_asked {E : wE} {o : wO} {g : Nat → Nat} {x y : St} {H : Heap} {i : Nat} {ix : Int32} {v : Int32} (hi : ix.toNatClampNeg = i) (h : wH E.1 E.2.2 g (liv x.1) (va_up (cel E.2.1 g x y o.1 o.2) 31 (.inl (E.2.1.1 0, 400, .inl (upd (y.2 15) ix.toNatClampNeg v)))) H) : wHS E o g x (uI y 15 i v) H := by
  subst hi
  exact wH_to h (fun _ h => h) rfl (cel_cgM 31 (fun t _ _ h0 => by
    unfold cMd
    split <;> first | rfl | exact absurd rfl h0))
theorem pa_used {E : wE} {o : wO} {g : Nat → Nat} {x y : St} {H : Heap} {i : Nat} {ix : Int32} {v : Int32} (hi : ix.toNatClampNeg = i) (hv : vp_nar .boolean v = v) (h : wH E.1 E.2.2 g (liv x.1) (va_up (cel E.2.1 g x y o.1 o.2) 32 (.inl (E.2.1.1 1, 30, .inl (upd (y.2 26) ix.toNatClampNeg (vp_nar .boolean v))))) H) : wHS E o g x (uI y 26 i v) H := by
  subst hi
  rw [hv] at h
  exact wH_to h (fun _ h => h) rfl (cel_cgM 32 (fun t _ _ h0 => by
    unfold cMd
    split <;> first | rfl | exact absurd rfl h0))
theorem pa_taken {E : wE} {o : wO} {g : Nat → Nat} {x y : St} {H : Heap} {i : Nat} {ix : Int32} {v : Int32} (hi : ix.toNatClampNeg = i) (hv : vp_nar .boolean v = v) (h : wH E.1 E.2.2 g (liv x.1) (va_up (cel E.2.1 g x y o.1 o.2) 33 (.inl (E.2.1.1 1, 10, .inl (upd (y.2 27) ix.toNatClampNeg (vp_nar .boolean v))))) H) : wHS E o g x (uI y 27 i v) H := by
  subst hi
  rw [hv] at h
  exact wH_to h (fun _ h => h) rfl (cel_cgM 33 (fun t _ _ h0 => by
    unfold cMd
    split <;> first | rfl | exact absurd rfl h0))
theorem lv_tope {p : Program} {l : Launch} {e : Env} {R : Room} {s : State} {m : MethodId} {args : Array Value} {below : List Frame} {meth : Method} {c : Code} {H : Heap} {locs : List Loc} {cells slots : Nat} {Q : State → Prop} {pc : Nat} {ls : Array Slot} {rest : List Value} {a b : Int32} (h : a = b) (k : W p l e R s m args below meth c H locs cells slots Q (F0 m pc ls (.int b :: rest))) : W p l e R s m args below meth c H locs cells slots Q (F0 m pc ls (.int a :: rest)) := h ▸ k
/-- an index of a box, a slot, a disc: told by a Bool -/
def inB (x : Int32) (n : Nat) : Bool := decide (0 ≤ x) && decide (x.toNatClampNeg < n)
theorem inB_t {x : Int32} {n : Nat} (h : inB x n = true) (hn : n < 2 ^ 31) : ∃ j : Nat, j < n ∧ x = nI j := by
  unfold inB at h
  simp only [Bool.and_eq_true, decide_eq_true_eq] at h
  refine vp_in_of ?_ hn
  unfold vp_in
  intro q
  rcases q with q | q
  · exact Int32.not_lt.mpr h.1 q
  · omega
theorem inB_nI {j n : Nat} (h : j < n) (hn : n < 2 ^ 31) : inB (nI j) n = true := by
  unfold inB
  rw [nI_clamp (by omega)]
  simp only [Bool.and_eq_true, decide_eq_true_eq]
  exact ⟨nI_pos' (by omega), h⟩
theorem inB_vp {x : Int32} {n : Nat} : inB x n = true ↔ vp_in x n := by
  unfold inB vp_in
  simp only [Bool.and_eq_true, decide_eq_true_eq]
  constructor
  · intro h q
    rcases q with q | q
    · exact Int32.not_lt.mpr h.1 q
    · omega
  · intro h
    exact ⟨Int32.not_lt.mp (fun q => h (Or.inl q)), Nat.not_le.mp (fun q => h (Or.inr q))⟩
abbrev ix (x : Int32) : Nat := x.toNatClampNeg
theorem ix_nI {j : Nat} (h : j < 2 ^ 31) : ix (nI j) = j := nI_clamp h
theorem ix_10 (j k : Nat) : (10 : Int32) * nI j + nI k = nI (10 * j + k) := by rw [show (10 : Int32) = nI 10 from rfl, pk_mul, nI_add]
theorem ix_8 (j k : Nat) : (8 : Int32) * nI j + nI k = nI (8 * j + k) := by rw [show (8 : Int32) = nI 8 from rfl, pk_mul, nI_add]
theorem ix_100 (j k : Nat) : (100 : Int32) * nI j + nI k = nI (100 * j + k) := by rw [show (100 : Int32) = nI 100 from rfl, pk_mul, nI_add]
