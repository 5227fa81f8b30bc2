/-! ===== the model's public methods without loops: mp_* is what each answers and leaves ===== -/
/-- what holds of the model's state throughout -/
def MI (y : St) : Prop := y.1 0 0 ≤ 30 ∧ y.1 1 0 ≤ 4 ∧ (∀ a, y.1 7 a ≤ y.1 0 0) ∧ (∀ d, y.1 8 d < 42) ∧ (∀ j, y.1 5 j ≤ 8) ∧ (∀ i, y.1 6 i < 10) ∧ y.1 9 0 ≤ 99 ∧ (∀ d, y.1 12 d < 100) ∧ (∀ j, y.1 11 j ≤ 1)
def mp_getCredits (y : St) (b : Int32) : Int32 × St := if inB b (y.1 1 0) = true then ((y.2 7 (ix b)), (uI y 28 0 0)) else (0, (uI y 28 0 1))
set_option maxHeartbeats 4000000 in
set_option maxRecDepth 100000 in
theorem met_X5_getCredits (l : Launch) (E : wE) (o : wO) (g : Nat → Nat) (x y : St) (b : Int32) (hI : MI y) : Met l yX5_getCredits wsX5_getCredits ({ frames := 3, cells := 0, slots := 0, locals := 300 } : Room) (va_Pc [.ref (g 10), .int b] (wPre E o g x y)) (va_Qi (fun (r : Int32) (_ : Unit) => r = (mp_getCredits y b).1) (fun (_ : Unit) t => wHS E o g x (mp_getCredits y b).2 t.heap) (wA E)) 0 0 (wA E) := by
  refine Met.ofW (cc := cX5_getCredits) (maxL := 2) (ret := (some .int)) (by decide) rfl ?_
  intro p e s m args below meth c s₁ B hml hv
  obtain ⟨rfl, hz, hH, hK⟩ := hv
  have hx := B.exec
  have hb := B.bytes
  have hr := B.returns
  have hts := atoms_spec (ws := wsX5_getCredits) B.pre
  have hown : s.vm.findClass RX5 = some m.cls := findClass_of_methodNamed B.named
  have hlocks := B.notSynchronized
  have hS : va_S (wA E) s.heap s.heap [] := va_S.rf
  have hinX5 : ∀ w ∈ wsX50, w ∈ wsX5_getCredits := fun w h => List.mem_cons_of_mem _ (List.mem_append_left _ (List.mem_append_right _ h))
  have hl := lv_entry ([.ref (g 10), .int b]) (n := 2) (Nat.le_of_ble_eq_true rfl)
  rw [lg_entry_eq]
  generalize (lg_sl ([.ref (g 10), .int b]) ++ List.replicate (2 - (lg_sl ([.ref (g 10), .int b])).length) Slot.unset).toArray = ls at hl ⊢
  have hl : lv_has ls 2 [(0, .ref (g 10)), (1, .int b)] := hl
  obtain ⟨H, eH⟩ : ∃ z, z = s.heap := ⟨_, rfl⟩
  have hH : wHS E o g x y H := by rw [eH]; exact hH
  have hS : va_S (wA E) s.heap H [] := by rw [eH]; exact hS
  refine W.heapTo eH ?_
  obtain ⟨hm0, hm1, hm7, hm8, hm5, hm6, hm9, hm12, hm11⟩ := id hI
  refine lv_aload_n hx hb dX5_getCredits_0 rfl (lv_at hl 0 rfl) ?_
  refine lv_aload_n hx hb dX5_getCredits_1 rfl (lv_at hl 0 rfl) ?_
  refine lv_iload_n hx hb dX5_getCredits_2 rfl (lv_at hl 1 rfl) ?_
  refine va_calli (va_runV (As := [.int b]) (rest := [.ref (g 10)]) ⟨hx, hb, hml, hown, hts⟩ (met_X5_isBox l E o g x y b (show (y.1 1 0) ≤ 100 by omega)) (cwV 1 hts gX5_getCredits_X5_isBox rfl rfl rfl (by decide +kernel) ⟨Nat.le_of_ble_eq_true rfl, Nat.le_of_ble_eq_true rfl⟩) ⟨fun a U f mk q => ⟨q.1, wPre.calling q.2 a f mk⟩, (va_recv hK (wH_one hH (lv_md (by decide) (by decide)) (cel_md (by omega) (by omega))) (ci := 7) (q0 := 0) rfl rfl), fun U hU hW => ⟨rfl, wPre_at hz hS hH hK U hU hW⟩⟩ rfl rfl hl.1 rfl (lv_room (Nat.le_of_ble_eq_true rfl)) dX5_getCredits_3 ⟨Nat.le_of_ble_eq_true rfl, Nat.le_of_ble_eq_true rfl⟩) hS (fun q _ h => h) (fun q h => h) (fun r u t H locs ht hvm hw hB hz1 hk1 hS => ?_)
  have hB := wHS_h ht hB
  try dsimp only at hw
  have hH := hB
  rcases hw with ⟨rfl, c1⟩ | ⟨rfl, c1⟩
  · have c1 : inB b (y.1 1 0) = true := c1
    obtain ⟨jb, hjb, rfl⟩ := inB_t c1 (by omega)
    refine lv_iconst (v := 1) hx hb dX5_getCredits_6 (by decide) ?_
    refine va_calli (va_runV (As := [.int 1, .int 1]) (rest := []) ⟨hx, hb, hml, hown, hts⟩ (met_X5_no1 l E o g x y 1) (cwV 2 hts gX5_getCredits_X5_no rfl rfl rfl (by decide +kernel) ⟨Nat.le_of_ble_eq_true rfl, Nat.le_of_ble_eq_true rfl⟩) ⟨fun a U f mk q => ⟨q.1, wPre.calling q.2 a f mk⟩, (va_recv hK (wH_one hH (lv_md (by decide) (by decide)) (cel_md (by omega) (by omega))) (ci := 7) (q0 := 0) rfl rfl), fun U hU hW => ⟨rfl, wPre_at hz hS hH hK U hU hW⟩⟩ rfl rfl hl.1 rfl (lv_room (Nat.le_of_ble_eq_true rfl)) dX5_getCredits_7 ⟨Nat.le_of_ble_eq_true rfl, Nat.le_of_ble_eq_true rfl⟩) hS (fun q _ h => h) (fun q h => h) (fun r u t H locs ht hvm hw hB hz1 hk1 hS => ?_)
    have hB := wHS_h ht hB
    try dsimp only at hw
    obtain rfl := hw
    have hH := hB
    refine lv_if_eq (tgt := 17) hx hb dX5_getCredits_10 (by decide) (fun _ => ?_) (fun hq => absurd (show (0 : Int32) = 0 by decide) hq)
    refine lv_aload_n hx hb dX5_getCredits_17 rfl (lv_at hl 0 rfl) ?_
    refine wr_get (T := TX5) (N := 30) (ci := 7) (v := .ref (g 19)) hx hb hts hinX5 hown hK hH (lv_md (by decide) (by decide)) (cel_md (by omega) (by omega)) rfl 9 (by decide) (hts (.fieldLink RX5 34 "SelectoRouteModel" "credits" "[I") (by decide +kernel)) (fun _ h => h) rfl dX5_getCredits_18 ?_
    refine lv_iload_n hx hb dX5_getCredits_21 rfl (lv_at hl 1 rfl) ?_
    refine wr_iald (v := (y.2 7 jb)) hx hb hK hH (lv_md (by decide) (by decide)) (cel_md (by decide) (by decide)) 0 rfl (vp_in_nI (n := jb) (N := 4) (by omega) (by decide)) (by rw [(nI_clamp (n := jb) (by omega))]; try rfl) dX5_getCredits_22 ?_
    have hsp : mp_getCredits y (nI jb) = ((y.2 7 jb), (uI y 28 0 0)) := by
      unfold mp_getCredits
      first | (simp only [c1, inB_nI hjb (by omega), ix_nI (show jb < 2 ^ 31 by omega), ↓reduceIte, and_self, and_true, true_and, Bool.false_eq_true, reduceCtorEq, eq_self, false_and, and_false]; done) | (simp [c1, inB_nI hjb (by omega), ix_nI (show jb < 2 ^ 31 by omega), ↓reduceIte, and_self, and_true, true_and, Bool.false_eq_true, reduceCtorEq, eq_self, false_and, and_false]; done) | simp only [c1, inB_nI hjb (by omega), ix_nI (show jb < 2 ^ 31 by omega), ↓reduceIte, and_self, and_true, true_and, Bool.false_eq_true, reduceCtorEq, eq_self, false_and, and_false]
    exact W.iret (v := (y.2 7 jb)) hx hb hr (fun t ht hW => ⟨⟨(y.2 7 jb), (), rfl, (by rw [hsp]), wHS_t ht (by rw [hsp]; exact hH)⟩, hS.F ht⟩) hS.2.2 dX5_getCredits_23
  · have c1 : inB b (y.1 1 0) = false := c1
    refine lv_iconst (v := 1) hx hb dX5_getCredits_6 (by decide) ?_
    refine va_calli (va_runV (As := [.int 0, .int 1]) (rest := []) ⟨hx, hb, hml, hown, hts⟩ (met_X5_no0 l E o g x y 1) (cwV 2 hts gX5_getCredits_X5_no rfl rfl rfl (by decide +kernel) ⟨Nat.le_of_ble_eq_true rfl, Nat.le_of_ble_eq_true rfl⟩) ⟨fun a U f mk q => ⟨q.1, wPre.calling q.2 a f mk⟩, (va_recv hK (wH_one hH (lv_md (by decide) (by decide)) (cel_md (by omega) (by omega))) (ci := 7) (q0 := 0) rfl rfl), fun U hU hW => ⟨rfl, wPre_at hz hS hH hK U hU hW⟩⟩ rfl rfl hl.1 rfl (lv_room (Nat.le_of_ble_eq_true rfl)) dX5_getCredits_7 ⟨Nat.le_of_ble_eq_true rfl, Nat.le_of_ble_eq_true rfl⟩) hS (fun q _ h => h) (fun q h => h) (fun r u t H locs ht hvm hw hB hz1 hk1 hS => ?_)
    have hB := wHS_h ht hB
    try dsimp only at hw
    obtain rfl := hw
    have hH := hB
    refine lv_if_eq (tgt := 17) hx hb dX5_getCredits_10 (by decide) (fun hq => absurd hq (show ¬ (1 : Int32) = 0 by decide)) (fun _ => ?_)
    refine lv_iconst (v := 0) hx hb dX5_getCredits_13 (by decide) ?_
    refine lv_goto (tgt := 23) hx hb dX5_getCredits_14 (by decide) ?_
    have hsp : mp_getCredits y b = (0, (uI y 28 0 1)) := by
      unfold mp_getCredits
      first | (simp only [(Bool.eq_false_iff.mp c1), ↓reduceIte, and_self, and_true, true_and, Bool.false_eq_true, reduceCtorEq, eq_self, false_and, and_false]; done) | (simp [(Bool.eq_false_iff.mp c1), ↓reduceIte, and_self, and_true, true_and, Bool.false_eq_true, reduceCtorEq, eq_self, false_and, and_false]; done) | simp only [(Bool.eq_false_iff.mp c1), ↓reduceIte, and_self, and_true, true_and, Bool.false_eq_true, reduceCtorEq, eq_self, false_and, and_false]
    exact W.iret (v := 0) hx hb hr (fun t ht hW => ⟨⟨0, (), rfl, (by rw [hsp]), wHS_t ht (by rw [hsp]; exact hH)⟩, hS.F ht⟩) hS.2.2 dX5_getCredits_23
def mp_getQueued (y : St) (b : Int32) : Int32 × St := if inB b (y.1 1 0) = true then ((nI (y.1 5 (ix b))), (uI y 28 0 0)) else (0, (uI y 28 0 1))
set_option maxHeartbeats 4000000 in
set_option maxRecDepth 100000 in
theorem met_X5_getQueued (l : Launch) (E : wE) (o : wO) (g : Nat → Nat) (x y : St) (b : Int32) (hI : MI y) : Met l yX5_getQueued wsX5_getQueued ({ frames := 3, cells := 0, slots := 0, locals := 300 } : Room) (va_Pc [.ref (g 10), .int b] (wPre E o g x y)) (va_Qi (fun (r : Int32) (_ : Unit) => r = (mp_getQueued y b).1) (fun (_ : Unit) t => wHS E o g x (mp_getQueued y b).2 t.heap) (wA E)) 0 0 (wA E) := by
  refine Met.ofW (cc := cX5_getQueued) (maxL := 2) (ret := (some .int)) (by decide) rfl ?_
  intro p e s m args below meth c s₁ B hml hv
  obtain ⟨rfl, hz, hH, hK⟩ := hv
  have hx := B.exec
  have hb := B.bytes
  have hr := B.returns
  have hts := atoms_spec (ws := wsX5_getQueued) B.pre
  have hown : s.vm.findClass RX5 = some m.cls := findClass_of_methodNamed B.named
  have hlocks := B.notSynchronized
  have hS : va_S (wA E) s.heap s.heap [] := va_S.rf
  have hinX5 : ∀ w ∈ wsX50, w ∈ wsX5_getQueued := fun w h => List.mem_cons_of_mem _ (List.mem_append_left _ (List.mem_append_right _ h))
  have hl := lv_entry ([.ref (g 10), .int b]) (n := 2) (Nat.le_of_ble_eq_true rfl)
  rw [lg_entry_eq]
  generalize (lg_sl ([.ref (g 10), .int b]) ++ List.replicate (2 - (lg_sl ([.ref (g 10), .int b])).length) Slot.unset).toArray = ls at hl ⊢
  have hl : lv_has ls 2 [(0, .ref (g 10)), (1, .int b)] := hl
  obtain ⟨H, eH⟩ : ∃ z, z = s.heap := ⟨_, rfl⟩
  have hH : wHS E o g x y H := by rw [eH]; exact hH
  have hS : va_S (wA E) s.heap H [] := by rw [eH]; exact hS
  refine W.heapTo eH ?_
  obtain ⟨hm0, hm1, hm7, hm8, hm5, hm6, hm9, hm12, hm11⟩ := id hI
  refine lv_aload_n hx hb dX5_getQueued_0 rfl (lv_at hl 0 rfl) ?_
  refine lv_aload_n hx hb dX5_getQueued_1 rfl (lv_at hl 0 rfl) ?_
  refine lv_iload_n hx hb dX5_getQueued_2 rfl (lv_at hl 1 rfl) ?_
  refine va_calli (va_runV (As := [.int b]) (rest := [.ref (g 10)]) ⟨hx, hb, hml, hown, hts⟩ (met_X5_isBox l E o g x y b (show (y.1 1 0) ≤ 100 by omega)) (cwV 1 hts gX5_getQueued_X5_isBox rfl rfl rfl (by decide +kernel) ⟨Nat.le_of_ble_eq_true rfl, Nat.le_of_ble_eq_true rfl⟩) ⟨fun a U f mk q => ⟨q.1, wPre.calling q.2 a f mk⟩, (va_recv hK (wH_one hH (lv_md (by decide) (by decide)) (cel_md (by omega) (by omega))) (ci := 7) (q0 := 0) rfl rfl), fun U hU hW => ⟨rfl, wPre_at hz hS hH hK U hU hW⟩⟩ rfl rfl hl.1 rfl (lv_room (Nat.le_of_ble_eq_true rfl)) dX5_getQueued_3 ⟨Nat.le_of_ble_eq_true rfl, Nat.le_of_ble_eq_true rfl⟩) hS (fun q _ h => h) (fun q h => h) (fun r u t H locs ht hvm hw hB hz1 hk1 hS => ?_)
  have hB := wHS_h ht hB
  try dsimp only at hw
  have hH := hB
  rcases hw with ⟨rfl, c1⟩ | ⟨rfl, c1⟩
  · have c1 : inB b (y.1 1 0) = true := c1
    obtain ⟨jb, hjb, rfl⟩ := inB_t c1 (by omega)
    refine lv_iconst (v := 1) hx hb dX5_getQueued_6 (by decide) ?_
    refine va_calli (va_runV (As := [.int 1, .int 1]) (rest := []) ⟨hx, hb, hml, hown, hts⟩ (met_X5_no1 l E o g x y 1) (cwV 2 hts gX5_getQueued_X5_no rfl rfl rfl (by decide +kernel) ⟨Nat.le_of_ble_eq_true rfl, Nat.le_of_ble_eq_true rfl⟩) ⟨fun a U f mk q => ⟨q.1, wPre.calling q.2 a f mk⟩, (va_recv hK (wH_one hH (lv_md (by decide) (by decide)) (cel_md (by omega) (by omega))) (ci := 7) (q0 := 0) rfl rfl), fun U hU hW => ⟨rfl, wPre_at hz hS hH hK U hU hW⟩⟩ rfl rfl hl.1 rfl (lv_room (Nat.le_of_ble_eq_true rfl)) dX5_getQueued_7 ⟨Nat.le_of_ble_eq_true rfl, Nat.le_of_ble_eq_true rfl⟩) hS (fun q _ h => h) (fun q h => h) (fun r u t H locs ht hvm hw hB hz1 hk1 hS => ?_)
    have hB := wHS_h ht hB
    try dsimp only at hw
    obtain rfl := hw
    have hH := hB
    refine lv_if_eq (tgt := 17) hx hb dX5_getQueued_10 (by decide) (fun _ => ?_) (fun hq => absurd (show (0 : Int32) = 0 by decide) hq)
    refine lv_aload_n hx hb dX5_getQueued_17 rfl (lv_at hl 0 rfl) ?_
    refine wr_get (T := TX5) (N := 30) (ci := 7) (v := .ref (g 22)) hx hb hts hinX5 hown hK hH (lv_md (by decide) (by decide)) (cel_md (by omega) (by omega)) rfl 12 (by decide) (hts (.fieldLink RX5 43 "SelectoRouteModel" "queued" "[I") (by decide +kernel)) (fun _ h => h) rfl dX5_getQueued_18 ?_
    refine lv_iload_n hx hb dX5_getQueued_21 rfl (lv_at hl 1 rfl) ?_
    refine wr_iald (v := nI (y.1 5 jb)) hx hb hK hH (lv_md (by decide) (by decide)) (cel_md (by decide) (by decide)) 0 rfl (vp_in_nI (n := jb) (N := 4) (by omega) (by decide)) (by rw [(nI_clamp (n := jb) (by omega))]; try rfl) dX5_getQueued_22 ?_
    have hsp : mp_getQueued y (nI jb) = ((nI (y.1 5 jb)), (uI y 28 0 0)) := by
      unfold mp_getQueued
      first | (simp only [c1, inB_nI hjb (by omega), ix_nI (show jb < 2 ^ 31 by omega), ↓reduceIte, and_self, and_true, true_and, Bool.false_eq_true, reduceCtorEq, eq_self, false_and, and_false]; done) | (simp [c1, inB_nI hjb (by omega), ix_nI (show jb < 2 ^ 31 by omega), ↓reduceIte, and_self, and_true, true_and, Bool.false_eq_true, reduceCtorEq, eq_self, false_and, and_false]; done) | simp only [c1, inB_nI hjb (by omega), ix_nI (show jb < 2 ^ 31 by omega), ↓reduceIte, and_self, and_true, true_and, Bool.false_eq_true, reduceCtorEq, eq_self, false_and, and_false]
    exact W.iret (v := (nI (y.1 5 jb))) hx hb hr (fun t ht hW => ⟨⟨(nI (y.1 5 jb)), (), rfl, (by rw [hsp]), wHS_t ht (by rw [hsp]; exact hH)⟩, hS.F ht⟩) hS.2.2 dX5_getQueued_23
  · have c1 : inB b (y.1 1 0) = false := c1
    refine lv_iconst (v := 1) hx hb dX5_getQueued_6 (by decide) ?_
    refine va_calli (va_runV (As := [.int 0, .int 1]) (rest := []) ⟨hx, hb, hml, hown, hts⟩ (met_X5_no0 l E o g x y 1) (cwV 2 hts gX5_getQueued_X5_no rfl rfl rfl (by decide +kernel) ⟨Nat.le_of_ble_eq_true rfl, Nat.le_of_ble_eq_true rfl⟩) ⟨fun a U f mk q => ⟨q.1, wPre.calling q.2 a f mk⟩, (va_recv hK (wH_one hH (lv_md (by decide) (by decide)) (cel_md (by omega) (by omega))) (ci := 7) (q0 := 0) rfl rfl), fun U hU hW => ⟨rfl, wPre_at hz hS hH hK U hU hW⟩⟩ rfl rfl hl.1 rfl (lv_room (Nat.le_of_ble_eq_true rfl)) dX5_getQueued_7 ⟨Nat.le_of_ble_eq_true rfl, Nat.le_of_ble_eq_true rfl⟩) hS (fun q _ h => h) (fun q h => h) (fun r u t H locs ht hvm hw hB hz1 hk1 hS => ?_)
    have hB := wHS_h ht hB
    try dsimp only at hw
    obtain rfl := hw
    have hH := hB
    refine lv_if_eq (tgt := 17) hx hb dX5_getQueued_10 (by decide) (fun hq => absurd hq (show ¬ (1 : Int32) = 0 by decide)) (fun _ => ?_)
    refine lv_iconst (v := 0) hx hb dX5_getQueued_13 (by decide) ?_
    refine lv_goto (tgt := 23) hx hb dX5_getQueued_14 (by decide) ?_
    have hsp : mp_getQueued y b = (0, (uI y 28 0 1)) := by
      unfold mp_getQueued
      first | (simp only [(Bool.eq_false_iff.mp c1), ↓reduceIte, and_self, and_true, true_and, Bool.false_eq_true, reduceCtorEq, eq_self, false_and, and_false]; done) | (simp [(Bool.eq_false_iff.mp c1), ↓reduceIte, and_self, and_true, true_and, Bool.false_eq_true, reduceCtorEq, eq_self, false_and, and_false]; done) | simp only [(Bool.eq_false_iff.mp c1), ↓reduceIte, and_self, and_true, true_and, Bool.false_eq_true, reduceCtorEq, eq_self, false_and, and_false]
    exact W.iret (v := 0) hx hb hr (fun t ht hW => ⟨⟨0, (), rfl, (by rw [hsp]), wHS_t ht (by rw [hsp]; exact hH)⟩, hS.F ht⟩) hS.2.2 dX5_getQueued_23
def mp_getCents (y : St) (b : Int32) : Int32 × St := if inB b (y.1 1 0) = true then ((y.2 8 (ix b)), (uI y 28 0 0)) else (0, (uI y 28 0 1))
set_option maxHeartbeats 4000000 in
set_option maxRecDepth 100000 in
theorem met_X5_getCents (l : Launch) (E : wE) (o : wO) (g : Nat → Nat) (x y : St) (b : Int32) (hI : MI y) : Met l yX5_getCents wsX5_getCents ({ frames := 3, cells := 0, slots := 0, locals := 300 } : Room) (va_Pc [.ref (g 10), .int b] (wPre E o g x y)) (va_Qi (fun (r : Int32) (_ : Unit) => r = (mp_getCents y b).1) (fun (_ : Unit) t => wHS E o g x (mp_getCents y b).2 t.heap) (wA E)) 0 0 (wA E) := by
  refine Met.ofW (cc := cX5_getCents) (maxL := 2) (ret := (some .int)) (by decide) rfl ?_
  intro p e s m args below meth c s₁ B hml hv
  obtain ⟨rfl, hz, hH, hK⟩ := hv
  have hx := B.exec
  have hb := B.bytes
  have hr := B.returns
  have hts := atoms_spec (ws := wsX5_getCents) B.pre
  have hown : s.vm.findClass RX5 = some m.cls := findClass_of_methodNamed B.named
  have hlocks := B.notSynchronized
  have hS : va_S (wA E) s.heap s.heap [] := va_S.rf
  have hinX5 : ∀ w ∈ wsX50, w ∈ wsX5_getCents := fun w h => List.mem_cons_of_mem _ (List.mem_append_left _ (List.mem_append_right _ h))
  have hl := lv_entry ([.ref (g 10), .int b]) (n := 2) (Nat.le_of_ble_eq_true rfl)
  rw [lg_entry_eq]
  generalize (lg_sl ([.ref (g 10), .int b]) ++ List.replicate (2 - (lg_sl ([.ref (g 10), .int b])).length) Slot.unset).toArray = ls at hl ⊢
  have hl : lv_has ls 2 [(0, .ref (g 10)), (1, .int b)] := hl
  obtain ⟨H, eH⟩ : ∃ z, z = s.heap := ⟨_, rfl⟩
  have hH : wHS E o g x y H := by rw [eH]; exact hH
  have hS : va_S (wA E) s.heap H [] := by rw [eH]; exact hS
  refine W.heapTo eH ?_
  obtain ⟨hm0, hm1, hm7, hm8, hm5, hm6, hm9, hm12, hm11⟩ := id hI
  refine lv_aload_n hx hb dX5_getCents_0 rfl (lv_at hl 0 rfl) ?_
  refine lv_aload_n hx hb dX5_getCents_1 rfl (lv_at hl 0 rfl) ?_
  refine lv_iload_n hx hb dX5_getCents_2 rfl (lv_at hl 1 rfl) ?_
  refine va_calli (va_runV (As := [.int b]) (rest := [.ref (g 10)]) ⟨hx, hb, hml, hown, hts⟩ (met_X5_isBox l E o g x y b (show (y.1 1 0) ≤ 100 by omega)) (cwV 1 hts gX5_getCents_X5_isBox rfl rfl rfl (by decide +kernel) ⟨Nat.le_of_ble_eq_true rfl, Nat.le_of_ble_eq_true rfl⟩) ⟨fun a U f mk q => ⟨q.1, wPre.calling q.2 a f mk⟩, (va_recv hK (wH_one hH (lv_md (by decide) (by decide)) (cel_md (by omega) (by omega))) (ci := 7) (q0 := 0) rfl rfl), fun U hU hW => ⟨rfl, wPre_at hz hS hH hK U hU hW⟩⟩ rfl rfl hl.1 rfl (lv_room (Nat.le_of_ble_eq_true rfl)) dX5_getCents_3 ⟨Nat.le_of_ble_eq_true rfl, Nat.le_of_ble_eq_true rfl⟩) hS (fun q _ h => h) (fun q h => h) (fun r u t H locs ht hvm hw hB hz1 hk1 hS => ?_)
  have hB := wHS_h ht hB
  try dsimp only at hw
  have hH := hB
  rcases hw with ⟨rfl, c1⟩ | ⟨rfl, c1⟩
  · have c1 : inB b (y.1 1 0) = true := c1
    obtain ⟨jb, hjb, rfl⟩ := inB_t c1 (by omega)
    refine lv_iconst (v := 1) hx hb dX5_getCents_6 (by decide) ?_
    refine va_calli (va_runV (As := [.int 1, .int 1]) (rest := []) ⟨hx, hb, hml, hown, hts⟩ (met_X5_no1 l E o g x y 1) (cwV 2 hts gX5_getCents_X5_no rfl rfl rfl (by decide +kernel) ⟨Nat.le_of_ble_eq_true rfl, Nat.le_of_ble_eq_true rfl⟩) ⟨fun a U f mk q => ⟨q.1, wPre.calling q.2 a f mk⟩, (va_recv hK (wH_one hH (lv_md (by decide) (by decide)) (cel_md (by omega) (by omega))) (ci := 7) (q0 := 0) rfl rfl), fun U hU hW => ⟨rfl, wPre_at hz hS hH hK U hU hW⟩⟩ rfl rfl hl.1 rfl (lv_room (Nat.le_of_ble_eq_true rfl)) dX5_getCents_7 ⟨Nat.le_of_ble_eq_true rfl, Nat.le_of_ble_eq_true rfl⟩) hS (fun q _ h => h) (fun q h => h) (fun r u t H locs ht hvm hw hB hz1 hk1 hS => ?_)
    have hB := wHS_h ht hB
    try dsimp only at hw
    obtain rfl := hw
    have hH := hB
    refine lv_if_eq (tgt := 17) hx hb dX5_getCents_10 (by decide) (fun _ => ?_) (fun hq => absurd (show (0 : Int32) = 0 by decide) hq)
    refine lv_aload_n hx hb dX5_getCents_17 rfl (lv_at hl 0 rfl) ?_
    refine wr_get (T := TX5) (N := 30) (ci := 7) (v := .ref (g 20)) hx hb hts hinX5 hown hK hH (lv_md (by decide) (by decide)) (cel_md (by omega) (by omega)) rfl 10 (by decide) (hts (.fieldLink RX5 37 "SelectoRouteModel" "cents" "[I") (by decide +kernel)) (fun _ h => h) rfl dX5_getCents_18 ?_
    refine lv_iload_n hx hb dX5_getCents_21 rfl (lv_at hl 1 rfl) ?_
    refine wr_iald (v := (y.2 8 jb)) hx hb hK hH (lv_md (by decide) (by decide)) (cel_md (by decide) (by decide)) 0 rfl (vp_in_nI (n := jb) (N := 4) (by omega) (by decide)) (by rw [(nI_clamp (n := jb) (by omega))]; try rfl) dX5_getCents_22 ?_
    have hsp : mp_getCents y (nI jb) = ((y.2 8 jb), (uI y 28 0 0)) := by
      unfold mp_getCents
      first | (simp only [c1, inB_nI hjb (by omega), ix_nI (show jb < 2 ^ 31 by omega), ↓reduceIte, and_self, and_true, true_and, Bool.false_eq_true, reduceCtorEq, eq_self, false_and, and_false]; done) | (simp [c1, inB_nI hjb (by omega), ix_nI (show jb < 2 ^ 31 by omega), ↓reduceIte, and_self, and_true, true_and, Bool.false_eq_true, reduceCtorEq, eq_self, false_and, and_false]; done) | simp only [c1, inB_nI hjb (by omega), ix_nI (show jb < 2 ^ 31 by omega), ↓reduceIte, and_self, and_true, true_and, Bool.false_eq_true, reduceCtorEq, eq_self, false_and, and_false]
    exact W.iret (v := (y.2 8 jb)) hx hb hr (fun t ht hW => ⟨⟨(y.2 8 jb), (), rfl, (by rw [hsp]), wHS_t ht (by rw [hsp]; exact hH)⟩, hS.F ht⟩) hS.2.2 dX5_getCents_23
  · have c1 : inB b (y.1 1 0) = false := c1
    refine lv_iconst (v := 1) hx hb dX5_getCents_6 (by decide) ?_
    refine va_calli (va_runV (As := [.int 0, .int 1]) (rest := []) ⟨hx, hb, hml, hown, hts⟩ (met_X5_no0 l E o g x y 1) (cwV 2 hts gX5_getCents_X5_no rfl rfl rfl (by decide +kernel) ⟨Nat.le_of_ble_eq_true rfl, Nat.le_of_ble_eq_true rfl⟩) ⟨fun a U f mk q => ⟨q.1, wPre.calling q.2 a f mk⟩, (va_recv hK (wH_one hH (lv_md (by decide) (by decide)) (cel_md (by omega) (by omega))) (ci := 7) (q0 := 0) rfl rfl), fun U hU hW => ⟨rfl, wPre_at hz hS hH hK U hU hW⟩⟩ rfl rfl hl.1 rfl (lv_room (Nat.le_of_ble_eq_true rfl)) dX5_getCents_7 ⟨Nat.le_of_ble_eq_true rfl, Nat.le_of_ble_eq_true rfl⟩) hS (fun q _ h => h) (fun q h => h) (fun r u t H locs ht hvm hw hB hz1 hk1 hS => ?_)
    have hB := wHS_h ht hB
    try dsimp only at hw
    obtain rfl := hw
    have hH := hB
    refine lv_if_eq (tgt := 17) hx hb dX5_getCents_10 (by decide) (fun hq => absurd hq (show ¬ (1 : Int32) = 0 by decide)) (fun _ => ?_)
    refine lv_iconst (v := 0) hx hb dX5_getCents_13 (by decide) ?_
    refine lv_goto (tgt := 23) hx hb dX5_getCents_14 (by decide) ?_
    have hsp : mp_getCents y b = (0, (uI y 28 0 1)) := by
      unfold mp_getCents
      first | (simp only [(Bool.eq_false_iff.mp c1), ↓reduceIte, and_self, and_true, true_and, Bool.false_eq_true, reduceCtorEq, eq_self, false_and, and_false]; done) | (simp [(Bool.eq_false_iff.mp c1), ↓reduceIte, and_self, and_true, true_and, Bool.false_eq_true, reduceCtorEq, eq_self, false_and, and_false]; done) | simp only [(Bool.eq_false_iff.mp c1), ↓reduceIte, and_self, and_true, true_and, Bool.false_eq_true, reduceCtorEq, eq_self, false_and, and_false]
    exact W.iret (v := 0) hx hb hr (fun t ht hW => ⟨⟨0, (), rfl, (by rw [hsp]), wHS_t ht (by rw [hsp]; exact hH)⟩, hS.F ht⟩) hS.2.2 dX5_getCents_23
def mp_getNeedle (y : St) (b : Int32) : Int32 × St := if inB b (y.1 1 0) = true then ((y.2 9 (ix b)), (uI y 28 0 0)) else (0, (uI y 28 0 1))
set_option maxHeartbeats 4000000 in
set_option maxRecDepth 100000 in
theorem met_X5_getNeedle (l : Launch) (E : wE) (o : wO) (g : Nat → Nat) (x y : St) (b : Int32) (hI : MI y) : Met l yX5_getNeedle wsX5_getNeedle ({ frames := 3, cells := 0, slots := 0, locals := 300 } : Room) (va_Pc [.ref (g 10), .int b] (wPre E o g x y)) (va_Qi (fun (r : Int32) (_ : Unit) => r = (mp_getNeedle y b).1) (fun (_ : Unit) t => wHS E o g x (mp_getNeedle y b).2 t.heap) (wA E)) 0 0 (wA E) := by
  refine Met.ofW (cc := cX5_getNeedle) (maxL := 2) (ret := (some .int)) (by decide) rfl ?_
  intro p e s m args below meth c s₁ B hml hv
  obtain ⟨rfl, hz, hH, hK⟩ := hv
  have hx := B.exec
  have hb := B.bytes
  have hr := B.returns
  have hts := atoms_spec (ws := wsX5_getNeedle) B.pre
  have hown : s.vm.findClass RX5 = some m.cls := findClass_of_methodNamed B.named
  have hlocks := B.notSynchronized
  have hS : va_S (wA E) s.heap s.heap [] := va_S.rf
  have hinX5 : ∀ w ∈ wsX50, w ∈ wsX5_getNeedle := fun w h => List.mem_cons_of_mem _ (List.mem_append_left _ (List.mem_append_right _ h))
  have hl := lv_entry ([.ref (g 10), .int b]) (n := 2) (Nat.le_of_ble_eq_true rfl)
  rw [lg_entry_eq]
  generalize (lg_sl ([.ref (g 10), .int b]) ++ List.replicate (2 - (lg_sl ([.ref (g 10), .int b])).length) Slot.unset).toArray = ls at hl ⊢
  have hl : lv_has ls 2 [(0, .ref (g 10)), (1, .int b)] := hl
  obtain ⟨H, eH⟩ : ∃ z, z = s.heap := ⟨_, rfl⟩
  have hH : wHS E o g x y H := by rw [eH]; exact hH
  have hS : va_S (wA E) s.heap H [] := by rw [eH]; exact hS
  refine W.heapTo eH ?_
  obtain ⟨hm0, hm1, hm7, hm8, hm5, hm6, hm9, hm12, hm11⟩ := id hI
  refine lv_aload_n hx hb dX5_getNeedle_0 rfl (lv_at hl 0 rfl) ?_
  refine lv_aload_n hx hb dX5_getNeedle_1 rfl (lv_at hl 0 rfl) ?_
  refine lv_iload_n hx hb dX5_getNeedle_2 rfl (lv_at hl 1 rfl) ?_
  refine va_calli (va_runV (As := [.int b]) (rest := [.ref (g 10)]) ⟨hx, hb, hml, hown, hts⟩ (met_X5_isBox l E o g x y b (show (y.1 1 0) ≤ 100 by omega)) (cwV 1 hts gX5_getNeedle_X5_isBox rfl rfl rfl (by decide +kernel) ⟨Nat.le_of_ble_eq_true rfl, Nat.le_of_ble_eq_true rfl⟩) ⟨fun a U f mk q => ⟨q.1, wPre.calling q.2 a f mk⟩, (va_recv hK (wH_one hH (lv_md (by decide) (by decide)) (cel_md (by omega) (by omega))) (ci := 7) (q0 := 0) rfl rfl), fun U hU hW => ⟨rfl, wPre_at hz hS hH hK U hU hW⟩⟩ rfl rfl hl.1 rfl (lv_room (Nat.le_of_ble_eq_true rfl)) dX5_getNeedle_3 ⟨Nat.le_of_ble_eq_true rfl, Nat.le_of_ble_eq_true rfl⟩) hS (fun q _ h => h) (fun q h => h) (fun r u t H locs ht hvm hw hB hz1 hk1 hS => ?_)
  have hB := wHS_h ht hB
  try dsimp only at hw
  have hH := hB
  rcases hw with ⟨rfl, c1⟩ | ⟨rfl, c1⟩
  · have c1 : inB b (y.1 1 0) = true := c1
    obtain ⟨jb, hjb, rfl⟩ := inB_t c1 (by omega)
    refine lv_iconst (v := 1) hx hb dX5_getNeedle_6 (by decide) ?_
    refine va_calli (va_runV (As := [.int 1, .int 1]) (rest := []) ⟨hx, hb, hml, hown, hts⟩ (met_X5_no1 l E o g x y 1) (cwV 2 hts gX5_getNeedle_X5_no rfl rfl rfl (by decide +kernel) ⟨Nat.le_of_ble_eq_true rfl, Nat.le_of_ble_eq_true rfl⟩) ⟨fun a U f mk q => ⟨q.1, wPre.calling q.2 a f mk⟩, (va_recv hK (wH_one hH (lv_md (by decide) (by decide)) (cel_md (by omega) (by omega))) (ci := 7) (q0 := 0) rfl rfl), fun U hU hW => ⟨rfl, wPre_at hz hS hH hK U hU hW⟩⟩ rfl rfl hl.1 rfl (lv_room (Nat.le_of_ble_eq_true rfl)) dX5_getNeedle_7 ⟨Nat.le_of_ble_eq_true rfl, Nat.le_of_ble_eq_true rfl⟩) hS (fun q _ h => h) (fun q h => h) (fun r u t H locs ht hvm hw hB hz1 hk1 hS => ?_)
    have hB := wHS_h ht hB
    try dsimp only at hw
    obtain rfl := hw
    have hH := hB
    refine lv_if_eq (tgt := 17) hx hb dX5_getNeedle_10 (by decide) (fun _ => ?_) (fun hq => absurd (show (0 : Int32) = 0 by decide) hq)
    refine lv_aload_n hx hb dX5_getNeedle_17 rfl (lv_at hl 0 rfl) ?_
    refine wr_get (T := TX5) (N := 30) (ci := 7) (v := .ref (g 21)) hx hb hts hinX5 hown hK hH (lv_md (by decide) (by decide)) (cel_md (by omega) (by omega)) rfl 11 (by decide) (hts (.fieldLink RX5 40 "SelectoRouteModel" "needle" "[I") (by decide +kernel)) (fun _ h => h) rfl dX5_getNeedle_18 ?_
    refine lv_iload_n hx hb dX5_getNeedle_21 rfl (lv_at hl 1 rfl) ?_
    refine wr_iald (v := (y.2 9 jb)) hx hb hK hH (lv_md (by decide) (by decide)) (cel_md (by decide) (by decide)) 0 rfl (vp_in_nI (n := jb) (N := 4) (by omega) (by decide)) (by rw [(nI_clamp (n := jb) (by omega))]; try rfl) dX5_getNeedle_22 ?_
    have hsp : mp_getNeedle y (nI jb) = ((y.2 9 jb), (uI y 28 0 0)) := by
      unfold mp_getNeedle
      first | (simp only [c1, inB_nI hjb (by omega), ix_nI (show jb < 2 ^ 31 by omega), ↓reduceIte, and_self, and_true, true_and, Bool.false_eq_true, reduceCtorEq, eq_self, false_and, and_false]; done) | (simp [c1, inB_nI hjb (by omega), ix_nI (show jb < 2 ^ 31 by omega), ↓reduceIte, and_self, and_true, true_and, Bool.false_eq_true, reduceCtorEq, eq_self, false_and, and_false]; done) | simp only [c1, inB_nI hjb (by omega), ix_nI (show jb < 2 ^ 31 by omega), ↓reduceIte, and_self, and_true, true_and, Bool.false_eq_true, reduceCtorEq, eq_self, false_and, and_false]
    exact W.iret (v := (y.2 9 jb)) hx hb hr (fun t ht hW => ⟨⟨(y.2 9 jb), (), rfl, (by rw [hsp]), wHS_t ht (by rw [hsp]; exact hH)⟩, hS.F ht⟩) hS.2.2 dX5_getNeedle_23
  · have c1 : inB b (y.1 1 0) = false := c1
    refine lv_iconst (v := 1) hx hb dX5_getNeedle_6 (by decide) ?_
    refine va_calli (va_runV (As := [.int 0, .int 1]) (rest := []) ⟨hx, hb, hml, hown, hts⟩ (met_X5_no0 l E o g x y 1) (cwV 2 hts gX5_getNeedle_X5_no rfl rfl rfl (by decide +kernel) ⟨Nat.le_of_ble_eq_true rfl, Nat.le_of_ble_eq_true rfl⟩) ⟨fun a U f mk q => ⟨q.1, wPre.calling q.2 a f mk⟩, (va_recv hK (wH_one hH (lv_md (by decide) (by decide)) (cel_md (by omega) (by omega))) (ci := 7) (q0 := 0) rfl rfl), fun U hU hW => ⟨rfl, wPre_at hz hS hH hK U hU hW⟩⟩ rfl rfl hl.1 rfl (lv_room (Nat.le_of_ble_eq_true rfl)) dX5_getNeedle_7 ⟨Nat.le_of_ble_eq_true rfl, Nat.le_of_ble_eq_true rfl⟩) hS (fun q _ h => h) (fun q h => h) (fun r u t H locs ht hvm hw hB hz1 hk1 hS => ?_)
    have hB := wHS_h ht hB
    try dsimp only at hw
    obtain rfl := hw
    have hH := hB
    refine lv_if_eq (tgt := 17) hx hb dX5_getNeedle_10 (by decide) (fun hq => absurd hq (show ¬ (1 : Int32) = 0 by decide)) (fun _ => ?_)
    refine lv_iconst (v := 0) hx hb dX5_getNeedle_13 (by decide) ?_
    refine lv_goto (tgt := 23) hx hb dX5_getNeedle_14 (by decide) ?_
    have hsp : mp_getNeedle y b = (0, (uI y 28 0 1)) := by
      unfold mp_getNeedle
      first | (simp only [(Bool.eq_false_iff.mp c1), ↓reduceIte, and_self, and_true, true_and, Bool.false_eq_true, reduceCtorEq, eq_self, false_and, and_false]; done) | (simp [(Bool.eq_false_iff.mp c1), ↓reduceIte, and_self, and_true, true_and, Bool.false_eq_true, reduceCtorEq, eq_self, false_and, and_false]; done) | simp only [(Bool.eq_false_iff.mp c1), ↓reduceIte, and_self, and_true, true_and, Bool.false_eq_true, reduceCtorEq, eq_self, false_and, and_false]
    exact W.iret (v := 0) hx hb hr (fun t ht hW => ⟨⟨0, (), rfl, (by rw [hsp]), wHS_t ht (by rw [hsp]; exact hH)⟩, hS.F ht⟩) hS.2.2 dX5_getNeedle_23
def mp_getShort (y : St) (b : Int32) : Int32 × St := if inB b (y.1 1 0) = true then ((y.2 12 (ix b)), (uI y 28 0 0)) else (0, (uI y 28 0 1))
set_option maxHeartbeats 4000000 in
set_option maxRecDepth 100000 in
theorem met_X5_getShort (l : Launch) (E : wE) (o : wO) (g : Nat → Nat) (x y : St) (b : Int32) (hI : MI y) : Met l yX5_getShort wsX5_getShort ({ frames := 3, cells := 0, slots := 0, locals := 300 } : Room) (va_Pc [.ref (g 10), .int b] (wPre E o g x y)) (va_Qi (fun (r : Int32) (_ : Unit) => r = (mp_getShort y b).1) (fun (_ : Unit) t => wHS E o g x (mp_getShort y b).2 t.heap) (wA E)) 0 0 (wA E) := by
  refine Met.ofW (cc := cX5_getShort) (maxL := 2) (ret := (some .int)) (by decide) rfl ?_
  intro p e s m args below meth c s₁ B hml hv
  obtain ⟨rfl, hz, hH, hK⟩ := hv
  have hx := B.exec
  have hb := B.bytes
  have hr := B.returns
  have hts := atoms_spec (ws := wsX5_getShort) B.pre
  have hown : s.vm.findClass RX5 = some m.cls := findClass_of_methodNamed B.named
  have hlocks := B.notSynchronized
  have hS : va_S (wA E) s.heap s.heap [] := va_S.rf
  have hinX5 : ∀ w ∈ wsX50, w ∈ wsX5_getShort := fun w h => List.mem_cons_of_mem _ (List.mem_append_left _ (List.mem_append_right _ h))
  have hl := lv_entry ([.ref (g 10), .int b]) (n := 2) (Nat.le_of_ble_eq_true rfl)
  rw [lg_entry_eq]
  generalize (lg_sl ([.ref (g 10), .int b]) ++ List.replicate (2 - (lg_sl ([.ref (g 10), .int b])).length) Slot.unset).toArray = ls at hl ⊢
  have hl : lv_has ls 2 [(0, .ref (g 10)), (1, .int b)] := hl
  obtain ⟨H, eH⟩ : ∃ z, z = s.heap := ⟨_, rfl⟩
  have hH : wHS E o g x y H := by rw [eH]; exact hH
  have hS : va_S (wA E) s.heap H [] := by rw [eH]; exact hS
  refine W.heapTo eH ?_
  obtain ⟨hm0, hm1, hm7, hm8, hm5, hm6, hm9, hm12, hm11⟩ := id hI
  refine lv_aload_n hx hb dX5_getShort_0 rfl (lv_at hl 0 rfl) ?_
  refine lv_aload_n hx hb dX5_getShort_1 rfl (lv_at hl 0 rfl) ?_
  refine lv_iload_n hx hb dX5_getShort_2 rfl (lv_at hl 1 rfl) ?_
  refine va_calli (va_runV (As := [.int b]) (rest := [.ref (g 10)]) ⟨hx, hb, hml, hown, hts⟩ (met_X5_isBox l E o g x y b (show (y.1 1 0) ≤ 100 by omega)) (cwV 1 hts gX5_getShort_X5_isBox rfl rfl rfl (by decide +kernel) ⟨Nat.le_of_ble_eq_true rfl, Nat.le_of_ble_eq_true rfl⟩) ⟨fun a U f mk q => ⟨q.1, wPre.calling q.2 a f mk⟩, (va_recv hK (wH_one hH (lv_md (by decide) (by decide)) (cel_md (by omega) (by omega))) (ci := 7) (q0 := 0) rfl rfl), fun U hU hW => ⟨rfl, wPre_at hz hS hH hK U hU hW⟩⟩ rfl rfl hl.1 rfl (lv_room (Nat.le_of_ble_eq_true rfl)) dX5_getShort_3 ⟨Nat.le_of_ble_eq_true rfl, Nat.le_of_ble_eq_true rfl⟩) hS (fun q _ h => h) (fun q h => h) (fun r u t H locs ht hvm hw hB hz1 hk1 hS => ?_)
  have hB := wHS_h ht hB
  try dsimp only at hw
  have hH := hB
  rcases hw with ⟨rfl, c1⟩ | ⟨rfl, c1⟩
  · have c1 : inB b (y.1 1 0) = true := c1
    obtain ⟨jb, hjb, rfl⟩ := inB_t c1 (by omega)
    refine lv_iconst (v := 1) hx hb dX5_getShort_6 (by decide) ?_
    refine va_calli (va_runV (As := [.int 1, .int 1]) (rest := []) ⟨hx, hb, hml, hown, hts⟩ (met_X5_no1 l E o g x y 1) (cwV 2 hts gX5_getShort_X5_no rfl rfl rfl (by decide +kernel) ⟨Nat.le_of_ble_eq_true rfl, Nat.le_of_ble_eq_true rfl⟩) ⟨fun a U f mk q => ⟨q.1, wPre.calling q.2 a f mk⟩, (va_recv hK (wH_one hH (lv_md (by decide) (by decide)) (cel_md (by omega) (by omega))) (ci := 7) (q0 := 0) rfl rfl), fun U hU hW => ⟨rfl, wPre_at hz hS hH hK U hU hW⟩⟩ rfl rfl hl.1 rfl (lv_room (Nat.le_of_ble_eq_true rfl)) dX5_getShort_7 ⟨Nat.le_of_ble_eq_true rfl, Nat.le_of_ble_eq_true rfl⟩) hS (fun q _ h => h) (fun q h => h) (fun r u t H locs ht hvm hw hB hz1 hk1 hS => ?_)
    have hB := wHS_h ht hB
    try dsimp only at hw
    obtain rfl := hw
    have hH := hB
    refine lv_if_eq (tgt := 17) hx hb dX5_getShort_10 (by decide) (fun _ => ?_) (fun hq => absurd (show (0 : Int32) = 0 by decide) hq)
    refine lv_aload_n hx hb dX5_getShort_17 rfl (lv_at hl 0 rfl) ?_
    refine wr_get (T := TX5) (N := 30) (ci := 7) (v := .ref (g 25)) hx hb hts hinX5 hown hK hH (lv_md (by decide) (by decide)) (cel_md (by omega) (by omega)) rfl 15 (by decide) (hts (.fieldLink RX5 52 "SelectoRouteModel" "missing" "[I") (by decide +kernel)) (fun _ h => h) rfl dX5_getShort_18 ?_
    refine lv_iload_n hx hb dX5_getShort_21 rfl (lv_at hl 1 rfl) ?_
    refine wr_iald (v := (y.2 12 jb)) hx hb hK hH (lv_md (by decide) (by decide)) (cel_md (by decide) (by decide)) 0 rfl (vp_in_nI (n := jb) (N := 4) (by omega) (by decide)) (by rw [(nI_clamp (n := jb) (by omega))]; try rfl) dX5_getShort_22 ?_
    have hsp : mp_getShort y (nI jb) = ((y.2 12 jb), (uI y 28 0 0)) := by
      unfold mp_getShort
      first | (simp only [c1, inB_nI hjb (by omega), ix_nI (show jb < 2 ^ 31 by omega), ↓reduceIte, and_self, and_true, true_and, Bool.false_eq_true, reduceCtorEq, eq_self, false_and, and_false]; done) | (simp [c1, inB_nI hjb (by omega), ix_nI (show jb < 2 ^ 31 by omega), ↓reduceIte, and_self, and_true, true_and, Bool.false_eq_true, reduceCtorEq, eq_self, false_and, and_false]; done) | simp only [c1, inB_nI hjb (by omega), ix_nI (show jb < 2 ^ 31 by omega), ↓reduceIte, and_self, and_true, true_and, Bool.false_eq_true, reduceCtorEq, eq_self, false_and, and_false]
    exact W.iret (v := (y.2 12 jb)) hx hb hr (fun t ht hW => ⟨⟨(y.2 12 jb), (), rfl, (by rw [hsp]), wHS_t ht (by rw [hsp]; exact hH)⟩, hS.F ht⟩) hS.2.2 dX5_getShort_23
  · have c1 : inB b (y.1 1 0) = false := c1
    refine lv_iconst (v := 1) hx hb dX5_getShort_6 (by decide) ?_
    refine va_calli (va_runV (As := [.int 0, .int 1]) (rest := []) ⟨hx, hb, hml, hown, hts⟩ (met_X5_no0 l E o g x y 1) (cwV 2 hts gX5_getShort_X5_no rfl rfl rfl (by decide +kernel) ⟨Nat.le_of_ble_eq_true rfl, Nat.le_of_ble_eq_true rfl⟩) ⟨fun a U f mk q => ⟨q.1, wPre.calling q.2 a f mk⟩, (va_recv hK (wH_one hH (lv_md (by decide) (by decide)) (cel_md (by omega) (by omega))) (ci := 7) (q0 := 0) rfl rfl), fun U hU hW => ⟨rfl, wPre_at hz hS hH hK U hU hW⟩⟩ rfl rfl hl.1 rfl (lv_room (Nat.le_of_ble_eq_true rfl)) dX5_getShort_7 ⟨Nat.le_of_ble_eq_true rfl, Nat.le_of_ble_eq_true rfl⟩) hS (fun q _ h => h) (fun q h => h) (fun r u t H locs ht hvm hw hB hz1 hk1 hS => ?_)
    have hB := wHS_h ht hB
    try dsimp only at hw
    obtain rfl := hw
    have hH := hB
    refine lv_if_eq (tgt := 17) hx hb dX5_getShort_10 (by decide) (fun hq => absurd hq (show ¬ (1 : Int32) = 0 by decide)) (fun _ => ?_)
    refine lv_iconst (v := 0) hx hb dX5_getShort_13 (by decide) ?_
    refine lv_goto (tgt := 23) hx hb dX5_getShort_14 (by decide) ?_
    have hsp : mp_getShort y b = (0, (uI y 28 0 1)) := by
      unfold mp_getShort
      first | (simp only [(Bool.eq_false_iff.mp c1), ↓reduceIte, and_self, and_true, true_and, Bool.false_eq_true, reduceCtorEq, eq_self, false_and, and_false]; done) | (simp [(Bool.eq_false_iff.mp c1), ↓reduceIte, and_self, and_true, true_and, Bool.false_eq_true, reduceCtorEq, eq_self, false_and, and_false]; done) | simp only [(Bool.eq_false_iff.mp c1), ↓reduceIte, and_self, and_true, true_and, Bool.false_eq_true, reduceCtorEq, eq_self, false_and, and_false]
    exact W.iret (v := 0) hx hb hr (fun t ht hW => ⟨⟨0, (), rfl, (by rw [hsp]), wHS_t ht (by rw [hsp]; exact hH)⟩, hS.F ht⟩) hS.2.2 dX5_getShort_23
def mp_getShare (y : St) (b : Int32) : Int32 × St := if inB b (y.1 1 0) = true then ((y.2 13 (ix b)), (uI y 28 0 0)) else (0, (uI y 28 0 1))
set_option maxHeartbeats 4000000 in
set_option maxRecDepth 100000 in
theorem met_X5_getShare (l : Launch) (E : wE) (o : wO) (g : Nat → Nat) (x y : St) (b : Int32) (hI : MI y) : Met l yX5_getShare wsX5_getShare ({ frames := 3, cells := 0, slots := 0, locals := 300 } : Room) (va_Pc [.ref (g 10), .int b] (wPre E o g x y)) (va_Qi (fun (r : Int32) (_ : Unit) => r = (mp_getShare y b).1) (fun (_ : Unit) t => wHS E o g x (mp_getShare y b).2 t.heap) (wA E)) 0 0 (wA E) := by
  refine Met.ofW (cc := cX5_getShare) (maxL := 2) (ret := (some .int)) (by decide) rfl ?_
  intro p e s m args below meth c s₁ B hml hv
  obtain ⟨rfl, hz, hH, hK⟩ := hv
  have hx := B.exec
  have hb := B.bytes
  have hr := B.returns
  have hts := atoms_spec (ws := wsX5_getShare) B.pre
  have hown : s.vm.findClass RX5 = some m.cls := findClass_of_methodNamed B.named
  have hlocks := B.notSynchronized
  have hS : va_S (wA E) s.heap s.heap [] := va_S.rf
  have hinX5 : ∀ w ∈ wsX50, w ∈ wsX5_getShare := fun w h => List.mem_cons_of_mem _ (List.mem_append_left _ (List.mem_append_right _ h))
  have hl := lv_entry ([.ref (g 10), .int b]) (n := 2) (Nat.le_of_ble_eq_true rfl)
  rw [lg_entry_eq]
  generalize (lg_sl ([.ref (g 10), .int b]) ++ List.replicate (2 - (lg_sl ([.ref (g 10), .int b])).length) Slot.unset).toArray = ls at hl ⊢
  have hl : lv_has ls 2 [(0, .ref (g 10)), (1, .int b)] := hl
  obtain ⟨H, eH⟩ : ∃ z, z = s.heap := ⟨_, rfl⟩
  have hH : wHS E o g x y H := by rw [eH]; exact hH
  have hS : va_S (wA E) s.heap H [] := by rw [eH]; exact hS
  refine W.heapTo eH ?_
  obtain ⟨hm0, hm1, hm7, hm8, hm5, hm6, hm9, hm12, hm11⟩ := id hI
  refine lv_aload_n hx hb dX5_getShare_0 rfl (lv_at hl 0 rfl) ?_
  refine lv_aload_n hx hb dX5_getShare_1 rfl (lv_at hl 0 rfl) ?_
  refine lv_iload_n hx hb dX5_getShare_2 rfl (lv_at hl 1 rfl) ?_
  refine va_calli (va_runV (As := [.int b]) (rest := [.ref (g 10)]) ⟨hx, hb, hml, hown, hts⟩ (met_X5_isBox l E o g x y b (show (y.1 1 0) ≤ 100 by omega)) (cwV 1 hts gX5_getShare_X5_isBox rfl rfl rfl (by decide +kernel) ⟨Nat.le_of_ble_eq_true rfl, Nat.le_of_ble_eq_true rfl⟩) ⟨fun a U f mk q => ⟨q.1, wPre.calling q.2 a f mk⟩, (va_recv hK (wH_one hH (lv_md (by decide) (by decide)) (cel_md (by omega) (by omega))) (ci := 7) (q0 := 0) rfl rfl), fun U hU hW => ⟨rfl, wPre_at hz hS hH hK U hU hW⟩⟩ rfl rfl hl.1 rfl (lv_room (Nat.le_of_ble_eq_true rfl)) dX5_getShare_3 ⟨Nat.le_of_ble_eq_true rfl, Nat.le_of_ble_eq_true rfl⟩) hS (fun q _ h => h) (fun q h => h) (fun r u t H locs ht hvm hw hB hz1 hk1 hS => ?_)
  have hB := wHS_h ht hB
  try dsimp only at hw
  have hH := hB
  rcases hw with ⟨rfl, c1⟩ | ⟨rfl, c1⟩
  · have c1 : inB b (y.1 1 0) = true := c1
    obtain ⟨jb, hjb, rfl⟩ := inB_t c1 (by omega)
    refine lv_iconst (v := 1) hx hb dX5_getShare_6 (by decide) ?_
    refine va_calli (va_runV (As := [.int 1, .int 1]) (rest := []) ⟨hx, hb, hml, hown, hts⟩ (met_X5_no1 l E o g x y 1) (cwV 2 hts gX5_getShare_X5_no rfl rfl rfl (by decide +kernel) ⟨Nat.le_of_ble_eq_true rfl, Nat.le_of_ble_eq_true rfl⟩) ⟨fun a U f mk q => ⟨q.1, wPre.calling q.2 a f mk⟩, (va_recv hK (wH_one hH (lv_md (by decide) (by decide)) (cel_md (by omega) (by omega))) (ci := 7) (q0 := 0) rfl rfl), fun U hU hW => ⟨rfl, wPre_at hz hS hH hK U hU hW⟩⟩ rfl rfl hl.1 rfl (lv_room (Nat.le_of_ble_eq_true rfl)) dX5_getShare_7 ⟨Nat.le_of_ble_eq_true rfl, Nat.le_of_ble_eq_true rfl⟩) hS (fun q _ h => h) (fun q h => h) (fun r u t H locs ht hvm hw hB hz1 hk1 hS => ?_)
    have hB := wHS_h ht hB
    try dsimp only at hw
    obtain rfl := hw
    have hH := hB
    refine lv_if_eq (tgt := 17) hx hb dX5_getShare_10 (by decide) (fun _ => ?_) (fun hq => absurd (show (0 : Int32) = 0 by decide) hq)
    refine lv_aload_n hx hb dX5_getShare_17 rfl (lv_at hl 0 rfl) ?_
    refine wr_get (T := TX5) (N := 30) (ci := 7) (v := .ref (g 26)) hx hb hts hinX5 hown hK hH (lv_md (by decide) (by decide)) (cel_md (by omega) (by omega)) rfl 16 (by decide) (hts (.fieldLink RX5 55 "SelectoRouteModel" "landlord" "[I") (by decide +kernel)) (fun _ h => h) rfl dX5_getShare_18 ?_
    refine lv_iload_n hx hb dX5_getShare_21 rfl (lv_at hl 1 rfl) ?_
    refine wr_iald (v := (y.2 13 jb)) hx hb hK hH (lv_md (by decide) (by decide)) (cel_md (by decide) (by decide)) 0 rfl (vp_in_nI (n := jb) (N := 4) (by omega) (by decide)) (by rw [(nI_clamp (n := jb) (by omega))]; try rfl) dX5_getShare_22 ?_
    have hsp : mp_getShare y (nI jb) = ((y.2 13 jb), (uI y 28 0 0)) := by
      unfold mp_getShare
      first | (simp only [c1, inB_nI hjb (by omega), ix_nI (show jb < 2 ^ 31 by omega), ↓reduceIte, and_self, and_true, true_and, Bool.false_eq_true, reduceCtorEq, eq_self, false_and, and_false]; done) | (simp [c1, inB_nI hjb (by omega), ix_nI (show jb < 2 ^ 31 by omega), ↓reduceIte, and_self, and_true, true_and, Bool.false_eq_true, reduceCtorEq, eq_self, false_and, and_false]; done) | simp only [c1, inB_nI hjb (by omega), ix_nI (show jb < 2 ^ 31 by omega), ↓reduceIte, and_self, and_true, true_and, Bool.false_eq_true, reduceCtorEq, eq_self, false_and, and_false]
    exact W.iret (v := (y.2 13 jb)) hx hb hr (fun t ht hW => ⟨⟨(y.2 13 jb), (), rfl, (by rw [hsp]), wHS_t ht (by rw [hsp]; exact hH)⟩, hS.F ht⟩) hS.2.2 dX5_getShare_23
  · have c1 : inB b (y.1 1 0) = false := c1
    refine lv_iconst (v := 1) hx hb dX5_getShare_6 (by decide) ?_
    refine va_calli (va_runV (As := [.int 0, .int 1]) (rest := []) ⟨hx, hb, hml, hown, hts⟩ (met_X5_no0 l E o g x y 1) (cwV 2 hts gX5_getShare_X5_no rfl rfl rfl (by decide +kernel) ⟨Nat.le_of_ble_eq_true rfl, Nat.le_of_ble_eq_true rfl⟩) ⟨fun a U f mk q => ⟨q.1, wPre.calling q.2 a f mk⟩, (va_recv hK (wH_one hH (lv_md (by decide) (by decide)) (cel_md (by omega) (by omega))) (ci := 7) (q0 := 0) rfl rfl), fun U hU hW => ⟨rfl, wPre_at hz hS hH hK U hU hW⟩⟩ rfl rfl hl.1 rfl (lv_room (Nat.le_of_ble_eq_true rfl)) dX5_getShare_7 ⟨Nat.le_of_ble_eq_true rfl, Nat.le_of_ble_eq_true rfl⟩) hS (fun q _ h => h) (fun q h => h) (fun r u t H locs ht hvm hw hB hz1 hk1 hS => ?_)
    have hB := wHS_h ht hB
    try dsimp only at hw
    obtain rfl := hw
    have hH := hB
    refine lv_if_eq (tgt := 17) hx hb dX5_getShare_10 (by decide) (fun hq => absurd hq (show ¬ (1 : Int32) = 0 by decide)) (fun _ => ?_)
    refine lv_iconst (v := 0) hx hb dX5_getShare_13 (by decide) ?_
    refine lv_goto (tgt := 23) hx hb dX5_getShare_14 (by decide) ?_
    have hsp : mp_getShare y b = (0, (uI y 28 0 1)) := by
      unfold mp_getShare
      first | (simp only [(Bool.eq_false_iff.mp c1), ↓reduceIte, and_self, and_true, true_and, Bool.false_eq_true, reduceCtorEq, eq_self, false_and, and_false]; done) | (simp [(Bool.eq_false_iff.mp c1), ↓reduceIte, and_self, and_true, true_and, Bool.false_eq_true, reduceCtorEq, eq_self, false_and, and_false]; done) | simp only [(Bool.eq_false_iff.mp c1), ↓reduceIte, and_self, and_true, true_and, Bool.false_eq_true, reduceCtorEq, eq_self, false_and, and_false]
    exact W.iret (v := 0) hx hb hr (fun t ht hW => ⟨⟨0, (), rfl, (by rw [hsp]), wHS_t ht (by rw [hsp]; exact hH)⟩, hS.F ht⟩) hS.2.2 dX5_getShare_23
def mp_isJammed (y : St) (b : Int32) : Int32 × St := if inB b (y.1 1 0) = true then (if (y.2 10 (ix b)) = 0 then (0, (uI y 28 0 0)) else (1, (uI y 28 0 0))) else (0, (uI y 28 0 1))
set_option maxHeartbeats 4000000 in
set_option maxRecDepth 100000 in
theorem met_X5_isJammed (l : Launch) (E : wE) (o : wO) (g : Nat → Nat) (x y : St) (b : Int32) (hI : MI y) : Met l yX5_isJammed wsX5_isJammed ({ frames := 3, cells := 0, slots := 0, locals := 300 } : Room) (va_Pc [.ref (g 10), .int b] (wPre E o g x y)) (va_Qi (fun (r : Int32) (_ : Unit) => r = (mp_isJammed y b).1) (fun (_ : Unit) t => wHS E o g x (mp_isJammed y b).2 t.heap) (wA E)) 0 0 (wA E) := by
  refine Met.ofW (cc := cX5_isJammed) (maxL := 2) (ret := (some .boolean)) (by decide) rfl ?_
  intro p e s m args below meth c s₁ B hml hv
  obtain ⟨rfl, hz, hH, hK⟩ := hv
  have hx := B.exec
  have hb := B.bytes
  have hr := B.returns
  have hts := atoms_spec (ws := wsX5_isJammed) B.pre
  have hown : s.vm.findClass RX5 = some m.cls := findClass_of_methodNamed B.named
  have hlocks := B.notSynchronized
  have hS : va_S (wA E) s.heap s.heap [] := va_S.rf
  have hinX5 : ∀ w ∈ wsX50, w ∈ wsX5_isJammed := fun w h => List.mem_cons_of_mem _ (List.mem_append_left _ (List.mem_append_right _ h))
  have hl := lv_entry ([.ref (g 10), .int b]) (n := 2) (Nat.le_of_ble_eq_true rfl)
  rw [lg_entry_eq]
  generalize (lg_sl ([.ref (g 10), .int b]) ++ List.replicate (2 - (lg_sl ([.ref (g 10), .int b])).length) Slot.unset).toArray = ls at hl ⊢
  have hl : lv_has ls 2 [(0, .ref (g 10)), (1, .int b)] := hl
  obtain ⟨H, eH⟩ : ∃ z, z = s.heap := ⟨_, rfl⟩
  have hH : wHS E o g x y H := by rw [eH]; exact hH
  have hS : va_S (wA E) s.heap H [] := by rw [eH]; exact hS
  refine W.heapTo eH ?_
  obtain ⟨hm0, hm1, hm7, hm8, hm5, hm6, hm9, hm12, hm11⟩ := id hI
  refine lv_aload_n hx hb dX5_isJammed_0 rfl (lv_at hl 0 rfl) ?_
  refine lv_aload_n hx hb dX5_isJammed_1 rfl (lv_at hl 0 rfl) ?_
  refine lv_iload_n hx hb dX5_isJammed_2 rfl (lv_at hl 1 rfl) ?_
  refine va_calli (va_runV (As := [.int b]) (rest := [.ref (g 10)]) ⟨hx, hb, hml, hown, hts⟩ (met_X5_isBox l E o g x y b (show (y.1 1 0) ≤ 100 by omega)) (cwV 1 hts gX5_isJammed_X5_isBox rfl rfl rfl (by decide +kernel) ⟨Nat.le_of_ble_eq_true rfl, Nat.le_of_ble_eq_true rfl⟩) ⟨fun a U f mk q => ⟨q.1, wPre.calling q.2 a f mk⟩, (va_recv hK (wH_one hH (lv_md (by decide) (by decide)) (cel_md (by omega) (by omega))) (ci := 7) (q0 := 0) rfl rfl), fun U hU hW => ⟨rfl, wPre_at hz hS hH hK U hU hW⟩⟩ rfl rfl hl.1 rfl (lv_room (Nat.le_of_ble_eq_true rfl)) dX5_isJammed_3 ⟨Nat.le_of_ble_eq_true rfl, Nat.le_of_ble_eq_true rfl⟩) hS (fun q _ h => h) (fun q h => h) (fun r u t H locs ht hvm hw hB hz1 hk1 hS => ?_)
  have hB := wHS_h ht hB
  try dsimp only at hw
  have hH := hB
  rcases hw with ⟨rfl, c1⟩ | ⟨rfl, c1⟩
  · have c1 : inB b (y.1 1 0) = true := c1
    obtain ⟨jb, hjb, rfl⟩ := inB_t c1 (by omega)
    refine lv_iconst (v := 1) hx hb dX5_isJammed_6 (by decide) ?_
    refine va_calli (va_runV (As := [.int 1, .int 1]) (rest := []) ⟨hx, hb, hml, hown, hts⟩ (met_X5_no1 l E o g x y 1) (cwV 2 hts gX5_isJammed_X5_no rfl rfl rfl (by decide +kernel) ⟨Nat.le_of_ble_eq_true rfl, Nat.le_of_ble_eq_true rfl⟩) ⟨fun a U f mk q => ⟨q.1, wPre.calling q.2 a f mk⟩, (va_recv hK (wH_one hH (lv_md (by decide) (by decide)) (cel_md (by omega) (by omega))) (ci := 7) (q0 := 0) rfl rfl), fun U hU hW => ⟨rfl, wPre_at hz hS hH hK U hU hW⟩⟩ rfl rfl hl.1 rfl (lv_room (Nat.le_of_ble_eq_true rfl)) dX5_isJammed_7 ⟨Nat.le_of_ble_eq_true rfl, Nat.le_of_ble_eq_true rfl⟩) hS (fun q _ h => h) (fun q h => h) (fun r u t H locs ht hvm hw hB hz1 hk1 hS => ?_)
    have hB := wHS_h ht hB
    try dsimp only at hw
    obtain rfl := hw
    have hH := hB
    refine lv_if_ne (tgt := 26) hx hb dX5_isJammed_10 (by decide) (fun hq => absurd (show (0 : Int32) = 0 by decide) hq) (fun _ => ?_)
    refine lv_aload_n hx hb dX5_isJammed_13 rfl (lv_at hl 0 rfl) ?_
    refine wr_get (T := TX5) (N := 30) (ci := 7) (v := .ref (g 27)) hx hb hts hinX5 hown hK hH (lv_md (by decide) (by decide)) (cel_md (by omega) (by omega)) rfl 17 (by decide) (hts (.fieldLink RX5 58 "SelectoRouteModel" "jammed" "[Z") (by decide +kernel)) (fun _ h => h) rfl dX5_isJammed_14 ?_
    refine lv_iload_n hx hb dX5_isJammed_17 rfl (lv_at hl 1 rfl) ?_
    refine wr_zald (v := (y.2 10 jb)) hx hb hK hH (lv_md (by decide) (by decide)) (cel_md (by decide) (by decide)) 1 rfl (vp_in_nI (n := jb) (N := 4) (by omega) (by decide)) (by rw [(nI_clamp (n := jb) (by omega))]; try rfl) dX5_isJammed_18 ?_
    refine lv_if_eq (tgt := 26) hx hb dX5_isJammed_19 (by decide) (fun c2 => ?_) (fun c2 => ?_)
    · skip
      refine lv_iconst (v := 0) hx hb dX5_isJammed_26 (by decide) ?_
      have hsp : mp_isJammed y (nI jb) = (0, (uI y 28 0 0)) := by
        unfold mp_isJammed
        first | (simp only [c1, c2, inB_nI hjb (by omega), ix_nI (show jb < 2 ^ 31 by omega), ↓reduceIte, and_self, and_true, true_and, Bool.false_eq_true, reduceCtorEq, eq_self, false_and, and_false]; done) | (simp [c1, c2, inB_nI hjb (by omega), ix_nI (show jb < 2 ^ 31 by omega), ↓reduceIte, and_self, and_true, true_and, Bool.false_eq_true, reduceCtorEq, eq_self, false_and, and_false]; done) | simp only [c1, c2, inB_nI hjb (by omega), ix_nI (show jb < 2 ^ 31 by omega), ↓reduceIte, and_self, and_true, true_and, Bool.false_eq_true, reduceCtorEq, eq_self, false_and, and_false]
      exact W.zret (v := 0) hx hb hr rfl (fun t ht hW => ⟨⟨0, (), rfl, (by rw [hsp]), wHS_t ht (by rw [hsp]; exact hH)⟩, hS.F ht⟩) hS.2.2 dX5_isJammed_27
    · skip
      refine lv_iconst (v := 1) hx hb dX5_isJammed_22 (by decide) ?_
      refine lv_goto (tgt := 27) hx hb dX5_isJammed_23 (by decide) ?_
      have hsp : mp_isJammed y (nI jb) = (1, (uI y 28 0 0)) := by
        unfold mp_isJammed
        first | (simp only [c1, c2, inB_nI hjb (by omega), ix_nI (show jb < 2 ^ 31 by omega), ↓reduceIte, and_self, and_true, true_and, Bool.false_eq_true, reduceCtorEq, eq_self, false_and, and_false]; done) | (simp [c1, c2, inB_nI hjb (by omega), ix_nI (show jb < 2 ^ 31 by omega), ↓reduceIte, and_self, and_true, true_and, Bool.false_eq_true, reduceCtorEq, eq_self, false_and, and_false]; done) | simp only [c1, c2, inB_nI hjb (by omega), ix_nI (show jb < 2 ^ 31 by omega), ↓reduceIte, and_self, and_true, true_and, Bool.false_eq_true, reduceCtorEq, eq_self, false_and, and_false]
      exact W.zret (v := 1) hx hb hr rfl (fun t ht hW => ⟨⟨1, (), rfl, (by rw [hsp]), wHS_t ht (by rw [hsp]; exact hH)⟩, hS.F ht⟩) hS.2.2 dX5_isJammed_27
  · have c1 : inB b (y.1 1 0) = false := c1
    refine lv_iconst (v := 1) hx hb dX5_isJammed_6 (by decide) ?_
    refine va_calli (va_runV (As := [.int 0, .int 1]) (rest := []) ⟨hx, hb, hml, hown, hts⟩ (met_X5_no0 l E o g x y 1) (cwV 2 hts gX5_isJammed_X5_no rfl rfl rfl (by decide +kernel) ⟨Nat.le_of_ble_eq_true rfl, Nat.le_of_ble_eq_true rfl⟩) ⟨fun a U f mk q => ⟨q.1, wPre.calling q.2 a f mk⟩, (va_recv hK (wH_one hH (lv_md (by decide) (by decide)) (cel_md (by omega) (by omega))) (ci := 7) (q0 := 0) rfl rfl), fun U hU hW => ⟨rfl, wPre_at hz hS hH hK U hU hW⟩⟩ rfl rfl hl.1 rfl (lv_room (Nat.le_of_ble_eq_true rfl)) dX5_isJammed_7 ⟨Nat.le_of_ble_eq_true rfl, Nat.le_of_ble_eq_true rfl⟩) hS (fun q _ h => h) (fun q h => h) (fun r u t H locs ht hvm hw hB hz1 hk1 hS => ?_)
    have hB := wHS_h ht hB
    try dsimp only at hw
    obtain rfl := hw
    have hH := hB
    refine lv_if_ne (tgt := 26) hx hb dX5_isJammed_10 (by decide) (fun _ => ?_) (fun hq => absurd hq (show ¬ (1 : Int32) = 0 by decide))
    refine lv_iconst (v := 0) hx hb dX5_isJammed_26 (by decide) ?_
    have hsp : mp_isJammed y b = (0, (uI y 28 0 1)) := by
      unfold mp_isJammed
      first | (simp only [(Bool.eq_false_iff.mp c1), ↓reduceIte, and_self, and_true, true_and, Bool.false_eq_true, reduceCtorEq, eq_self, false_and, and_false]; done) | (simp [(Bool.eq_false_iff.mp c1), ↓reduceIte, and_self, and_true, true_and, Bool.false_eq_true, reduceCtorEq, eq_self, false_and, and_false]; done) | simp only [(Bool.eq_false_iff.mp c1), ↓reduceIte, and_self, and_true, true_and, Bool.false_eq_true, reduceCtorEq, eq_self, false_and, and_false]
    exact W.zret (v := 0) hx hb hr rfl (fun t ht hW => ⟨⟨0, (), rfl, (by rw [hsp]), wHS_t ht (by rw [hsp]; exact hH)⟩, hS.F ht⟩) hS.2.2 dX5_isJammed_27
def mp_getWheel (y : St) (b : Int32) (k : Int32) : Int32 × St := if inB b (y.1 1 0) = true ∧ inB k 10 = true then ((y.2 14 ((10 * (ix b)) + (ix k))), (uI y 28 0 0)) else (0, (uI y 28 0 1))
set_option maxHeartbeats 4000000 in
set_option maxRecDepth 100000 in
theorem met_X5_getWheel (l : Launch) (E : wE) (o : wO) (g : Nat → Nat) (x y : St) (b : Int32) (k : Int32) (hI : MI y) : Met l yX5_getWheel wsX5_getWheel ({ frames := 3, cells := 0, slots := 0, locals := 300 } : Room) (va_Pc [.ref (g 10), .int b, .int k] (wPre E o g x y)) (va_Qi (fun (r : Int32) (_ : Unit) => r = (mp_getWheel y b k).1) (fun (_ : Unit) t => wHS E o g x (mp_getWheel y b k).2 t.heap) (wA E)) 0 0 (wA E) := by
  refine Met.ofW (cc := cX5_getWheel) (maxL := 3) (ret := (some .int)) (by decide) rfl ?_
  intro p e s m args below meth c s₁ B hml hv
  obtain ⟨rfl, hz, hH, hK⟩ := hv
  have hx := B.exec
  have hb := B.bytes
  have hr := B.returns
  have hts := atoms_spec (ws := wsX5_getWheel) B.pre
  have hown : s.vm.findClass RX5 = some m.cls := findClass_of_methodNamed B.named
  have hlocks := B.notSynchronized
  have hS : va_S (wA E) s.heap s.heap [] := va_S.rf
  have hinX5 : ∀ w ∈ wsX50, w ∈ wsX5_getWheel := fun w h => List.mem_cons_of_mem _ (List.mem_append_left _ (List.mem_append_right _ h))
  have hl := lv_entry ([.ref (g 10), .int b, .int k]) (n := 3) (Nat.le_of_ble_eq_true rfl)
  rw [lg_entry_eq]
  generalize (lg_sl ([.ref (g 10), .int b, .int k]) ++ List.replicate (3 - (lg_sl ([.ref (g 10), .int b, .int k])).length) Slot.unset).toArray = ls at hl ⊢
  have hl : lv_has ls 3 [(0, .ref (g 10)), (1, .int b), (2, .int k)] := hl
  obtain ⟨H, eH⟩ : ∃ z, z = s.heap := ⟨_, rfl⟩
  have hH : wHS E o g x y H := by rw [eH]; exact hH
  have hS : va_S (wA E) s.heap H [] := by rw [eH]; exact hS
  refine W.heapTo eH ?_
  obtain ⟨hm0, hm1, hm7, hm8, hm5, hm6, hm9, hm12, hm11⟩ := id hI
  refine lv_aload_n hx hb dX5_getWheel_0 rfl (lv_at hl 0 rfl) ?_
  refine lv_aload_n hx hb dX5_getWheel_1 rfl (lv_at hl 0 rfl) ?_
  refine lv_iload_n hx hb dX5_getWheel_2 rfl (lv_at hl 1 rfl) ?_
  refine lv_iload_n hx hb dX5_getWheel_3 rfl (lv_at hl 2 rfl) ?_
  refine va_calli (va_runV (As := [.int b, .int k]) (rest := [.ref (g 10)]) ⟨hx, hb, hml, hown, hts⟩ (met_X5_isSlot l E o g x y b k (show (y.1 1 0) ≤ 100 by omega)) (cwV 2 hts gX5_getWheel_X5_isSlot rfl rfl rfl (by decide +kernel) ⟨Nat.le_of_ble_eq_true rfl, Nat.le_of_ble_eq_true rfl⟩) ⟨fun a U f mk q => ⟨q.1, wPre.calling q.2 a f mk⟩, (va_recv hK (wH_one hH (lv_md (by decide) (by decide)) (cel_md (by omega) (by omega))) (ci := 7) (q0 := 0) rfl rfl), fun U hU hW => ⟨rfl, wPre_at hz hS hH hK U hU hW⟩⟩ rfl rfl hl.1 rfl (lv_room (Nat.le_of_ble_eq_true rfl)) dX5_getWheel_4 ⟨Nat.le_of_ble_eq_true rfl, Nat.le_of_ble_eq_true rfl⟩) hS (fun q _ h => h) (fun q h => h) (fun r u t H locs ht hvm hw hB hz1 hk1 hS => ?_)
  have hB := wHS_h ht hB
  try dsimp only at hw
  have hH := hB
  rcases hw with ⟨rfl, c1, c1_s⟩ | ⟨rfl, c1⟩
  · obtain ⟨jb, hjb, rfl⟩ := inB_t c1 (by omega)
    obtain ⟨jk, hjk, rfl⟩ := inB_t c1_s (by omega)
    refine lv_iconst (v := 1) hx hb dX5_getWheel_7 (by decide) ?_
    refine va_calli (va_runV (As := [.int 1, .int 1]) (rest := []) ⟨hx, hb, hml, hown, hts⟩ (met_X5_no1 l E o g x y 1) (cwV 2 hts gX5_getWheel_X5_no rfl rfl rfl (by decide +kernel) ⟨Nat.le_of_ble_eq_true rfl, Nat.le_of_ble_eq_true rfl⟩) ⟨fun a U f mk q => ⟨q.1, wPre.calling q.2 a f mk⟩, (va_recv hK (wH_one hH (lv_md (by decide) (by decide)) (cel_md (by omega) (by omega))) (ci := 7) (q0 := 0) rfl rfl), fun U hU hW => ⟨rfl, wPre_at hz hS hH hK U hU hW⟩⟩ rfl rfl hl.1 rfl (lv_room (Nat.le_of_ble_eq_true rfl)) dX5_getWheel_8 ⟨Nat.le_of_ble_eq_true rfl, Nat.le_of_ble_eq_true rfl⟩) hS (fun q _ h => h) (fun q h => h) (fun r u t H locs ht hvm hw hB hz1 hk1 hS => ?_)
    have hB := wHS_h ht hB
    try dsimp only at hw
    obtain rfl := hw
    have hH := hB
    refine lv_if_eq (tgt := 18) hx hb dX5_getWheel_11 (by decide) (fun _ => ?_) (fun hq => absurd (show (0 : Int32) = 0 by decide) hq)
    refine lv_aload_n hx hb dX5_getWheel_18 rfl (lv_at hl 0 rfl) ?_
    refine wr_get (T := TX5) (N := 30) (ci := 7) (v := .ref (g 30)) hx hb hts hinX5 hown hK hH (lv_md (by decide) (by decide)) (cel_md (by omega) (by omega)) rfl 21 (by decide) (hts (.fieldLink RX5 68 "SelectoRouteModel" "wheel" "[I") (by decide +kernel)) (fun _ h => h) rfl dX5_getWheel_19 ?_
    refine lv_bipush (v := 10) hx hb dX5_getWheel_22 (by decide) ?_
    refine lv_iload_n hx hb dX5_getWheel_24 rfl (lv_at hl 1 rfl) ?_
    refine lv_imul hx hb dX5_getWheel_25 ?_
    refine lv_tope (pk_mul 10 jb) ?_
    refine lv_iload_n hx hb dX5_getWheel_26 rfl (lv_at hl 2 rfl) ?_
    refine lv_iadd hx hb dX5_getWheel_27 ?_
    refine lv_tope (nI_add (10 * jb) jk) ?_
    refine wr_iald (v := (y.2 14 ((10 * jb) + jk))) hx hb hK hH (lv_md (by decide) (by decide)) (cel_md (by decide) (by decide)) 0 rfl (vp_in_nI (n := ((10 * jb) + jk)) (N := 40) (by omega) (by decide)) (by rw [(nI_clamp (n := ((10 * jb) + jk)) (by omega))]; try rfl) dX5_getWheel_28 ?_
    have hsp : mp_getWheel y (nI jb) (nI jk) = ((y.2 14 ((10 * jb) + jk)), (uI y 28 0 0)) := by
      unfold mp_getWheel
      first | (simp only [c1, c1_s, inB_nI hjb (by omega), ix_nI (show jb < 2 ^ 31 by omega), inB_nI hjk (by omega), ix_nI (show jk < 2 ^ 31 by omega), ↓reduceIte, and_self, and_true, true_and, Bool.false_eq_true, reduceCtorEq, eq_self, false_and, and_false]; done) | (simp [c1, c1_s, inB_nI hjb (by omega), ix_nI (show jb < 2 ^ 31 by omega), inB_nI hjk (by omega), ix_nI (show jk < 2 ^ 31 by omega), ↓reduceIte, and_self, and_true, true_and, Bool.false_eq_true, reduceCtorEq, eq_self, false_and, and_false]; done) | simp only [c1, c1_s, inB_nI hjb (by omega), ix_nI (show jb < 2 ^ 31 by omega), inB_nI hjk (by omega), ix_nI (show jk < 2 ^ 31 by omega), ↓reduceIte, and_self, and_true, true_and, Bool.false_eq_true, reduceCtorEq, eq_self, false_and, and_false]
    exact W.iret (v := (y.2 14 ((10 * jb) + jk))) hx hb hr (fun t ht hW => ⟨⟨(y.2 14 ((10 * jb) + jk)), (), rfl, (by rw [hsp]), wHS_t ht (by rw [hsp]; exact hH)⟩, hS.F ht⟩) hS.2.2 dX5_getWheel_29
  · skip
    refine lv_iconst (v := 1) hx hb dX5_getWheel_7 (by decide) ?_
    refine va_calli (va_runV (As := [.int 0, .int 1]) (rest := []) ⟨hx, hb, hml, hown, hts⟩ (met_X5_no0 l E o g x y 1) (cwV 2 hts gX5_getWheel_X5_no rfl rfl rfl (by decide +kernel) ⟨Nat.le_of_ble_eq_true rfl, Nat.le_of_ble_eq_true rfl⟩) ⟨fun a U f mk q => ⟨q.1, wPre.calling q.2 a f mk⟩, (va_recv hK (wH_one hH (lv_md (by decide) (by decide)) (cel_md (by omega) (by omega))) (ci := 7) (q0 := 0) rfl rfl), fun U hU hW => ⟨rfl, wPre_at hz hS hH hK U hU hW⟩⟩ rfl rfl hl.1 rfl (lv_room (Nat.le_of_ble_eq_true rfl)) dX5_getWheel_8 ⟨Nat.le_of_ble_eq_true rfl, Nat.le_of_ble_eq_true rfl⟩) hS (fun q _ h => h) (fun q h => h) (fun r u t H locs ht hvm hw hB hz1 hk1 hS => ?_)
    have hB := wHS_h ht hB
    try dsimp only at hw
    obtain rfl := hw
    have hH := hB
    refine lv_if_eq (tgt := 18) hx hb dX5_getWheel_11 (by decide) (fun hq => absurd hq (show ¬ (1 : Int32) = 0 by decide)) (fun _ => ?_)
    refine lv_iconst (v := 0) hx hb dX5_getWheel_14 (by decide) ?_
    refine lv_goto (tgt := 29) hx hb dX5_getWheel_15 (by decide) ?_
    have hsp : mp_getWheel y b k = (0, (uI y 28 0 1)) := by
      unfold mp_getWheel
      first | (simp only [c1, ↓reduceIte, and_self, and_true, true_and, Bool.false_eq_true, reduceCtorEq, eq_self, false_and, and_false]; done) | (simp [c1, ↓reduceIte, and_self, and_true, true_and, Bool.false_eq_true, reduceCtorEq, eq_self, false_and, and_false]; done) | simp only [c1, ↓reduceIte, and_self, and_true, true_and, Bool.false_eq_true, reduceCtorEq, eq_self, false_and, and_false]
    exact W.iret (v := 0) hx hb hr (fun t ht hW => ⟨⟨0, (), rfl, (by rw [hsp]), wHS_t ht (by rw [hsp]; exact hH)⟩, hS.F ht⟩) hS.2.2 dX5_getWheel_29
def mp_getWear (y : St) (b : Int32) : Int32 × St := if inB b (y.1 0 0) = true then ((y.2 3 (ix b)), (uI y 28 0 0)) else (0, (uI y 28 0 1))
set_option maxHeartbeats 4000000 in
set_option maxRecDepth 100000 in
theorem met_X5_getWear (l : Launch) (E : wE) (o : wO) (g : Nat → Nat) (x y : St) (b : Int32) (hI : MI y) : Met l yX5_getWear wsX5_getWear ({ frames := 3, cells := 0, slots := 0, locals := 300 } : Room) (va_Pc [.ref (g 10), .int b] (wPre E o g x y)) (va_Qi (fun (r : Int32) (_ : Unit) => r = (mp_getWear y b).1) (fun (_ : Unit) t => wHS E o g x (mp_getWear y b).2 t.heap) (wA E)) 0 0 (wA E) := by
  refine Met.ofW (cc := cX5_getWear) (maxL := 2) (ret := (some .int)) (by decide) rfl ?_
  intro p e s m args below meth c s₁ B hml hv
  obtain ⟨rfl, hz, hH, hK⟩ := hv
  have hx := B.exec
  have hb := B.bytes
  have hr := B.returns
  have hts := atoms_spec (ws := wsX5_getWear) B.pre
  have hown : s.vm.findClass RX5 = some m.cls := findClass_of_methodNamed B.named
  have hlocks := B.notSynchronized
  have hS : va_S (wA E) s.heap s.heap [] := va_S.rf
  have hinX5 : ∀ w ∈ wsX50, w ∈ wsX5_getWear := fun w h => List.mem_cons_of_mem _ (List.mem_append_left _ (List.mem_append_right _ h))
  have hl := lv_entry ([.ref (g 10), .int b]) (n := 2) (Nat.le_of_ble_eq_true rfl)
  rw [lg_entry_eq]
  generalize (lg_sl ([.ref (g 10), .int b]) ++ List.replicate (2 - (lg_sl ([.ref (g 10), .int b])).length) Slot.unset).toArray = ls at hl ⊢
  have hl : lv_has ls 2 [(0, .ref (g 10)), (1, .int b)] := hl
  obtain ⟨H, eH⟩ : ∃ z, z = s.heap := ⟨_, rfl⟩
  have hH : wHS E o g x y H := by rw [eH]; exact hH
  have hS : va_S (wA E) s.heap H [] := by rw [eH]; exact hS
  refine W.heapTo eH ?_
  obtain ⟨hm0, hm1, hm7, hm8, hm5, hm6, hm9, hm12, hm11⟩ := id hI
  refine lv_aload_n hx hb dX5_getWear_0 rfl (lv_at hl 0 rfl) ?_
  refine lv_aload_n hx hb dX5_getWear_1 rfl (lv_at hl 0 rfl) ?_
  refine lv_iload_n hx hb dX5_getWear_2 rfl (lv_at hl 1 rfl) ?_
  refine va_calli (va_runV (As := [.int b]) (rest := [.ref (g 10)]) ⟨hx, hb, hml, hown, hts⟩ (met_X5_isDisc l E o g x y b (show (y.1 0 0) ≤ 100 by omega)) (cwV 1 hts gX5_getWear_X5_isDisc rfl rfl rfl (by decide +kernel) ⟨Nat.le_of_ble_eq_true rfl, Nat.le_of_ble_eq_true rfl⟩) ⟨fun a U f mk q => ⟨q.1, wPre.calling q.2 a f mk⟩, (va_recv hK (wH_one hH (lv_md (by decide) (by decide)) (cel_md (by omega) (by omega))) (ci := 7) (q0 := 0) rfl rfl), fun U hU hW => ⟨rfl, wPre_at hz hS hH hK U hU hW⟩⟩ rfl rfl hl.1 rfl (lv_room (Nat.le_of_ble_eq_true rfl)) dX5_getWear_3 ⟨Nat.le_of_ble_eq_true rfl, Nat.le_of_ble_eq_true rfl⟩) hS (fun q _ h => h) (fun q h => h) (fun r u t H locs ht hvm hw hB hz1 hk1 hS => ?_)
  have hB := wHS_h ht hB
  try dsimp only at hw
  have hH := hB
  rcases hw with ⟨rfl, c1⟩ | ⟨rfl, c1⟩
  · have c1 : inB b (y.1 0 0) = true := c1
    obtain ⟨jb, hjb, rfl⟩ := inB_t c1 (by omega)
    refine lv_iconst (v := 1) hx hb dX5_getWear_6 (by decide) ?_
    refine va_calli (va_runV (As := [.int 1, .int 1]) (rest := []) ⟨hx, hb, hml, hown, hts⟩ (met_X5_no1 l E o g x y 1) (cwV 2 hts gX5_getWear_X5_no rfl rfl rfl (by decide +kernel) ⟨Nat.le_of_ble_eq_true rfl, Nat.le_of_ble_eq_true rfl⟩) ⟨fun a U f mk q => ⟨q.1, wPre.calling q.2 a f mk⟩, (va_recv hK (wH_one hH (lv_md (by decide) (by decide)) (cel_md (by omega) (by omega))) (ci := 7) (q0 := 0) rfl rfl), fun U hU hW => ⟨rfl, wPre_at hz hS hH hK U hU hW⟩⟩ rfl rfl hl.1 rfl (lv_room (Nat.le_of_ble_eq_true rfl)) dX5_getWear_7 ⟨Nat.le_of_ble_eq_true rfl, Nat.le_of_ble_eq_true rfl⟩) hS (fun q _ h => h) (fun q h => h) (fun r u t H locs ht hvm hw hB hz1 hk1 hS => ?_)
    have hB := wHS_h ht hB
    try dsimp only at hw
    obtain rfl := hw
    have hH := hB
    refine lv_if_eq (tgt := 17) hx hb dX5_getWear_10 (by decide) (fun _ => ?_) (fun hq => absurd (show (0 : Int32) = 0 by decide) hq)
    refine lv_aload_n hx hb dX5_getWear_17 rfl (lv_at hl 0 rfl) ?_
    refine wr_get (T := TX5) (N := 30) (ci := 7) (v := .ref (g 14)) hx hb hts hinX5 hown hK hH (lv_md (by decide) (by decide)) (cel_md (by omega) (by omega)) rfl 3 (by decide) (hts (.fieldLink RX5 19 "SelectoRouteModel" "wear" "[I") (by decide +kernel)) (fun _ h => h) rfl dX5_getWear_18 ?_
    refine lv_iload_n hx hb dX5_getWear_21 rfl (lv_at hl 1 rfl) ?_
    refine wr_iald (v := (y.2 3 jb)) hx hb hK hH (lv_md (by decide) (by decide)) (cel_md (by decide) (by decide)) 0 rfl (vp_in_nI (n := jb) (N := 30) (by omega) (by decide)) (by rw [(nI_clamp (n := jb) (by omega))]; try rfl) dX5_getWear_22 ?_
    have hsp : mp_getWear y (nI jb) = ((y.2 3 jb), (uI y 28 0 0)) := by
      unfold mp_getWear
      first | (simp only [c1, inB_nI hjb (by omega), ix_nI (show jb < 2 ^ 31 by omega), ↓reduceIte, and_self, and_true, true_and, Bool.false_eq_true, reduceCtorEq, eq_self, false_and, and_false]; done) | (simp [c1, inB_nI hjb (by omega), ix_nI (show jb < 2 ^ 31 by omega), ↓reduceIte, and_self, and_true, true_and, Bool.false_eq_true, reduceCtorEq, eq_self, false_and, and_false]; done) | simp only [c1, inB_nI hjb (by omega), ix_nI (show jb < 2 ^ 31 by omega), ↓reduceIte, and_self, and_true, true_and, Bool.false_eq_true, reduceCtorEq, eq_self, false_and, and_false]
    exact W.iret (v := (y.2 3 jb)) hx hb hr (fun t ht hW => ⟨⟨(y.2 3 jb), (), rfl, (by rw [hsp]), wHS_t ht (by rw [hsp]; exact hH)⟩, hS.F ht⟩) hS.2.2 dX5_getWear_23
  · have c1 : inB b (y.1 0 0) = false := c1
    refine lv_iconst (v := 1) hx hb dX5_getWear_6 (by decide) ?_
    refine va_calli (va_runV (As := [.int 0, .int 1]) (rest := []) ⟨hx, hb, hml, hown, hts⟩ (met_X5_no0 l E o g x y 1) (cwV 2 hts gX5_getWear_X5_no rfl rfl rfl (by decide +kernel) ⟨Nat.le_of_ble_eq_true rfl, Nat.le_of_ble_eq_true rfl⟩) ⟨fun a U f mk q => ⟨q.1, wPre.calling q.2 a f mk⟩, (va_recv hK (wH_one hH (lv_md (by decide) (by decide)) (cel_md (by omega) (by omega))) (ci := 7) (q0 := 0) rfl rfl), fun U hU hW => ⟨rfl, wPre_at hz hS hH hK U hU hW⟩⟩ rfl rfl hl.1 rfl (lv_room (Nat.le_of_ble_eq_true rfl)) dX5_getWear_7 ⟨Nat.le_of_ble_eq_true rfl, Nat.le_of_ble_eq_true rfl⟩) hS (fun q _ h => h) (fun q h => h) (fun r u t H locs ht hvm hw hB hz1 hk1 hS => ?_)
    have hB := wHS_h ht hB
    try dsimp only at hw
    obtain rfl := hw
    have hH := hB
    refine lv_if_eq (tgt := 17) hx hb dX5_getWear_10 (by decide) (fun hq => absurd hq (show ¬ (1 : Int32) = 0 by decide)) (fun _ => ?_)
    refine lv_iconst (v := 0) hx hb dX5_getWear_13 (by decide) ?_
    refine lv_goto (tgt := 23) hx hb dX5_getWear_14 (by decide) ?_
    have hsp : mp_getWear y b = (0, (uI y 28 0 1)) := by
      unfold mp_getWear
      first | (simp only [(Bool.eq_false_iff.mp c1), ↓reduceIte, and_self, and_true, true_and, Bool.false_eq_true, reduceCtorEq, eq_self, false_and, and_false]; done) | (simp [(Bool.eq_false_iff.mp c1), ↓reduceIte, and_self, and_true, true_and, Bool.false_eq_true, reduceCtorEq, eq_self, false_and, and_false]; done) | simp only [(Bool.eq_false_iff.mp c1), ↓reduceIte, and_self, and_true, true_and, Bool.false_eq_true, reduceCtorEq, eq_self, false_and, and_false]
    exact W.iret (v := 0) hx hb hr (fun t ht hW => ⟨⟨0, (), rfl, (by rw [hsp]), wHS_t ht (by rw [hsp]; exact hH)⟩, hS.F ht⟩) hS.2.2 dX5_getWear_23
def mp_getPlace (y : St) (b : Int32) : Int32 × St := if inB b (y.1 0 0) = true then ((nI (y.1 8 (ix b)) - 2), (uI y 28 0 0)) else (0, (uI y 28 0 1))
set_option maxHeartbeats 4000000 in
set_option maxRecDepth 100000 in
theorem met_X5_getPlace (l : Launch) (E : wE) (o : wO) (g : Nat → Nat) (x y : St) (b : Int32) (hI : MI y) : Met l yX5_getPlace wsX5_getPlace ({ frames := 3, cells := 0, slots := 0, locals := 300 } : Room) (va_Pc [.ref (g 10), .int b] (wPre E o g x y)) (va_Qi (fun (r : Int32) (_ : Unit) => r = (mp_getPlace y b).1) (fun (_ : Unit) t => wHS E o g x (mp_getPlace y b).2 t.heap) (wA E)) 0 0 (wA E) := by
  refine Met.ofW (cc := cX5_getPlace) (maxL := 2) (ret := (some .int)) (by decide) rfl ?_
  intro p e s m args below meth c s₁ B hml hv
  obtain ⟨rfl, hz, hH, hK⟩ := hv
  have hx := B.exec
  have hb := B.bytes
  have hr := B.returns
  have hts := atoms_spec (ws := wsX5_getPlace) B.pre
  have hown : s.vm.findClass RX5 = some m.cls := findClass_of_methodNamed B.named
  have hlocks := B.notSynchronized
  have hS : va_S (wA E) s.heap s.heap [] := va_S.rf
  have hinX5 : ∀ w ∈ wsX50, w ∈ wsX5_getPlace := fun w h => List.mem_cons_of_mem _ (List.mem_append_left _ (List.mem_append_right _ h))
  have hl := lv_entry ([.ref (g 10), .int b]) (n := 2) (Nat.le_of_ble_eq_true rfl)
  rw [lg_entry_eq]
  generalize (lg_sl ([.ref (g 10), .int b]) ++ List.replicate (2 - (lg_sl ([.ref (g 10), .int b])).length) Slot.unset).toArray = ls at hl ⊢
  have hl : lv_has ls 2 [(0, .ref (g 10)), (1, .int b)] := hl
  obtain ⟨H, eH⟩ : ∃ z, z = s.heap := ⟨_, rfl⟩
  have hH : wHS E o g x y H := by rw [eH]; exact hH
  have hS : va_S (wA E) s.heap H [] := by rw [eH]; exact hS
  refine W.heapTo eH ?_
  obtain ⟨hm0, hm1, hm7, hm8, hm5, hm6, hm9, hm12, hm11⟩ := id hI
  refine lv_aload_n hx hb dX5_getPlace_0 rfl (lv_at hl 0 rfl) ?_
  refine lv_aload_n hx hb dX5_getPlace_1 rfl (lv_at hl 0 rfl) ?_
  refine lv_iload_n hx hb dX5_getPlace_2 rfl (lv_at hl 1 rfl) ?_
  refine va_calli (va_runV (As := [.int b]) (rest := [.ref (g 10)]) ⟨hx, hb, hml, hown, hts⟩ (met_X5_isDisc l E o g x y b (show (y.1 0 0) ≤ 100 by omega)) (cwV 1 hts gX5_getPlace_X5_isDisc rfl rfl rfl (by decide +kernel) ⟨Nat.le_of_ble_eq_true rfl, Nat.le_of_ble_eq_true rfl⟩) ⟨fun a U f mk q => ⟨q.1, wPre.calling q.2 a f mk⟩, (va_recv hK (wH_one hH (lv_md (by decide) (by decide)) (cel_md (by omega) (by omega))) (ci := 7) (q0 := 0) rfl rfl), fun U hU hW => ⟨rfl, wPre_at hz hS hH hK U hU hW⟩⟩ rfl rfl hl.1 rfl (lv_room (Nat.le_of_ble_eq_true rfl)) dX5_getPlace_3 ⟨Nat.le_of_ble_eq_true rfl, Nat.le_of_ble_eq_true rfl⟩) hS (fun q _ h => h) (fun q h => h) (fun r u t H locs ht hvm hw hB hz1 hk1 hS => ?_)
  have hB := wHS_h ht hB
  try dsimp only at hw
  have hH := hB
  rcases hw with ⟨rfl, c1⟩ | ⟨rfl, c1⟩
  · have c1 : inB b (y.1 0 0) = true := c1
    obtain ⟨jb, hjb, rfl⟩ := inB_t c1 (by omega)
    refine lv_iconst (v := 1) hx hb dX5_getPlace_6 (by decide) ?_
    refine va_calli (va_runV (As := [.int 1, .int 1]) (rest := []) ⟨hx, hb, hml, hown, hts⟩ (met_X5_no1 l E o g x y 1) (cwV 2 hts gX5_getPlace_X5_no rfl rfl rfl (by decide +kernel) ⟨Nat.le_of_ble_eq_true rfl, Nat.le_of_ble_eq_true rfl⟩) ⟨fun a U f mk q => ⟨q.1, wPre.calling q.2 a f mk⟩, (va_recv hK (wH_one hH (lv_md (by decide) (by decide)) (cel_md (by omega) (by omega))) (ci := 7) (q0 := 0) rfl rfl), fun U hU hW => ⟨rfl, wPre_at hz hS hH hK U hU hW⟩⟩ rfl rfl hl.1 rfl (lv_room (Nat.le_of_ble_eq_true rfl)) dX5_getPlace_7 ⟨Nat.le_of_ble_eq_true rfl, Nat.le_of_ble_eq_true rfl⟩) hS (fun q _ h => h) (fun q h => h) (fun r u t H locs ht hvm hw hB hz1 hk1 hS => ?_)
    have hB := wHS_h ht hB
    try dsimp only at hw
    obtain rfl := hw
    have hH := hB
    refine lv_if_eq (tgt := 17) hx hb dX5_getPlace_10 (by decide) (fun _ => ?_) (fun hq => absurd (show (0 : Int32) = 0 by decide) hq)
    refine lv_aload_n hx hb dX5_getPlace_17 rfl (lv_at hl 0 rfl) ?_
    refine wr_get (T := TX5) (N := 30) (ci := 7) (v := .ref (g 15)) hx hb hts hinX5 hown hK hH (lv_md (by decide) (by decide)) (cel_md (by omega) (by omega)) rfl 4 (by decide) (hts (.fieldLink RX5 22 "SelectoRouteModel" "place" "[I") (by decide +kernel)) (fun _ h => h) rfl dX5_getPlace_18 ?_
    refine lv_iload_n hx hb dX5_getPlace_21 rfl (lv_at hl 1 rfl) ?_
    refine wr_iald (v := nI (y.1 8 jb) - 2) hx hb hK hH (lv_md (by decide) (by decide)) (cel_md (by decide) (by decide)) 0 rfl (vp_in_nI (n := jb) (N := 30) (by omega) (by decide)) (by rw [(nI_clamp (n := jb) (by omega))]; try rfl) dX5_getPlace_22 ?_
    have hsp : mp_getPlace y (nI jb) = ((nI (y.1 8 jb) - 2), (uI y 28 0 0)) := by
      unfold mp_getPlace
      first | (simp only [c1, inB_nI hjb (by omega), ix_nI (show jb < 2 ^ 31 by omega), ↓reduceIte, and_self, and_true, true_and, Bool.false_eq_true, reduceCtorEq, eq_self, false_and, and_false]; done) | (simp [c1, inB_nI hjb (by omega), ix_nI (show jb < 2 ^ 31 by omega), ↓reduceIte, and_self, and_true, true_and, Bool.false_eq_true, reduceCtorEq, eq_self, false_and, and_false]; done) | simp only [c1, inB_nI hjb (by omega), ix_nI (show jb < 2 ^ 31 by omega), ↓reduceIte, and_self, and_true, true_and, Bool.false_eq_true, reduceCtorEq, eq_self, false_and, and_false]
    exact W.iret (v := (nI (y.1 8 jb) - 2)) hx hb hr (fun t ht hW => ⟨⟨(nI (y.1 8 jb) - 2), (), rfl, (by rw [hsp]), wHS_t ht (by rw [hsp]; exact hH)⟩, hS.F ht⟩) hS.2.2 dX5_getPlace_23
  · have c1 : inB b (y.1 0 0) = false := c1
    refine lv_iconst (v := 1) hx hb dX5_getPlace_6 (by decide) ?_
    refine va_calli (va_runV (As := [.int 0, .int 1]) (rest := []) ⟨hx, hb, hml, hown, hts⟩ (met_X5_no0 l E o g x y 1) (cwV 2 hts gX5_getPlace_X5_no rfl rfl rfl (by decide +kernel) ⟨Nat.le_of_ble_eq_true rfl, Nat.le_of_ble_eq_true rfl⟩) ⟨fun a U f mk q => ⟨q.1, wPre.calling q.2 a f mk⟩, (va_recv hK (wH_one hH (lv_md (by decide) (by decide)) (cel_md (by omega) (by omega))) (ci := 7) (q0 := 0) rfl rfl), fun U hU hW => ⟨rfl, wPre_at hz hS hH hK U hU hW⟩⟩ rfl rfl hl.1 rfl (lv_room (Nat.le_of_ble_eq_true rfl)) dX5_getPlace_7 ⟨Nat.le_of_ble_eq_true rfl, Nat.le_of_ble_eq_true rfl⟩) hS (fun q _ h => h) (fun q h => h) (fun r u t H locs ht hvm hw hB hz1 hk1 hS => ?_)
    have hB := wHS_h ht hB
    try dsimp only at hw
    obtain rfl := hw
    have hH := hB
    refine lv_if_eq (tgt := 17) hx hb dX5_getPlace_10 (by decide) (fun hq => absurd hq (show ¬ (1 : Int32) = 0 by decide)) (fun _ => ?_)
    refine lv_iconst (v := 0) hx hb dX5_getPlace_13 (by decide) ?_
    refine lv_goto (tgt := 23) hx hb dX5_getPlace_14 (by decide) ?_
    have hsp : mp_getPlace y b = (0, (uI y 28 0 1)) := by
      unfold mp_getPlace
      first | (simp only [(Bool.eq_false_iff.mp c1), ↓reduceIte, and_self, and_true, true_and, Bool.false_eq_true, reduceCtorEq, eq_self, false_and, and_false]; done) | (simp [(Bool.eq_false_iff.mp c1), ↓reduceIte, and_self, and_true, true_and, Bool.false_eq_true, reduceCtorEq, eq_self, false_and, and_false]; done) | simp only [(Bool.eq_false_iff.mp c1), ↓reduceIte, and_self, and_true, true_and, Bool.false_eq_true, reduceCtorEq, eq_self, false_and, and_false]
    exact W.iret (v := 0) hx hb hr (fun t ht hW => ⟨⟨0, (), rfl, (by rw [hsp]), wHS_t ht (by rw [hsp]; exact hH)⟩, hS.F ht⟩) hS.2.2 dX5_getPlace_23
def mp_setRisk (y : St) (b : Int32) (v : Int32) : Int32 × St := if inB b (y.1 1 0) = true then (if 0 ≤ v ∧ v ≤ 20 then ((y.2 6 (ix b)), (uI (uI (uI y 28 0 0) 28 0 0) 6 (ix b) v)) else (0, (uI (uI y 28 0 0) 28 0 2))) else (0, (uI y 28 0 1))
set_option maxHeartbeats 4000000 in
set_option maxRecDepth 100000 in
theorem met_X5_setRisk (l : Launch) (E : wE) (o : wO) (g : Nat → Nat) (x y : St) (b : Int32) (v : Int32) (hI : MI y) : Met l yX5_setRisk wsX5_setRisk ({ frames := 3, cells := 0, slots := 0, locals := 300 } : Room) (va_Pc [.ref (g 10), .int b, .int v] (wPre E o g x y)) (va_Qi (fun (r : Int32) (_ : Unit) => r = (mp_setRisk y b v).1) (fun (_ : Unit) t => wHS E o g x (mp_setRisk y b v).2 t.heap) (wA E)) 0 0 (wA E) := by
  refine Met.ofW (cc := cX5_setRisk) (maxL := 4) (ret := (some .int)) (by decide) rfl ?_
  intro p e s m args below meth c s₁ B hml hv
  obtain ⟨rfl, hz, hH, hK⟩ := hv
  have hx := B.exec
  have hb := B.bytes
  have hr := B.returns
  have hts := atoms_spec (ws := wsX5_setRisk) B.pre
  have hown : s.vm.findClass RX5 = some m.cls := findClass_of_methodNamed B.named
  have hlocks := B.notSynchronized
  have hS : va_S (wA E) s.heap s.heap [] := va_S.rf
  have hinX5 : ∀ w ∈ wsX50, w ∈ wsX5_setRisk := fun w h => List.mem_cons_of_mem _ (List.mem_append_left _ (List.mem_append_right _ h))
  have hl := lv_entry ([.ref (g 10), .int b, .int v]) (n := 4) (Nat.le_of_ble_eq_true rfl)
  rw [lg_entry_eq]
  generalize (lg_sl ([.ref (g 10), .int b, .int v]) ++ List.replicate (4 - (lg_sl ([.ref (g 10), .int b, .int v])).length) Slot.unset).toArray = ls at hl ⊢
  have hl : lv_has ls 4 [(0, .ref (g 10)), (1, .int b), (2, .int v)] := hl
  obtain ⟨H, eH⟩ : ∃ z, z = s.heap := ⟨_, rfl⟩
  have hH : wHS E o g x y H := by rw [eH]; exact hH
  have hS : va_S (wA E) s.heap H [] := by rw [eH]; exact hS
  refine W.heapTo eH ?_
  obtain ⟨hm0, hm1, hm7, hm8, hm5, hm6, hm9, hm12, hm11⟩ := id hI
  refine lv_aload_n hx hb dX5_setRisk_0 rfl (lv_at hl 0 rfl) ?_
  refine lv_aload_n hx hb dX5_setRisk_1 rfl (lv_at hl 0 rfl) ?_
  refine lv_iload_n hx hb dX5_setRisk_2 rfl (lv_at hl 1 rfl) ?_
  refine va_calli (va_runV (As := [.int b]) (rest := [.ref (g 10)]) ⟨hx, hb, hml, hown, hts⟩ (met_X5_isBox l E o g x y b (show (y.1 1 0) ≤ 100 by omega)) (cwV 1 hts gX5_setRisk_X5_isBox rfl rfl rfl (by decide +kernel) ⟨Nat.le_of_ble_eq_true rfl, Nat.le_of_ble_eq_true rfl⟩) ⟨fun a U f mk q => ⟨q.1, wPre.calling q.2 a f mk⟩, (va_recv hK (wH_one hH (lv_md (by decide) (by decide)) (cel_md (by omega) (by omega))) (ci := 7) (q0 := 0) rfl rfl), fun U hU hW => ⟨rfl, wPre_at hz hS hH hK U hU hW⟩⟩ rfl rfl hl.1 rfl (lv_room (Nat.le_of_ble_eq_true rfl)) dX5_setRisk_3 ⟨Nat.le_of_ble_eq_true rfl, Nat.le_of_ble_eq_true rfl⟩) hS (fun q _ h => h) (fun q h => h) (fun r u t H locs ht hvm hw hB hz1 hk1 hS => ?_)
  have hB := wHS_h ht hB
  try dsimp only at hw
  have hH := hB
  rcases hw with ⟨rfl, c1⟩ | ⟨rfl, c1⟩
  · have c1 : inB b (y.1 1 0) = true := c1
    obtain ⟨jb, hjb, rfl⟩ := inB_t c1 (by omega)
    refine lv_iconst (v := 1) hx hb dX5_setRisk_6 (by decide) ?_
    refine va_calli (va_runV (As := [.int 1, .int 1]) (rest := []) ⟨hx, hb, hml, hown, hts⟩ (met_X5_no1 l E o g x y 1) (cwV 2 hts gX5_setRisk_X5_no rfl rfl rfl (by decide +kernel) ⟨Nat.le_of_ble_eq_true rfl, Nat.le_of_ble_eq_true rfl⟩) ⟨fun a U f mk q => ⟨q.1, wPre.calling q.2 a f mk⟩, (va_recv hK (wH_one hH (lv_md (by decide) (by decide)) (cel_md (by omega) (by omega))) (ci := 7) (q0 := 0) rfl rfl), fun U hU hW => ⟨rfl, wPre_at hz hS hH hK U hU hW⟩⟩ rfl rfl hl.1 rfl (lv_room (Nat.le_of_ble_eq_true rfl)) dX5_setRisk_7 ⟨Nat.le_of_ble_eq_true rfl, Nat.le_of_ble_eq_true rfl⟩) hS (fun q _ h => h) (fun q h => h) (fun r u t H locs ht hvm hw hB hz1 hk1 hS => ?_)
    have hB := wHS_h ht hB
    try dsimp only at hw
    obtain rfl := hw
    have hH := hB
    refine lv_if_ne (tgt := 28) hx hb dX5_setRisk_10 (by decide) (fun hq => absurd (show (0 : Int32) = 0 by decide) hq) (fun _ => ?_)
    refine lv_aload_n hx hb dX5_setRisk_13 rfl (lv_at hl 0 rfl) ?_
    refine lv_iload_n hx hb dX5_setRisk_14 rfl (lv_at hl 2 rfl) ?_
    refine lv_iconst (v := 0) hx hb dX5_setRisk_15 (by decide) ?_
    refine lv_bipush (v := 20) hx hb dX5_setRisk_16 (by decide) ?_
    refine va_calli (va_runS (As := [.int v, .int 0, .int 20]) (rest := [.ref (g 10)]) ⟨hx, hb, hml, hown, hts⟩ (met_X5_isIn l E o g x (uI y 28 0 0) v 0 20) (va_cwS 3 hts gX5_setRisk_X5_isIn rfl rfl rfl (by decide +kernel) ⟨Nat.le_of_ble_eq_true rfl, Nat.le_of_ble_eq_true rfl⟩) ⟨fun a U f mk q => ⟨q.1, wPre.calling q.2 a f mk⟩, fun U hU hW => ⟨rfl, wPre_at hz hS hH hK U hU hW⟩⟩ rfl rfl hl.1 rfl (lv_room (Nat.le_of_ble_eq_true rfl)) dX5_setRisk_18 ⟨Nat.le_of_ble_eq_true rfl, Nat.le_of_ble_eq_true rfl⟩) hS (fun q _ h => h) (fun q h => h) (fun r u t H locs ht hvm hw hB hz1 hk1 hS => ?_)
    have hB := wHS_h ht hB
    try dsimp only at hw
    have hH := hB
    rcases hw with ⟨rfl, c2⟩ | ⟨rfl, c2⟩
    · skip
      refine lv_iconst (v := 2) hx hb dX5_setRisk_21 (by decide) ?_
      refine va_calli (va_runV (As := [.int 1, .int 2]) (rest := []) ⟨hx, hb, hml, hown, hts⟩ (met_X5_no1 l E o g x (uI y 28 0 0) 2) (cwV 2 hts gX5_setRisk_X5_no rfl rfl rfl (by decide +kernel) ⟨Nat.le_of_ble_eq_true rfl, Nat.le_of_ble_eq_true rfl⟩) ⟨fun a U f mk q => ⟨q.1, wPre.calling q.2 a f mk⟩, (va_recv hK (wH_one hH (lv_md (by decide) (by decide)) (cel_md (by omega) (by omega))) (ci := 7) (q0 := 0) rfl rfl), fun U hU hW => ⟨rfl, wPre_at hz hS hH hK U hU hW⟩⟩ rfl rfl hl.1 rfl (lv_room (Nat.le_of_ble_eq_true rfl)) dX5_setRisk_22 ⟨Nat.le_of_ble_eq_true rfl, Nat.le_of_ble_eq_true rfl⟩) hS (fun q _ h => h) (fun q h => h) (fun r u t H locs ht hvm hw hB hz1 hk1 hS => ?_)
      have hB := wHS_h ht hB
      try dsimp only at hw
      obtain rfl := hw
      have hH := hB
      refine lv_if_eq (tgt := 30) hx hb dX5_setRisk_25 (by decide) (fun _ => ?_) (fun hq => absurd (show (0 : Int32) = 0 by decide) hq)
      refine lv_aload_n hx hb dX5_setRisk_30 rfl (lv_at hl 0 rfl) ?_
      refine wr_get (T := TX5) (N := 30) (ci := 7) (v := .ref (g 18)) hx hb hts hinX5 hown hK hH (lv_md (by decide) (by decide)) (cel_md (by omega) (by omega)) rfl 8 (by decide) (hts (.fieldLink RX5 31 "SelectoRouteModel" "risk" "[I") (by decide +kernel)) (fun _ h => h) rfl dX5_setRisk_31 ?_
      refine lv_iload_n hx hb dX5_setRisk_34 rfl (lv_at hl 1 rfl) ?_
      refine wr_iald (v := (y.2 6 jb)) hx hb hK hH (lv_md (by decide) (by decide)) (cel_md (by decide) (by decide)) 0 rfl (vp_in_nI (n := jb) (N := 4) (by omega) (by decide)) (by rw [(nI_clamp (n := jb) (by omega))]; try rfl) dX5_setRisk_35 ?_
      refine lv_istore_n (lv' := [(3, .int (y.2 6 jb)), (0, .ref (g 10)), (1, .int (nI jb)), (2, .int v)]) hx hb dX5_setRisk_36 rfl hl (by decide) rfl (fun ls hl => ?_)
      refine lv_aload_n hx hb dX5_setRisk_37 rfl (lv_at hl 1 rfl) ?_
      refine wr_get (T := TX5) (N := 30) (ci := 7) (v := .ref (g 18)) hx hb hts hinX5 hown hK hH (lv_md (by decide) (by decide)) (cel_md (by omega) (by omega)) rfl 8 (by decide) (hts (.fieldLink RX5 31 "SelectoRouteModel" "risk" "[I") (by decide +kernel)) (fun _ h => h) rfl dX5_setRisk_38 ?_
      refine lv_iload_n hx hb dX5_setRisk_41 rfl (lv_at hl 2 rfl) ?_
      refine lv_iload_n hx hb dX5_setRisk_42 rfl (lv_at hl 3 rfl) ?_
      refine wr_iast hx hb hK hH hS (lv_md (by decide) (by decide)) (cel_md (by decide) (by decide)) 0 rfl (vp_in_nI (n := jb) (N := 4) (by omega) (by decide)) dX5_setRisk_43 (fun H locs hH hS => ?_)
      have hH : wHS E o g x (uI (uI (uI y 28 0 0) 28 0 0) 6 jb v) H := pa_risk (v := v) (nI_clamp (n := jb) (by omega)) hH
      refine lv_iload_n hx hb dX5_setRisk_44 rfl (lv_at hl 0 rfl) ?_
      have hsp : mp_setRisk y (nI jb) v = ((y.2 6 jb), (uI (uI (uI y 28 0 0) 28 0 0) 6 jb v)) := by
        unfold mp_setRisk
        first | (simp only [c1, c2, inB_nI hjb (by omega), ix_nI (show jb < 2 ^ 31 by omega), ↓reduceIte, and_self, and_true, true_and, Bool.false_eq_true, reduceCtorEq, eq_self, false_and, and_false]; done) | (simp [c1, c2, inB_nI hjb (by omega), ix_nI (show jb < 2 ^ 31 by omega), ↓reduceIte, and_self, and_true, true_and, Bool.false_eq_true, reduceCtorEq, eq_self, false_and, and_false]; done) | simp only [c1, c2, inB_nI hjb (by omega), ix_nI (show jb < 2 ^ 31 by omega), ↓reduceIte, and_self, and_true, true_and, Bool.false_eq_true, reduceCtorEq, eq_self, false_and, and_false]
      exact W.iret (v := (y.2 6 jb)) hx hb hr (fun t ht hW => ⟨⟨(y.2 6 jb), (), rfl, (by rw [hsp]), wHS_t ht (by rw [hsp]; exact hH)⟩, hS.F ht⟩) hS.2.2 dX5_setRisk_45
    · skip
      refine lv_iconst (v := 2) hx hb dX5_setRisk_21 (by decide) ?_
      refine va_calli (va_runV (As := [.int 0, .int 2]) (rest := []) ⟨hx, hb, hml, hown, hts⟩ (met_X5_no0 l E o g x (uI y 28 0 0) 2) (cwV 2 hts gX5_setRisk_X5_no rfl rfl rfl (by decide +kernel) ⟨Nat.le_of_ble_eq_true rfl, Nat.le_of_ble_eq_true rfl⟩) ⟨fun a U f mk q => ⟨q.1, wPre.calling q.2 a f mk⟩, (va_recv hK (wH_one hH (lv_md (by decide) (by decide)) (cel_md (by omega) (by omega))) (ci := 7) (q0 := 0) rfl rfl), fun U hU hW => ⟨rfl, wPre_at hz hS hH hK U hU hW⟩⟩ rfl rfl hl.1 rfl (lv_room (Nat.le_of_ble_eq_true rfl)) dX5_setRisk_22 ⟨Nat.le_of_ble_eq_true rfl, Nat.le_of_ble_eq_true rfl⟩) hS (fun q _ h => h) (fun q h => h) (fun r u t H locs ht hvm hw hB hz1 hk1 hS => ?_)
      have hB := wHS_h ht hB
      try dsimp only at hw
      obtain rfl := hw
      have hH := hB
      refine lv_if_eq (tgt := 30) hx hb dX5_setRisk_25 (by decide) (fun hq => absurd hq (show ¬ (1 : Int32) = 0 by decide)) (fun _ => ?_)
      refine lv_iconst (v := 0) hx hb dX5_setRisk_28 (by decide) ?_
      have hsp : mp_setRisk y (nI jb) v = (0, (uI (uI y 28 0 0) 28 0 2)) := by
        unfold mp_setRisk
        first | (simp only [c1, c2, inB_nI hjb (by omega), ix_nI (show jb < 2 ^ 31 by omega), ↓reduceIte, and_self, and_true, true_and, Bool.false_eq_true, reduceCtorEq, eq_self, false_and, and_false]; done) | (simp [c1, c2, inB_nI hjb (by omega), ix_nI (show jb < 2 ^ 31 by omega), ↓reduceIte, and_self, and_true, true_and, Bool.false_eq_true, reduceCtorEq, eq_self, false_and, and_false]; done) | simp only [c1, c2, inB_nI hjb (by omega), ix_nI (show jb < 2 ^ 31 by omega), ↓reduceIte, and_self, and_true, true_and, Bool.false_eq_true, reduceCtorEq, eq_self, false_and, and_false]
      exact W.iret (v := 0) hx hb hr (fun t ht hW => ⟨⟨0, (), rfl, (by rw [hsp]), wHS_t ht (by rw [hsp]; exact hH)⟩, hS.F ht⟩) hS.2.2 dX5_setRisk_29
  · have c1 : inB b (y.1 1 0) = false := c1
    refine lv_iconst (v := 1) hx hb dX5_setRisk_6 (by decide) ?_
    refine va_calli (va_runV (As := [.int 0, .int 1]) (rest := []) ⟨hx, hb, hml, hown, hts⟩ (met_X5_no0 l E o g x y 1) (cwV 2 hts gX5_setRisk_X5_no rfl rfl rfl (by decide +kernel) ⟨Nat.le_of_ble_eq_true rfl, Nat.le_of_ble_eq_true rfl⟩) ⟨fun a U f mk q => ⟨q.1, wPre.calling q.2 a f mk⟩, (va_recv hK (wH_one hH (lv_md (by decide) (by decide)) (cel_md (by omega) (by omega))) (ci := 7) (q0 := 0) rfl rfl), fun U hU hW => ⟨rfl, wPre_at hz hS hH hK U hU hW⟩⟩ rfl rfl hl.1 rfl (lv_room (Nat.le_of_ble_eq_true rfl)) dX5_setRisk_7 ⟨Nat.le_of_ble_eq_true rfl, Nat.le_of_ble_eq_true rfl⟩) hS (fun q _ h => h) (fun q h => h) (fun r u t H locs ht hvm hw hB hz1 hk1 hS => ?_)
    have hB := wHS_h ht hB
    try dsimp only at hw
    obtain rfl := hw
    have hH := hB
    refine lv_if_ne (tgt := 28) hx hb dX5_setRisk_10 (by decide) (fun _ => ?_) (fun hq => absurd hq (show ¬ (1 : Int32) = 0 by decide))
    refine lv_iconst (v := 0) hx hb dX5_setRisk_28 (by decide) ?_
    have hsp : mp_setRisk y b v = (0, (uI y 28 0 1)) := by
      unfold mp_setRisk
      first | (simp only [(Bool.eq_false_iff.mp c1), ↓reduceIte, and_self, and_true, true_and, Bool.false_eq_true, reduceCtorEq, eq_self, false_and, and_false]; done) | (simp [(Bool.eq_false_iff.mp c1), ↓reduceIte, and_self, and_true, true_and, Bool.false_eq_true, reduceCtorEq, eq_self, false_and, and_false]; done) | simp only [(Bool.eq_false_iff.mp c1), ↓reduceIte, and_self, and_true, true_and, Bool.false_eq_true, reduceCtorEq, eq_self, false_and, and_false]
    exact W.iret (v := 0) hx hb hr (fun t ht hW => ⟨⟨0, (), rfl, (by rw [hsp]), wHS_t ht (by rw [hsp]; exact hH)⟩, hS.F ht⟩) hS.2.2 dX5_setRisk_29
def mp_setSeed (y : St) (v : Int32) : Int32 × St := if 1 ≤ v ∧ v ≤ 2147483646 then ((y.2 16 0), (uI (uI y 28 0 0) 16 0 v)) else (0, (uI y 28 0 1))
set_option maxHeartbeats 4000000 in
set_option maxRecDepth 100000 in
theorem met_X5_setSeed (l : Launch) (E : wE) (o : wO) (g : Nat → Nat) (x y : St) (v : Int32) (hI : MI y) : Met l yX5_setSeed wsX5_setSeed ({ frames := 3, cells := 0, slots := 0, locals := 300 } : Room) (va_Pc [.ref (g 10), .int v] (wPre E o g x y)) (va_Qi (fun (r : Int32) (_ : Unit) => r = (mp_setSeed y v).1) (fun (_ : Unit) t => wHS E o g x (mp_setSeed y v).2 t.heap) (wA E)) 0 0 (wA E) := by
  refine Met.ofW (cc := cX5_setSeed) (maxL := 3) (ret := (some .int)) (by decide) rfl ?_
  intro p e s m args below meth c s₁ B hml hv
  obtain ⟨rfl, hz, hH, hK⟩ := hv
  have hx := B.exec
  have hb := B.bytes
  have hr := B.returns
  have hts := atoms_spec (ws := wsX5_setSeed) B.pre
  have hown : s.vm.findClass RX5 = some m.cls := findClass_of_methodNamed B.named
  have hlocks := B.notSynchronized
  have hS : va_S (wA E) s.heap s.heap [] := va_S.rf
  have hinX5 : ∀ w ∈ wsX50, w ∈ wsX5_setSeed := fun w h => List.mem_cons_of_mem _ (List.mem_append_right _ h)
  have hl := lv_entry ([.ref (g 10), .int v]) (n := 3) (Nat.le_of_ble_eq_true rfl)
  rw [lg_entry_eq]
  generalize (lg_sl ([.ref (g 10), .int v]) ++ List.replicate (3 - (lg_sl ([.ref (g 10), .int v])).length) Slot.unset).toArray = ls at hl ⊢
  have hl : lv_has ls 3 [(0, .ref (g 10)), (1, .int v)] := hl
  obtain ⟨H, eH⟩ : ∃ z, z = s.heap := ⟨_, rfl⟩
  have hH : wHS E o g x y H := by rw [eH]; exact hH
  have hS : va_S (wA E) s.heap H [] := by rw [eH]; exact hS
  refine W.heapTo eH ?_
  obtain ⟨hm0, hm1, hm7, hm8, hm5, hm6, hm9, hm12, hm11⟩ := id hI
  refine lv_aload_n hx hb dX5_setSeed_0 rfl (lv_at hl 0 rfl) ?_
  refine lv_iload_n hx hb dX5_setSeed_1 rfl (lv_at hl 1 rfl) ?_
  refine lv_iconst (v := 1) hx hb dX5_setSeed_2 (by decide) ?_
  refine lv_ldc hx hb hown (hts (.constant RX5 108 (2147483646)) (by decide +kernel)) dX5_setSeed_3 ?_
  refine va_calli (va_runS (As := [.int v, .int 1, .int 2147483646]) (rest := [.ref (g 10)]) ⟨hx, hb, hml, hown, hts⟩ (met_X5_isIn l E o g x y v 1 2147483646) (va_cwS 3 hts gX5_setSeed_X5_isIn rfl rfl rfl (by decide +kernel) ⟨Nat.le_of_ble_eq_true rfl, Nat.le_of_ble_eq_true rfl⟩) ⟨fun a U f mk q => ⟨q.1, wPre.calling q.2 a f mk⟩, fun U hU hW => ⟨rfl, wPre_at hz hS hH hK U hU hW⟩⟩ rfl rfl hl.1 rfl (lv_room (Nat.le_of_ble_eq_true rfl)) dX5_setSeed_5 ⟨Nat.le_of_ble_eq_true rfl, Nat.le_of_ble_eq_true rfl⟩) hS (fun q _ h => h) (fun q h => h) (fun r u t H locs ht hvm hw hB hz1 hk1 hS => ?_)
  have hB := wHS_h ht hB
  try dsimp only at hw
  have hH := hB
  rcases hw with ⟨rfl, c1⟩ | ⟨rfl, c1⟩
  · skip
    refine lv_iconst (v := 1) hx hb dX5_setSeed_8 (by decide) ?_
    refine va_calli (va_runV (As := [.int 1, .int 1]) (rest := []) ⟨hx, hb, hml, hown, hts⟩ (met_X5_no1 l E o g x y 1) (cwV 2 hts gX5_setSeed_X5_no rfl rfl rfl (by decide +kernel) ⟨Nat.le_of_ble_eq_true rfl, Nat.le_of_ble_eq_true rfl⟩) ⟨fun a U f mk q => ⟨q.1, wPre.calling q.2 a f mk⟩, (va_recv hK (wH_one hH (lv_md (by decide) (by decide)) (cel_md (by omega) (by omega))) (ci := 7) (q0 := 0) rfl rfl), fun U hU hW => ⟨rfl, wPre_at hz hS hH hK U hU hW⟩⟩ rfl rfl hl.1 rfl (lv_room (Nat.le_of_ble_eq_true rfl)) dX5_setSeed_9 ⟨Nat.le_of_ble_eq_true rfl, Nat.le_of_ble_eq_true rfl⟩) hS (fun q _ h => h) (fun q h => h) (fun r u t H locs ht hvm hw hB hz1 hk1 hS => ?_)
    have hB := wHS_h ht hB
    try dsimp only at hw
    obtain rfl := hw
    have hH := hB
    refine lv_if_eq (tgt := 17) hx hb dX5_setSeed_12 (by decide) (fun _ => ?_) (fun hq => absurd (show (0 : Int32) = 0 by decide) hq)
    refine lv_aload_n hx hb dX5_setSeed_17 rfl (lv_at hl 0 rfl) ?_
    refine wr_get (T := TX5) (N := 30) (ci := 7) (v := .int (y.2 16 0)) hx hb hts hinX5 hown hK hH (lv_md (by decide) (by decide)) (cel_md (by omega) (by omega)) rfl 25 (by decide) (hts (.fieldLink RX5 80 "SelectoRouteModel" "z" "I") (by decide +kernel)) (fun _ h => h) rfl dX5_setSeed_18 ?_
    refine lv_istore_n (lv' := [(2, .int (y.2 16 0)), (0, .ref (g 10)), (1, .int v)]) hx hb dX5_setSeed_21 rfl hl (by decide) rfl (fun ls hl => ?_)
    refine lv_aload_n hx hb dX5_setSeed_22 rfl (lv_at hl 1 rfl) ?_
    refine lv_iload_n hx hb dX5_setSeed_23 rfl (lv_at hl 2 rfl) ?_
    refine wr_put (T := TX5) (N := 30) (ci := 7) (v := .int v) hx hb hts hinX5 tyX5 tyX5_ok nmX5 hown hK hH hS (lv_md (by decide) (by decide)) (cel_md (by omega) (by omega)) rfl 25 (by decide) (hts (.fieldLink RX5 80 "SelectoRouteModel" "z" "I") (by decide +kernel)) (fun _ h => h) rfl (ty := .int) (by decide +kernel) rfl rfl (Nat.le_of_ble_eq_true rfl) dX5_setSeed_24 (fun H locs hH hS => ?_)
    have hH : wHS E o g x (uI (uI y 28 0 0) 16 0 v) H := pm_z hH
    refine lv_iload_n hx hb dX5_setSeed_27 rfl (lv_at hl 0 rfl) ?_
    have hsp : mp_setSeed y v = ((y.2 16 0), (uI (uI y 28 0 0) 16 0 v)) := by
      unfold mp_setSeed
      first | (simp only [c1, ↓reduceIte, and_self, and_true, true_and, Bool.false_eq_true, reduceCtorEq, eq_self, false_and, and_false]; done) | (simp [c1, ↓reduceIte, and_self, and_true, true_and, Bool.false_eq_true, reduceCtorEq, eq_self, false_and, and_false]; done) | simp only [c1, ↓reduceIte, and_self, and_true, true_and, Bool.false_eq_true, reduceCtorEq, eq_self, false_and, and_false]
    exact W.iret (v := (y.2 16 0)) hx hb hr (fun t ht hW => ⟨⟨(y.2 16 0), (), rfl, (by rw [hsp]), wHS_t ht (by rw [hsp]; exact hH)⟩, hS.F ht⟩) hS.2.2 dX5_setSeed_28
  · skip
    refine lv_iconst (v := 1) hx hb dX5_setSeed_8 (by decide) ?_
    refine va_calli (va_runV (As := [.int 0, .int 1]) (rest := []) ⟨hx, hb, hml, hown, hts⟩ (met_X5_no0 l E o g x y 1) (cwV 2 hts gX5_setSeed_X5_no rfl rfl rfl (by decide +kernel) ⟨Nat.le_of_ble_eq_true rfl, Nat.le_of_ble_eq_true rfl⟩) ⟨fun a U f mk q => ⟨q.1, wPre.calling q.2 a f mk⟩, (va_recv hK (wH_one hH (lv_md (by decide) (by decide)) (cel_md (by omega) (by omega))) (ci := 7) (q0 := 0) rfl rfl), fun U hU hW => ⟨rfl, wPre_at hz hS hH hK U hU hW⟩⟩ rfl rfl hl.1 rfl (lv_room (Nat.le_of_ble_eq_true rfl)) dX5_setSeed_9 ⟨Nat.le_of_ble_eq_true rfl, Nat.le_of_ble_eq_true rfl⟩) hS (fun q _ h => h) (fun q h => h) (fun r u t H locs ht hvm hw hB hz1 hk1 hS => ?_)
    have hB := wHS_h ht hB
    try dsimp only at hw
    obtain rfl := hw
    have hH := hB
    refine lv_if_eq (tgt := 17) hx hb dX5_setSeed_12 (by decide) (fun hq => absurd hq (show ¬ (1 : Int32) = 0 by decide)) (fun _ => ?_)
    refine lv_iconst (v := 0) hx hb dX5_setSeed_15 (by decide) ?_
    have hsp : mp_setSeed y v = (0, (uI y 28 0 1)) := by
      unfold mp_setSeed
      first | (simp only [c1, ↓reduceIte, and_self, and_true, true_and, Bool.false_eq_true, reduceCtorEq, eq_self, false_and, and_false]; done) | (simp [c1, ↓reduceIte, and_self, and_true, true_and, Bool.false_eq_true, reduceCtorEq, eq_self, false_and, and_false]; done) | simp only [c1, ↓reduceIte, and_self, and_true, true_and, Bool.false_eq_true, reduceCtorEq, eq_self, false_and, and_false]
    exact W.iret (v := 0) hx hb hr (fun t ht hW => ⟨⟨0, (), rfl, (by rw [hsp]), wHS_t ht (by rw [hsp]; exact hH)⟩, hS.F ht⟩) hS.2.2 dX5_setSeed_16
def mp_press (y : St) (b : Int32) (k : Int32) : Int32 × St := if inB b (y.1 1 0) = true ∧ inB k 10 = true then (if (y.2 7 (ix b)) ≤ 0 then (0, (uI (uI y 28 0 0) 28 0 2)) else (if (y.1 7 ((10 * (ix b)) + (ix k))) = 0 then (0, (uI (uI y 28 0 0) 28 0 2)) else (if 8 ≤ (y.1 5 (ix b)) then (0, (uI (uI (uI y 28 0 0) 28 0 0) 28 0 3)) else ((nI ((y.1 5 (ix b)) + 1)), (uN (uN (uI (uI (uI (uI y 28 0 0) 28 0 0) 28 0 0) 7 (ix b) ((y.2 7 (ix b)) - 1)) 6 ((8 * (ix b)) + (y.1 5 (ix b))) (ix k)) 5 (ix b) ((y.1 5 (ix b)) + 1)))))) else (0, (uI y 28 0 1))
set_option maxHeartbeats 4000000 in
set_option maxRecDepth 100000 in
theorem met_X5_press (l : Launch) (E : wE) (o : wO) (g : Nat → Nat) (x y : St) (b : Int32) (k : Int32) (hI : MI y) : Met l yX5_press wsX5_press ({ frames := 3, cells := 0, slots := 0, locals := 300 } : Room) (va_Pc [.ref (g 10), .int b, .int k] (wPre E o g x y)) (va_Qi (fun (r : Int32) (_ : Unit) => r = (mp_press y b k).1) (fun (_ : Unit) t => wHS E o g x (mp_press y b k).2 t.heap) (wA E)) 0 0 (wA E) := by
  refine Met.ofW (cc := cX5_press) (maxL := 3) (ret := (some .int)) (by decide) rfl ?_
  intro p e s m args below meth c s₁ B hml hv
  obtain ⟨rfl, hz, hH, hK⟩ := hv
  have hx := B.exec
  have hb := B.bytes
  have hr := B.returns
  have hts := atoms_spec (ws := wsX5_press) B.pre
  have hown : s.vm.findClass RX5 = some m.cls := findClass_of_methodNamed B.named
  have hlocks := B.notSynchronized
  have hS : va_S (wA E) s.heap s.heap [] := va_S.rf
  have hinX5 : ∀ w ∈ wsX50, w ∈ wsX5_press := fun w h => List.mem_cons_of_mem _ (List.mem_append_left _ (List.mem_append_right _ h))
  have hl := lv_entry ([.ref (g 10), .int b, .int k]) (n := 3) (Nat.le_of_ble_eq_true rfl)
  rw [lg_entry_eq]
  generalize (lg_sl ([.ref (g 10), .int b, .int k]) ++ List.replicate (3 - (lg_sl ([.ref (g 10), .int b, .int k])).length) Slot.unset).toArray = ls at hl ⊢
  have hl : lv_has ls 3 [(0, .ref (g 10)), (1, .int b), (2, .int k)] := hl
  obtain ⟨H, eH⟩ : ∃ z, z = s.heap := ⟨_, rfl⟩
  have hH : wHS E o g x y H := by rw [eH]; exact hH
  have hS : va_S (wA E) s.heap H [] := by rw [eH]; exact hS
  refine W.heapTo eH ?_
  obtain ⟨hm0, hm1, hm7, hm8, hm5, hm6, hm9, hm12, hm11⟩ := id hI
  refine lv_aload_n hx hb dX5_press_0 rfl (lv_at hl 0 rfl) ?_
  refine lv_aload_n hx hb dX5_press_1 rfl (lv_at hl 0 rfl) ?_
  refine lv_iload_n hx hb dX5_press_2 rfl (lv_at hl 1 rfl) ?_
  refine lv_iload_n hx hb dX5_press_3 rfl (lv_at hl 2 rfl) ?_
  refine va_calli (va_runV (As := [.int b, .int k]) (rest := [.ref (g 10)]) ⟨hx, hb, hml, hown, hts⟩ (met_X5_isSlot l E o g x y b k (show (y.1 1 0) ≤ 100 by omega)) (cwV 2 hts gX5_press_X5_isSlot rfl rfl rfl (by decide +kernel) ⟨Nat.le_of_ble_eq_true rfl, Nat.le_of_ble_eq_true rfl⟩) ⟨fun a U f mk q => ⟨q.1, wPre.calling q.2 a f mk⟩, (va_recv hK (wH_one hH (lv_md (by decide) (by decide)) (cel_md (by omega) (by omega))) (ci := 7) (q0 := 0) rfl rfl), fun U hU hW => ⟨rfl, wPre_at hz hS hH hK U hU hW⟩⟩ rfl rfl hl.1 rfl (lv_room (Nat.le_of_ble_eq_true rfl)) dX5_press_4 ⟨Nat.le_of_ble_eq_true rfl, Nat.le_of_ble_eq_true rfl⟩) hS (fun q _ h => h) (fun q h => h) (fun r u t H locs ht hvm hw hB hz1 hk1 hS => ?_)
  have hB := wHS_h ht hB
  try dsimp only at hw
  have hH := hB
  rcases hw with ⟨rfl, c1, c1_s⟩ | ⟨rfl, c1⟩
  · obtain ⟨jb, hjb, rfl⟩ := inB_t c1 (by omega)
    obtain ⟨jk, hjk, rfl⟩ := inB_t c1_s (by omega)
    refine lv_iconst (v := 1) hx hb dX5_press_7 (by decide) ?_
    refine va_calli (va_runV (As := [.int 1, .int 1]) (rest := []) ⟨hx, hb, hml, hown, hts⟩ (met_X5_no1 l E o g x y 1) (cwV 2 hts gX5_press_X5_no rfl rfl rfl (by decide +kernel) ⟨Nat.le_of_ble_eq_true rfl, Nat.le_of_ble_eq_true rfl⟩) ⟨fun a U f mk q => ⟨q.1, wPre.calling q.2 a f mk⟩, (va_recv hK (wH_one hH (lv_md (by decide) (by decide)) (cel_md (by omega) (by omega))) (ci := 7) (q0 := 0) rfl rfl), fun U hU hW => ⟨rfl, wPre_at hz hS hH hK U hU hW⟩⟩ rfl rfl hl.1 rfl (lv_room (Nat.le_of_ble_eq_true rfl)) dX5_press_8 ⟨Nat.le_of_ble_eq_true rfl, Nat.le_of_ble_eq_true rfl⟩) hS (fun q _ h => h) (fun q h => h) (fun r u t H locs ht hvm hw hB hz1 hk1 hS => ?_)
    have hB := wHS_h ht hB
    try dsimp only at hw
    obtain rfl := hw
    have hH := hB
    refine lv_if_ne (tgt := 74) hx hb dX5_press_11 (by decide) (fun hq => absurd (show (0 : Int32) = 0 by decide) hq) (fun _ => ?_)
    refine lv_aload_n hx hb dX5_press_14 rfl (lv_at hl 0 rfl) ?_
    refine lv_aload_n hx hb dX5_press_15 rfl (lv_at hl 0 rfl) ?_
    refine wr_get (T := TX5) (N := 30) (ci := 7) (v := .ref (g 19)) hx hb hts hinX5 hown hK hH (lv_md (by decide) (by decide)) (cel_md (by omega) (by omega)) rfl 9 (by decide) (hts (.fieldLink RX5 34 "SelectoRouteModel" "credits" "[I") (by decide +kernel)) (fun _ h => h) rfl dX5_press_16 ?_
    refine lv_iload_n hx hb dX5_press_19 rfl (lv_at hl 1 rfl) ?_
    refine wr_iald (v := (y.2 7 jb)) hx hb hK hH (lv_md (by decide) (by decide)) (cel_md (by decide) (by decide)) 0 rfl (vp_in_nI (n := jb) (N := 4) (by omega) (by decide)) (by rw [(nI_clamp (n := jb) (by omega))]; try rfl) dX5_press_20 ?_
    refine lv_if_le (tgt := 42) hx hb dX5_press_21 (by decide) (fun c2 => ?_) (fun c2 => ?_)
    · skip
      refine lv_iconst (v := 0) hx hb dX5_press_42 (by decide) ?_
      refine lv_iconst (v := 2) hx hb dX5_press_43 (by decide) ?_
      refine va_calli (va_runV (As := [.int 0, .int 2]) (rest := []) ⟨hx, hb, hml, hown, hts⟩ (met_X5_no0 l E o g x (uI y 28 0 0) 2) (cwV 2 hts gX5_press_X5_no rfl rfl rfl (by decide +kernel) ⟨Nat.le_of_ble_eq_true rfl, Nat.le_of_ble_eq_true rfl⟩) ⟨fun a U f mk q => ⟨q.1, wPre.calling q.2 a f mk⟩, (va_recv hK (wH_one hH (lv_md (by decide) (by decide)) (cel_md (by omega) (by omega))) (ci := 7) (q0 := 0) rfl rfl), fun U hU hW => ⟨rfl, wPre_at hz hS hH hK U hU hW⟩⟩ rfl rfl hl.1 rfl (lv_room (Nat.le_of_ble_eq_true rfl)) dX5_press_44 ⟨Nat.le_of_ble_eq_true rfl, Nat.le_of_ble_eq_true rfl⟩) hS (fun q _ h => h) (fun q h => h) (fun r u t H locs ht hvm hw hB hz1 hk1 hS => ?_)
      have hB := wHS_h ht hB
      try dsimp only at hw
      obtain rfl := hw
      have hH := hB
      refine lv_if_ne (tgt := 74) hx hb dX5_press_47 (by decide) (fun _ => ?_) (fun hq => absurd hq (show ¬ (1 : Int32) = 0 by decide))
      refine lv_iconst (v := 0) hx hb dX5_press_74 (by decide) ?_
      have hsp : mp_press y (nI jb) (nI jk) = (0, (uI (uI y 28 0 0) 28 0 2)) := by
        unfold mp_press
        first | (simp only [c1, c1_s, c2, inB_nI hjb (by omega), ix_nI (show jb < 2 ^ 31 by omega), inB_nI hjk (by omega), ix_nI (show jk < 2 ^ 31 by omega), ↓reduceIte, and_self, and_true, true_and, Bool.false_eq_true, reduceCtorEq, eq_self, false_and, and_false]; done) | (simp [c1, c1_s, c2, inB_nI hjb (by omega), ix_nI (show jb < 2 ^ 31 by omega), inB_nI hjk (by omega), ix_nI (show jk < 2 ^ 31 by omega), ↓reduceIte, and_self, and_true, true_and, Bool.false_eq_true, reduceCtorEq, eq_self, false_and, and_false]; done) | simp only [c1, c1_s, c2, inB_nI hjb (by omega), ix_nI (show jb < 2 ^ 31 by omega), inB_nI hjk (by omega), ix_nI (show jk < 2 ^ 31 by omega), ↓reduceIte, and_self, and_true, true_and, Bool.false_eq_true, reduceCtorEq, eq_self, false_and, and_false]
      exact W.iret (v := 0) hx hb hr (fun t ht hW => ⟨⟨0, (), rfl, (by rw [hsp]), wHS_t ht (by rw [hsp]; exact hH)⟩, hS.F ht⟩) hS.2.2 dX5_press_75
    · skip
      refine lv_aload_n hx hb dX5_press_24 rfl (lv_at hl 0 rfl) ?_
      refine wr_get (T := TX5) (N := 30) (ci := 7) (v := .ref (g 29)) hx hb hts hinX5 hown hK hH (lv_md (by decide) (by decide)) (cel_md (by omega) (by omega)) rfl 20 (by decide) (hts (.fieldLink RX5 65 "SelectoRouteModel" "slots" "[I") (by decide +kernel)) (fun _ h => h) rfl dX5_press_25 ?_
      refine lv_bipush (v := 10) hx hb dX5_press_28 (by decide) ?_
      refine lv_iload_n hx hb dX5_press_30 rfl (lv_at hl 1 rfl) ?_
      refine lv_imul hx hb dX5_press_31 ?_
      refine lv_tope (pk_mul 10 jb) ?_
      refine lv_iload_n hx hb dX5_press_32 rfl (lv_at hl 2 rfl) ?_
      refine lv_iadd hx hb dX5_press_33 ?_
      refine lv_tope (nI_add (10 * jb) jk) ?_
      refine wr_iald (v := nI (y.1 7 ((10 * jb) + jk))) hx hb hK hH (lv_md (by decide) (by decide)) (cel_md (by decide) (by decide)) 0 rfl (vp_in_nI (n := ((10 * jb) + jk)) (N := 40) (by omega) (by decide)) (by rw [(nI_clamp (n := ((10 * jb) + jk)) (by omega))]; try rfl) dX5_press_34 ?_
      refine lv_if_le (tgt := 42) hx hb dX5_press_35 (by decide) (fun c3 => ?_) (fun c3 => ?_)
      · have c3 := (nz_le (by have q0 := hm7 ((10 * jb) + jk); omega)).mp c3
        refine lv_iconst (v := 0) hx hb dX5_press_42 (by decide) ?_
        refine lv_iconst (v := 2) hx hb dX5_press_43 (by decide) ?_
        refine va_calli (va_runV (As := [.int 0, .int 2]) (rest := []) ⟨hx, hb, hml, hown, hts⟩ (met_X5_no0 l E o g x (uI y 28 0 0) 2) (cwV 2 hts gX5_press_X5_no rfl rfl rfl (by decide +kernel) ⟨Nat.le_of_ble_eq_true rfl, Nat.le_of_ble_eq_true rfl⟩) ⟨fun a U f mk q => ⟨q.1, wPre.calling q.2 a f mk⟩, (va_recv hK (wH_one hH (lv_md (by decide) (by decide)) (cel_md (by omega) (by omega))) (ci := 7) (q0 := 0) rfl rfl), fun U hU hW => ⟨rfl, wPre_at hz hS hH hK U hU hW⟩⟩ rfl rfl hl.1 rfl (lv_room (Nat.le_of_ble_eq_true rfl)) dX5_press_44 ⟨Nat.le_of_ble_eq_true rfl, Nat.le_of_ble_eq_true rfl⟩) hS (fun q _ h => h) (fun q h => h) (fun r u t H locs ht hvm hw hB hz1 hk1 hS => ?_)
        have hB := wHS_h ht hB
        try dsimp only at hw
        obtain rfl := hw
        have hH := hB
        refine lv_if_ne (tgt := 74) hx hb dX5_press_47 (by decide) (fun _ => ?_) (fun hq => absurd hq (show ¬ (1 : Int32) = 0 by decide))
        refine lv_iconst (v := 0) hx hb dX5_press_74 (by decide) ?_
        have hsp : mp_press y (nI jb) (nI jk) = (0, (uI (uI y 28 0 0) 28 0 2)) := by
          unfold mp_press
          first | (simp only [c1, c1_s, c2, c3, inB_nI hjb (by omega), ix_nI (show jb < 2 ^ 31 by omega), inB_nI hjk (by omega), ix_nI (show jk < 2 ^ 31 by omega), ↓reduceIte, and_self, and_true, true_and, Bool.false_eq_true, reduceCtorEq, eq_self, false_and, and_false]; done) | (simp [c1, c1_s, c2, c3, inB_nI hjb (by omega), ix_nI (show jb < 2 ^ 31 by omega), inB_nI hjk (by omega), ix_nI (show jk < 2 ^ 31 by omega), ↓reduceIte, and_self, and_true, true_and, Bool.false_eq_true, reduceCtorEq, eq_self, false_and, and_false]; done) | simp only [c1, c1_s, c2, c3, inB_nI hjb (by omega), ix_nI (show jb < 2 ^ 31 by omega), inB_nI hjk (by omega), ix_nI (show jk < 2 ^ 31 by omega), ↓reduceIte, and_self, and_true, true_and, Bool.false_eq_true, reduceCtorEq, eq_self, false_and, and_false]
        exact W.iret (v := 0) hx hb hr (fun t ht hW => ⟨⟨0, (), rfl, (by rw [hsp]), wHS_t ht (by rw [hsp]; exact hH)⟩, hS.F ht⟩) hS.2.2 dX5_press_75
      · have c3 : ¬ ((y.1 7 ((10 * jb) + jk)) = 0) := fun hq => c3 ((nz_le (by have q0 := hm7 ((10 * jb) + jk); omega)).mpr hq)
        refine lv_iconst (v := 1) hx hb dX5_press_38 (by decide) ?_
        refine lv_goto (tgt := 43) hx hb dX5_press_39 (by decide) ?_
        refine lv_iconst (v := 2) hx hb dX5_press_43 (by decide) ?_
        refine va_calli (va_runV (As := [.int 1, .int 2]) (rest := []) ⟨hx, hb, hml, hown, hts⟩ (met_X5_no1 l E o g x (uI y 28 0 0) 2) (cwV 2 hts gX5_press_X5_no rfl rfl rfl (by decide +kernel) ⟨Nat.le_of_ble_eq_true rfl, Nat.le_of_ble_eq_true rfl⟩) ⟨fun a U f mk q => ⟨q.1, wPre.calling q.2 a f mk⟩, (va_recv hK (wH_one hH (lv_md (by decide) (by decide)) (cel_md (by omega) (by omega))) (ci := 7) (q0 := 0) rfl rfl), fun U hU hW => ⟨rfl, wPre_at hz hS hH hK U hU hW⟩⟩ rfl rfl hl.1 rfl (lv_room (Nat.le_of_ble_eq_true rfl)) dX5_press_44 ⟨Nat.le_of_ble_eq_true rfl, Nat.le_of_ble_eq_true rfl⟩) hS (fun q _ h => h) (fun q h => h) (fun r u t H locs ht hvm hw hB hz1 hk1 hS => ?_)
        have hB := wHS_h ht hB
        try dsimp only at hw
        obtain rfl := hw
        have hH := hB
        refine lv_if_ne (tgt := 74) hx hb dX5_press_47 (by decide) (fun hq => absurd (show (0 : Int32) = 0 by decide) hq) (fun _ => ?_)
        refine lv_aload_n hx hb dX5_press_50 rfl (lv_at hl 0 rfl) ?_
        refine lv_aload_n hx hb dX5_press_51 rfl (lv_at hl 0 rfl) ?_
        refine wr_get (T := TX5) (N := 30) (ci := 7) (v := .ref (g 22)) hx hb hts hinX5 hown hK hH (lv_md (by decide) (by decide)) (cel_md (by omega) (by omega)) rfl 12 (by decide) (hts (.fieldLink RX5 43 "SelectoRouteModel" "queued" "[I") (by decide +kernel)) (fun _ h => h) rfl dX5_press_52 ?_
        refine lv_iload_n hx hb dX5_press_55 rfl (lv_at hl 1 rfl) ?_
        refine wr_iald (v := nI (y.1 5 jb)) hx hb hK hH (lv_md (by decide) (by decide)) (cel_md (by decide) (by decide)) 0 rfl (vp_in_nI (n := jb) (N := 4) (by omega) (by decide)) (by rw [(nI_clamp (n := jb) (by omega))]; try rfl) dX5_press_56 ?_
        refine lv_bipush (v := 8) hx hb dX5_press_57 (by decide) ?_
        refine lv_icmp_ge (tgt := 66) hx hb dX5_press_59 (by decide) (fun c4 => ?_) (fun c4 => ?_)
        · have c4 := (nI_leI (a := 8) (b := (y.1 5 jb)) (by omega) (by have q0 := hm5 jb; omega)).mp c4
          refine lv_iconst (v := 0) hx hb dX5_press_66 (by decide) ?_
          refine lv_iconst (v := 3) hx hb dX5_press_67 (by decide) ?_
          refine va_calli (va_runV (As := [.int 0, .int 3]) (rest := []) ⟨hx, hb, hml, hown, hts⟩ (met_X5_no0 l E o g x (uI (uI y 28 0 0) 28 0 0) 3) (cwV 2 hts gX5_press_X5_no rfl rfl rfl (by decide +kernel) ⟨Nat.le_of_ble_eq_true rfl, Nat.le_of_ble_eq_true rfl⟩) ⟨fun a U f mk q => ⟨q.1, wPre.calling q.2 a f mk⟩, (va_recv hK (wH_one hH (lv_md (by decide) (by decide)) (cel_md (by omega) (by omega))) (ci := 7) (q0 := 0) rfl rfl), fun U hU hW => ⟨rfl, wPre_at hz hS hH hK U hU hW⟩⟩ rfl rfl hl.1 rfl (lv_room (Nat.le_of_ble_eq_true rfl)) dX5_press_68 ⟨Nat.le_of_ble_eq_true rfl, Nat.le_of_ble_eq_true rfl⟩) hS (fun q _ h => h) (fun q h => h) (fun r u t H locs ht hvm hw hB hz1 hk1 hS => ?_)
          have hB := wHS_h ht hB
          try dsimp only at hw
          obtain rfl := hw
          have hH := hB
          refine lv_if_eq (tgt := 76) hx hb dX5_press_71 (by decide) (fun hq => absurd hq (show ¬ (1 : Int32) = 0 by decide)) (fun _ => ?_)
          refine lv_iconst (v := 0) hx hb dX5_press_74 (by decide) ?_
          have hsp : mp_press y (nI jb) (nI jk) = (0, (uI (uI (uI y 28 0 0) 28 0 0) 28 0 3)) := by
            unfold mp_press
            first | (simp only [c1, c1_s, c2, c3, c4, inB_nI hjb (by omega), ix_nI (show jb < 2 ^ 31 by omega), inB_nI hjk (by omega), ix_nI (show jk < 2 ^ 31 by omega), ↓reduceIte, and_self, and_true, true_and, Bool.false_eq_true, reduceCtorEq, eq_self, false_and, and_false]; done) | (simp [c1, c1_s, c2, c3, c4, inB_nI hjb (by omega), ix_nI (show jb < 2 ^ 31 by omega), inB_nI hjk (by omega), ix_nI (show jk < 2 ^ 31 by omega), ↓reduceIte, and_self, and_true, true_and, Bool.false_eq_true, reduceCtorEq, eq_self, false_and, and_false]; done) | simp only [c1, c1_s, c2, c3, c4, inB_nI hjb (by omega), ix_nI (show jb < 2 ^ 31 by omega), inB_nI hjk (by omega), ix_nI (show jk < 2 ^ 31 by omega), ↓reduceIte, and_self, and_true, true_and, Bool.false_eq_true, reduceCtorEq, eq_self, false_and, and_false]
          exact W.iret (v := 0) hx hb hr (fun t ht hW => ⟨⟨0, (), rfl, (by rw [hsp]), wHS_t ht (by rw [hsp]; exact hH)⟩, hS.F ht⟩) hS.2.2 dX5_press_75
        · have c4 : ¬ (8 ≤ (y.1 5 jb)) := fun hq => c4 ((nI_leI (a := 8) (b := (y.1 5 jb)) (by omega) (by have q0 := hm5 jb; omega)).mpr hq)
          refine lv_iconst (v := 1) hx hb dX5_press_62 (by decide) ?_
          refine lv_goto (tgt := 67) hx hb dX5_press_63 (by decide) ?_
          refine lv_iconst (v := 3) hx hb dX5_press_67 (by decide) ?_
          refine va_calli (va_runV (As := [.int 1, .int 3]) (rest := []) ⟨hx, hb, hml, hown, hts⟩ (met_X5_no1 l E o g x (uI (uI y 28 0 0) 28 0 0) 3) (cwV 2 hts gX5_press_X5_no rfl rfl rfl (by decide +kernel) ⟨Nat.le_of_ble_eq_true rfl, Nat.le_of_ble_eq_true rfl⟩) ⟨fun a U f mk q => ⟨q.1, wPre.calling q.2 a f mk⟩, (va_recv hK (wH_one hH (lv_md (by decide) (by decide)) (cel_md (by omega) (by omega))) (ci := 7) (q0 := 0) rfl rfl), fun U hU hW => ⟨rfl, wPre_at hz hS hH hK U hU hW⟩⟩ rfl rfl hl.1 rfl (lv_room (Nat.le_of_ble_eq_true rfl)) dX5_press_68 ⟨Nat.le_of_ble_eq_true rfl, Nat.le_of_ble_eq_true rfl⟩) hS (fun q _ h => h) (fun q h => h) (fun r u t H locs ht hvm hw hB hz1 hk1 hS => ?_)
          have hB := wHS_h ht hB
          try dsimp only at hw
          obtain rfl := hw
          have hH := hB
          refine lv_if_eq (tgt := 76) hx hb dX5_press_71 (by decide) (fun _ => ?_) (fun hq => absurd (show (0 : Int32) = 0 by decide) hq)
          refine lv_aload_n hx hb dX5_press_76 rfl (lv_at hl 0 rfl) ?_
          refine wr_get (T := TX5) (N := 30) (ci := 7) (v := .ref (g 19)) hx hb hts hinX5 hown hK hH (lv_md (by decide) (by decide)) (cel_md (by omega) (by omega)) rfl 9 (by decide) (hts (.fieldLink RX5 34 "SelectoRouteModel" "credits" "[I") (by decide +kernel)) (fun _ h => h) rfl dX5_press_77 ?_
          refine lv_iload_n hx hb dX5_press_80 rfl (lv_at hl 1 rfl) ?_
          refine lv_dup2_11 hx hb dX5_press_81 rfl rfl ?_
          refine wr_iald (v := (y.2 7 jb)) hx hb hK hH (lv_md (by decide) (by decide)) (cel_md (by decide) (by decide)) 0 rfl (vp_in_nI (n := jb) (N := 4) (by omega) (by decide)) (by rw [(nI_clamp (n := jb) (by omega))]; try rfl) dX5_press_82 ?_
          refine lv_iconst (v := 1) hx hb dX5_press_83 (by decide) ?_
          refine lv_isub hx hb dX5_press_84 ?_
          refine lv_topi (fun v5 ev5 => ?_)
          refine wr_iast hx hb hK hH hS (lv_md (by decide) (by decide)) (cel_md (by decide) (by decide)) 0 rfl (vp_in_nI (n := jb) (N := 4) (by omega) (by decide)) dX5_press_85 (fun H locs hH hS => ?_)
          have hH : wHS E o g x (uI (uI (uI (uI y 28 0 0) 28 0 0) 28 0 0) 7 jb v5) H := pa_credits (v := v5) (nI_clamp (n := jb) (by omega)) hH
          refine lv_aload_n hx hb dX5_press_86 rfl (lv_at hl 0 rfl) ?_
          refine wr_get (T := TX5) (N := 30) (ci := 7) (v := .ref (g 23)) hx hb hts hinX5 hown hK hH (lv_md (by decide) (by decide)) (cel_md (by omega) (by omega)) rfl 13 (by decide) (hts (.fieldLink RX5 46 "SelectoRouteModel" "queue" "[I") (by decide +kernel)) (fun _ h => h) rfl dX5_press_87 ?_
          refine lv_bipush (v := 8) hx hb dX5_press_90 (by decide) ?_
          refine lv_iload_n hx hb dX5_press_92 rfl (lv_at hl 1 rfl) ?_
          refine lv_imul hx hb dX5_press_93 ?_
          refine lv_tope (pk_mul 8 jb) ?_
          refine lv_aload_n hx hb dX5_press_94 rfl (lv_at hl 0 rfl) ?_
          refine wr_get (T := TX5) (N := 30) (ci := 7) (v := .ref (g 22)) hx hb hts hinX5 hown hK hH (lv_md (by decide) (by decide)) (cel_md (by omega) (by omega)) rfl 12 (by decide) (hts (.fieldLink RX5 43 "SelectoRouteModel" "queued" "[I") (by decide +kernel)) (fun _ h => h) rfl dX5_press_95 ?_
          refine lv_iload_n hx hb dX5_press_98 rfl (lv_at hl 1 rfl) ?_
          refine wr_iald (v := nI (y.1 5 jb)) hx hb hK hH (lv_md (by decide) (by decide)) (cel_md (by decide) (by decide)) 0 rfl (vp_in_nI (n := jb) (N := 4) (by omega) (by decide)) (by rw [(nI_clamp (n := jb) (by omega))]; try rfl) dX5_press_99 ?_
          refine lv_iadd hx hb dX5_press_100 ?_
          refine lv_tope (nI_add (8 * jb) (y.1 5 jb)) ?_
          refine lv_iload_n hx hb dX5_press_101 rfl (lv_at hl 2 rfl) ?_
          refine wr_iast hx hb hK hH hS (lv_md (by decide) (by decide)) (cel_md (by decide) (by decide)) 0 rfl (vp_in_nI (n := ((8 * jb) + (y.1 5 jb))) (N := 32) (by have q0 := hm5 jb; omega) (by decide)) dX5_press_102 (fun H locs hH hS => ?_)
          have hH : wHS E o g x (uN (uI (uI (uI (uI y 28 0 0) 28 0 0) 28 0 0) 7 jb v5) 6 ((8 * jb) + (y.1 5 jb)) jk) H := pa_queue (v := jk) (nI_clamp (n := ((8 * jb) + (y.1 5 jb))) (by have q0 := hm5 jb; omega)) hH
          refine lv_aload_n hx hb dX5_press_103 rfl (lv_at hl 0 rfl) ?_
          refine wr_get (T := TX5) (N := 30) (ci := 7) (v := .ref (g 22)) hx hb hts hinX5 hown hK hH (lv_md (by decide) (by decide)) (cel_md (by omega) (by omega)) rfl 12 (by decide) (hts (.fieldLink RX5 43 "SelectoRouteModel" "queued" "[I") (by decide +kernel)) (fun _ h => h) rfl dX5_press_104 ?_
          refine lv_iload_n hx hb dX5_press_107 rfl (lv_at hl 1 rfl) ?_
          refine lv_dup2_11 hx hb dX5_press_108 rfl rfl ?_
          refine wr_iald (v := nI (y.1 5 jb)) hx hb hK hH (lv_md (by decide) (by decide)) (cel_md (by decide) (by decide)) 0 rfl (vp_in_nI (n := jb) (N := 4) (by omega) (by decide)) (by rw [(nI_clamp (n := jb) (by omega))]; try rfl) dX5_press_109 ?_
          refine lv_iconst (v := 1) hx hb dX5_press_110 (by decide) ?_
          refine lv_iadd hx hb dX5_press_111 ?_
          refine lv_tope (nI_add (y.1 5 jb) 1) ?_
          refine wr_iast hx hb hK hH hS (lv_md (by decide) (by decide)) (cel_md (by decide) (by decide)) 0 rfl (vp_in_nI (n := jb) (N := 4) (by omega) (by decide)) dX5_press_112 (fun H locs hH hS => ?_)
          have hH : wHS E o g x (uN (uN (uI (uI (uI (uI y 28 0 0) 28 0 0) 28 0 0) 7 jb v5) 6 ((8 * jb) + (y.1 5 jb)) jk) 5 jb ((y.1 5 jb) + 1)) H := pa_queued (v := ((y.1 5 jb) + 1)) (nI_clamp (n := jb) (by omega)) hH
          refine lv_aload_n hx hb dX5_press_113 rfl (lv_at hl 0 rfl) ?_
          refine wr_get (T := TX5) (N := 30) (ci := 7) (v := .ref (g 22)) hx hb hts hinX5 hown hK hH (lv_md (by decide) (by decide)) (cel_md (by omega) (by omega)) rfl 12 (by decide) (hts (.fieldLink RX5 43 "SelectoRouteModel" "queued" "[I") (by decide +kernel)) (fun _ h => h) rfl dX5_press_114 ?_
          refine lv_iload_n hx hb dX5_press_117 rfl (lv_at hl 1 rfl) ?_
          refine wr_iald (v := nI ((y.1 5 jb) + 1)) hx hb hK hH (lv_md (by decide) (by decide)) (cel_md (by decide) (by decide)) 0 rfl (vp_in_nI (n := jb) (N := 4) (by omega) (by decide)) (by rw [(nI_clamp (n := jb) (by omega))]; try simp [uI, uN, va_up]) dX5_press_118 ?_
          subst ev5
          have hsp : mp_press y (nI jb) (nI jk) = ((nI ((y.1 5 jb) + 1)), (uN (uN (uI (uI (uI (uI y 28 0 0) 28 0 0) 28 0 0) 7 jb ((y.2 7 jb) - 1)) 6 ((8 * jb) + (y.1 5 jb)) jk) 5 jb ((y.1 5 jb) + 1))) := by
            unfold mp_press
            first | (simp only [c1, c1_s, c2, c3, c4, inB_nI hjb (by omega), ix_nI (show jb < 2 ^ 31 by omega), inB_nI hjk (by omega), ix_nI (show jk < 2 ^ 31 by omega), ↓reduceIte, and_self, and_true, true_and, Bool.false_eq_true, reduceCtorEq, eq_self, false_and, and_false]; done) | (simp [c1, c1_s, c2, c3, c4, inB_nI hjb (by omega), ix_nI (show jb < 2 ^ 31 by omega), inB_nI hjk (by omega), ix_nI (show jk < 2 ^ 31 by omega), ↓reduceIte, and_self, and_true, true_and, Bool.false_eq_true, reduceCtorEq, eq_self, false_and, and_false]; done) | simp only [c1, c1_s, c2, c3, c4, inB_nI hjb (by omega), ix_nI (show jb < 2 ^ 31 by omega), inB_nI hjk (by omega), ix_nI (show jk < 2 ^ 31 by omega), ↓reduceIte, and_self, and_true, true_and, Bool.false_eq_true, reduceCtorEq, eq_self, false_and, and_false]
          exact W.iret (v := (nI ((y.1 5 jb) + 1))) hx hb hr (fun t ht hW => ⟨⟨(nI ((y.1 5 jb) + 1)), (), rfl, (by rw [hsp]), wHS_t ht (by rw [hsp]; exact hH)⟩, hS.F ht⟩) hS.2.2 dX5_press_119
  · skip
    refine lv_iconst (v := 1) hx hb dX5_press_7 (by decide) ?_
    refine va_calli (va_runV (As := [.int 0, .int 1]) (rest := []) ⟨hx, hb, hml, hown, hts⟩ (met_X5_no0 l E o g x y 1) (cwV 2 hts gX5_press_X5_no rfl rfl rfl (by decide +kernel) ⟨Nat.le_of_ble_eq_true rfl, Nat.le_of_ble_eq_true rfl⟩) ⟨fun a U f mk q => ⟨q.1, wPre.calling q.2 a f mk⟩, (va_recv hK (wH_one hH (lv_md (by decide) (by decide)) (cel_md (by omega) (by omega))) (ci := 7) (q0 := 0) rfl rfl), fun U hU hW => ⟨rfl, wPre_at hz hS hH hK U hU hW⟩⟩ rfl rfl hl.1 rfl (lv_room (Nat.le_of_ble_eq_true rfl)) dX5_press_8 ⟨Nat.le_of_ble_eq_true rfl, Nat.le_of_ble_eq_true rfl⟩) hS (fun q _ h => h) (fun q h => h) (fun r u t H locs ht hvm hw hB hz1 hk1 hS => ?_)
    have hB := wHS_h ht hB
    try dsimp only at hw
    obtain rfl := hw
    have hH := hB
    refine lv_if_ne (tgt := 74) hx hb dX5_press_11 (by decide) (fun _ => ?_) (fun hq => absurd hq (show ¬ (1 : Int32) = 0 by decide))
    refine lv_iconst (v := 0) hx hb dX5_press_74 (by decide) ?_
    have hsp : mp_press y b k = (0, (uI y 28 0 1)) := by
      unfold mp_press
      first | (simp only [c1, ↓reduceIte, and_self, and_true, true_and, Bool.false_eq_true, reduceCtorEq, eq_self, false_and, and_false]; done) | (simp [c1, ↓reduceIte, and_self, and_true, true_and, Bool.false_eq_true, reduceCtorEq, eq_self, false_and, and_false]; done) | simp only [c1, ↓reduceIte, and_self, and_true, true_and, Bool.false_eq_true, reduceCtorEq, eq_self, false_and, and_false]
    exact W.iret (v := 0) hx hb hr (fun t ht hW => ⟨⟨0, (), rfl, (by rw [hsp]), wHS_t ht (by rw [hsp]; exact hH)⟩, hS.F ht⟩) hS.2.2 dX5_press_75
def mp_addDisc (y : St) (a : Int32) (b : Int32) (v : Int32) : Int32 × St := if 0 ≤ a ∧ a ≤ 99 then (if 1 ≤ b ∧ b ≤ 50 then (if 0 ≤ v ∧ v ≤ 99 then (if 30 ≤ (y.1 0 0) then (0, (uI (uI y 28 0 0) 28 0 2)) else ((nI (((y.1 0 0) + 1) - 1)), (uN (uN (uI (uI (uN (uI (uI y 28 0 0) 28 0 0) 12 (y.1 0 0) (ix a)) 1 (y.1 0 0) b) 2 (y.1 0 0) v) 8 (y.1 0 0) 1) 0 0 ((y.1 0 0) + 1)))) else (0, (uI y 28 0 1))) else (0, (uI y 28 0 1))) else (0, (uI y 28 0 1))
set_option maxHeartbeats 4000000 in
set_option maxRecDepth 100000 in
theorem met_X5_addDisc (l : Launch) (E : wE) (o : wO) (g : Nat → Nat) (x y : St) (a : Int32) (b : Int32) (v : Int32) (hI : MI y) : Met l yX5_addDisc wsX5_addDisc ({ frames := 3, cells := 0, slots := 0, locals := 300 } : Room) (va_Pc [.ref (g 10), .int a, .int b, .int v] (wPre E o g x y)) (va_Qi (fun (r : Int32) (_ : Unit) => r = (mp_addDisc y a b v).1) (fun (_ : Unit) t => wHS E o g x (mp_addDisc y a b v).2 t.heap) (wA E)) 0 0 (wA E) := by
  refine Met.ofW (cc := cX5_addDisc) (maxL := 4) (ret := (some .int)) (by decide) rfl ?_
  intro p e s m args below meth c s₁ B hml hv
  obtain ⟨rfl, hz, hH, hK⟩ := hv
  have hx := B.exec
  have hb := B.bytes
  have hr := B.returns
  have hts := atoms_spec (ws := wsX5_addDisc) B.pre
  have hown : s.vm.findClass RX5 = some m.cls := findClass_of_methodNamed B.named
  have hlocks := B.notSynchronized
  have hS : va_S (wA E) s.heap s.heap [] := va_S.rf
  have hinX5 : ∀ w ∈ wsX50, w ∈ wsX5_addDisc := fun w h => List.mem_cons_of_mem _ (List.mem_append_left _ (List.mem_append_right _ h))
  have hl := lv_entry ([.ref (g 10), .int a, .int b, .int v]) (n := 4) (Nat.le_of_ble_eq_true rfl)
  rw [lg_entry_eq]
  generalize (lg_sl ([.ref (g 10), .int a, .int b, .int v]) ++ List.replicate (4 - (lg_sl ([.ref (g 10), .int a, .int b, .int v])).length) Slot.unset).toArray = ls at hl ⊢
  have hl : lv_has ls 4 [(0, .ref (g 10)), (1, .int a), (2, .int b), (3, .int v)] := hl
  obtain ⟨H, eH⟩ : ∃ z, z = s.heap := ⟨_, rfl⟩
  have hH : wHS E o g x y H := by rw [eH]; exact hH
  have hS : va_S (wA E) s.heap H [] := by rw [eH]; exact hS
  refine W.heapTo eH ?_
  obtain ⟨hm0, hm1, hm7, hm8, hm5, hm6, hm9, hm12, hm11⟩ := id hI
  refine lv_aload_n hx hb dX5_addDisc_0 rfl (lv_at hl 0 rfl) ?_
  refine lv_iload_n hx hb dX5_addDisc_1 rfl (lv_at hl 1 rfl) ?_
  refine lv_iconst (v := 0) hx hb dX5_addDisc_2 (by decide) ?_
  refine lv_bipush (v := 99) hx hb dX5_addDisc_3 (by decide) ?_
  refine va_calli (va_runS (As := [.int a, .int 0, .int 99]) (rest := [.ref (g 10)]) ⟨hx, hb, hml, hown, hts⟩ (met_X5_isIn l E o g x y a 0 99) (va_cwS 3 hts gX5_addDisc_X5_isIn rfl rfl rfl (by decide +kernel) ⟨Nat.le_of_ble_eq_true rfl, Nat.le_of_ble_eq_true rfl⟩) ⟨fun a U f mk q => ⟨q.1, wPre.calling q.2 a f mk⟩, fun U hU hW => ⟨rfl, wPre_at hz hS hH hK U hU hW⟩⟩ rfl rfl hl.1 rfl (lv_room (Nat.le_of_ble_eq_true rfl)) dX5_addDisc_5 ⟨Nat.le_of_ble_eq_true rfl, Nat.le_of_ble_eq_true rfl⟩) hS (fun q _ h => h) (fun q h => h) (fun r u t H locs ht hvm hw hB hz1 hk1 hS => ?_)
  have hB := wHS_h ht hB
  try dsimp only at hw
  have hH := hB
  rcases hw with ⟨rfl, c1⟩ | ⟨rfl, c1⟩
  · obtain ⟨ja, hja, rfl⟩ := in_nat (n := 99) (by decide) c1
    refine lv_if_eq (tgt := 35) hx hb dX5_addDisc_8 (by decide) (fun hq => absurd hq (show ¬ (1 : Int32) = 0 by decide)) (fun _ => ?_)
    refine lv_iload_n hx hb dX5_addDisc_11 rfl (lv_at hl 2 rfl) ?_
    refine lv_iconst (v := 1) hx hb dX5_addDisc_12 (by decide) ?_
    refine lv_bipush (v := 50) hx hb dX5_addDisc_13 (by decide) ?_
    refine va_calli (va_runS (As := [.int b, .int 1, .int 50]) (rest := [.ref (g 10)]) ⟨hx, hb, hml, hown, hts⟩ (met_X5_isIn l E o g x y b 1 50) (va_cwS 3 hts gX5_addDisc_X5_isIn rfl rfl rfl (by decide +kernel) ⟨Nat.le_of_ble_eq_true rfl, Nat.le_of_ble_eq_true rfl⟩) ⟨fun a U f mk q => ⟨q.1, wPre.calling q.2 a f mk⟩, fun U hU hW => ⟨rfl, wPre_at hz hS hH hK U hU hW⟩⟩ rfl rfl hl.1 rfl (lv_room (Nat.le_of_ble_eq_true rfl)) dX5_addDisc_15 ⟨Nat.le_of_ble_eq_true rfl, Nat.le_of_ble_eq_true rfl⟩) hS (fun q _ h => h) (fun q h => h) (fun r u t H locs ht hvm hw hB hz1 hk1 hS => ?_)
    have hB := wHS_h ht hB
    try dsimp only at hw
    have hH := hB
    rcases hw with ⟨rfl, c2⟩ | ⟨rfl, c2⟩
    · skip
      refine lv_if_eq (tgt := 35) hx hb dX5_addDisc_18 (by decide) (fun hq => absurd hq (show ¬ (1 : Int32) = 0 by decide)) (fun _ => ?_)
      refine lv_iload_n hx hb dX5_addDisc_21 rfl (lv_at hl 3 rfl) ?_
      refine lv_iconst (v := 0) hx hb dX5_addDisc_22 (by decide) ?_
      refine lv_bipush (v := 99) hx hb dX5_addDisc_23 (by decide) ?_
      refine va_calli (va_runS (As := [.int v, .int 0, .int 99]) (rest := [.ref (g 10)]) ⟨hx, hb, hml, hown, hts⟩ (met_X5_isIn l E o g x y v 0 99) (va_cwS 3 hts gX5_addDisc_X5_isIn rfl rfl rfl (by decide +kernel) ⟨Nat.le_of_ble_eq_true rfl, Nat.le_of_ble_eq_true rfl⟩) ⟨fun a U f mk q => ⟨q.1, wPre.calling q.2 a f mk⟩, fun U hU hW => ⟨rfl, wPre_at hz hS hH hK U hU hW⟩⟩ rfl rfl hl.1 rfl (lv_room (Nat.le_of_ble_eq_true rfl)) dX5_addDisc_25 ⟨Nat.le_of_ble_eq_true rfl, Nat.le_of_ble_eq_true rfl⟩) hS (fun q _ h => h) (fun q h => h) (fun r u t H locs ht hvm hw hB hz1 hk1 hS => ?_)
      have hB := wHS_h ht hB
      try dsimp only at hw
      have hH := hB
      rcases hw with ⟨rfl, c3⟩ | ⟨rfl, c3⟩
      · skip
        refine lv_if_eq (tgt := 35) hx hb dX5_addDisc_28 (by decide) (fun hq => absurd hq (show ¬ (1 : Int32) = 0 by decide)) (fun _ => ?_)
        refine lv_iconst (v := 1) hx hb dX5_addDisc_31 (by decide) ?_
        refine lv_goto (tgt := 36) hx hb dX5_addDisc_32 (by decide) ?_
        refine lv_iconst (v := 1) hx hb dX5_addDisc_36 (by decide) ?_
        refine va_calli (va_runV (As := [.int 1, .int 1]) (rest := []) ⟨hx, hb, hml, hown, hts⟩ (met_X5_no1 l E o g x y 1) (cwV 2 hts gX5_addDisc_X5_no rfl rfl rfl (by decide +kernel) ⟨Nat.le_of_ble_eq_true rfl, Nat.le_of_ble_eq_true rfl⟩) ⟨fun a U f mk q => ⟨q.1, wPre.calling q.2 a f mk⟩, (va_recv hK (wH_one hH (lv_md (by decide) (by decide)) (cel_md (by omega) (by omega))) (ci := 7) (q0 := 0) rfl rfl), fun U hU hW => ⟨rfl, wPre_at hz hS hH hK U hU hW⟩⟩ rfl rfl hl.1 rfl (lv_room (Nat.le_of_ble_eq_true rfl)) dX5_addDisc_37 ⟨Nat.le_of_ble_eq_true rfl, Nat.le_of_ble_eq_true rfl⟩) hS (fun q _ h => h) (fun q h => h) (fun r u t H locs ht hvm hw hB hz1 hk1 hS => ?_)
        have hB := wHS_h ht hB
        try dsimp only at hw
        obtain rfl := hw
        have hH := hB
        refine lv_if_ne (tgt := 65) hx hb dX5_addDisc_40 (by decide) (fun hq => absurd (show (0 : Int32) = 0 by decide) hq) (fun _ => ?_)
        refine lv_aload_n hx hb dX5_addDisc_43 rfl (lv_at hl 0 rfl) ?_
        refine lv_aload_n hx hb dX5_addDisc_44 rfl (lv_at hl 0 rfl) ?_
        refine wr_get (T := TX5) (N := 30) (ci := 7) (v := .int (nI (y.1 0 0))) hx hb hts hinX5 hown hK hH (lv_md (by decide) (by decide)) (cel_md (by omega) (by omega)) rfl 5 (by decide) (hts (.fieldLink RX5 90 "SelectoRouteModel" "discs" "I") (by decide +kernel)) (fun _ h => h) rfl dX5_addDisc_45 ?_
        refine lv_bipush (v := 30) hx hb dX5_addDisc_48 (by decide) ?_
        refine lv_icmp_ge (tgt := 57) hx hb dX5_addDisc_50 (by decide) (fun c4 => ?_) (fun c4 => ?_)
        · have c4 := (nI_leI (a := 30) (b := (y.1 0 0)) (by omega) (by omega)).mp c4
          refine lv_iconst (v := 0) hx hb dX5_addDisc_57 (by decide) ?_
          refine lv_iconst (v := 2) hx hb dX5_addDisc_58 (by decide) ?_
          refine va_calli (va_runV (As := [.int 0, .int 2]) (rest := []) ⟨hx, hb, hml, hown, hts⟩ (met_X5_no0 l E o g x (uI y 28 0 0) 2) (cwV 2 hts gX5_addDisc_X5_no rfl rfl rfl (by decide +kernel) ⟨Nat.le_of_ble_eq_true rfl, Nat.le_of_ble_eq_true rfl⟩) ⟨fun a U f mk q => ⟨q.1, wPre.calling q.2 a f mk⟩, (va_recv hK (wH_one hH (lv_md (by decide) (by decide)) (cel_md (by omega) (by omega))) (ci := 7) (q0 := 0) rfl rfl), fun U hU hW => ⟨rfl, wPre_at hz hS hH hK U hU hW⟩⟩ rfl rfl hl.1 rfl (lv_room (Nat.le_of_ble_eq_true rfl)) dX5_addDisc_59 ⟨Nat.le_of_ble_eq_true rfl, Nat.le_of_ble_eq_true rfl⟩) hS (fun q _ h => h) (fun q h => h) (fun r u t H locs ht hvm hw hB hz1 hk1 hS => ?_)
          have hB := wHS_h ht hB
          try dsimp only at hw
          obtain rfl := hw
          have hH := hB
          refine lv_if_eq (tgt := 67) hx hb dX5_addDisc_62 (by decide) (fun hq => absurd hq (show ¬ (1 : Int32) = 0 by decide)) (fun _ => ?_)
          refine lv_iconst (v := 0) hx hb dX5_addDisc_65 (by decide) ?_
          have hsp : mp_addDisc y (nI ja) b v = (0, (uI (uI y 28 0 0) 28 0 2)) := by
            unfold mp_addDisc
            first | (simp only [c1, c2, c3, c4, inB_nI hja (by omega), ix_nI (show ja < 2 ^ 31 by omega), ↓reduceIte, and_self, and_true, true_and, Bool.false_eq_true, reduceCtorEq, eq_self, false_and, and_false]; done) | (simp [c1, c2, c3, c4, inB_nI hja (by omega), ix_nI (show ja < 2 ^ 31 by omega), ↓reduceIte, and_self, and_true, true_and, Bool.false_eq_true, reduceCtorEq, eq_self, false_and, and_false]; done) | simp only [c1, c2, c3, c4, inB_nI hja (by omega), ix_nI (show ja < 2 ^ 31 by omega), ↓reduceIte, and_self, and_true, true_and, Bool.false_eq_true, reduceCtorEq, eq_self, false_and, and_false]
          exact W.iret (v := 0) hx hb hr (fun t ht hW => ⟨⟨0, (), rfl, (by rw [hsp]), wHS_t ht (by rw [hsp]; exact hH)⟩, hS.F ht⟩) hS.2.2 dX5_addDisc_66
        · have c4 : ¬ (30 ≤ (y.1 0 0)) := fun hq => c4 ((nI_leI (a := 30) (b := (y.1 0 0)) (by omega) (by omega)).mpr hq)
          refine lv_iconst (v := 1) hx hb dX5_addDisc_53 (by decide) ?_
          refine lv_goto (tgt := 58) hx hb dX5_addDisc_54 (by decide) ?_
          refine lv_iconst (v := 2) hx hb dX5_addDisc_58 (by decide) ?_
          refine va_calli (va_runV (As := [.int 1, .int 2]) (rest := []) ⟨hx, hb, hml, hown, hts⟩ (met_X5_no1 l E o g x (uI y 28 0 0) 2) (cwV 2 hts gX5_addDisc_X5_no rfl rfl rfl (by decide +kernel) ⟨Nat.le_of_ble_eq_true rfl, Nat.le_of_ble_eq_true rfl⟩) ⟨fun a U f mk q => ⟨q.1, wPre.calling q.2 a f mk⟩, (va_recv hK (wH_one hH (lv_md (by decide) (by decide)) (cel_md (by omega) (by omega))) (ci := 7) (q0 := 0) rfl rfl), fun U hU hW => ⟨rfl, wPre_at hz hS hH hK U hU hW⟩⟩ rfl rfl hl.1 rfl (lv_room (Nat.le_of_ble_eq_true rfl)) dX5_addDisc_59 ⟨Nat.le_of_ble_eq_true rfl, Nat.le_of_ble_eq_true rfl⟩) hS (fun q _ h => h) (fun q h => h) (fun r u t H locs ht hvm hw hB hz1 hk1 hS => ?_)
          have hB := wHS_h ht hB
          try dsimp only at hw
          obtain rfl := hw
          have hH := hB
          refine lv_if_eq (tgt := 67) hx hb dX5_addDisc_62 (by decide) (fun _ => ?_) (fun hq => absurd (show (0 : Int32) = 0 by decide) hq)
          refine lv_aload_n hx hb dX5_addDisc_67 rfl (lv_at hl 0 rfl) ?_
          refine wr_get (T := TX5) (N := 30) (ci := 7) (v := .ref (g 11)) hx hb hts hinX5 hown hK hH (lv_md (by decide) (by decide)) (cel_md (by omega) (by omega)) rfl 0 (by decide) (hts (.fieldLink RX5 7 "SelectoRouteModel" "song" "[I") (by decide +kernel)) (fun _ h => h) rfl dX5_addDisc_68 ?_
          refine lv_aload_n hx hb dX5_addDisc_71 rfl (lv_at hl 0 rfl) ?_
          refine wr_get (T := TX5) (N := 30) (ci := 7) (v := .int (nI (y.1 0 0))) hx hb hts hinX5 hown hK hH (lv_md (by decide) (by decide)) (cel_md (by omega) (by omega)) rfl 5 (by decide) (hts (.fieldLink RX5 90 "SelectoRouteModel" "discs" "I") (by decide +kernel)) (fun _ h => h) rfl dX5_addDisc_72 ?_
          refine lv_iload_n hx hb dX5_addDisc_75 rfl (lv_at hl 1 rfl) ?_
          refine wr_iast hx hb hK hH hS (lv_md (by decide) (by decide)) (cel_md (by decide) (by decide)) 0 rfl (vp_in_nI (n := (y.1 0 0)) (N := 30) (by omega) (by decide)) dX5_addDisc_76 (fun H locs hH hS => ?_)
          have hH : wHS E o g x (uN (uI (uI y 28 0 0) 28 0 0) 12 (y.1 0 0) ja) H := pa_song (v := ja) (nI_clamp (n := (y.1 0 0)) (by omega)) hH
          refine lv_aload_n hx hb dX5_addDisc_77 rfl (lv_at hl 0 rfl) ?_
          refine wr_get (T := TX5) (N := 30) (ci := 7) (v := .ref (g 12)) hx hb hts hinX5 hown hK hH (lv_md (by decide) (by decide)) (cel_md (by omega) (by omega)) rfl 1 (by decide) (hts (.fieldLink RX5 13 "SelectoRouteModel" "strength" "[I") (by decide +kernel)) (fun _ h => h) rfl dX5_addDisc_78 ?_
          refine lv_aload_n hx hb dX5_addDisc_81 rfl (lv_at hl 0 rfl) ?_
          refine wr_get (T := TX5) (N := 30) (ci := 7) (v := .int (nI (y.1 0 0))) hx hb hts hinX5 hown hK hH (lv_md (by decide) (by decide)) (cel_md (by omega) (by omega)) rfl 5 (by decide) (hts (.fieldLink RX5 90 "SelectoRouteModel" "discs" "I") (by decide +kernel)) (fun _ h => h) rfl dX5_addDisc_82 ?_
          refine lv_iload_n hx hb dX5_addDisc_85 rfl (lv_at hl 2 rfl) ?_
          refine wr_iast hx hb hK hH hS (lv_md (by decide) (by decide)) (cel_md (by decide) (by decide)) 0 rfl (vp_in_nI (n := (y.1 0 0)) (N := 30) (by omega) (by decide)) dX5_addDisc_86 (fun H locs hH hS => ?_)
          have hH : wHS E o g x (uI (uN (uI (uI y 28 0 0) 28 0 0) 12 (y.1 0 0) ja) 1 (y.1 0 0) b) H := pa_strength (v := b) (nI_clamp (n := (y.1 0 0)) (by omega)) hH
          refine lv_aload_n hx hb dX5_addDisc_87 rfl (lv_at hl 0 rfl) ?_
          refine wr_get (T := TX5) (N := 30) (ci := 7) (v := .ref (g 13)) hx hb hts hinX5 hown hK hH (lv_md (by decide) (by decide)) (cel_md (by omega) (by omega)) rfl 2 (by decide) (hts (.fieldLink RX5 16 "SelectoRouteModel" "from" "[I") (by decide +kernel)) (fun _ h => h) rfl dX5_addDisc_88 ?_
          refine lv_aload_n hx hb dX5_addDisc_91 rfl (lv_at hl 0 rfl) ?_
          refine wr_get (T := TX5) (N := 30) (ci := 7) (v := .int (nI (y.1 0 0))) hx hb hts hinX5 hown hK hH (lv_md (by decide) (by decide)) (cel_md (by omega) (by omega)) rfl 5 (by decide) (hts (.fieldLink RX5 90 "SelectoRouteModel" "discs" "I") (by decide +kernel)) (fun _ h => h) rfl dX5_addDisc_92 ?_
          refine lv_iload_n hx hb dX5_addDisc_95 rfl (lv_at hl 3 rfl) ?_
          refine wr_iast hx hb hK hH hS (lv_md (by decide) (by decide)) (cel_md (by decide) (by decide)) 0 rfl (vp_in_nI (n := (y.1 0 0)) (N := 30) (by omega) (by decide)) dX5_addDisc_96 (fun H locs hH hS => ?_)
          have hH : wHS E o g x (uI (uI (uN (uI (uI y 28 0 0) 28 0 0) 12 (y.1 0 0) ja) 1 (y.1 0 0) b) 2 (y.1 0 0) v) H := pa_from (v := v) (nI_clamp (n := (y.1 0 0)) (by omega)) hH
          refine lv_aload_n hx hb dX5_addDisc_97 rfl (lv_at hl 0 rfl) ?_
          refine wr_get (T := TX5) (N := 30) (ci := 7) (v := .ref (g 15)) hx hb hts hinX5 hown hK hH (lv_md (by decide) (by decide)) (cel_md (by omega) (by omega)) rfl 4 (by decide) (hts (.fieldLink RX5 22 "SelectoRouteModel" "place" "[I") (by decide +kernel)) (fun _ h => h) rfl dX5_addDisc_98 ?_
          refine lv_aload_n hx hb dX5_addDisc_101 rfl (lv_at hl 0 rfl) ?_
          refine wr_get (T := TX5) (N := 30) (ci := 7) (v := .int (nI (y.1 0 0))) hx hb hts hinX5 hown hK hH (lv_md (by decide) (by decide)) (cel_md (by omega) (by omega)) rfl 5 (by decide) (hts (.fieldLink RX5 90 "SelectoRouteModel" "discs" "I") (by decide +kernel)) (fun _ h => h) rfl dX5_addDisc_102 ?_
          refine lv_iconst (v := (-1)) hx hb dX5_addDisc_105 (by decide) ?_
          refine wr_iast hx hb hK hH hS (lv_md (by decide) (by decide)) (cel_md (by decide) (by decide)) 0 rfl (vp_in_nI (n := (y.1 0 0)) (N := 30) (by omega) (by decide)) dX5_addDisc_106 (fun H locs hH hS => ?_)
          have hv8 : ((-1) : Int32) = nI 1 - 2 := rfl
          rw [hv8] at hH
          have hH : wHS E o g x (uN (uI (uI (uN (uI (uI y 28 0 0) 28 0 0) 12 (y.1 0 0) ja) 1 (y.1 0 0) b) 2 (y.1 0 0) v) 8 (y.1 0 0) 1) H := pa_place (v := 1) (nI_clamp (n := (y.1 0 0)) (by omega)) hH
          refine lv_aload_n hx hb dX5_addDisc_107 rfl (lv_at hl 0 rfl) ?_
          refine lv_dup hx hb dX5_addDisc_108 rfl ?_
          refine wr_get (T := TX5) (N := 30) (ci := 7) (v := .int (nI (y.1 0 0))) hx hb hts hinX5 hown hK hH (lv_md (by decide) (by decide)) (cel_md (by omega) (by omega)) rfl 5 (by decide) (hts (.fieldLink RX5 90 "SelectoRouteModel" "discs" "I") (by decide +kernel)) (fun _ h => h) rfl dX5_addDisc_109 ?_
          refine lv_iconst (v := 1) hx hb dX5_addDisc_112 (by decide) ?_
          refine lv_iadd hx hb dX5_addDisc_113 ?_
          refine lv_tope (nI_add (y.1 0 0) 1) ?_
          refine wr_put (T := TX5) (N := 30) (ci := 7) (v := .int (nI ((y.1 0 0) + 1))) hx hb hts hinX5 tyX5 tyX5_ok nmX5 hown hK hH hS (lv_md (by decide) (by decide)) (cel_md (by omega) (by omega)) rfl 5 (by decide) (hts (.fieldLink RX5 90 "SelectoRouteModel" "discs" "I") (by decide +kernel)) (fun _ h => h) rfl (ty := .int) (by decide +kernel) rfl rfl (Nat.le_of_ble_eq_true rfl) dX5_addDisc_114 (fun H locs hH hS => ?_)
          have hH : wHS E o g x (uN (uN (uI (uI (uN (uI (uI y 28 0 0) 28 0 0) 12 (y.1 0 0) ja) 1 (y.1 0 0) b) 2 (y.1 0 0) v) 8 (y.1 0 0) 1) 0 0 ((y.1 0 0) + 1)) H := pm_discs (v := ((y.1 0 0) + 1)) hH
          refine lv_aload_n hx hb dX5_addDisc_117 rfl (lv_at hl 0 rfl) ?_
          refine wr_get (T := TX5) (N := 30) (ci := 7) (v := .int (nI ((y.1 0 0) + 1))) hx hb hts hinX5 hown hK hH (lv_md (by decide) (by decide)) (cel_md (by omega) (by omega)) rfl 5 (by decide) (hts (.fieldLink RX5 90 "SelectoRouteModel" "discs" "I") (by decide +kernel)) (fun _ h => h) (congrArg (fun z => some (Value.int z)) (by simp [uI, uN, va_up])) dX5_addDisc_118 ?_
          refine lv_iconst (v := 1) hx hb dX5_addDisc_121 (by decide) ?_
          refine lv_isub hx hb dX5_addDisc_122 ?_
          refine lv_tope (pk_sub (a := ((y.1 0 0) + 1)) (b := 1) (by omega)) ?_
          have hsp : mp_addDisc y (nI ja) b v = ((nI (((y.1 0 0) + 1) - 1)), (uN (uN (uI (uI (uN (uI (uI y 28 0 0) 28 0 0) 12 (y.1 0 0) ja) 1 (y.1 0 0) b) 2 (y.1 0 0) v) 8 (y.1 0 0) 1) 0 0 ((y.1 0 0) + 1))) := by
            unfold mp_addDisc
            first | (simp only [c1, c2, c3, c4, inB_nI hja (by omega), ix_nI (show ja < 2 ^ 31 by omega), ↓reduceIte, and_self, and_true, true_and, Bool.false_eq_true, reduceCtorEq, eq_self, false_and, and_false]; done) | (simp [c1, c2, c3, c4, inB_nI hja (by omega), ix_nI (show ja < 2 ^ 31 by omega), ↓reduceIte, and_self, and_true, true_and, Bool.false_eq_true, reduceCtorEq, eq_self, false_and, and_false]; done) | simp only [c1, c2, c3, c4, inB_nI hja (by omega), ix_nI (show ja < 2 ^ 31 by omega), ↓reduceIte, and_self, and_true, true_and, Bool.false_eq_true, reduceCtorEq, eq_self, false_and, and_false]
          exact W.iret (v := (nI (((y.1 0 0) + 1) - 1))) hx hb hr (fun t ht hW => ⟨⟨(nI (((y.1 0 0) + 1) - 1)), (), rfl, (by rw [hsp]), wHS_t ht (by rw [hsp]; exact hH)⟩, hS.F ht⟩) hS.2.2 dX5_addDisc_123
      · skip
        refine lv_if_eq (tgt := 35) hx hb dX5_addDisc_28 (by decide) (fun _ => ?_) (fun hq => absurd (show (0 : Int32) = 0 by decide) hq)
        refine lv_iconst (v := 0) hx hb dX5_addDisc_35 (by decide) ?_
        refine lv_iconst (v := 1) hx hb dX5_addDisc_36 (by decide) ?_
        refine va_calli (va_runV (As := [.int 0, .int 1]) (rest := []) ⟨hx, hb, hml, hown, hts⟩ (met_X5_no0 l E o g x y 1) (cwV 2 hts gX5_addDisc_X5_no rfl rfl rfl (by decide +kernel) ⟨Nat.le_of_ble_eq_true rfl, Nat.le_of_ble_eq_true rfl⟩) ⟨fun a U f mk q => ⟨q.1, wPre.calling q.2 a f mk⟩, (va_recv hK (wH_one hH (lv_md (by decide) (by decide)) (cel_md (by omega) (by omega))) (ci := 7) (q0 := 0) rfl rfl), fun U hU hW => ⟨rfl, wPre_at hz hS hH hK U hU hW⟩⟩ rfl rfl hl.1 rfl (lv_room (Nat.le_of_ble_eq_true rfl)) dX5_addDisc_37 ⟨Nat.le_of_ble_eq_true rfl, Nat.le_of_ble_eq_true rfl⟩) hS (fun q _ h => h) (fun q h => h) (fun r u t H locs ht hvm hw hB hz1 hk1 hS => ?_)
        have hB := wHS_h ht hB
        try dsimp only at hw
        obtain rfl := hw
        have hH := hB
        refine lv_if_ne (tgt := 65) hx hb dX5_addDisc_40 (by decide) (fun _ => ?_) (fun hq => absurd hq (show ¬ (1 : Int32) = 0 by decide))
        refine lv_iconst (v := 0) hx hb dX5_addDisc_65 (by decide) ?_
        have hsp : mp_addDisc y (nI ja) b v = (0, (uI y 28 0 1)) := by
          unfold mp_addDisc
          first | (simp only [c1, c2, c3, inB_nI hja (by omega), ix_nI (show ja < 2 ^ 31 by omega), ↓reduceIte, and_self, and_true, true_and, Bool.false_eq_true, reduceCtorEq, eq_self, false_and, and_false]; done) | (simp [c1, c2, c3, inB_nI hja (by omega), ix_nI (show ja < 2 ^ 31 by omega), ↓reduceIte, and_self, and_true, true_and, Bool.false_eq_true, reduceCtorEq, eq_self, false_and, and_false]; done) | simp only [c1, c2, c3, inB_nI hja (by omega), ix_nI (show ja < 2 ^ 31 by omega), ↓reduceIte, and_self, and_true, true_and, Bool.false_eq_true, reduceCtorEq, eq_self, false_and, and_false]
        exact W.iret (v := 0) hx hb hr (fun t ht hW => ⟨⟨0, (), rfl, (by rw [hsp]), wHS_t ht (by rw [hsp]; exact hH)⟩, hS.F ht⟩) hS.2.2 dX5_addDisc_66
    · skip
      refine lv_if_eq (tgt := 35) hx hb dX5_addDisc_18 (by decide) (fun _ => ?_) (fun hq => absurd (show (0 : Int32) = 0 by decide) hq)
      refine lv_iconst (v := 0) hx hb dX5_addDisc_35 (by decide) ?_
      refine lv_iconst (v := 1) hx hb dX5_addDisc_36 (by decide) ?_
      refine va_calli (va_runV (As := [.int 0, .int 1]) (rest := []) ⟨hx, hb, hml, hown, hts⟩ (met_X5_no0 l E o g x y 1) (cwV 2 hts gX5_addDisc_X5_no rfl rfl rfl (by decide +kernel) ⟨Nat.le_of_ble_eq_true rfl, Nat.le_of_ble_eq_true rfl⟩) ⟨fun a U f mk q => ⟨q.1, wPre.calling q.2 a f mk⟩, (va_recv hK (wH_one hH (lv_md (by decide) (by decide)) (cel_md (by omega) (by omega))) (ci := 7) (q0 := 0) rfl rfl), fun U hU hW => ⟨rfl, wPre_at hz hS hH hK U hU hW⟩⟩ rfl rfl hl.1 rfl (lv_room (Nat.le_of_ble_eq_true rfl)) dX5_addDisc_37 ⟨Nat.le_of_ble_eq_true rfl, Nat.le_of_ble_eq_true rfl⟩) hS (fun q _ h => h) (fun q h => h) (fun r u t H locs ht hvm hw hB hz1 hk1 hS => ?_)
      have hB := wHS_h ht hB
      try dsimp only at hw
      obtain rfl := hw
      have hH := hB
      refine lv_if_ne (tgt := 65) hx hb dX5_addDisc_40 (by decide) (fun _ => ?_) (fun hq => absurd hq (show ¬ (1 : Int32) = 0 by decide))
      refine lv_iconst (v := 0) hx hb dX5_addDisc_65 (by decide) ?_
      have hsp : mp_addDisc y (nI ja) b v = (0, (uI y 28 0 1)) := by
        unfold mp_addDisc
        first | (simp only [c1, c2, inB_nI hja (by omega), ix_nI (show ja < 2 ^ 31 by omega), ↓reduceIte, and_self, and_true, true_and, Bool.false_eq_true, reduceCtorEq, eq_self, false_and, and_false]; done) | (simp [c1, c2, inB_nI hja (by omega), ix_nI (show ja < 2 ^ 31 by omega), ↓reduceIte, and_self, and_true, true_and, Bool.false_eq_true, reduceCtorEq, eq_self, false_and, and_false]; done) | simp only [c1, c2, inB_nI hja (by omega), ix_nI (show ja < 2 ^ 31 by omega), ↓reduceIte, and_self, and_true, true_and, Bool.false_eq_true, reduceCtorEq, eq_self, false_and, and_false]
      exact W.iret (v := 0) hx hb hr (fun t ht hW => ⟨⟨0, (), rfl, (by rw [hsp]), wHS_t ht (by rw [hsp]; exact hH)⟩, hS.F ht⟩) hS.2.2 dX5_addDisc_66
  · skip
    refine lv_if_eq (tgt := 35) hx hb dX5_addDisc_8 (by decide) (fun _ => ?_) (fun hq => absurd (show (0 : Int32) = 0 by decide) hq)
    refine lv_iconst (v := 0) hx hb dX5_addDisc_35 (by decide) ?_
    refine lv_iconst (v := 1) hx hb dX5_addDisc_36 (by decide) ?_
    refine va_calli (va_runV (As := [.int 0, .int 1]) (rest := []) ⟨hx, hb, hml, hown, hts⟩ (met_X5_no0 l E o g x y 1) (cwV 2 hts gX5_addDisc_X5_no rfl rfl rfl (by decide +kernel) ⟨Nat.le_of_ble_eq_true rfl, Nat.le_of_ble_eq_true rfl⟩) ⟨fun a U f mk q => ⟨q.1, wPre.calling q.2 a f mk⟩, (va_recv hK (wH_one hH (lv_md (by decide) (by decide)) (cel_md (by omega) (by omega))) (ci := 7) (q0 := 0) rfl rfl), fun U hU hW => ⟨rfl, wPre_at hz hS hH hK U hU hW⟩⟩ rfl rfl hl.1 rfl (lv_room (Nat.le_of_ble_eq_true rfl)) dX5_addDisc_37 ⟨Nat.le_of_ble_eq_true rfl, Nat.le_of_ble_eq_true rfl⟩) hS (fun q _ h => h) (fun q h => h) (fun r u t H locs ht hvm hw hB hz1 hk1 hS => ?_)
    have hB := wHS_h ht hB
    try dsimp only at hw
    obtain rfl := hw
    have hH := hB
    refine lv_if_ne (tgt := 65) hx hb dX5_addDisc_40 (by decide) (fun _ => ?_) (fun hq => absurd hq (show ¬ (1 : Int32) = 0 by decide))
    refine lv_iconst (v := 0) hx hb dX5_addDisc_65 (by decide) ?_
    have hsp : mp_addDisc y a b v = (0, (uI y 28 0 1)) := by
      unfold mp_addDisc
      first | (simp only [c1, ↓reduceIte, and_self, and_true, true_and, Bool.false_eq_true, reduceCtorEq, eq_self, false_and, and_false]; done) | (simp [c1, ↓reduceIte, and_self, and_true, true_and, Bool.false_eq_true, reduceCtorEq, eq_self, false_and, and_false]; done) | simp only [c1, ↓reduceIte, and_self, and_true, true_and, Bool.false_eq_true, reduceCtorEq, eq_self, false_and, and_false]
    exact W.iret (v := 0) hx hb hr (fun t ht hW => ⟨⟨0, (), rfl, (by rw [hsp]), wHS_t ht (by rw [hsp]; exact hH)⟩, hS.F ht⟩) hS.2.2 dX5_addDisc_66
def mp_addBox (y : St) (a : Int32) (b : Int32) : Int32 × St := if 0 ≤ a ∧ a ≤ 60 then (if 0 ≤ b ∧ b ≤ 9 then (if 4 ≤ (y.1 1 0) then (0, (uI (uI y 28 0 0) 28 0 2)) else ((nI (((y.1 1 0) + 1) - 1)), (uN (uI (uI (uI (uI y 28 0 0) 28 0 0) 4 (y.1 1 0) a) 5 (y.1 1 0) b) 1 0 ((y.1 1 0) + 1)))) else (0, (uI y 28 0 1))) else (0, (uI y 28 0 1))
set_option maxHeartbeats 4000000 in
set_option maxRecDepth 100000 in
theorem met_X5_addBox (l : Launch) (E : wE) (o : wO) (g : Nat → Nat) (x y : St) (a : Int32) (b : Int32) (hI : MI y) : Met l yX5_addBox wsX5_addBox ({ frames := 3, cells := 0, slots := 0, locals := 300 } : Room) (va_Pc [.ref (g 10), .int a, .int b] (wPre E o g x y)) (va_Qi (fun (r : Int32) (_ : Unit) => r = (mp_addBox y a b).1) (fun (_ : Unit) t => wHS E o g x (mp_addBox y a b).2 t.heap) (wA E)) 0 0 (wA E) := by
  refine Met.ofW (cc := cX5_addBox) (maxL := 3) (ret := (some .int)) (by decide) rfl ?_
  intro p e s m args below meth c s₁ B hml hv
  obtain ⟨rfl, hz, hH, hK⟩ := hv
  have hx := B.exec
  have hb := B.bytes
  have hr := B.returns
  have hts := atoms_spec (ws := wsX5_addBox) B.pre
  have hown : s.vm.findClass RX5 = some m.cls := findClass_of_methodNamed B.named
  have hlocks := B.notSynchronized
  have hS : va_S (wA E) s.heap s.heap [] := va_S.rf
  have hinX5 : ∀ w ∈ wsX50, w ∈ wsX5_addBox := fun w h => List.mem_cons_of_mem _ (List.mem_append_left _ (List.mem_append_right _ h))
  have hl := lv_entry ([.ref (g 10), .int a, .int b]) (n := 3) (Nat.le_of_ble_eq_true rfl)
  rw [lg_entry_eq]
  generalize (lg_sl ([.ref (g 10), .int a, .int b]) ++ List.replicate (3 - (lg_sl ([.ref (g 10), .int a, .int b])).length) Slot.unset).toArray = ls at hl ⊢
  have hl : lv_has ls 3 [(0, .ref (g 10)), (1, .int a), (2, .int b)] := hl
  obtain ⟨H, eH⟩ : ∃ z, z = s.heap := ⟨_, rfl⟩
  have hH : wHS E o g x y H := by rw [eH]; exact hH
  have hS : va_S (wA E) s.heap H [] := by rw [eH]; exact hS
  refine W.heapTo eH ?_
  obtain ⟨hm0, hm1, hm7, hm8, hm5, hm6, hm9, hm12, hm11⟩ := id hI
  refine lv_aload_n hx hb dX5_addBox_0 rfl (lv_at hl 0 rfl) ?_
  refine lv_iload_n hx hb dX5_addBox_1 rfl (lv_at hl 1 rfl) ?_
  refine lv_iconst (v := 0) hx hb dX5_addBox_2 (by decide) ?_
  refine lv_bipush (v := 60) hx hb dX5_addBox_3 (by decide) ?_
  refine va_calli (va_runS (As := [.int a, .int 0, .int 60]) (rest := [.ref (g 10)]) ⟨hx, hb, hml, hown, hts⟩ (met_X5_isIn l E o g x y a 0 60) (va_cwS 3 hts gX5_addBox_X5_isIn rfl rfl rfl (by decide +kernel) ⟨Nat.le_of_ble_eq_true rfl, Nat.le_of_ble_eq_true rfl⟩) ⟨fun a U f mk q => ⟨q.1, wPre.calling q.2 a f mk⟩, fun U hU hW => ⟨rfl, wPre_at hz hS hH hK U hU hW⟩⟩ rfl rfl hl.1 rfl (lv_room (Nat.le_of_ble_eq_true rfl)) dX5_addBox_5 ⟨Nat.le_of_ble_eq_true rfl, Nat.le_of_ble_eq_true rfl⟩) hS (fun q _ h => h) (fun q h => h) (fun r u t H locs ht hvm hw hB hz1 hk1 hS => ?_)
  have hB := wHS_h ht hB
  try dsimp only at hw
  have hH := hB
  rcases hw with ⟨rfl, c1⟩ | ⟨rfl, c1⟩
  · skip
    refine lv_if_eq (tgt := 25) hx hb dX5_addBox_8 (by decide) (fun hq => absurd hq (show ¬ (1 : Int32) = 0 by decide)) (fun _ => ?_)
    refine lv_iload_n hx hb dX5_addBox_11 rfl (lv_at hl 2 rfl) ?_
    refine lv_iconst (v := 0) hx hb dX5_addBox_12 (by decide) ?_
    refine lv_bipush (v := 9) hx hb dX5_addBox_13 (by decide) ?_
    refine va_calli (va_runS (As := [.int b, .int 0, .int 9]) (rest := [.ref (g 10)]) ⟨hx, hb, hml, hown, hts⟩ (met_X5_isIn l E o g x y b 0 9) (va_cwS 3 hts gX5_addBox_X5_isIn rfl rfl rfl (by decide +kernel) ⟨Nat.le_of_ble_eq_true rfl, Nat.le_of_ble_eq_true rfl⟩) ⟨fun a U f mk q => ⟨q.1, wPre.calling q.2 a f mk⟩, fun U hU hW => ⟨rfl, wPre_at hz hS hH hK U hU hW⟩⟩ rfl rfl hl.1 rfl (lv_room (Nat.le_of_ble_eq_true rfl)) dX5_addBox_15 ⟨Nat.le_of_ble_eq_true rfl, Nat.le_of_ble_eq_true rfl⟩) hS (fun q _ h => h) (fun q h => h) (fun r u t H locs ht hvm hw hB hz1 hk1 hS => ?_)
    have hB := wHS_h ht hB
    try dsimp only at hw
    have hH := hB
    rcases hw with ⟨rfl, c2⟩ | ⟨rfl, c2⟩
    · skip
      refine lv_if_eq (tgt := 25) hx hb dX5_addBox_18 (by decide) (fun hq => absurd hq (show ¬ (1 : Int32) = 0 by decide)) (fun _ => ?_)
      refine lv_iconst (v := 1) hx hb dX5_addBox_21 (by decide) ?_
      refine lv_goto (tgt := 26) hx hb dX5_addBox_22 (by decide) ?_
      refine lv_iconst (v := 1) hx hb dX5_addBox_26 (by decide) ?_
      refine va_calli (va_runV (As := [.int 1, .int 1]) (rest := []) ⟨hx, hb, hml, hown, hts⟩ (met_X5_no1 l E o g x y 1) (cwV 2 hts gX5_addBox_X5_no rfl rfl rfl (by decide +kernel) ⟨Nat.le_of_ble_eq_true rfl, Nat.le_of_ble_eq_true rfl⟩) ⟨fun a U f mk q => ⟨q.1, wPre.calling q.2 a f mk⟩, (va_recv hK (wH_one hH (lv_md (by decide) (by decide)) (cel_md (by omega) (by omega))) (ci := 7) (q0 := 0) rfl rfl), fun U hU hW => ⟨rfl, wPre_at hz hS hH hK U hU hW⟩⟩ rfl rfl hl.1 rfl (lv_room (Nat.le_of_ble_eq_true rfl)) dX5_addBox_27 ⟨Nat.le_of_ble_eq_true rfl, Nat.le_of_ble_eq_true rfl⟩) hS (fun q _ h => h) (fun q h => h) (fun r u t H locs ht hvm hw hB hz1 hk1 hS => ?_)
      have hB := wHS_h ht hB
      try dsimp only at hw
      obtain rfl := hw
      have hH := hB
      refine lv_if_ne (tgt := 54) hx hb dX5_addBox_30 (by decide) (fun hq => absurd (show (0 : Int32) = 0 by decide) hq) (fun _ => ?_)
      refine lv_aload_n hx hb dX5_addBox_33 rfl (lv_at hl 0 rfl) ?_
      refine lv_aload_n hx hb dX5_addBox_34 rfl (lv_at hl 0 rfl) ?_
      refine wr_get (T := TX5) (N := 30) (ci := 7) (v := .int (nI (y.1 1 0))) hx hb hts hinX5 hown hK hH (lv_md (by decide) (by decide)) (cel_md (by omega) (by omega)) rfl 19 (by decide) (hts (.fieldLink RX5 97 "SelectoRouteModel" "boxes" "I") (by decide +kernel)) (fun _ h => h) rfl dX5_addBox_35 ?_
      refine lv_iconst (v := 4) hx hb dX5_addBox_38 (by decide) ?_
      refine lv_icmp_ge (tgt := 46) hx hb dX5_addBox_39 (by decide) (fun c3 => ?_) (fun c3 => ?_)
      · have c3 := (nI_leI (a := 4) (b := (y.1 1 0)) (by omega) (by omega)).mp c3
        refine lv_iconst (v := 0) hx hb dX5_addBox_46 (by decide) ?_
        refine lv_iconst (v := 2) hx hb dX5_addBox_47 (by decide) ?_
        refine va_calli (va_runV (As := [.int 0, .int 2]) (rest := []) ⟨hx, hb, hml, hown, hts⟩ (met_X5_no0 l E o g x (uI y 28 0 0) 2) (cwV 2 hts gX5_addBox_X5_no rfl rfl rfl (by decide +kernel) ⟨Nat.le_of_ble_eq_true rfl, Nat.le_of_ble_eq_true rfl⟩) ⟨fun a U f mk q => ⟨q.1, wPre.calling q.2 a f mk⟩, (va_recv hK (wH_one hH (lv_md (by decide) (by decide)) (cel_md (by omega) (by omega))) (ci := 7) (q0 := 0) rfl rfl), fun U hU hW => ⟨rfl, wPre_at hz hS hH hK U hU hW⟩⟩ rfl rfl hl.1 rfl (lv_room (Nat.le_of_ble_eq_true rfl)) dX5_addBox_48 ⟨Nat.le_of_ble_eq_true rfl, Nat.le_of_ble_eq_true rfl⟩) hS (fun q _ h => h) (fun q h => h) (fun r u t H locs ht hvm hw hB hz1 hk1 hS => ?_)
        have hB := wHS_h ht hB
        try dsimp only at hw
        obtain rfl := hw
        have hH := hB
        refine lv_if_eq (tgt := 56) hx hb dX5_addBox_51 (by decide) (fun hq => absurd hq (show ¬ (1 : Int32) = 0 by decide)) (fun _ => ?_)
        refine lv_iconst (v := 0) hx hb dX5_addBox_54 (by decide) ?_
        have hsp : mp_addBox y a b = (0, (uI (uI y 28 0 0) 28 0 2)) := by
          unfold mp_addBox
          first | (simp only [c1, c2, c3, ↓reduceIte, and_self, and_true, true_and, Bool.false_eq_true, reduceCtorEq, eq_self, false_and, and_false]; done) | (simp [c1, c2, c3, ↓reduceIte, and_self, and_true, true_and, Bool.false_eq_true, reduceCtorEq, eq_self, false_and, and_false]; done) | simp only [c1, c2, c3, ↓reduceIte, and_self, and_true, true_and, Bool.false_eq_true, reduceCtorEq, eq_self, false_and, and_false]
        exact W.iret (v := 0) hx hb hr (fun t ht hW => ⟨⟨0, (), rfl, (by rw [hsp]), wHS_t ht (by rw [hsp]; exact hH)⟩, hS.F ht⟩) hS.2.2 dX5_addBox_55
      · have c3 : ¬ (4 ≤ (y.1 1 0)) := fun hq => c3 ((nI_leI (a := 4) (b := (y.1 1 0)) (by omega) (by omega)).mpr hq)
        refine lv_iconst (v := 1) hx hb dX5_addBox_42 (by decide) ?_
        refine lv_goto (tgt := 47) hx hb dX5_addBox_43 (by decide) ?_
        refine lv_iconst (v := 2) hx hb dX5_addBox_47 (by decide) ?_
        refine va_calli (va_runV (As := [.int 1, .int 2]) (rest := []) ⟨hx, hb, hml, hown, hts⟩ (met_X5_no1 l E o g x (uI y 28 0 0) 2) (cwV 2 hts gX5_addBox_X5_no rfl rfl rfl (by decide +kernel) ⟨Nat.le_of_ble_eq_true rfl, Nat.le_of_ble_eq_true rfl⟩) ⟨fun a U f mk q => ⟨q.1, wPre.calling q.2 a f mk⟩, (va_recv hK (wH_one hH (lv_md (by decide) (by decide)) (cel_md (by omega) (by omega))) (ci := 7) (q0 := 0) rfl rfl), fun U hU hW => ⟨rfl, wPre_at hz hS hH hK U hU hW⟩⟩ rfl rfl hl.1 rfl (lv_room (Nat.le_of_ble_eq_true rfl)) dX5_addBox_48 ⟨Nat.le_of_ble_eq_true rfl, Nat.le_of_ble_eq_true rfl⟩) hS (fun q _ h => h) (fun q h => h) (fun r u t H locs ht hvm hw hB hz1 hk1 hS => ?_)
        have hB := wHS_h ht hB
        try dsimp only at hw
        obtain rfl := hw
        have hH := hB
        refine lv_if_eq (tgt := 56) hx hb dX5_addBox_51 (by decide) (fun _ => ?_) (fun hq => absurd (show (0 : Int32) = 0 by decide) hq)
        refine lv_aload_n hx hb dX5_addBox_56 rfl (lv_at hl 0 rfl) ?_
        refine wr_get (T := TX5) (N := 30) (ci := 7) (v := .ref (g 16)) hx hb hts hinX5 hown hK hH (lv_md (by decide) (by decide)) (cel_md (by omega) (by omega)) rfl 6 (by decide) (hts (.fieldLink RX5 25 "SelectoRouteModel" "share" "[I") (by decide +kernel)) (fun _ h => h) rfl dX5_addBox_57 ?_
        refine lv_aload_n hx hb dX5_addBox_60 rfl (lv_at hl 0 rfl) ?_
        refine wr_get (T := TX5) (N := 30) (ci := 7) (v := .int (nI (y.1 1 0))) hx hb hts hinX5 hown hK hH (lv_md (by decide) (by decide)) (cel_md (by omega) (by omega)) rfl 19 (by decide) (hts (.fieldLink RX5 97 "SelectoRouteModel" "boxes" "I") (by decide +kernel)) (fun _ h => h) rfl dX5_addBox_61 ?_
        refine lv_iload_n hx hb dX5_addBox_64 rfl (lv_at hl 1 rfl) ?_
        refine wr_iast hx hb hK hH hS (lv_md (by decide) (by decide)) (cel_md (by decide) (by decide)) 0 rfl (vp_in_nI (n := (y.1 1 0)) (N := 4) (by omega) (by decide)) dX5_addBox_65 (fun H locs hH hS => ?_)
        have hH : wHS E o g x (uI (uI (uI y 28 0 0) 28 0 0) 4 (y.1 1 0) a) H := pa_share (v := a) (nI_clamp (n := (y.1 1 0)) (by omega)) hH
        refine lv_aload_n hx hb dX5_addBox_66 rfl (lv_at hl 0 rfl) ?_
        refine wr_get (T := TX5) (N := 30) (ci := 7) (v := .ref (g 17)) hx hb hts hinX5 hown hK hH (lv_md (by decide) (by decide)) (cel_md (by omega) (by omega)) rfl 7 (by decide) (hts (.fieldLink RX5 28 "SelectoRouteModel" "taste" "[I") (by decide +kernel)) (fun _ h => h) rfl dX5_addBox_67 ?_
        refine lv_aload_n hx hb dX5_addBox_70 rfl (lv_at hl 0 rfl) ?_
        refine wr_get (T := TX5) (N := 30) (ci := 7) (v := .int (nI (y.1 1 0))) hx hb hts hinX5 hown hK hH (lv_md (by decide) (by decide)) (cel_md (by omega) (by omega)) rfl 19 (by decide) (hts (.fieldLink RX5 97 "SelectoRouteModel" "boxes" "I") (by decide +kernel)) (fun _ h => h) rfl dX5_addBox_71 ?_
        refine lv_iload_n hx hb dX5_addBox_74 rfl (lv_at hl 2 rfl) ?_
        refine wr_iast hx hb hK hH hS (lv_md (by decide) (by decide)) (cel_md (by decide) (by decide)) 0 rfl (vp_in_nI (n := (y.1 1 0)) (N := 4) (by omega) (by decide)) dX5_addBox_75 (fun H locs hH hS => ?_)
        have hH : wHS E o g x (uI (uI (uI (uI y 28 0 0) 28 0 0) 4 (y.1 1 0) a) 5 (y.1 1 0) b) H := pa_taste (v := b) (nI_clamp (n := (y.1 1 0)) (by omega)) hH
        refine lv_aload_n hx hb dX5_addBox_76 rfl (lv_at hl 0 rfl) ?_
        refine lv_dup hx hb dX5_addBox_77 rfl ?_
        refine wr_get (T := TX5) (N := 30) (ci := 7) (v := .int (nI (y.1 1 0))) hx hb hts hinX5 hown hK hH (lv_md (by decide) (by decide)) (cel_md (by omega) (by omega)) rfl 19 (by decide) (hts (.fieldLink RX5 97 "SelectoRouteModel" "boxes" "I") (by decide +kernel)) (fun _ h => h) rfl dX5_addBox_78 ?_
        refine lv_iconst (v := 1) hx hb dX5_addBox_81 (by decide) ?_
        refine lv_iadd hx hb dX5_addBox_82 ?_
        refine lv_tope (nI_add (y.1 1 0) 1) ?_
        refine wr_put (T := TX5) (N := 30) (ci := 7) (v := .int (nI ((y.1 1 0) + 1))) hx hb hts hinX5 tyX5 tyX5_ok nmX5 hown hK hH hS (lv_md (by decide) (by decide)) (cel_md (by omega) (by omega)) rfl 19 (by decide) (hts (.fieldLink RX5 97 "SelectoRouteModel" "boxes" "I") (by decide +kernel)) (fun _ h => h) rfl (ty := .int) (by decide +kernel) rfl rfl (Nat.le_of_ble_eq_true rfl) dX5_addBox_83 (fun H locs hH hS => ?_)
        have hH : wHS E o g x (uN (uI (uI (uI (uI y 28 0 0) 28 0 0) 4 (y.1 1 0) a) 5 (y.1 1 0) b) 1 0 ((y.1 1 0) + 1)) H := pm_boxes (v := ((y.1 1 0) + 1)) hH
        refine lv_aload_n hx hb dX5_addBox_86 rfl (lv_at hl 0 rfl) ?_
        refine wr_get (T := TX5) (N := 30) (ci := 7) (v := .int (nI ((y.1 1 0) + 1))) hx hb hts hinX5 hown hK hH (lv_md (by decide) (by decide)) (cel_md (by omega) (by omega)) rfl 19 (by decide) (hts (.fieldLink RX5 97 "SelectoRouteModel" "boxes" "I") (by decide +kernel)) (fun _ h => h) (congrArg (fun z => some (Value.int z)) (by simp [uI, uN, va_up])) dX5_addBox_87 ?_
        refine lv_iconst (v := 1) hx hb dX5_addBox_90 (by decide) ?_
        refine lv_isub hx hb dX5_addBox_91 ?_
        refine lv_tope (pk_sub (a := ((y.1 1 0) + 1)) (b := 1) (by omega)) ?_
        have hsp : mp_addBox y a b = ((nI (((y.1 1 0) + 1) - 1)), (uN (uI (uI (uI (uI y 28 0 0) 28 0 0) 4 (y.1 1 0) a) 5 (y.1 1 0) b) 1 0 ((y.1 1 0) + 1))) := by
          unfold mp_addBox
          first | (simp only [c1, c2, c3, ↓reduceIte, and_self, and_true, true_and, Bool.false_eq_true, reduceCtorEq, eq_self, false_and, and_false]; done) | (simp [c1, c2, c3, ↓reduceIte, and_self, and_true, true_and, Bool.false_eq_true, reduceCtorEq, eq_self, false_and, and_false]; done) | simp only [c1, c2, c3, ↓reduceIte, and_self, and_true, true_and, Bool.false_eq_true, reduceCtorEq, eq_self, false_and, and_false]
        exact W.iret (v := (nI (((y.1 1 0) + 1) - 1))) hx hb hr (fun t ht hW => ⟨⟨(nI (((y.1 1 0) + 1) - 1)), (), rfl, (by rw [hsp]), wHS_t ht (by rw [hsp]; exact hH)⟩, hS.F ht⟩) hS.2.2 dX5_addBox_92
    · skip
      refine lv_if_eq (tgt := 25) hx hb dX5_addBox_18 (by decide) (fun _ => ?_) (fun hq => absurd (show (0 : Int32) = 0 by decide) hq)
      refine lv_iconst (v := 0) hx hb dX5_addBox_25 (by decide) ?_
      refine lv_iconst (v := 1) hx hb dX5_addBox_26 (by decide) ?_
      refine va_calli (va_runV (As := [.int 0, .int 1]) (rest := []) ⟨hx, hb, hml, hown, hts⟩ (met_X5_no0 l E o g x y 1) (cwV 2 hts gX5_addBox_X5_no rfl rfl rfl (by decide +kernel) ⟨Nat.le_of_ble_eq_true rfl, Nat.le_of_ble_eq_true rfl⟩) ⟨fun a U f mk q => ⟨q.1, wPre.calling q.2 a f mk⟩, (va_recv hK (wH_one hH (lv_md (by decide) (by decide)) (cel_md (by omega) (by omega))) (ci := 7) (q0 := 0) rfl rfl), fun U hU hW => ⟨rfl, wPre_at hz hS hH hK U hU hW⟩⟩ rfl rfl hl.1 rfl (lv_room (Nat.le_of_ble_eq_true rfl)) dX5_addBox_27 ⟨Nat.le_of_ble_eq_true rfl, Nat.le_of_ble_eq_true rfl⟩) hS (fun q _ h => h) (fun q h => h) (fun r u t H locs ht hvm hw hB hz1 hk1 hS => ?_)
      have hB := wHS_h ht hB
      try dsimp only at hw
      obtain rfl := hw
      have hH := hB
      refine lv_if_ne (tgt := 54) hx hb dX5_addBox_30 (by decide) (fun _ => ?_) (fun hq => absurd hq (show ¬ (1 : Int32) = 0 by decide))
      refine lv_iconst (v := 0) hx hb dX5_addBox_54 (by decide) ?_
      have hsp : mp_addBox y a b = (0, (uI y 28 0 1)) := by
        unfold mp_addBox
        first | (simp only [c1, c2, ↓reduceIte, and_self, and_true, true_and, Bool.false_eq_true, reduceCtorEq, eq_self, false_and, and_false]; done) | (simp [c1, c2, ↓reduceIte, and_self, and_true, true_and, Bool.false_eq_true, reduceCtorEq, eq_self, false_and, and_false]; done) | simp only [c1, c2, ↓reduceIte, and_self, and_true, true_and, Bool.false_eq_true, reduceCtorEq, eq_self, false_and, and_false]
      exact W.iret (v := 0) hx hb hr (fun t ht hW => ⟨⟨0, (), rfl, (by rw [hsp]), wHS_t ht (by rw [hsp]; exact hH)⟩, hS.F ht⟩) hS.2.2 dX5_addBox_55
  · skip
    refine lv_if_eq (tgt := 25) hx hb dX5_addBox_8 (by decide) (fun _ => ?_) (fun hq => absurd (show (0 : Int32) = 0 by decide) hq)
    refine lv_iconst (v := 0) hx hb dX5_addBox_25 (by decide) ?_
    refine lv_iconst (v := 1) hx hb dX5_addBox_26 (by decide) ?_
    refine va_calli (va_runV (As := [.int 0, .int 1]) (rest := []) ⟨hx, hb, hml, hown, hts⟩ (met_X5_no0 l E o g x y 1) (cwV 2 hts gX5_addBox_X5_no rfl rfl rfl (by decide +kernel) ⟨Nat.le_of_ble_eq_true rfl, Nat.le_of_ble_eq_true rfl⟩) ⟨fun a U f mk q => ⟨q.1, wPre.calling q.2 a f mk⟩, (va_recv hK (wH_one hH (lv_md (by decide) (by decide)) (cel_md (by omega) (by omega))) (ci := 7) (q0 := 0) rfl rfl), fun U hU hW => ⟨rfl, wPre_at hz hS hH hK U hU hW⟩⟩ rfl rfl hl.1 rfl (lv_room (Nat.le_of_ble_eq_true rfl)) dX5_addBox_27 ⟨Nat.le_of_ble_eq_true rfl, Nat.le_of_ble_eq_true rfl⟩) hS (fun q _ h => h) (fun q h => h) (fun r u t H locs ht hvm hw hB hz1 hk1 hS => ?_)
    have hB := wHS_h ht hB
    try dsimp only at hw
    obtain rfl := hw
    have hH := hB
    refine lv_if_ne (tgt := 54) hx hb dX5_addBox_30 (by decide) (fun _ => ?_) (fun hq => absurd hq (show ¬ (1 : Int32) = 0 by decide))
    refine lv_iconst (v := 0) hx hb dX5_addBox_54 (by decide) ?_
    have hsp : mp_addBox y a b = (0, (uI y 28 0 1)) := by
      unfold mp_addBox
      first | (simp only [c1, ↓reduceIte, and_self, and_true, true_and, Bool.false_eq_true, reduceCtorEq, eq_self, false_and, and_false]; done) | (simp [c1, ↓reduceIte, and_self, and_true, true_and, Bool.false_eq_true, reduceCtorEq, eq_self, false_and, and_false]; done) | simp only [c1, ↓reduceIte, and_self, and_true, true_and, Bool.false_eq_true, reduceCtorEq, eq_self, false_and, and_false]
    exact W.iret (v := 0) hx hb hr (fun t ht hW => ⟨⟨0, (), rfl, (by rw [hsp]), wHS_t ht (by rw [hsp]; exact hH)⟩, hS.F ht⟩) hS.2.2 dX5_addBox_55
def mp_discAt (y : St) (b : Int32) (k : Int32) : Int32 × St := if inB b (y.1 1 0) = true ∧ inB k 10 = true then (if (y.1 7 ((10 * (ix b)) + (ix k))) = 0 then (0, (uI (uI y 28 0 0) 28 0 2)) else ((nI ((y.1 7 ((10 * (ix b)) + (ix k))) - 1)), (uI (uI y 28 0 0) 28 0 0))) else (0, (uI y 28 0 1))
set_option maxHeartbeats 4000000 in
set_option maxRecDepth 100000 in
theorem met_X5_discAt (l : Launch) (E : wE) (o : wO) (g : Nat → Nat) (x y : St) (b : Int32) (k : Int32) (hI : MI y) : Met l yX5_discAt wsX5_discAt ({ frames := 3, cells := 0, slots := 0, locals := 300 } : Room) (va_Pc [.ref (g 10), .int b, .int k] (wPre E o g x y)) (va_Qi (fun (r : Int32) (_ : Unit) => r = (mp_discAt y b k).1) (fun (_ : Unit) t => wHS E o g x (mp_discAt y b k).2 t.heap) (wA E)) 0 0 (wA E) := by
  refine Met.ofW (cc := cX5_discAt) (maxL := 3) (ret := (some .int)) (by decide) rfl ?_
  intro p e s m args below meth c s₁ B hml hv
  obtain ⟨rfl, hz, hH, hK⟩ := hv
  have hx := B.exec
  have hb := B.bytes
  have hr := B.returns
  have hts := atoms_spec (ws := wsX5_discAt) B.pre
  have hown : s.vm.findClass RX5 = some m.cls := findClass_of_methodNamed B.named
  have hlocks := B.notSynchronized
  have hS : va_S (wA E) s.heap s.heap [] := va_S.rf
  have hinX5 : ∀ w ∈ wsX50, w ∈ wsX5_discAt := fun w h => List.mem_cons_of_mem _ (List.mem_append_left _ (List.mem_append_right _ h))
  have hl := lv_entry ([.ref (g 10), .int b, .int k]) (n := 3) (Nat.le_of_ble_eq_true rfl)
  rw [lg_entry_eq]
  generalize (lg_sl ([.ref (g 10), .int b, .int k]) ++ List.replicate (3 - (lg_sl ([.ref (g 10), .int b, .int k])).length) Slot.unset).toArray = ls at hl ⊢
  have hl : lv_has ls 3 [(0, .ref (g 10)), (1, .int b), (2, .int k)] := hl
  obtain ⟨H, eH⟩ : ∃ z, z = s.heap := ⟨_, rfl⟩
  have hH : wHS E o g x y H := by rw [eH]; exact hH
  have hS : va_S (wA E) s.heap H [] := by rw [eH]; exact hS
  refine W.heapTo eH ?_
  obtain ⟨hm0, hm1, hm7, hm8, hm5, hm6, hm9, hm12, hm11⟩ := id hI
  refine lv_aload_n hx hb dX5_discAt_0 rfl (lv_at hl 0 rfl) ?_
  refine lv_aload_n hx hb dX5_discAt_1 rfl (lv_at hl 0 rfl) ?_
  refine lv_iload_n hx hb dX5_discAt_2 rfl (lv_at hl 1 rfl) ?_
  refine lv_iload_n hx hb dX5_discAt_3 rfl (lv_at hl 2 rfl) ?_
  refine va_calli (va_runV (As := [.int b, .int k]) (rest := [.ref (g 10)]) ⟨hx, hb, hml, hown, hts⟩ (met_X5_isSlot l E o g x y b k (show (y.1 1 0) ≤ 100 by omega)) (cwV 2 hts gX5_discAt_X5_isSlot rfl rfl rfl (by decide +kernel) ⟨Nat.le_of_ble_eq_true rfl, Nat.le_of_ble_eq_true rfl⟩) ⟨fun a U f mk q => ⟨q.1, wPre.calling q.2 a f mk⟩, (va_recv hK (wH_one hH (lv_md (by decide) (by decide)) (cel_md (by omega) (by omega))) (ci := 7) (q0 := 0) rfl rfl), fun U hU hW => ⟨rfl, wPre_at hz hS hH hK U hU hW⟩⟩ rfl rfl hl.1 rfl (lv_room (Nat.le_of_ble_eq_true rfl)) dX5_discAt_4 ⟨Nat.le_of_ble_eq_true rfl, Nat.le_of_ble_eq_true rfl⟩) hS (fun q _ h => h) (fun q h => h) (fun r u t H locs ht hvm hw hB hz1 hk1 hS => ?_)
  have hB := wHS_h ht hB
  try dsimp only at hw
  have hH := hB
  rcases hw with ⟨rfl, c1, c1_s⟩ | ⟨rfl, c1⟩
  · obtain ⟨jb, hjb, rfl⟩ := inB_t c1 (by omega)
    obtain ⟨jk, hjk, rfl⟩ := inB_t c1_s (by omega)
    refine lv_iconst (v := 1) hx hb dX5_discAt_7 (by decide) ?_
    refine va_calli (va_runV (As := [.int 1, .int 1]) (rest := []) ⟨hx, hb, hml, hown, hts⟩ (met_X5_no1 l E o g x y 1) (cwV 2 hts gX5_discAt_X5_no rfl rfl rfl (by decide +kernel) ⟨Nat.le_of_ble_eq_true rfl, Nat.le_of_ble_eq_true rfl⟩) ⟨fun a U f mk q => ⟨q.1, wPre.calling q.2 a f mk⟩, (va_recv hK (wH_one hH (lv_md (by decide) (by decide)) (cel_md (by omega) (by omega))) (ci := 7) (q0 := 0) rfl rfl), fun U hU hW => ⟨rfl, wPre_at hz hS hH hK U hU hW⟩⟩ rfl rfl hl.1 rfl (lv_room (Nat.le_of_ble_eq_true rfl)) dX5_discAt_8 ⟨Nat.le_of_ble_eq_true rfl, Nat.le_of_ble_eq_true rfl⟩) hS (fun q _ h => h) (fun q h => h) (fun r u t H locs ht hvm hw hB hz1 hk1 hS => ?_)
    have hB := wHS_h ht hB
    try dsimp only at hw
    obtain rfl := hw
    have hH := hB
    refine lv_if_ne (tgt := 41) hx hb dX5_discAt_11 (by decide) (fun hq => absurd (show (0 : Int32) = 0 by decide) hq) (fun _ => ?_)
    refine lv_aload_n hx hb dX5_discAt_14 rfl (lv_at hl 0 rfl) ?_
    refine lv_aload_n hx hb dX5_discAt_15 rfl (lv_at hl 0 rfl) ?_
    refine wr_get (T := TX5) (N := 30) (ci := 7) (v := .ref (g 29)) hx hb hts hinX5 hown hK hH (lv_md (by decide) (by decide)) (cel_md (by omega) (by omega)) rfl 20 (by decide) (hts (.fieldLink RX5 65 "SelectoRouteModel" "slots" "[I") (by decide +kernel)) (fun _ h => h) rfl dX5_discAt_16 ?_
    refine lv_bipush (v := 10) hx hb dX5_discAt_19 (by decide) ?_
    refine lv_iload_n hx hb dX5_discAt_21 rfl (lv_at hl 1 rfl) ?_
    refine lv_imul hx hb dX5_discAt_22 ?_
    refine lv_tope (pk_mul 10 jb) ?_
    refine lv_iload_n hx hb dX5_discAt_23 rfl (lv_at hl 2 rfl) ?_
    refine lv_iadd hx hb dX5_discAt_24 ?_
    refine lv_tope (nI_add (10 * jb) jk) ?_
    refine wr_iald (v := nI (y.1 7 ((10 * jb) + jk))) hx hb hK hH (lv_md (by decide) (by decide)) (cel_md (by decide) (by decide)) 0 rfl (vp_in_nI (n := ((10 * jb) + jk)) (N := 40) (by omega) (by decide)) (by rw [(nI_clamp (n := ((10 * jb) + jk)) (by omega))]; try rfl) dX5_discAt_25 ?_
    refine lv_if_le (tgt := 33) hx hb dX5_discAt_26 (by decide) (fun c2 => ?_) (fun c2 => ?_)
    · have c2 := (nz_le (by have q0 := hm7 ((10 * jb) + jk); omega)).mp c2
      refine lv_iconst (v := 0) hx hb dX5_discAt_33 (by decide) ?_
      refine lv_iconst (v := 2) hx hb dX5_discAt_34 (by decide) ?_
      refine va_calli (va_runV (As := [.int 0, .int 2]) (rest := []) ⟨hx, hb, hml, hown, hts⟩ (met_X5_no0 l E o g x (uI y 28 0 0) 2) (cwV 2 hts gX5_discAt_X5_no rfl rfl rfl (by decide +kernel) ⟨Nat.le_of_ble_eq_true rfl, Nat.le_of_ble_eq_true rfl⟩) ⟨fun a U f mk q => ⟨q.1, wPre.calling q.2 a f mk⟩, (va_recv hK (wH_one hH (lv_md (by decide) (by decide)) (cel_md (by omega) (by omega))) (ci := 7) (q0 := 0) rfl rfl), fun U hU hW => ⟨rfl, wPre_at hz hS hH hK U hU hW⟩⟩ rfl rfl hl.1 rfl (lv_room (Nat.le_of_ble_eq_true rfl)) dX5_discAt_35 ⟨Nat.le_of_ble_eq_true rfl, Nat.le_of_ble_eq_true rfl⟩) hS (fun q _ h => h) (fun q h => h) (fun r u t H locs ht hvm hw hB hz1 hk1 hS => ?_)
      have hB := wHS_h ht hB
      try dsimp only at hw
      obtain rfl := hw
      have hH := hB
      refine lv_if_eq (tgt := 43) hx hb dX5_discAt_38 (by decide) (fun hq => absurd hq (show ¬ (1 : Int32) = 0 by decide)) (fun _ => ?_)
      refine lv_iconst (v := 0) hx hb dX5_discAt_41 (by decide) ?_
      have hsp : mp_discAt y (nI jb) (nI jk) = (0, (uI (uI y 28 0 0) 28 0 2)) := by
        unfold mp_discAt
        first | (simp only [c1, c1_s, c2, inB_nI hjb (by omega), ix_nI (show jb < 2 ^ 31 by omega), inB_nI hjk (by omega), ix_nI (show jk < 2 ^ 31 by omega), ↓reduceIte, and_self, and_true, true_and, Bool.false_eq_true, reduceCtorEq, eq_self, false_and, and_false]; done) | (simp [c1, c1_s, c2, inB_nI hjb (by omega), ix_nI (show jb < 2 ^ 31 by omega), inB_nI hjk (by omega), ix_nI (show jk < 2 ^ 31 by omega), ↓reduceIte, and_self, and_true, true_and, Bool.false_eq_true, reduceCtorEq, eq_self, false_and, and_false]; done) | simp only [c1, c1_s, c2, inB_nI hjb (by omega), ix_nI (show jb < 2 ^ 31 by omega), inB_nI hjk (by omega), ix_nI (show jk < 2 ^ 31 by omega), ↓reduceIte, and_self, and_true, true_and, Bool.false_eq_true, reduceCtorEq, eq_self, false_and, and_false]
      exact W.iret (v := 0) hx hb hr (fun t ht hW => ⟨⟨0, (), rfl, (by rw [hsp]), wHS_t ht (by rw [hsp]; exact hH)⟩, hS.F ht⟩) hS.2.2 dX5_discAt_42
    · have c2 : ¬ ((y.1 7 ((10 * jb) + jk)) = 0) := fun hq => c2 ((nz_le (by have q0 := hm7 ((10 * jb) + jk); omega)).mpr hq)
      refine lv_iconst (v := 1) hx hb dX5_discAt_29 (by decide) ?_
      refine lv_goto (tgt := 34) hx hb dX5_discAt_30 (by decide) ?_
      refine lv_iconst (v := 2) hx hb dX5_discAt_34 (by decide) ?_
      refine va_calli (va_runV (As := [.int 1, .int 2]) (rest := []) ⟨hx, hb, hml, hown, hts⟩ (met_X5_no1 l E o g x (uI y 28 0 0) 2) (cwV 2 hts gX5_discAt_X5_no rfl rfl rfl (by decide +kernel) ⟨Nat.le_of_ble_eq_true rfl, Nat.le_of_ble_eq_true rfl⟩) ⟨fun a U f mk q => ⟨q.1, wPre.calling q.2 a f mk⟩, (va_recv hK (wH_one hH (lv_md (by decide) (by decide)) (cel_md (by omega) (by omega))) (ci := 7) (q0 := 0) rfl rfl), fun U hU hW => ⟨rfl, wPre_at hz hS hH hK U hU hW⟩⟩ rfl rfl hl.1 rfl (lv_room (Nat.le_of_ble_eq_true rfl)) dX5_discAt_35 ⟨Nat.le_of_ble_eq_true rfl, Nat.le_of_ble_eq_true rfl⟩) hS (fun q _ h => h) (fun q h => h) (fun r u t H locs ht hvm hw hB hz1 hk1 hS => ?_)
      have hB := wHS_h ht hB
      try dsimp only at hw
      obtain rfl := hw
      have hH := hB
      refine lv_if_eq (tgt := 43) hx hb dX5_discAt_38 (by decide) (fun _ => ?_) (fun hq => absurd (show (0 : Int32) = 0 by decide) hq)
      refine lv_aload_n hx hb dX5_discAt_43 rfl (lv_at hl 0 rfl) ?_
      refine wr_get (T := TX5) (N := 30) (ci := 7) (v := .ref (g 29)) hx hb hts hinX5 hown hK hH (lv_md (by decide) (by decide)) (cel_md (by omega) (by omega)) rfl 20 (by decide) (hts (.fieldLink RX5 65 "SelectoRouteModel" "slots" "[I") (by decide +kernel)) (fun _ h => h) rfl dX5_discAt_44 ?_
      refine lv_bipush (v := 10) hx hb dX5_discAt_47 (by decide) ?_
      refine lv_iload_n hx hb dX5_discAt_49 rfl (lv_at hl 1 rfl) ?_
      refine lv_imul hx hb dX5_discAt_50 ?_
      refine lv_tope (pk_mul 10 jb) ?_
      refine lv_iload_n hx hb dX5_discAt_51 rfl (lv_at hl 2 rfl) ?_
      refine lv_iadd hx hb dX5_discAt_52 ?_
      refine lv_tope (nI_add (10 * jb) jk) ?_
      refine wr_iald (v := nI (y.1 7 ((10 * jb) + jk))) hx hb hK hH (lv_md (by decide) (by decide)) (cel_md (by decide) (by decide)) 0 rfl (vp_in_nI (n := ((10 * jb) + jk)) (N := 40) (by omega) (by decide)) (by rw [(nI_clamp (n := ((10 * jb) + jk)) (by omega))]; try rfl) dX5_discAt_53 ?_
      refine lv_iconst (v := 1) hx hb dX5_discAt_54 (by decide) ?_
      refine lv_isub hx hb dX5_discAt_55 ?_
      refine lv_tope (pk_sub (a := (y.1 7 ((10 * jb) + jk))) (b := 1) (by have q0 := hm7 ((10 * jb) + jk); omega)) ?_
      have hsp : mp_discAt y (nI jb) (nI jk) = ((nI ((y.1 7 ((10 * jb) + jk)) - 1)), (uI (uI y 28 0 0) 28 0 0)) := by
        unfold mp_discAt
        first | (simp only [c1, c1_s, c2, inB_nI hjb (by omega), ix_nI (show jb < 2 ^ 31 by omega), inB_nI hjk (by omega), ix_nI (show jk < 2 ^ 31 by omega), ↓reduceIte, and_self, and_true, true_and, Bool.false_eq_true, reduceCtorEq, eq_self, false_and, and_false]; done) | (simp [c1, c1_s, c2, inB_nI hjb (by omega), ix_nI (show jb < 2 ^ 31 by omega), inB_nI hjk (by omega), ix_nI (show jk < 2 ^ 31 by omega), ↓reduceIte, and_self, and_true, true_and, Bool.false_eq_true, reduceCtorEq, eq_self, false_and, and_false]; done) | simp only [c1, c1_s, c2, inB_nI hjb (by omega), ix_nI (show jb < 2 ^ 31 by omega), inB_nI hjk (by omega), ix_nI (show jk < 2 ^ 31 by omega), ↓reduceIte, and_self, and_true, true_and, Bool.false_eq_true, reduceCtorEq, eq_self, false_and, and_false]
      exact W.iret (v := (nI ((y.1 7 ((10 * jb) + jk)) - 1))) hx hb hr (fun t ht hW => ⟨⟨(nI ((y.1 7 ((10 * jb) + jk)) - 1)), (), rfl, (by rw [hsp]), wHS_t ht (by rw [hsp]; exact hH)⟩, hS.F ht⟩) hS.2.2 dX5_discAt_56
  · skip
    refine lv_iconst (v := 1) hx hb dX5_discAt_7 (by decide) ?_
    refine va_calli (va_runV (As := [.int 0, .int 1]) (rest := []) ⟨hx, hb, hml, hown, hts⟩ (met_X5_no0 l E o g x y 1) (cwV 2 hts gX5_discAt_X5_no rfl rfl rfl (by decide +kernel) ⟨Nat.le_of_ble_eq_true rfl, Nat.le_of_ble_eq_true rfl⟩) ⟨fun a U f mk q => ⟨q.1, wPre.calling q.2 a f mk⟩, (va_recv hK (wH_one hH (lv_md (by decide) (by decide)) (cel_md (by omega) (by omega))) (ci := 7) (q0 := 0) rfl rfl), fun U hU hW => ⟨rfl, wPre_at hz hS hH hK U hU hW⟩⟩ rfl rfl hl.1 rfl (lv_room (Nat.le_of_ble_eq_true rfl)) dX5_discAt_8 ⟨Nat.le_of_ble_eq_true rfl, Nat.le_of_ble_eq_true rfl⟩) hS (fun q _ h => h) (fun q h => h) (fun r u t H locs ht hvm hw hB hz1 hk1 hS => ?_)
    have hB := wHS_h ht hB
    try dsimp only at hw
    obtain rfl := hw
    have hH := hB
    refine lv_if_ne (tgt := 41) hx hb dX5_discAt_11 (by decide) (fun _ => ?_) (fun hq => absurd hq (show ¬ (1 : Int32) = 0 by decide))
    refine lv_iconst (v := 0) hx hb dX5_discAt_41 (by decide) ?_
    have hsp : mp_discAt y b k = (0, (uI y 28 0 1)) := by
      unfold mp_discAt
      first | (simp only [c1, ↓reduceIte, and_self, and_true, true_and, Bool.false_eq_true, reduceCtorEq, eq_self, false_and, and_false]; done) | (simp [c1, ↓reduceIte, and_self, and_true, true_and, Bool.false_eq_true, reduceCtorEq, eq_self, false_and, and_false]; done) | simp only [c1, ↓reduceIte, and_self, and_true, true_and, Bool.false_eq_true, reduceCtorEq, eq_self, false_and, and_false]
    exact W.iret (v := 0) hx hb hr (fun t ht hW => ⟨⟨0, (), rfl, (by rw [hsp]), wHS_t ht (by rw [hsp]; exact hH)⟩, hS.F ht⟩) hS.2.2 dX5_discAt_42
def mp_ask (y : St) (b : Int32) (v : Int32) : Int32 × St := if inB b (y.1 1 0) = true then (if 0 ≤ v ∧ v ≤ 99 then (if 99 ≤ (y.2 15 ((100 * (ix b)) + (ix v))) then (0, (uI (uI (uI y 28 0 0) 28 0 0) 28 0 3)) else (((y.2 15 ((100 * (ix b)) + (ix v))) + 1), (uI (uI (uI (uI y 28 0 0) 28 0 0) 28 0 0) 15 ((100 * (ix b)) + (ix v)) ((y.2 15 ((100 * (ix b)) + (ix v))) + 1)))) else (0, (uI (uI y 28 0 0) 28 0 2))) else (0, (uI y 28 0 1))
set_option maxHeartbeats 4000000 in
set_option maxRecDepth 100000 in
theorem met_X5_ask (l : Launch) (E : wE) (o : wO) (g : Nat → Nat) (x y : St) (b : Int32) (v : Int32) (hI : MI y) : Met l yX5_ask wsX5_ask ({ frames := 3, cells := 0, slots := 0, locals := 300 } : Room) (va_Pc [.ref (g 10), .int b, .int v] (wPre E o g x y)) (va_Qi (fun (r : Int32) (_ : Unit) => r = (mp_ask y b v).1) (fun (_ : Unit) t => wHS E o g x (mp_ask y b v).2 t.heap) (wA E)) 0 0 (wA E) := by
  refine Met.ofW (cc := cX5_ask) (maxL := 3) (ret := (some .int)) (by decide) rfl ?_
  intro p e s m args below meth c s₁ B hml hv
  obtain ⟨rfl, hz, hH, hK⟩ := hv
  have hx := B.exec
  have hb := B.bytes
  have hr := B.returns
  have hts := atoms_spec (ws := wsX5_ask) B.pre
  have hown : s.vm.findClass RX5 = some m.cls := findClass_of_methodNamed B.named
  have hlocks := B.notSynchronized
  have hS : va_S (wA E) s.heap s.heap [] := va_S.rf
  have hinX5 : ∀ w ∈ wsX50, w ∈ wsX5_ask := fun w h => List.mem_cons_of_mem _ (List.mem_append_left _ (List.mem_append_right _ h))
  have hl := lv_entry ([.ref (g 10), .int b, .int v]) (n := 3) (Nat.le_of_ble_eq_true rfl)
  rw [lg_entry_eq]
  generalize (lg_sl ([.ref (g 10), .int b, .int v]) ++ List.replicate (3 - (lg_sl ([.ref (g 10), .int b, .int v])).length) Slot.unset).toArray = ls at hl ⊢
  have hl : lv_has ls 3 [(0, .ref (g 10)), (1, .int b), (2, .int v)] := hl
  obtain ⟨H, eH⟩ : ∃ z, z = s.heap := ⟨_, rfl⟩
  have hH : wHS E o g x y H := by rw [eH]; exact hH
  have hS : va_S (wA E) s.heap H [] := by rw [eH]; exact hS
  refine W.heapTo eH ?_
  obtain ⟨hm0, hm1, hm7, hm8, hm5, hm6, hm9, hm12, hm11⟩ := id hI
  refine lv_aload_n hx hb dX5_ask_0 rfl (lv_at hl 0 rfl) ?_
  refine lv_aload_n hx hb dX5_ask_1 rfl (lv_at hl 0 rfl) ?_
  refine lv_iload_n hx hb dX5_ask_2 rfl (lv_at hl 1 rfl) ?_
  refine va_calli (va_runV (As := [.int b]) (rest := [.ref (g 10)]) ⟨hx, hb, hml, hown, hts⟩ (met_X5_isBox l E o g x y b (show (y.1 1 0) ≤ 100 by omega)) (cwV 1 hts gX5_ask_X5_isBox rfl rfl rfl (by decide +kernel) ⟨Nat.le_of_ble_eq_true rfl, Nat.le_of_ble_eq_true rfl⟩) ⟨fun a U f mk q => ⟨q.1, wPre.calling q.2 a f mk⟩, (va_recv hK (wH_one hH (lv_md (by decide) (by decide)) (cel_md (by omega) (by omega))) (ci := 7) (q0 := 0) rfl rfl), fun U hU hW => ⟨rfl, wPre_at hz hS hH hK U hU hW⟩⟩ rfl rfl hl.1 rfl (lv_room (Nat.le_of_ble_eq_true rfl)) dX5_ask_3 ⟨Nat.le_of_ble_eq_true rfl, Nat.le_of_ble_eq_true rfl⟩) hS (fun q _ h => h) (fun q h => h) (fun r u t H locs ht hvm hw hB hz1 hk1 hS => ?_)
  have hB := wHS_h ht hB
  try dsimp only at hw
  have hH := hB
  rcases hw with ⟨rfl, c1⟩ | ⟨rfl, c1⟩
  · have c1 : inB b (y.1 1 0) = true := c1
    obtain ⟨jb, hjb, rfl⟩ := inB_t c1 (by omega)
    refine lv_iconst (v := 1) hx hb dX5_ask_6 (by decide) ?_
    refine va_calli (va_runV (As := [.int 1, .int 1]) (rest := []) ⟨hx, hb, hml, hown, hts⟩ (met_X5_no1 l E o g x y 1) (cwV 2 hts gX5_ask_X5_no rfl rfl rfl (by decide +kernel) ⟨Nat.le_of_ble_eq_true rfl, Nat.le_of_ble_eq_true rfl⟩) ⟨fun a U f mk q => ⟨q.1, wPre.calling q.2 a f mk⟩, (va_recv hK (wH_one hH (lv_md (by decide) (by decide)) (cel_md (by omega) (by omega))) (ci := 7) (q0 := 0) rfl rfl), fun U hU hW => ⟨rfl, wPre_at hz hS hH hK U hU hW⟩⟩ rfl rfl hl.1 rfl (lv_room (Nat.le_of_ble_eq_true rfl)) dX5_ask_7 ⟨Nat.le_of_ble_eq_true rfl, Nat.le_of_ble_eq_true rfl⟩) hS (fun q _ h => h) (fun q h => h) (fun r u t H locs ht hvm hw hB hz1 hk1 hS => ?_)
    have hB := wHS_h ht hB
    try dsimp only at hw
    obtain rfl := hw
    have hH := hB
    refine lv_if_ne (tgt := 57) hx hb dX5_ask_10 (by decide) (fun hq => absurd (show (0 : Int32) = 0 by decide) hq) (fun _ => ?_)
    refine lv_aload_n hx hb dX5_ask_13 rfl (lv_at hl 0 rfl) ?_
    refine lv_iload_n hx hb dX5_ask_14 rfl (lv_at hl 2 rfl) ?_
    refine lv_iconst (v := 0) hx hb dX5_ask_15 (by decide) ?_
    refine lv_bipush (v := 99) hx hb dX5_ask_16 (by decide) ?_
    refine va_calli (va_runS (As := [.int v, .int 0, .int 99]) (rest := [.ref (g 10)]) ⟨hx, hb, hml, hown, hts⟩ (met_X5_isIn l E o g x (uI y 28 0 0) v 0 99) (va_cwS 3 hts gX5_ask_X5_isIn rfl rfl rfl (by decide +kernel) ⟨Nat.le_of_ble_eq_true rfl, Nat.le_of_ble_eq_true rfl⟩) ⟨fun a U f mk q => ⟨q.1, wPre.calling q.2 a f mk⟩, fun U hU hW => ⟨rfl, wPre_at hz hS hH hK U hU hW⟩⟩ rfl rfl hl.1 rfl (lv_room (Nat.le_of_ble_eq_true rfl)) dX5_ask_18 ⟨Nat.le_of_ble_eq_true rfl, Nat.le_of_ble_eq_true rfl⟩) hS (fun q _ h => h) (fun q h => h) (fun r u t H locs ht hvm hw hB hz1 hk1 hS => ?_)
    have hB := wHS_h ht hB
    try dsimp only at hw
    have hH := hB
    rcases hw with ⟨rfl, c2⟩ | ⟨rfl, c2⟩
    · obtain ⟨jv, hjv, rfl⟩ := in_nat (n := 99) (by decide) c2
      refine lv_iconst (v := 2) hx hb dX5_ask_21 (by decide) ?_
      refine va_calli (va_runV (As := [.int 1, .int 2]) (rest := []) ⟨hx, hb, hml, hown, hts⟩ (met_X5_no1 l E o g x (uI y 28 0 0) 2) (cwV 2 hts gX5_ask_X5_no rfl rfl rfl (by decide +kernel) ⟨Nat.le_of_ble_eq_true rfl, Nat.le_of_ble_eq_true rfl⟩) ⟨fun a U f mk q => ⟨q.1, wPre.calling q.2 a f mk⟩, (va_recv hK (wH_one hH (lv_md (by decide) (by decide)) (cel_md (by omega) (by omega))) (ci := 7) (q0 := 0) rfl rfl), fun U hU hW => ⟨rfl, wPre_at hz hS hH hK U hU hW⟩⟩ rfl rfl hl.1 rfl (lv_room (Nat.le_of_ble_eq_true rfl)) dX5_ask_22 ⟨Nat.le_of_ble_eq_true rfl, Nat.le_of_ble_eq_true rfl⟩) hS (fun q _ h => h) (fun q h => h) (fun r u t H locs ht hvm hw hB hz1 hk1 hS => ?_)
      have hB := wHS_h ht hB
      try dsimp only at hw
      obtain rfl := hw
      have hH := hB
      refine lv_if_ne (tgt := 57) hx hb dX5_ask_25 (by decide) (fun hq => absurd (show (0 : Int32) = 0 by decide) hq) (fun _ => ?_)
      refine lv_aload_n hx hb dX5_ask_28 rfl (lv_at hl 0 rfl) ?_
      refine lv_aload_n hx hb dX5_ask_29 rfl (lv_at hl 0 rfl) ?_
      refine wr_get (T := TX5) (N := 30) (ci := 7) (v := .ref (g 31)) hx hb hts hinX5 hown hK hH (lv_md (by decide) (by decide)) (cel_md (by omega) (by omega)) rfl 22 (by decide) (hts (.fieldLink RX5 71 "SelectoRouteModel" "asked" "[I") (by decide +kernel)) (fun _ h => h) rfl dX5_ask_30 ?_
      refine lv_bipush (v := 100) hx hb dX5_ask_33 (by decide) ?_
      refine lv_iload_n hx hb dX5_ask_35 rfl (lv_at hl 1 rfl) ?_
      refine lv_imul hx hb dX5_ask_36 ?_
      refine lv_tope (pk_mul 100 jb) ?_
      refine lv_iload_n hx hb dX5_ask_37 rfl (lv_at hl 2 rfl) ?_
      refine lv_iadd hx hb dX5_ask_38 ?_
      refine lv_tope (nI_add (100 * jb) jv) ?_
      refine wr_iald (v := (y.2 15 ((100 * jb) + jv))) hx hb hK hH (lv_md (by decide) (by decide)) (cel_md (by decide) (by decide)) 0 rfl (vp_in_nI (n := ((100 * jb) + jv)) (N := 400) (by omega) (by decide)) (by rw [(nI_clamp (n := ((100 * jb) + jv)) (by omega))]; try rfl) dX5_ask_39 ?_
      refine lv_bipush (v := 99) hx hb dX5_ask_40 (by decide) ?_
      refine lv_icmp_ge (tgt := 49) hx hb dX5_ask_42 (by decide) (fun c3 => ?_) (fun c3 => ?_)
      · skip
        refine lv_iconst (v := 0) hx hb dX5_ask_49 (by decide) ?_
        refine lv_iconst (v := 3) hx hb dX5_ask_50 (by decide) ?_
        refine va_calli (va_runV (As := [.int 0, .int 3]) (rest := []) ⟨hx, hb, hml, hown, hts⟩ (met_X5_no0 l E o g x (uI (uI y 28 0 0) 28 0 0) 3) (cwV 2 hts gX5_ask_X5_no rfl rfl rfl (by decide +kernel) ⟨Nat.le_of_ble_eq_true rfl, Nat.le_of_ble_eq_true rfl⟩) ⟨fun a U f mk q => ⟨q.1, wPre.calling q.2 a f mk⟩, (va_recv hK (wH_one hH (lv_md (by decide) (by decide)) (cel_md (by omega) (by omega))) (ci := 7) (q0 := 0) rfl rfl), fun U hU hW => ⟨rfl, wPre_at hz hS hH hK U hU hW⟩⟩ rfl rfl hl.1 rfl (lv_room (Nat.le_of_ble_eq_true rfl)) dX5_ask_51 ⟨Nat.le_of_ble_eq_true rfl, Nat.le_of_ble_eq_true rfl⟩) hS (fun q _ h => h) (fun q h => h) (fun r u t H locs ht hvm hw hB hz1 hk1 hS => ?_)
        have hB := wHS_h ht hB
        try dsimp only at hw
        obtain rfl := hw
        have hH := hB
        refine lv_if_eq (tgt := 59) hx hb dX5_ask_54 (by decide) (fun hq => absurd hq (show ¬ (1 : Int32) = 0 by decide)) (fun _ => ?_)
        refine lv_iconst (v := 0) hx hb dX5_ask_57 (by decide) ?_
        have hsp : mp_ask y (nI jb) (nI jv) = (0, (uI (uI (uI y 28 0 0) 28 0 0) 28 0 3)) := by
          unfold mp_ask
          first | (simp only [c1, c2, c3, inB_nI hjb (by omega), ix_nI (show jb < 2 ^ 31 by omega), inB_nI hjv (by omega), ix_nI (show jv < 2 ^ 31 by omega), ↓reduceIte, and_self, and_true, true_and, Bool.false_eq_true, reduceCtorEq, eq_self, false_and, and_false]; done) | (simp [c1, c2, c3, inB_nI hjb (by omega), ix_nI (show jb < 2 ^ 31 by omega), inB_nI hjv (by omega), ix_nI (show jv < 2 ^ 31 by omega), ↓reduceIte, and_self, and_true, true_and, Bool.false_eq_true, reduceCtorEq, eq_self, false_and, and_false]; done) | simp only [c1, c2, c3, inB_nI hjb (by omega), ix_nI (show jb < 2 ^ 31 by omega), inB_nI hjv (by omega), ix_nI (show jv < 2 ^ 31 by omega), ↓reduceIte, and_self, and_true, true_and, Bool.false_eq_true, reduceCtorEq, eq_self, false_and, and_false]
        exact W.iret (v := 0) hx hb hr (fun t ht hW => ⟨⟨0, (), rfl, (by rw [hsp]), wHS_t ht (by rw [hsp]; exact hH)⟩, hS.F ht⟩) hS.2.2 dX5_ask_58
      · skip
        refine lv_iconst (v := 1) hx hb dX5_ask_45 (by decide) ?_
        refine lv_goto (tgt := 50) hx hb dX5_ask_46 (by decide) ?_
        refine lv_iconst (v := 3) hx hb dX5_ask_50 (by decide) ?_
        refine va_calli (va_runV (As := [.int 1, .int 3]) (rest := []) ⟨hx, hb, hml, hown, hts⟩ (met_X5_no1 l E o g x (uI (uI y 28 0 0) 28 0 0) 3) (cwV 2 hts gX5_ask_X5_no rfl rfl rfl (by decide +kernel) ⟨Nat.le_of_ble_eq_true rfl, Nat.le_of_ble_eq_true rfl⟩) ⟨fun a U f mk q => ⟨q.1, wPre.calling q.2 a f mk⟩, (va_recv hK (wH_one hH (lv_md (by decide) (by decide)) (cel_md (by omega) (by omega))) (ci := 7) (q0 := 0) rfl rfl), fun U hU hW => ⟨rfl, wPre_at hz hS hH hK U hU hW⟩⟩ rfl rfl hl.1 rfl (lv_room (Nat.le_of_ble_eq_true rfl)) dX5_ask_51 ⟨Nat.le_of_ble_eq_true rfl, Nat.le_of_ble_eq_true rfl⟩) hS (fun q _ h => h) (fun q h => h) (fun r u t H locs ht hvm hw hB hz1 hk1 hS => ?_)
        have hB := wHS_h ht hB
        try dsimp only at hw
        obtain rfl := hw
        have hH := hB
        refine lv_if_eq (tgt := 59) hx hb dX5_ask_54 (by decide) (fun _ => ?_) (fun hq => absurd (show (0 : Int32) = 0 by decide) hq)
        refine lv_aload_n hx hb dX5_ask_59 rfl (lv_at hl 0 rfl) ?_
        refine wr_get (T := TX5) (N := 30) (ci := 7) (v := .ref (g 31)) hx hb hts hinX5 hown hK hH (lv_md (by decide) (by decide)) (cel_md (by omega) (by omega)) rfl 22 (by decide) (hts (.fieldLink RX5 71 "SelectoRouteModel" "asked" "[I") (by decide +kernel)) (fun _ h => h) rfl dX5_ask_60 ?_
        refine lv_bipush (v := 100) hx hb dX5_ask_63 (by decide) ?_
        refine lv_iload_n hx hb dX5_ask_65 rfl (lv_at hl 1 rfl) ?_
        refine lv_imul hx hb dX5_ask_66 ?_
        refine lv_tope (pk_mul 100 jb) ?_
        refine lv_iload_n hx hb dX5_ask_67 rfl (lv_at hl 2 rfl) ?_
        refine lv_iadd hx hb dX5_ask_68 ?_
        refine lv_tope (nI_add (100 * jb) jv) ?_
        refine lv_dup2_11 hx hb dX5_ask_69 rfl rfl ?_
        refine wr_iald (v := (y.2 15 ((100 * jb) + jv))) hx hb hK hH (lv_md (by decide) (by decide)) (cel_md (by decide) (by decide)) 0 rfl (vp_in_nI (n := ((100 * jb) + jv)) (N := 400) (by omega) (by decide)) (by rw [(nI_clamp (n := ((100 * jb) + jv)) (by omega))]; try rfl) dX5_ask_70 ?_
        refine lv_iconst (v := 1) hx hb dX5_ask_71 (by decide) ?_
        refine lv_iadd hx hb dX5_ask_72 ?_
        refine lv_topi (fun v4 ev4 => ?_)
        refine wr_iast hx hb hK hH hS (lv_md (by decide) (by decide)) (cel_md (by decide) (by decide)) 0 rfl (vp_in_nI (n := ((100 * jb) + jv)) (N := 400) (by omega) (by decide)) dX5_ask_73 (fun H locs hH hS => ?_)
        have hH : wHS E o g x (uI (uI (uI (uI y 28 0 0) 28 0 0) 28 0 0) 15 ((100 * jb) + jv) v4) H := pa_asked (v := v4) (nI_clamp (n := ((100 * jb) + jv)) (by omega)) hH
        refine lv_aload_n hx hb dX5_ask_74 rfl (lv_at hl 0 rfl) ?_
        refine wr_get (T := TX5) (N := 30) (ci := 7) (v := .ref (g 31)) hx hb hts hinX5 hown hK hH (lv_md (by decide) (by decide)) (cel_md (by omega) (by omega)) rfl 22 (by decide) (hts (.fieldLink RX5 71 "SelectoRouteModel" "asked" "[I") (by decide +kernel)) (fun _ h => h) rfl dX5_ask_75 ?_
        refine lv_bipush (v := 100) hx hb dX5_ask_78 (by decide) ?_
        refine lv_iload_n hx hb dX5_ask_80 rfl (lv_at hl 1 rfl) ?_
        refine lv_imul hx hb dX5_ask_81 ?_
        refine lv_tope (pk_mul 100 jb) ?_
        refine lv_iload_n hx hb dX5_ask_82 rfl (lv_at hl 2 rfl) ?_
        refine lv_iadd hx hb dX5_ask_83 ?_
        refine lv_tope (nI_add (100 * jb) jv) ?_
        refine wr_iald (v := v4) hx hb hK hH (lv_md (by decide) (by decide)) (cel_md (by decide) (by decide)) 0 rfl (vp_in_nI (n := ((100 * jb) + jv)) (N := 400) (by omega) (by decide)) (by rw [(nI_clamp (n := ((100 * jb) + jv)) (by omega))]; try simp [uI, uN, va_up]) dX5_ask_84 ?_
        subst ev4
        have hsp : mp_ask y (nI jb) (nI jv) = (((y.2 15 ((100 * jb) + jv)) + 1), (uI (uI (uI (uI y 28 0 0) 28 0 0) 28 0 0) 15 ((100 * jb) + jv) ((y.2 15 ((100 * jb) + jv)) + 1))) := by
          unfold mp_ask
          first | (simp only [c1, c2, c3, inB_nI hjb (by omega), ix_nI (show jb < 2 ^ 31 by omega), inB_nI hjv (by omega), ix_nI (show jv < 2 ^ 31 by omega), ↓reduceIte, and_self, and_true, true_and, Bool.false_eq_true, reduceCtorEq, eq_self, false_and, and_false]; done) | (simp [c1, c2, c3, inB_nI hjb (by omega), ix_nI (show jb < 2 ^ 31 by omega), inB_nI hjv (by omega), ix_nI (show jv < 2 ^ 31 by omega), ↓reduceIte, and_self, and_true, true_and, Bool.false_eq_true, reduceCtorEq, eq_self, false_and, and_false]; done) | simp only [c1, c2, c3, inB_nI hjb (by omega), ix_nI (show jb < 2 ^ 31 by omega), inB_nI hjv (by omega), ix_nI (show jv < 2 ^ 31 by omega), ↓reduceIte, and_self, and_true, true_and, Bool.false_eq_true, reduceCtorEq, eq_self, false_and, and_false]
        exact W.iret (v := ((y.2 15 ((100 * jb) + jv)) + 1)) hx hb hr (fun t ht hW => ⟨⟨((y.2 15 ((100 * jb) + jv)) + 1), (), rfl, (by rw [hsp]), wHS_t ht (by rw [hsp]; exact hH)⟩, hS.F ht⟩) hS.2.2 dX5_ask_85
    · skip
      refine lv_iconst (v := 2) hx hb dX5_ask_21 (by decide) ?_
      refine va_calli (va_runV (As := [.int 0, .int 2]) (rest := []) ⟨hx, hb, hml, hown, hts⟩ (met_X5_no0 l E o g x (uI y 28 0 0) 2) (cwV 2 hts gX5_ask_X5_no rfl rfl rfl (by decide +kernel) ⟨Nat.le_of_ble_eq_true rfl, Nat.le_of_ble_eq_true rfl⟩) ⟨fun a U f mk q => ⟨q.1, wPre.calling q.2 a f mk⟩, (va_recv hK (wH_one hH (lv_md (by decide) (by decide)) (cel_md (by omega) (by omega))) (ci := 7) (q0 := 0) rfl rfl), fun U hU hW => ⟨rfl, wPre_at hz hS hH hK U hU hW⟩⟩ rfl rfl hl.1 rfl (lv_room (Nat.le_of_ble_eq_true rfl)) dX5_ask_22 ⟨Nat.le_of_ble_eq_true rfl, Nat.le_of_ble_eq_true rfl⟩) hS (fun q _ h => h) (fun q h => h) (fun r u t H locs ht hvm hw hB hz1 hk1 hS => ?_)
      have hB := wHS_h ht hB
      try dsimp only at hw
      obtain rfl := hw
      have hH := hB
      refine lv_if_ne (tgt := 57) hx hb dX5_ask_25 (by decide) (fun _ => ?_) (fun hq => absurd hq (show ¬ (1 : Int32) = 0 by decide))
      refine lv_iconst (v := 0) hx hb dX5_ask_57 (by decide) ?_
      have hsp : mp_ask y (nI jb) v = (0, (uI (uI y 28 0 0) 28 0 2)) := by
        unfold mp_ask
        first | (simp only [c1, c2, inB_nI hjb (by omega), ix_nI (show jb < 2 ^ 31 by omega), ↓reduceIte, and_self, and_true, true_and, Bool.false_eq_true, reduceCtorEq, eq_self, false_and, and_false]; done) | (simp [c1, c2, inB_nI hjb (by omega), ix_nI (show jb < 2 ^ 31 by omega), ↓reduceIte, and_self, and_true, true_and, Bool.false_eq_true, reduceCtorEq, eq_self, false_and, and_false]; done) | simp only [c1, c2, inB_nI hjb (by omega), ix_nI (show jb < 2 ^ 31 by omega), ↓reduceIte, and_self, and_true, true_and, Bool.false_eq_true, reduceCtorEq, eq_self, false_and, and_false]
      exact W.iret (v := 0) hx hb hr (fun t ht hW => ⟨⟨0, (), rfl, (by rw [hsp]), wHS_t ht (by rw [hsp]; exact hH)⟩, hS.F ht⟩) hS.2.2 dX5_ask_58
  · have c1 : inB b (y.1 1 0) = false := c1
    refine lv_iconst (v := 1) hx hb dX5_ask_6 (by decide) ?_
    refine va_calli (va_runV (As := [.int 0, .int 1]) (rest := []) ⟨hx, hb, hml, hown, hts⟩ (met_X5_no0 l E o g x y 1) (cwV 2 hts gX5_ask_X5_no rfl rfl rfl (by decide +kernel) ⟨Nat.le_of_ble_eq_true rfl, Nat.le_of_ble_eq_true rfl⟩) ⟨fun a U f mk q => ⟨q.1, wPre.calling q.2 a f mk⟩, (va_recv hK (wH_one hH (lv_md (by decide) (by decide)) (cel_md (by omega) (by omega))) (ci := 7) (q0 := 0) rfl rfl), fun U hU hW => ⟨rfl, wPre_at hz hS hH hK U hU hW⟩⟩ rfl rfl hl.1 rfl (lv_room (Nat.le_of_ble_eq_true rfl)) dX5_ask_7 ⟨Nat.le_of_ble_eq_true rfl, Nat.le_of_ble_eq_true rfl⟩) hS (fun q _ h => h) (fun q h => h) (fun r u t H locs ht hvm hw hB hz1 hk1 hS => ?_)
    have hB := wHS_h ht hB
    try dsimp only at hw
    obtain rfl := hw
    have hH := hB
    refine lv_if_ne (tgt := 57) hx hb dX5_ask_10 (by decide) (fun _ => ?_) (fun hq => absurd hq (show ¬ (1 : Int32) = 0 by decide))
    refine lv_iconst (v := 0) hx hb dX5_ask_57 (by decide) ?_
    have hsp : mp_ask y b v = (0, (uI y 28 0 1)) := by
      unfold mp_ask
      first | (simp only [(Bool.eq_false_iff.mp c1), ↓reduceIte, and_self, and_true, true_and, Bool.false_eq_true, reduceCtorEq, eq_self, false_and, and_false]; done) | (simp [(Bool.eq_false_iff.mp c1), ↓reduceIte, and_self, and_true, true_and, Bool.false_eq_true, reduceCtorEq, eq_self, false_and, and_false]; done) | simp only [(Bool.eq_false_iff.mp c1), ↓reduceIte, and_self, and_true, true_and, Bool.false_eq_true, reduceCtorEq, eq_self, false_and, and_false]
    exact W.iret (v := 0) hx hb hr (fun t ht hW => ⟨⟨0, (), rfl, (by rw [hsp]), wHS_t ht (by rw [hsp]; exact hH)⟩, hS.F ht⟩) hS.2.2 dX5_ask_58
def mp_changeNeedle (y : St) (b : Int32) : Int32 × St := if inB b (y.1 1 0) = true then (if (y.1 11 (ix b)) = 0 then (0, (uI (uI y 28 0 0) 28 0 2)) else (if (y.2 17 0) < 5 then (0, (uI (uI y 28 0 0) 28 0 2)) else ((y.2 9 (ix b)), (uI (uI (uI (uI y 28 0 0) 28 0 0) 17 0 ((y.2 17 0) - 5)) 9 (ix b) 0)))) else (0, (uI y 28 0 1))
set_option maxHeartbeats 4000000 in
set_option maxRecDepth 100000 in
theorem met_X5_changeNeedle (l : Launch) (E : wE) (o : wO) (g : Nat → Nat) (x y : St) (b : Int32) (hI : MI y) : Met l yX5_changeNeedle wsX5_changeNeedle ({ frames := 3, cells := 0, slots := 0, locals := 300 } : Room) (va_Pc [.ref (g 10), .int b] (wPre E o g x y)) (va_Qi (fun (r : Int32) (_ : Unit) => r = (mp_changeNeedle y b).1) (fun (_ : Unit) t => wHS E o g x (mp_changeNeedle y b).2 t.heap) (wA E)) 0 0 (wA E) := by
  refine Met.ofW (cc := cX5_changeNeedle) (maxL := 3) (ret := (some .int)) (by decide) rfl ?_
  intro p e s m args below meth c s₁ B hml hv
  obtain ⟨rfl, hz, hH, hK⟩ := hv
  have hx := B.exec
  have hb := B.bytes
  have hr := B.returns
  have hts := atoms_spec (ws := wsX5_changeNeedle) B.pre
  have hown : s.vm.findClass RX5 = some m.cls := findClass_of_methodNamed B.named
  have hlocks := B.notSynchronized
  have hS : va_S (wA E) s.heap s.heap [] := va_S.rf
  have hinX5 : ∀ w ∈ wsX50, w ∈ wsX5_changeNeedle := fun w h => List.mem_cons_of_mem _ (List.mem_append_left _ (List.mem_append_right _ h))
  have hl := lv_entry ([.ref (g 10), .int b]) (n := 3) (Nat.le_of_ble_eq_true rfl)
  rw [lg_entry_eq]
  generalize (lg_sl ([.ref (g 10), .int b]) ++ List.replicate (3 - (lg_sl ([.ref (g 10), .int b])).length) Slot.unset).toArray = ls at hl ⊢
  have hl : lv_has ls 3 [(0, .ref (g 10)), (1, .int b)] := hl
  obtain ⟨H, eH⟩ : ∃ z, z = s.heap := ⟨_, rfl⟩
  have hH : wHS E o g x y H := by rw [eH]; exact hH
  have hS : va_S (wA E) s.heap H [] := by rw [eH]; exact hS
  refine W.heapTo eH ?_
  obtain ⟨hm0, hm1, hm7, hm8, hm5, hm6, hm9, hm12, hm11⟩ := id hI
  refine lv_aload_n hx hb dX5_changeNeedle_0 rfl (lv_at hl 0 rfl) ?_
  refine lv_aload_n hx hb dX5_changeNeedle_1 rfl (lv_at hl 0 rfl) ?_
  refine lv_iload_n hx hb dX5_changeNeedle_2 rfl (lv_at hl 1 rfl) ?_
  refine va_calli (va_runV (As := [.int b]) (rest := [.ref (g 10)]) ⟨hx, hb, hml, hown, hts⟩ (met_X5_isBox l E o g x y b (show (y.1 1 0) ≤ 100 by omega)) (cwV 1 hts gX5_changeNeedle_X5_isBox rfl rfl rfl (by decide +kernel) ⟨Nat.le_of_ble_eq_true rfl, Nat.le_of_ble_eq_true rfl⟩) ⟨fun a U f mk q => ⟨q.1, wPre.calling q.2 a f mk⟩, (va_recv hK (wH_one hH (lv_md (by decide) (by decide)) (cel_md (by omega) (by omega))) (ci := 7) (q0 := 0) rfl rfl), fun U hU hW => ⟨rfl, wPre_at hz hS hH hK U hU hW⟩⟩ rfl rfl hl.1 rfl (lv_room (Nat.le_of_ble_eq_true rfl)) dX5_changeNeedle_3 ⟨Nat.le_of_ble_eq_true rfl, Nat.le_of_ble_eq_true rfl⟩) hS (fun q _ h => h) (fun q h => h) (fun r u t H locs ht hvm hw hB hz1 hk1 hS => ?_)
  have hB := wHS_h ht hB
  try dsimp only at hw
  have hH := hB
  rcases hw with ⟨rfl, c1⟩ | ⟨rfl, c1⟩
  · have c1 : inB b (y.1 1 0) = true := c1
    obtain ⟨jb, hjb, rfl⟩ := inB_t c1 (by omega)
    refine lv_iconst (v := 1) hx hb dX5_changeNeedle_6 (by decide) ?_
    refine va_calli (va_runV (As := [.int 1, .int 1]) (rest := []) ⟨hx, hb, hml, hown, hts⟩ (met_X5_no1 l E o g x y 1) (cwV 2 hts gX5_changeNeedle_X5_no rfl rfl rfl (by decide +kernel) ⟨Nat.le_of_ble_eq_true rfl, Nat.le_of_ble_eq_true rfl⟩) ⟨fun a U f mk q => ⟨q.1, wPre.calling q.2 a f mk⟩, (va_recv hK (wH_one hH (lv_md (by decide) (by decide)) (cel_md (by omega) (by omega))) (ci := 7) (q0 := 0) rfl rfl), fun U hU hW => ⟨rfl, wPre_at hz hS hH hK U hU hW⟩⟩ rfl rfl hl.1 rfl (lv_room (Nat.le_of_ble_eq_true rfl)) dX5_changeNeedle_7 ⟨Nat.le_of_ble_eq_true rfl, Nat.le_of_ble_eq_true rfl⟩) hS (fun q _ h => h) (fun q h => h) (fun r u t H locs ht hvm hw hB hz1 hk1 hS => ?_)
    have hB := wHS_h ht hB
    try dsimp only at hw
    obtain rfl := hw
    have hH := hB
    refine lv_if_ne (tgt := 43) hx hb dX5_changeNeedle_10 (by decide) (fun hq => absurd (show (0 : Int32) = 0 by decide) hq) (fun _ => ?_)
    refine lv_aload_n hx hb dX5_changeNeedle_13 rfl (lv_at hl 0 rfl) ?_
    refine lv_aload_n hx hb dX5_changeNeedle_14 rfl (lv_at hl 0 rfl) ?_
    refine wr_get (T := TX5) (N := 30) (ci := 7) (v := .ref (g 28)) hx hb hts hinX5 hown hK hH (lv_md (by decide) (by decide)) (cel_md (by omega) (by omega)) rfl 18 (by decide) (hts (.fieldLink RX5 62 "SelectoRouteModel" "visited" "[Z") (by decide +kernel)) (fun _ h => h) rfl dX5_changeNeedle_15 ?_
    refine lv_iload_n hx hb dX5_changeNeedle_18 rfl (lv_at hl 1 rfl) ?_
    refine wr_zald (v := nI (y.1 11 jb)) hx hb hK hH (lv_md (by decide) (by decide)) (cel_md (by decide) (by decide)) 1 rfl (vp_in_nI (n := jb) (N := 4) (by omega) (by decide)) (by rw [(nI_clamp (n := jb) (by omega))]; try rfl) dX5_changeNeedle_19 ?_
    refine lv_if_eq (tgt := 35) hx hb dX5_changeNeedle_20 (by decide) (fun c2 => ?_) (fun c2 => ?_)
    · have c2 := (nI_eq (a := (y.1 11 jb)) (b := 0) (by have q0 := hm11 jb; omega) (by omega)).mp c2
      refine lv_iconst (v := 0) hx hb dX5_changeNeedle_35 (by decide) ?_
      refine lv_iconst (v := 2) hx hb dX5_changeNeedle_36 (by decide) ?_
      refine va_calli (va_runV (As := [.int 0, .int 2]) (rest := []) ⟨hx, hb, hml, hown, hts⟩ (met_X5_no0 l E o g x (uI y 28 0 0) 2) (cwV 2 hts gX5_changeNeedle_X5_no rfl rfl rfl (by decide +kernel) ⟨Nat.le_of_ble_eq_true rfl, Nat.le_of_ble_eq_true rfl⟩) ⟨fun a U f mk q => ⟨q.1, wPre.calling q.2 a f mk⟩, (va_recv hK (wH_one hH (lv_md (by decide) (by decide)) (cel_md (by omega) (by omega))) (ci := 7) (q0 := 0) rfl rfl), fun U hU hW => ⟨rfl, wPre_at hz hS hH hK U hU hW⟩⟩ rfl rfl hl.1 rfl (lv_room (Nat.le_of_ble_eq_true rfl)) dX5_changeNeedle_37 ⟨Nat.le_of_ble_eq_true rfl, Nat.le_of_ble_eq_true rfl⟩) hS (fun q _ h => h) (fun q h => h) (fun r u t H locs ht hvm hw hB hz1 hk1 hS => ?_)
      have hB := wHS_h ht hB
      try dsimp only at hw
      obtain rfl := hw
      have hH := hB
      refine lv_if_eq (tgt := 45) hx hb dX5_changeNeedle_40 (by decide) (fun hq => absurd hq (show ¬ (1 : Int32) = 0 by decide)) (fun _ => ?_)
      refine lv_iconst (v := 0) hx hb dX5_changeNeedle_43 (by decide) ?_
      have hsp : mp_changeNeedle y (nI jb) = (0, (uI (uI y 28 0 0) 28 0 2)) := by
        unfold mp_changeNeedle
        first | (simp only [c1, c2, inB_nI hjb (by omega), ix_nI (show jb < 2 ^ 31 by omega), ↓reduceIte, and_self, and_true, true_and, Bool.false_eq_true, reduceCtorEq, eq_self, false_and, and_false]; done) | (simp [c1, c2, inB_nI hjb (by omega), ix_nI (show jb < 2 ^ 31 by omega), ↓reduceIte, and_self, and_true, true_and, Bool.false_eq_true, reduceCtorEq, eq_self, false_and, and_false]; done) | simp only [c1, c2, inB_nI hjb (by omega), ix_nI (show jb < 2 ^ 31 by omega), ↓reduceIte, and_self, and_true, true_and, Bool.false_eq_true, reduceCtorEq, eq_self, false_and, and_false]
      exact W.iret (v := 0) hx hb hr (fun t ht hW => ⟨⟨0, (), rfl, (by rw [hsp]), wHS_t ht (by rw [hsp]; exact hH)⟩, hS.F ht⟩) hS.2.2 dX5_changeNeedle_44
    · have c2 : ¬ ((y.1 11 jb) = 0) := fun hq => c2 ((nI_eq (a := (y.1 11 jb)) (b := 0) (by have q0 := hm11 jb; omega) (by omega)).mpr hq)
      refine lv_aload_n hx hb dX5_changeNeedle_23 rfl (lv_at hl 0 rfl) ?_
      refine wr_get (T := TX5) (N := 30) (ci := 7) (v := .int (y.2 17 0)) hx hb hts hinX5 hown hK hH (lv_md (by decide) (by decide)) (cel_md (by omega) (by omega)) rfl 27 (by decide) (hts (.fieldLink RX5 84 "SelectoRouteModel" "minutes" "I") (by decide +kernel)) (fun _ h => h) rfl dX5_changeNeedle_24 ?_
      refine lv_iconst (v := 5) hx hb dX5_changeNeedle_27 (by decide) ?_
      refine lv_icmp_lt (tgt := 35) hx hb dX5_changeNeedle_28 (by decide) (fun c3 => ?_) (fun c3 => ?_)
      · skip
        refine lv_iconst (v := 0) hx hb dX5_changeNeedle_35 (by decide) ?_
        refine lv_iconst (v := 2) hx hb dX5_changeNeedle_36 (by decide) ?_
        refine va_calli (va_runV (As := [.int 0, .int 2]) (rest := []) ⟨hx, hb, hml, hown, hts⟩ (met_X5_no0 l E o g x (uI y 28 0 0) 2) (cwV 2 hts gX5_changeNeedle_X5_no rfl rfl rfl (by decide +kernel) ⟨Nat.le_of_ble_eq_true rfl, Nat.le_of_ble_eq_true rfl⟩) ⟨fun a U f mk q => ⟨q.1, wPre.calling q.2 a f mk⟩, (va_recv hK (wH_one hH (lv_md (by decide) (by decide)) (cel_md (by omega) (by omega))) (ci := 7) (q0 := 0) rfl rfl), fun U hU hW => ⟨rfl, wPre_at hz hS hH hK U hU hW⟩⟩ rfl rfl hl.1 rfl (lv_room (Nat.le_of_ble_eq_true rfl)) dX5_changeNeedle_37 ⟨Nat.le_of_ble_eq_true rfl, Nat.le_of_ble_eq_true rfl⟩) hS (fun q _ h => h) (fun q h => h) (fun r u t H locs ht hvm hw hB hz1 hk1 hS => ?_)
        have hB := wHS_h ht hB
        try dsimp only at hw
        obtain rfl := hw
        have hH := hB
        refine lv_if_eq (tgt := 45) hx hb dX5_changeNeedle_40 (by decide) (fun hq => absurd hq (show ¬ (1 : Int32) = 0 by decide)) (fun _ => ?_)
        refine lv_iconst (v := 0) hx hb dX5_changeNeedle_43 (by decide) ?_
        have hsp : mp_changeNeedle y (nI jb) = (0, (uI (uI y 28 0 0) 28 0 2)) := by
          unfold mp_changeNeedle
          first | (simp only [c1, c2, c3, inB_nI hjb (by omega), ix_nI (show jb < 2 ^ 31 by omega), ↓reduceIte, and_self, and_true, true_and, Bool.false_eq_true, reduceCtorEq, eq_self, false_and, and_false]; done) | (simp [c1, c2, c3, inB_nI hjb (by omega), ix_nI (show jb < 2 ^ 31 by omega), ↓reduceIte, and_self, and_true, true_and, Bool.false_eq_true, reduceCtorEq, eq_self, false_and, and_false]; done) | simp only [c1, c2, c3, inB_nI hjb (by omega), ix_nI (show jb < 2 ^ 31 by omega), ↓reduceIte, and_self, and_true, true_and, Bool.false_eq_true, reduceCtorEq, eq_self, false_and, and_false]
        exact W.iret (v := 0) hx hb hr (fun t ht hW => ⟨⟨0, (), rfl, (by rw [hsp]), wHS_t ht (by rw [hsp]; exact hH)⟩, hS.F ht⟩) hS.2.2 dX5_changeNeedle_44
      · skip
        refine lv_iconst (v := 1) hx hb dX5_changeNeedle_31 (by decide) ?_
        refine lv_goto (tgt := 36) hx hb dX5_changeNeedle_32 (by decide) ?_
        refine lv_iconst (v := 2) hx hb dX5_changeNeedle_36 (by decide) ?_
        refine va_calli (va_runV (As := [.int 1, .int 2]) (rest := []) ⟨hx, hb, hml, hown, hts⟩ (met_X5_no1 l E o g x (uI y 28 0 0) 2) (cwV 2 hts gX5_changeNeedle_X5_no rfl rfl rfl (by decide +kernel) ⟨Nat.le_of_ble_eq_true rfl, Nat.le_of_ble_eq_true rfl⟩) ⟨fun a U f mk q => ⟨q.1, wPre.calling q.2 a f mk⟩, (va_recv hK (wH_one hH (lv_md (by decide) (by decide)) (cel_md (by omega) (by omega))) (ci := 7) (q0 := 0) rfl rfl), fun U hU hW => ⟨rfl, wPre_at hz hS hH hK U hU hW⟩⟩ rfl rfl hl.1 rfl (lv_room (Nat.le_of_ble_eq_true rfl)) dX5_changeNeedle_37 ⟨Nat.le_of_ble_eq_true rfl, Nat.le_of_ble_eq_true rfl⟩) hS (fun q _ h => h) (fun q h => h) (fun r u t H locs ht hvm hw hB hz1 hk1 hS => ?_)
        have hB := wHS_h ht hB
        try dsimp only at hw
        obtain rfl := hw
        have hH := hB
        refine lv_if_eq (tgt := 45) hx hb dX5_changeNeedle_40 (by decide) (fun _ => ?_) (fun hq => absurd (show (0 : Int32) = 0 by decide) hq)
        refine lv_aload_n hx hb dX5_changeNeedle_45 rfl (lv_at hl 0 rfl) ?_
        refine wr_get (T := TX5) (N := 30) (ci := 7) (v := .ref (g 21)) hx hb hts hinX5 hown hK hH (lv_md (by decide) (by decide)) (cel_md (by omega) (by omega)) rfl 11 (by decide) (hts (.fieldLink RX5 40 "SelectoRouteModel" "needle" "[I") (by decide +kernel)) (fun _ h => h) rfl dX5_changeNeedle_46 ?_
        refine lv_iload_n hx hb dX5_changeNeedle_49 rfl (lv_at hl 1 rfl) ?_
        refine wr_iald (v := (y.2 9 jb)) hx hb hK hH (lv_md (by decide) (by decide)) (cel_md (by decide) (by decide)) 0 rfl (vp_in_nI (n := jb) (N := 4) (by omega) (by decide)) (by rw [(nI_clamp (n := jb) (by omega))]; try rfl) dX5_changeNeedle_50 ?_
        refine lv_istore_n (lv' := [(2, .int (y.2 9 jb)), (0, .ref (g 10)), (1, .int (nI jb))]) hx hb dX5_changeNeedle_51 rfl hl (by decide) rfl (fun ls hl => ?_)
        refine lv_aload_n hx hb dX5_changeNeedle_52 rfl (lv_at hl 1 rfl) ?_
        refine lv_dup hx hb dX5_changeNeedle_53 rfl ?_
        refine wr_get (T := TX5) (N := 30) (ci := 7) (v := .int (y.2 17 0)) hx hb hts hinX5 hown hK hH (lv_md (by decide) (by decide)) (cel_md (by omega) (by omega)) rfl 27 (by decide) (hts (.fieldLink RX5 84 "SelectoRouteModel" "minutes" "I") (by decide +kernel)) (fun _ h => h) rfl dX5_changeNeedle_54 ?_
        refine lv_iconst (v := 5) hx hb dX5_changeNeedle_57 (by decide) ?_
        refine lv_isub hx hb dX5_changeNeedle_58 ?_
        refine lv_topi (fun v4 ev4 => ?_)
        refine wr_put (T := TX5) (N := 30) (ci := 7) (v := .int v4) hx hb hts hinX5 tyX5 tyX5_ok nmX5 hown hK hH hS (lv_md (by decide) (by decide)) (cel_md (by omega) (by omega)) rfl 27 (by decide) (hts (.fieldLink RX5 84 "SelectoRouteModel" "minutes" "I") (by decide +kernel)) (fun _ h => h) rfl (ty := .int) (by decide +kernel) rfl rfl (Nat.le_of_ble_eq_true rfl) dX5_changeNeedle_59 (fun H locs hH hS => ?_)
        have hH : wHS E o g x (uI (uI (uI y 28 0 0) 28 0 0) 17 0 v4) H := pm_minutes hH
        refine lv_aload_n hx hb dX5_changeNeedle_62 rfl (lv_at hl 1 rfl) ?_
        refine wr_get (T := TX5) (N := 30) (ci := 7) (v := .ref (g 21)) hx hb hts hinX5 hown hK hH (lv_md (by decide) (by decide)) (cel_md (by omega) (by omega)) rfl 11 (by decide) (hts (.fieldLink RX5 40 "SelectoRouteModel" "needle" "[I") (by decide +kernel)) (fun _ h => h) rfl dX5_changeNeedle_63 ?_
        refine lv_iload_n hx hb dX5_changeNeedle_66 rfl (lv_at hl 2 rfl) ?_
        refine lv_iconst (v := 0) hx hb dX5_changeNeedle_67 (by decide) ?_
        refine wr_iast hx hb hK hH hS (lv_md (by decide) (by decide)) (cel_md (by decide) (by decide)) 0 rfl (vp_in_nI (n := jb) (N := 4) (by omega) (by decide)) dX5_changeNeedle_68 (fun H locs hH hS => ?_)
        have hH : wHS E o g x (uI (uI (uI (uI y 28 0 0) 28 0 0) 17 0 v4) 9 jb 0) H := pa_needle (v := 0) (nI_clamp (n := jb) (by omega)) hH
        refine lv_iload_n hx hb dX5_changeNeedle_69 rfl (lv_at hl 0 rfl) ?_
        subst ev4
        have hsp : mp_changeNeedle y (nI jb) = ((y.2 9 jb), (uI (uI (uI (uI y 28 0 0) 28 0 0) 17 0 ((y.2 17 0) - 5)) 9 jb 0)) := by
          unfold mp_changeNeedle
          first | (simp only [c1, c2, c3, inB_nI hjb (by omega), ix_nI (show jb < 2 ^ 31 by omega), ↓reduceIte, and_self, and_true, true_and, Bool.false_eq_true, reduceCtorEq, eq_self, false_and, and_false]; done) | (simp [c1, c2, c3, inB_nI hjb (by omega), ix_nI (show jb < 2 ^ 31 by omega), ↓reduceIte, and_self, and_true, true_and, Bool.false_eq_true, reduceCtorEq, eq_self, false_and, and_false]; done) | simp only [c1, c2, c3, inB_nI hjb (by omega), ix_nI (show jb < 2 ^ 31 by omega), ↓reduceIte, and_self, and_true, true_and, Bool.false_eq_true, reduceCtorEq, eq_self, false_and, and_false]
        exact W.iret (v := (y.2 9 jb)) hx hb hr (fun t ht hW => ⟨⟨(y.2 9 jb), (), rfl, (by rw [hsp]), wHS_t ht (by rw [hsp]; exact hH)⟩, hS.F ht⟩) hS.2.2 dX5_changeNeedle_70
  · have c1 : inB b (y.1 1 0) = false := c1
    refine lv_iconst (v := 1) hx hb dX5_changeNeedle_6 (by decide) ?_
    refine va_calli (va_runV (As := [.int 0, .int 1]) (rest := []) ⟨hx, hb, hml, hown, hts⟩ (met_X5_no0 l E o g x y 1) (cwV 2 hts gX5_changeNeedle_X5_no rfl rfl rfl (by decide +kernel) ⟨Nat.le_of_ble_eq_true rfl, Nat.le_of_ble_eq_true rfl⟩) ⟨fun a U f mk q => ⟨q.1, wPre.calling q.2 a f mk⟩, (va_recv hK (wH_one hH (lv_md (by decide) (by decide)) (cel_md (by omega) (by omega))) (ci := 7) (q0 := 0) rfl rfl), fun U hU hW => ⟨rfl, wPre_at hz hS hH hK U hU hW⟩⟩ rfl rfl hl.1 rfl (lv_room (Nat.le_of_ble_eq_true rfl)) dX5_changeNeedle_7 ⟨Nat.le_of_ble_eq_true rfl, Nat.le_of_ble_eq_true rfl⟩) hS (fun q _ h => h) (fun q h => h) (fun r u t H locs ht hvm hw hB hz1 hk1 hS => ?_)
    have hB := wHS_h ht hB
    try dsimp only at hw
    obtain rfl := hw
    have hH := hB
    refine lv_if_ne (tgt := 43) hx hb dX5_changeNeedle_10 (by decide) (fun _ => ?_) (fun hq => absurd hq (show ¬ (1 : Int32) = 0 by decide))
    refine lv_iconst (v := 0) hx hb dX5_changeNeedle_43 (by decide) ?_
    have hsp : mp_changeNeedle y b = (0, (uI y 28 0 1)) := by
      unfold mp_changeNeedle
      first | (simp only [(Bool.eq_false_iff.mp c1), ↓reduceIte, and_self, and_true, true_and, Bool.false_eq_true, reduceCtorEq, eq_self, false_and, and_false]; done) | (simp [(Bool.eq_false_iff.mp c1), ↓reduceIte, and_self, and_true, true_and, Bool.false_eq_true, reduceCtorEq, eq_self, false_and, and_false]; done) | simp only [(Bool.eq_false_iff.mp c1), ↓reduceIte, and_self, and_true, true_and, Bool.false_eq_true, reduceCtorEq, eq_self, false_and, and_false]
    exact W.iret (v := 0) hx hb hr (fun t ht hW => ⟨⟨0, (), rfl, (by rw [hsp]), wHS_t ht (by rw [hsp]; exact hH)⟩, hS.F ht⟩) hS.2.2 dX5_changeNeedle_44
def mp_insert (y : St) (b : Int32) (v : Int32) : Int32 × St := if v = 110 then (if inB b (y.1 1 0) = true then (if (y.2 10 (ix b)) = 0 then (if 99 < ((y.2 7 (ix b)) + 1) then (0, (uI (uI (uI (uI y 28 0 0) 28 0 0) 28 0 0) 28 0 4)) else (((y.2 7 (ix b)) + 1), (uI (uI (uI (uI (uI (uI y 28 0 0) 28 0 0) 28 0 0) 28 0 0) 7 (ix b) ((y.2 7 (ix b)) + 1)) 8 (ix b) ((y.2 8 (ix b)) + 5)))) else (0, (uI (uI (uI y 28 0 0) 28 0 0) 28 0 3))) else (0, (uI y 28 0 1))) else (if v = 100 then (if inB b (y.1 1 0) = true then (if (y.2 10 (ix b)) = 0 then (if 99 < ((y.2 7 (ix b)) + 2) then (0, (uI (uI (uI (uI y 28 0 0) 28 0 0) 28 0 0) 28 0 4)) else (((y.2 7 (ix b)) + 2), (uI (uI (uI (uI (uI (uI y 28 0 0) 28 0 0) 28 0 0) 28 0 0) 7 (ix b) ((y.2 7 (ix b)) + 2)) 8 (ix b) ((y.2 8 (ix b)) + 10)))) else (0, (uI (uI (uI y 28 0 0) 28 0 0) 28 0 3))) else (0, (uI y 28 0 1))) else (if v = 113 then (if inB b (y.1 1 0) = true then (if (y.2 10 (ix b)) = 0 then (if 99 < ((y.2 7 (ix b)) + 6) then (0, (uI (uI (uI (uI y 28 0 0) 28 0 0) 28 0 0) 28 0 4)) else (((y.2 7 (ix b)) + 6), (uI (uI (uI (uI (uI (uI y 28 0 0) 28 0 0) 28 0 0) 28 0 0) 7 (ix b) ((y.2 7 (ix b)) + 6)) 8 (ix b) ((y.2 8 (ix b)) + 25)))) else (0, (uI (uI (uI y 28 0 0) 28 0 0) 28 0 3))) else (0, (uI y 28 0 1))) else (if v = 115 then (if inB b (y.1 1 0) = true then (if (y.2 10 (ix b)) = 0 then (if 99 < ((y.2 7 (ix b)) + 6) then (0, (uI (uI (uI (uI y 28 0 0) 28 0 0) 28 0 0) 28 0 4)) else (((y.2 7 (ix b)) + 6), (uI (uI (uI (uI (uI (uI y 28 0 0) 28 0 0) 28 0 0) 28 0 0) 7 (ix b) ((y.2 7 (ix b)) + 6)) 8 (ix b) ((y.2 8 (ix b)) + 0)))) else (0, (uI (uI (uI y 28 0 0) 28 0 0) 28 0 3))) else (0, (uI y 28 0 1))) else (if inB b (y.1 1 0) = true then (0, (uI (uI y 28 0 0) 28 0 2)) else (0, (uI y 28 0 1))))))
set_option maxHeartbeats 4000000 in
set_option maxRecDepth 100000 in
theorem met_X5_insert (l : Launch) (E : wE) (o : wO) (g : Nat → Nat) (x y : St) (b : Int32) (v : Int32) (hI : MI y) : Met l yX5_insert wsX5_insert ({ frames := 3, cells := 0, slots := 0, locals := 300 } : Room) (va_Pc [.ref (g 10), .int b, .int v] (wPre E o g x y)) (va_Qi (fun (r : Int32) (_ : Unit) => r = (mp_insert y b v).1) (fun (_ : Unit) t => wHS E o g x (mp_insert y b v).2 t.heap) (wA E)) 0 0 (wA E) := by
  refine Met.ofW (cc := cX5_insert) (maxL := 4) (ret := (some .int)) (by decide) rfl ?_
  intro p e s m args below meth c s₁ B hml hv
  obtain ⟨rfl, hz, hH, hK⟩ := hv
  have hx := B.exec
  have hb := B.bytes
  have hr := B.returns
  have hts := atoms_spec (ws := wsX5_insert) B.pre
  have hown : s.vm.findClass RX5 = some m.cls := findClass_of_methodNamed B.named
  have hlocks := B.notSynchronized
  have hS : va_S (wA E) s.heap s.heap [] := va_S.rf
  have hinX5 : ∀ w ∈ wsX50, w ∈ wsX5_insert := fun w h => List.mem_cons_of_mem _ (List.mem_append_left _ (List.mem_append_right _ h))
  have hl := lv_entry ([.ref (g 10), .int b, .int v]) (n := 4) (Nat.le_of_ble_eq_true rfl)
  rw [lg_entry_eq]
  generalize (lg_sl ([.ref (g 10), .int b, .int v]) ++ List.replicate (4 - (lg_sl ([.ref (g 10), .int b, .int v])).length) Slot.unset).toArray = ls at hl ⊢
  have hl : lv_has ls 4 [(0, .ref (g 10)), (1, .int b), (2, .int v)] := hl
  obtain ⟨H, eH⟩ : ∃ z, z = s.heap := ⟨_, rfl⟩
  have hH : wHS E o g x y H := by rw [eH]; exact hH
  have hS : va_S (wA E) s.heap H [] := by rw [eH]; exact hS
  refine W.heapTo eH ?_
  obtain ⟨hm0, hm1, hm7, hm8, hm5, hm6, hm9, hm12, hm11⟩ := id hI
  refine lv_iload_n hx hb dX5_insert_0 rfl (lv_at hl 2 rfl) ?_
  refine lv_bipush (v := 110) hx hb dX5_insert_1 (by decide) ?_
  refine lv_icmp_ne (tgt := 10) hx hb dX5_insert_3 (by decide) (fun c1 => ?_) (fun c1 => ?_)
  · skip
    refine lv_iload_n hx hb dX5_insert_10 rfl (lv_at hl 2 rfl) ?_
    refine lv_bipush (v := 100) hx hb dX5_insert_11 (by decide) ?_
    refine lv_icmp_ne (tgt := 20) hx hb dX5_insert_13 (by decide) (fun c2 => ?_) (fun c2 => ?_)
    · skip
      refine lv_iload_n hx hb dX5_insert_20 rfl (lv_at hl 2 rfl) ?_
      refine lv_bipush (v := 113) hx hb dX5_insert_21 (by decide) ?_
      refine lv_icmp_eq (tgt := 32) hx hb dX5_insert_23 (by decide) (fun c3 => ?_) (fun c3 => ?_)
      · skip
        refine lv_bipush (v := 6) hx hb dX5_insert_32 (by decide) ?_
        refine lv_goto (tgt := 38) hx hb dX5_insert_34 (by decide) ?_
        refine lv_istore_n (lv' := [(3, .int 6), (0, .ref (g 10)), (1, .int b), (2, .int v)]) hx hb dX5_insert_38 rfl hl (by decide) rfl (fun ls hl => ?_)
        refine lv_aload_n hx hb dX5_insert_39 rfl (lv_at hl 1 rfl) ?_
        refine lv_aload_n hx hb dX5_insert_40 rfl (lv_at hl 1 rfl) ?_
        refine lv_iload_n hx hb dX5_insert_41 rfl (lv_at hl 2 rfl) ?_
        refine va_calli (va_runV (As := [.int b]) (rest := [.ref (g 10)]) ⟨hx, hb, hml, hown, hts⟩ (met_X5_isBox l E o g x y b (show (y.1 1 0) ≤ 100 by omega)) (cwV 1 hts gX5_insert_X5_isBox rfl rfl rfl (by decide +kernel) ⟨Nat.le_of_ble_eq_true rfl, Nat.le_of_ble_eq_true rfl⟩) ⟨fun a U f mk q => ⟨q.1, wPre.calling q.2 a f mk⟩, (va_recv hK (wH_one hH (lv_md (by decide) (by decide)) (cel_md (by omega) (by omega))) (ci := 7) (q0 := 0) rfl rfl), fun U hU hW => ⟨rfl, wPre_at hz hS hH hK U hU hW⟩⟩ rfl rfl hl.1 rfl (lv_room (Nat.le_of_ble_eq_true rfl)) dX5_insert_42 ⟨Nat.le_of_ble_eq_true rfl, Nat.le_of_ble_eq_true rfl⟩) hS (fun q _ h => h) (fun q h => h) (fun r u t H locs ht hvm hw hB hz1 hk1 hS => ?_)
        have hB := wHS_h ht hB
        try dsimp only at hw
        have hH := hB
        rcases hw with ⟨rfl, c4⟩ | ⟨rfl, c4⟩
        · have c4 : inB b (y.1 1 0) = true := c4
          obtain ⟨jb, hjb, rfl⟩ := inB_t c4 (by omega)
          refine lv_iconst (v := 1) hx hb dX5_insert_45 (by decide) ?_
          refine va_calli (va_runV (As := [.int 1, .int 1]) (rest := []) ⟨hx, hb, hml, hown, hts⟩ (met_X5_no1 l E o g x y 1) (cwV 2 hts gX5_insert_X5_no rfl rfl rfl (by decide +kernel) ⟨Nat.le_of_ble_eq_true rfl, Nat.le_of_ble_eq_true rfl⟩) ⟨fun a U f mk q => ⟨q.1, wPre.calling q.2 a f mk⟩, (va_recv hK (wH_one hH (lv_md (by decide) (by decide)) (cel_md (by omega) (by omega))) (ci := 7) (q0 := 0) rfl rfl), fun U hU hW => ⟨rfl, wPre_at hz hS hH hK U hU hW⟩⟩ rfl rfl hl.1 rfl (lv_room (Nat.le_of_ble_eq_true rfl)) dX5_insert_46 ⟨Nat.le_of_ble_eq_true rfl, Nat.le_of_ble_eq_true rfl⟩) hS (fun q _ h => h) (fun q h => h) (fun r u t H locs ht hvm hw hB hz1 hk1 hS => ?_)
          have hB := wHS_h ht hB
          try dsimp only at hw
          obtain rfl := hw
          have hH := hB
          refine lv_if_ne (tgt := 117) hx hb dX5_insert_49 (by decide) (fun hq => absurd (show (0 : Int32) = 0 by decide) hq) (fun _ => ?_)
          refine lv_aload_n hx hb dX5_insert_52 rfl (lv_at hl 1 rfl) ?_
          refine lv_iload_n hx hb dX5_insert_53 rfl (lv_at hl 0 rfl) ?_
          refine lv_if_le (tgt := 61) hx hb dX5_insert_54 (by decide) (fun hq => absurd hq (show ¬ (6 : Int32) ≤ 0 by decide)) (fun _ => ?_)
          refine lv_iconst (v := 1) hx hb dX5_insert_57 (by decide) ?_
          refine lv_goto (tgt := 62) hx hb dX5_insert_58 (by decide) ?_
          refine lv_iconst (v := 2) hx hb dX5_insert_62 (by decide) ?_
          refine va_calli (va_runV (As := [.int 1, .int 2]) (rest := []) ⟨hx, hb, hml, hown, hts⟩ (met_X5_no1 l E o g x (uI y 28 0 0) 2) (cwV 2 hts gX5_insert_X5_no rfl rfl rfl (by decide +kernel) ⟨Nat.le_of_ble_eq_true rfl, Nat.le_of_ble_eq_true rfl⟩) ⟨fun a U f mk q => ⟨q.1, wPre.calling q.2 a f mk⟩, (va_recv hK (wH_one hH (lv_md (by decide) (by decide)) (cel_md (by omega) (by omega))) (ci := 7) (q0 := 0) rfl rfl), fun U hU hW => ⟨rfl, wPre_at hz hS hH hK U hU hW⟩⟩ rfl rfl hl.1 rfl (lv_room (Nat.le_of_ble_eq_true rfl)) dX5_insert_63 ⟨Nat.le_of_ble_eq_true rfl, Nat.le_of_ble_eq_true rfl⟩) hS (fun q _ h => h) (fun q h => h) (fun r u t H locs ht hvm hw hB hz1 hk1 hS => ?_)
          have hB := wHS_h ht hB
          try dsimp only at hw
          obtain rfl := hw
          have hH := hB
          refine lv_if_ne (tgt := 117) hx hb dX5_insert_66 (by decide) (fun hq => absurd (show (0 : Int32) = 0 by decide) hq) (fun _ => ?_)
          refine lv_aload_n hx hb dX5_insert_69 rfl (lv_at hl 1 rfl) ?_
          refine lv_aload_n hx hb dX5_insert_70 rfl (lv_at hl 1 rfl) ?_
          refine wr_get (T := TX5) (N := 30) (ci := 7) (v := .ref (g 27)) hx hb hts hinX5 hown hK hH (lv_md (by decide) (by decide)) (cel_md (by omega) (by omega)) rfl 17 (by decide) (hts (.fieldLink RX5 58 "SelectoRouteModel" "jammed" "[Z") (by decide +kernel)) (fun _ h => h) rfl dX5_insert_71 ?_
          refine lv_iload_n hx hb dX5_insert_74 rfl (lv_at hl 2 rfl) ?_
          refine wr_zald (v := (y.2 10 jb)) hx hb hK hH (lv_md (by decide) (by decide)) (cel_md (by decide) (by decide)) 1 rfl (vp_in_nI (n := jb) (N := 4) (by omega) (by decide)) (by rw [(nI_clamp (n := jb) (by omega))]; try rfl) dX5_insert_75 ?_
          refine lv_if_ne (tgt := 83) hx hb dX5_insert_76 (by decide) (fun c5 => ?_) (fun c5 => ?_)
          · skip
            refine lv_iconst (v := 0) hx hb dX5_insert_83 (by decide) ?_
            refine lv_iconst (v := 3) hx hb dX5_insert_84 (by decide) ?_
            refine va_calli (va_runV (As := [.int 0, .int 3]) (rest := []) ⟨hx, hb, hml, hown, hts⟩ (met_X5_no0 l E o g x (uI (uI y 28 0 0) 28 0 0) 3) (cwV 2 hts gX5_insert_X5_no rfl rfl rfl (by decide +kernel) ⟨Nat.le_of_ble_eq_true rfl, Nat.le_of_ble_eq_true rfl⟩) ⟨fun a U f mk q => ⟨q.1, wPre.calling q.2 a f mk⟩, (va_recv hK (wH_one hH (lv_md (by decide) (by decide)) (cel_md (by omega) (by omega))) (ci := 7) (q0 := 0) rfl rfl), fun U hU hW => ⟨rfl, wPre_at hz hS hH hK U hU hW⟩⟩ rfl rfl hl.1 rfl (lv_room (Nat.le_of_ble_eq_true rfl)) dX5_insert_85 ⟨Nat.le_of_ble_eq_true rfl, Nat.le_of_ble_eq_true rfl⟩) hS (fun q _ h => h) (fun q h => h) (fun r u t H locs ht hvm hw hB hz1 hk1 hS => ?_)
            have hB := wHS_h ht hB
            try dsimp only at hw
            obtain rfl := hw
            have hH := hB
            refine lv_if_ne (tgt := 117) hx hb dX5_insert_88 (by decide) (fun _ => ?_) (fun hq => absurd hq (show ¬ (1 : Int32) = 0 by decide))
            refine lv_iconst (v := 0) hx hb dX5_insert_117 (by decide) ?_
            have hsp : mp_insert y (nI jb) v = (0, (uI (uI (uI y 28 0 0) 28 0 0) 28 0 3)) := by
              unfold mp_insert
              first | (simp only [c1, c2, c3, c4, c5, inB_nI hjb (by omega), ix_nI (show jb < 2 ^ 31 by omega), ↓reduceIte, and_self, and_true, true_and, Bool.false_eq_true, reduceCtorEq, eq_self, false_and, and_false]; done) | (simp [c1, c2, c3, c4, c5, inB_nI hjb (by omega), ix_nI (show jb < 2 ^ 31 by omega), ↓reduceIte, and_self, and_true, true_and, Bool.false_eq_true, reduceCtorEq, eq_self, false_and, and_false]; done) | simp only [c1, c2, c3, c4, c5, inB_nI hjb (by omega), ix_nI (show jb < 2 ^ 31 by omega), ↓reduceIte, and_self, and_true, true_and, Bool.false_eq_true, reduceCtorEq, eq_self, false_and, and_false]
            exact W.iret (v := 0) hx hb hr (fun t ht hW => ⟨⟨0, (), rfl, (by rw [hsp]), wHS_t ht (by rw [hsp]; exact hH)⟩, hS.F ht⟩) hS.2.2 dX5_insert_118
          · skip
            refine lv_iconst (v := 1) hx hb dX5_insert_79 (by decide) ?_
            refine lv_goto (tgt := 84) hx hb dX5_insert_80 (by decide) ?_
            refine lv_iconst (v := 3) hx hb dX5_insert_84 (by decide) ?_
            refine va_calli (va_runV (As := [.int 1, .int 3]) (rest := []) ⟨hx, hb, hml, hown, hts⟩ (met_X5_no1 l E o g x (uI (uI y 28 0 0) 28 0 0) 3) (cwV 2 hts gX5_insert_X5_no rfl rfl rfl (by decide +kernel) ⟨Nat.le_of_ble_eq_true rfl, Nat.le_of_ble_eq_true rfl⟩) ⟨fun a U f mk q => ⟨q.1, wPre.calling q.2 a f mk⟩, (va_recv hK (wH_one hH (lv_md (by decide) (by decide)) (cel_md (by omega) (by omega))) (ci := 7) (q0 := 0) rfl rfl), fun U hU hW => ⟨rfl, wPre_at hz hS hH hK U hU hW⟩⟩ rfl rfl hl.1 rfl (lv_room (Nat.le_of_ble_eq_true rfl)) dX5_insert_85 ⟨Nat.le_of_ble_eq_true rfl, Nat.le_of_ble_eq_true rfl⟩) hS (fun q _ h => h) (fun q h => h) (fun r u t H locs ht hvm hw hB hz1 hk1 hS => ?_)
            have hB := wHS_h ht hB
            try dsimp only at hw
            obtain rfl := hw
            have hH := hB
            refine lv_if_ne (tgt := 117) hx hb dX5_insert_88 (by decide) (fun hq => absurd (show (0 : Int32) = 0 by decide) hq) (fun _ => ?_)
            refine lv_aload_n hx hb dX5_insert_91 rfl (lv_at hl 1 rfl) ?_
            refine lv_aload_n hx hb dX5_insert_92 rfl (lv_at hl 1 rfl) ?_
            refine wr_get (T := TX5) (N := 30) (ci := 7) (v := .ref (g 19)) hx hb hts hinX5 hown hK hH (lv_md (by decide) (by decide)) (cel_md (by omega) (by omega)) rfl 9 (by decide) (hts (.fieldLink RX5 34 "SelectoRouteModel" "credits" "[I") (by decide +kernel)) (fun _ h => h) rfl dX5_insert_93 ?_
            refine lv_iload_n hx hb dX5_insert_96 rfl (lv_at hl 2 rfl) ?_
            refine wr_iald (v := (y.2 7 jb)) hx hb hK hH (lv_md (by decide) (by decide)) (cel_md (by decide) (by decide)) 0 rfl (vp_in_nI (n := jb) (N := 4) (by omega) (by decide)) (by rw [(nI_clamp (n := jb) (by omega))]; try rfl) dX5_insert_97 ?_
            refine lv_iload_n hx hb dX5_insert_98 rfl (lv_at hl 0 rfl) ?_
            refine lv_iadd hx hb dX5_insert_99 ?_
            refine lv_bipush (v := 99) hx hb dX5_insert_100 (by decide) ?_
            refine lv_icmp_gt (tgt := 109) hx hb dX5_insert_102 (by decide) (fun c6 => ?_) (fun c6 => ?_)
            · skip
              refine lv_iconst (v := 0) hx hb dX5_insert_109 (by decide) ?_
              refine lv_iconst (v := 4) hx hb dX5_insert_110 (by decide) ?_
              refine va_calli (va_runV (As := [.int 0, .int 4]) (rest := []) ⟨hx, hb, hml, hown, hts⟩ (met_X5_no0 l E o g x (uI (uI (uI y 28 0 0) 28 0 0) 28 0 0) 4) (cwV 2 hts gX5_insert_X5_no rfl rfl rfl (by decide +kernel) ⟨Nat.le_of_ble_eq_true rfl, Nat.le_of_ble_eq_true rfl⟩) ⟨fun a U f mk q => ⟨q.1, wPre.calling q.2 a f mk⟩, (va_recv hK (wH_one hH (lv_md (by decide) (by decide)) (cel_md (by omega) (by omega))) (ci := 7) (q0 := 0) rfl rfl), fun U hU hW => ⟨rfl, wPre_at hz hS hH hK U hU hW⟩⟩ rfl rfl hl.1 rfl (lv_room (Nat.le_of_ble_eq_true rfl)) dX5_insert_111 ⟨Nat.le_of_ble_eq_true rfl, Nat.le_of_ble_eq_true rfl⟩) hS (fun q _ h => h) (fun q h => h) (fun r u t H locs ht hvm hw hB hz1 hk1 hS => ?_)
              have hB := wHS_h ht hB
              try dsimp only at hw
              obtain rfl := hw
              have hH := hB
              refine lv_if_eq (tgt := 119) hx hb dX5_insert_114 (by decide) (fun hq => absurd hq (show ¬ (1 : Int32) = 0 by decide)) (fun _ => ?_)
              refine lv_iconst (v := 0) hx hb dX5_insert_117 (by decide) ?_
              have hsp : mp_insert y (nI jb) v = (0, (uI (uI (uI (uI y 28 0 0) 28 0 0) 28 0 0) 28 0 4)) := by
                unfold mp_insert
                first | (simp only [c1, c2, c3, c4, c5, c6, inB_nI hjb (by omega), ix_nI (show jb < 2 ^ 31 by omega), ↓reduceIte, and_self, and_true, true_and, Bool.false_eq_true, reduceCtorEq, eq_self, false_and, and_false]; done) | (simp [c1, c2, c3, c4, c5, c6, inB_nI hjb (by omega), ix_nI (show jb < 2 ^ 31 by omega), ↓reduceIte, and_self, and_true, true_and, Bool.false_eq_true, reduceCtorEq, eq_self, false_and, and_false]; done) | simp only [c1, c2, c3, c4, c5, c6, inB_nI hjb (by omega), ix_nI (show jb < 2 ^ 31 by omega), ↓reduceIte, and_self, and_true, true_and, Bool.false_eq_true, reduceCtorEq, eq_self, false_and, and_false]
              exact W.iret (v := 0) hx hb hr (fun t ht hW => ⟨⟨0, (), rfl, (by rw [hsp]), wHS_t ht (by rw [hsp]; exact hH)⟩, hS.F ht⟩) hS.2.2 dX5_insert_118
            · skip
              refine lv_iconst (v := 1) hx hb dX5_insert_105 (by decide) ?_
              refine lv_goto (tgt := 110) hx hb dX5_insert_106 (by decide) ?_
              refine lv_iconst (v := 4) hx hb dX5_insert_110 (by decide) ?_
              refine va_calli (va_runV (As := [.int 1, .int 4]) (rest := []) ⟨hx, hb, hml, hown, hts⟩ (met_X5_no1 l E o g x (uI (uI (uI y 28 0 0) 28 0 0) 28 0 0) 4) (cwV 2 hts gX5_insert_X5_no rfl rfl rfl (by decide +kernel) ⟨Nat.le_of_ble_eq_true rfl, Nat.le_of_ble_eq_true rfl⟩) ⟨fun a U f mk q => ⟨q.1, wPre.calling q.2 a f mk⟩, (va_recv hK (wH_one hH (lv_md (by decide) (by decide)) (cel_md (by omega) (by omega))) (ci := 7) (q0 := 0) rfl rfl), fun U hU hW => ⟨rfl, wPre_at hz hS hH hK U hU hW⟩⟩ rfl rfl hl.1 rfl (lv_room (Nat.le_of_ble_eq_true rfl)) dX5_insert_111 ⟨Nat.le_of_ble_eq_true rfl, Nat.le_of_ble_eq_true rfl⟩) hS (fun q _ h => h) (fun q h => h) (fun r u t H locs ht hvm hw hB hz1 hk1 hS => ?_)
              have hB := wHS_h ht hB
              try dsimp only at hw
              obtain rfl := hw
              have hH := hB
              refine lv_if_eq (tgt := 119) hx hb dX5_insert_114 (by decide) (fun _ => ?_) (fun hq => absurd (show (0 : Int32) = 0 by decide) hq)
              refine lv_aload_n hx hb dX5_insert_119 rfl (lv_at hl 1 rfl) ?_
              refine wr_get (T := TX5) (N := 30) (ci := 7) (v := .ref (g 19)) hx hb hts hinX5 hown hK hH (lv_md (by decide) (by decide)) (cel_md (by omega) (by omega)) rfl 9 (by decide) (hts (.fieldLink RX5 34 "SelectoRouteModel" "credits" "[I") (by decide +kernel)) (fun _ h => h) rfl dX5_insert_120 ?_
              refine lv_iload_n hx hb dX5_insert_123 rfl (lv_at hl 2 rfl) ?_
              refine lv_dup2_11 hx hb dX5_insert_124 rfl rfl ?_
              refine wr_iald (v := (y.2 7 jb)) hx hb hK hH (lv_md (by decide) (by decide)) (cel_md (by decide) (by decide)) 0 rfl (vp_in_nI (n := jb) (N := 4) (by omega) (by decide)) (by rw [(nI_clamp (n := jb) (by omega))]; try rfl) dX5_insert_125 ?_
              refine lv_iload_n hx hb dX5_insert_126 rfl (lv_at hl 0 rfl) ?_
              refine lv_iadd hx hb dX5_insert_127 ?_
              refine lv_topi (fun v7 ev7 => ?_)
              refine wr_iast hx hb hK hH hS (lv_md (by decide) (by decide)) (cel_md (by decide) (by decide)) 0 rfl (vp_in_nI (n := jb) (N := 4) (by omega) (by decide)) dX5_insert_128 (fun H locs hH hS => ?_)
              have hH : wHS E o g x (uI (uI (uI (uI (uI y 28 0 0) 28 0 0) 28 0 0) 28 0 0) 7 jb v7) H := pa_credits (v := v7) (nI_clamp (n := jb) (by omega)) hH
              refine lv_aload_n hx hb dX5_insert_129 rfl (lv_at hl 1 rfl) ?_
              refine wr_get (T := TX5) (N := 30) (ci := 7) (v := .ref (g 20)) hx hb hts hinX5 hown hK hH (lv_md (by decide) (by decide)) (cel_md (by omega) (by omega)) rfl 10 (by decide) (hts (.fieldLink RX5 37 "SelectoRouteModel" "cents" "[I") (by decide +kernel)) (fun _ h => h) rfl dX5_insert_130 ?_
              refine lv_iload_n hx hb dX5_insert_133 rfl (lv_at hl 2 rfl) ?_
              refine lv_dup2_11 hx hb dX5_insert_134 rfl rfl ?_
              refine wr_iald (v := (y.2 8 jb)) hx hb hK hH (lv_md (by decide) (by decide)) (cel_md (by decide) (by decide)) 0 rfl (vp_in_nI (n := jb) (N := 4) (by omega) (by decide)) (by rw [(nI_clamp (n := jb) (by omega))]; try rfl) dX5_insert_135 ?_
              refine lv_iload_n hx hb dX5_insert_136 rfl (lv_at hl 3 rfl) ?_
              refine lv_bipush (v := 110) hx hb dX5_insert_137 (by decide) ?_
              refine lv_icmp_ne (tgt := 146) hx hb dX5_insert_139 (by decide) (fun _ => ?_) (fun hq => absurd hq c1)
              refine lv_iload_n hx hb dX5_insert_146 rfl (lv_at hl 3 rfl) ?_
              refine lv_bipush (v := 100) hx hb dX5_insert_147 (by decide) ?_
              refine lv_icmp_ne (tgt := 157) hx hb dX5_insert_149 (by decide) (fun _ => ?_) (fun hq => absurd hq c2)
              refine lv_iload_n hx hb dX5_insert_157 rfl (lv_at hl 3 rfl) ?_
              refine lv_bipush (v := 113) hx hb dX5_insert_158 (by decide) ?_
              refine lv_icmp_ne (tgt := 168) hx hb dX5_insert_160 (by decide) (fun hq => absurd c3 hq) (fun _ => ?_)
              refine lv_bipush (v := 25) hx hb dX5_insert_163 (by decide) ?_
              refine lv_goto (tgt := 169) hx hb dX5_insert_165 (by decide) ?_
              refine lv_iadd hx hb dX5_insert_169 ?_
              refine lv_topi (fun v8 ev8 => ?_)
              refine wr_iast hx hb hK hH hS (lv_md (by decide) (by decide)) (cel_md (by decide) (by decide)) 0 rfl (vp_in_nI (n := jb) (N := 4) (by omega) (by decide)) dX5_insert_170 (fun H locs hH hS => ?_)
              have hH : wHS E o g x (uI (uI (uI (uI (uI (uI y 28 0 0) 28 0 0) 28 0 0) 28 0 0) 7 jb v7) 8 jb v8) H := pa_cents (v := v8) (nI_clamp (n := jb) (by omega)) hH
              refine lv_aload_n hx hb dX5_insert_171 rfl (lv_at hl 1 rfl) ?_
              refine wr_get (T := TX5) (N := 30) (ci := 7) (v := .ref (g 19)) hx hb hts hinX5 hown hK hH (lv_md (by decide) (by decide)) (cel_md (by omega) (by omega)) rfl 9 (by decide) (hts (.fieldLink RX5 34 "SelectoRouteModel" "credits" "[I") (by decide +kernel)) (fun _ h => h) rfl dX5_insert_172 ?_
              refine lv_iload_n hx hb dX5_insert_175 rfl (lv_at hl 2 rfl) ?_
              refine wr_iald (v := v7) hx hb hK hH (lv_md (by decide) (by decide)) (cel_md (by decide) (by decide)) 0 rfl (vp_in_nI (n := jb) (N := 4) (by omega) (by decide)) (by rw [(nI_clamp (n := jb) (by omega))]; try simp [uI, uN, va_up]) dX5_insert_176 ?_
              subst ev8
              subst ev7
              have hsp : mp_insert y (nI jb) v = (((y.2 7 jb) + 6), (uI (uI (uI (uI (uI (uI y 28 0 0) 28 0 0) 28 0 0) 28 0 0) 7 jb ((y.2 7 jb) + 6)) 8 jb ((y.2 8 jb) + 25))) := by
                unfold mp_insert
                first | (simp only [c1, c2, c3, c4, c5, c6, inB_nI hjb (by omega), ix_nI (show jb < 2 ^ 31 by omega), ↓reduceIte, and_self, and_true, true_and, Bool.false_eq_true, reduceCtorEq, eq_self, false_and, and_false]; done) | (simp [c1, c2, c3, c4, c5, c6, inB_nI hjb (by omega), ix_nI (show jb < 2 ^ 31 by omega), ↓reduceIte, and_self, and_true, true_and, Bool.false_eq_true, reduceCtorEq, eq_self, false_and, and_false]; done) | simp only [c1, c2, c3, c4, c5, c6, inB_nI hjb (by omega), ix_nI (show jb < 2 ^ 31 by omega), ↓reduceIte, and_self, and_true, true_and, Bool.false_eq_true, reduceCtorEq, eq_self, false_and, and_false]
              exact W.iret (v := ((y.2 7 jb) + 6)) hx hb hr (fun t ht hW => ⟨⟨((y.2 7 jb) + 6), (), rfl, (by rw [hsp]), wHS_t ht (by rw [hsp]; exact hH)⟩, hS.F ht⟩) hS.2.2 dX5_insert_177
        · have c4 : inB b (y.1 1 0) = false := c4
          refine lv_iconst (v := 1) hx hb dX5_insert_45 (by decide) ?_
          refine va_calli (va_runV (As := [.int 0, .int 1]) (rest := []) ⟨hx, hb, hml, hown, hts⟩ (met_X5_no0 l E o g x y 1) (cwV 2 hts gX5_insert_X5_no rfl rfl rfl (by decide +kernel) ⟨Nat.le_of_ble_eq_true rfl, Nat.le_of_ble_eq_true rfl⟩) ⟨fun a U f mk q => ⟨q.1, wPre.calling q.2 a f mk⟩, (va_recv hK (wH_one hH (lv_md (by decide) (by decide)) (cel_md (by omega) (by omega))) (ci := 7) (q0 := 0) rfl rfl), fun U hU hW => ⟨rfl, wPre_at hz hS hH hK U hU hW⟩⟩ rfl rfl hl.1 rfl (lv_room (Nat.le_of_ble_eq_true rfl)) dX5_insert_46 ⟨Nat.le_of_ble_eq_true rfl, Nat.le_of_ble_eq_true rfl⟩) hS (fun q _ h => h) (fun q h => h) (fun r u t H locs ht hvm hw hB hz1 hk1 hS => ?_)
          have hB := wHS_h ht hB
          try dsimp only at hw
          obtain rfl := hw
          have hH := hB
          refine lv_if_ne (tgt := 117) hx hb dX5_insert_49 (by decide) (fun _ => ?_) (fun hq => absurd hq (show ¬ (1 : Int32) = 0 by decide))
          refine lv_iconst (v := 0) hx hb dX5_insert_117 (by decide) ?_
          have hsp : mp_insert y b v = (0, (uI y 28 0 1)) := by
            unfold mp_insert
            first | (simp only [c1, c2, c3, (Bool.eq_false_iff.mp c4), ↓reduceIte, and_self, and_true, true_and, Bool.false_eq_true, reduceCtorEq, eq_self, false_and, and_false]; done) | (simp [c1, c2, c3, (Bool.eq_false_iff.mp c4), ↓reduceIte, and_self, and_true, true_and, Bool.false_eq_true, reduceCtorEq, eq_self, false_and, and_false]; done) | simp only [c1, c2, c3, (Bool.eq_false_iff.mp c4), ↓reduceIte, and_self, and_true, true_and, Bool.false_eq_true, reduceCtorEq, eq_self, false_and, and_false]
          exact W.iret (v := 0) hx hb hr (fun t ht hW => ⟨⟨0, (), rfl, (by rw [hsp]), wHS_t ht (by rw [hsp]; exact hH)⟩, hS.F ht⟩) hS.2.2 dX5_insert_118
      · skip
        refine lv_iload_n hx hb dX5_insert_26 rfl (lv_at hl 2 rfl) ?_
        refine lv_bipush (v := 115) hx hb dX5_insert_27 (by decide) ?_
        refine lv_icmp_ne (tgt := 37) hx hb dX5_insert_29 (by decide) (fun c9 => ?_) (fun c9 => ?_)
        · skip
          refine lv_iconst (v := 0) hx hb dX5_insert_37 (by decide) ?_
          refine lv_istore_n (lv' := [(3, .int 0), (0, .ref (g 10)), (1, .int b), (2, .int v)]) hx hb dX5_insert_38 rfl hl (by decide) rfl (fun ls hl => ?_)
          refine lv_aload_n hx hb dX5_insert_39 rfl (lv_at hl 1 rfl) ?_
          refine lv_aload_n hx hb dX5_insert_40 rfl (lv_at hl 1 rfl) ?_
          refine lv_iload_n hx hb dX5_insert_41 rfl (lv_at hl 2 rfl) ?_
          refine va_calli (va_runV (As := [.int b]) (rest := [.ref (g 10)]) ⟨hx, hb, hml, hown, hts⟩ (met_X5_isBox l E o g x y b (show (y.1 1 0) ≤ 100 by omega)) (cwV 1 hts gX5_insert_X5_isBox rfl rfl rfl (by decide +kernel) ⟨Nat.le_of_ble_eq_true rfl, Nat.le_of_ble_eq_true rfl⟩) ⟨fun a U f mk q => ⟨q.1, wPre.calling q.2 a f mk⟩, (va_recv hK (wH_one hH (lv_md (by decide) (by decide)) (cel_md (by omega) (by omega))) (ci := 7) (q0 := 0) rfl rfl), fun U hU hW => ⟨rfl, wPre_at hz hS hH hK U hU hW⟩⟩ rfl rfl hl.1 rfl (lv_room (Nat.le_of_ble_eq_true rfl)) dX5_insert_42 ⟨Nat.le_of_ble_eq_true rfl, Nat.le_of_ble_eq_true rfl⟩) hS (fun q _ h => h) (fun q h => h) (fun r u t H locs ht hvm hw hB hz1 hk1 hS => ?_)
          have hB := wHS_h ht hB
          try dsimp only at hw
          have hH := hB
          rcases hw with ⟨rfl, c10⟩ | ⟨rfl, c10⟩
          · have c10 : inB b (y.1 1 0) = true := c10
            obtain ⟨jb, hjb, rfl⟩ := inB_t c10 (by omega)
            refine lv_iconst (v := 1) hx hb dX5_insert_45 (by decide) ?_
            refine va_calli (va_runV (As := [.int 1, .int 1]) (rest := []) ⟨hx, hb, hml, hown, hts⟩ (met_X5_no1 l E o g x y 1) (cwV 2 hts gX5_insert_X5_no rfl rfl rfl (by decide +kernel) ⟨Nat.le_of_ble_eq_true rfl, Nat.le_of_ble_eq_true rfl⟩) ⟨fun a U f mk q => ⟨q.1, wPre.calling q.2 a f mk⟩, (va_recv hK (wH_one hH (lv_md (by decide) (by decide)) (cel_md (by omega) (by omega))) (ci := 7) (q0 := 0) rfl rfl), fun U hU hW => ⟨rfl, wPre_at hz hS hH hK U hU hW⟩⟩ rfl rfl hl.1 rfl (lv_room (Nat.le_of_ble_eq_true rfl)) dX5_insert_46 ⟨Nat.le_of_ble_eq_true rfl, Nat.le_of_ble_eq_true rfl⟩) hS (fun q _ h => h) (fun q h => h) (fun r u t H locs ht hvm hw hB hz1 hk1 hS => ?_)
            have hB := wHS_h ht hB
            try dsimp only at hw
            obtain rfl := hw
            have hH := hB
            refine lv_if_ne (tgt := 117) hx hb dX5_insert_49 (by decide) (fun hq => absurd (show (0 : Int32) = 0 by decide) hq) (fun _ => ?_)
            refine lv_aload_n hx hb dX5_insert_52 rfl (lv_at hl 1 rfl) ?_
            refine lv_iload_n hx hb dX5_insert_53 rfl (lv_at hl 0 rfl) ?_
            refine lv_if_le (tgt := 61) hx hb dX5_insert_54 (by decide) (fun _ => ?_) (fun hq => absurd (show (0 : Int32) ≤ 0 by decide) hq)
            refine lv_iconst (v := 0) hx hb dX5_insert_61 (by decide) ?_
            refine lv_iconst (v := 2) hx hb dX5_insert_62 (by decide) ?_
            refine va_calli (va_runV (As := [.int 0, .int 2]) (rest := []) ⟨hx, hb, hml, hown, hts⟩ (met_X5_no0 l E o g x (uI y 28 0 0) 2) (cwV 2 hts gX5_insert_X5_no rfl rfl rfl (by decide +kernel) ⟨Nat.le_of_ble_eq_true rfl, Nat.le_of_ble_eq_true rfl⟩) ⟨fun a U f mk q => ⟨q.1, wPre.calling q.2 a f mk⟩, (va_recv hK (wH_one hH (lv_md (by decide) (by decide)) (cel_md (by omega) (by omega))) (ci := 7) (q0 := 0) rfl rfl), fun U hU hW => ⟨rfl, wPre_at hz hS hH hK U hU hW⟩⟩ rfl rfl hl.1 rfl (lv_room (Nat.le_of_ble_eq_true rfl)) dX5_insert_63 ⟨Nat.le_of_ble_eq_true rfl, Nat.le_of_ble_eq_true rfl⟩) hS (fun q _ h => h) (fun q h => h) (fun r u t H locs ht hvm hw hB hz1 hk1 hS => ?_)
            have hB := wHS_h ht hB
            try dsimp only at hw
            obtain rfl := hw
            have hH := hB
            refine lv_if_ne (tgt := 117) hx hb dX5_insert_66 (by decide) (fun _ => ?_) (fun hq => absurd hq (show ¬ (1 : Int32) = 0 by decide))
            refine lv_iconst (v := 0) hx hb dX5_insert_117 (by decide) ?_
            have hsp : mp_insert y (nI jb) v = (0, (uI (uI y 28 0 0) 28 0 2)) := by
              unfold mp_insert
              first | (simp only [c1, c2, c3, c9, c10, inB_nI hjb (by omega), ix_nI (show jb < 2 ^ 31 by omega), ↓reduceIte, and_self, and_true, true_and, Bool.false_eq_true, reduceCtorEq, eq_self, false_and, and_false]; done) | (simp [c1, c2, c3, c9, c10, inB_nI hjb (by omega), ix_nI (show jb < 2 ^ 31 by omega), ↓reduceIte, and_self, and_true, true_and, Bool.false_eq_true, reduceCtorEq, eq_self, false_and, and_false]; done) | simp only [c1, c2, c3, c9, c10, inB_nI hjb (by omega), ix_nI (show jb < 2 ^ 31 by omega), ↓reduceIte, and_self, and_true, true_and, Bool.false_eq_true, reduceCtorEq, eq_self, false_and, and_false]
            exact W.iret (v := 0) hx hb hr (fun t ht hW => ⟨⟨0, (), rfl, (by rw [hsp]), wHS_t ht (by rw [hsp]; exact hH)⟩, hS.F ht⟩) hS.2.2 dX5_insert_118
          · have c10 : inB b (y.1 1 0) = false := c10
            refine lv_iconst (v := 1) hx hb dX5_insert_45 (by decide) ?_
            refine va_calli (va_runV (As := [.int 0, .int 1]) (rest := []) ⟨hx, hb, hml, hown, hts⟩ (met_X5_no0 l E o g x y 1) (cwV 2 hts gX5_insert_X5_no rfl rfl rfl (by decide +kernel) ⟨Nat.le_of_ble_eq_true rfl, Nat.le_of_ble_eq_true rfl⟩) ⟨fun a U f mk q => ⟨q.1, wPre.calling q.2 a f mk⟩, (va_recv hK (wH_one hH (lv_md (by decide) (by decide)) (cel_md (by omega) (by omega))) (ci := 7) (q0 := 0) rfl rfl), fun U hU hW => ⟨rfl, wPre_at hz hS hH hK U hU hW⟩⟩ rfl rfl hl.1 rfl (lv_room (Nat.le_of_ble_eq_true rfl)) dX5_insert_46 ⟨Nat.le_of_ble_eq_true rfl, Nat.le_of_ble_eq_true rfl⟩) hS (fun q _ h => h) (fun q h => h) (fun r u t H locs ht hvm hw hB hz1 hk1 hS => ?_)
            have hB := wHS_h ht hB
            try dsimp only at hw
            obtain rfl := hw
            have hH := hB
            refine lv_if_ne (tgt := 117) hx hb dX5_insert_49 (by decide) (fun _ => ?_) (fun hq => absurd hq (show ¬ (1 : Int32) = 0 by decide))
            refine lv_iconst (v := 0) hx hb dX5_insert_117 (by decide) ?_
            have hsp : mp_insert y b v = (0, (uI y 28 0 1)) := by
              unfold mp_insert
              first | (simp only [c1, c2, c3, c9, (Bool.eq_false_iff.mp c10), ↓reduceIte, and_self, and_true, true_and, Bool.false_eq_true, reduceCtorEq, eq_self, false_and, and_false]; done) | (simp [c1, c2, c3, c9, (Bool.eq_false_iff.mp c10), ↓reduceIte, and_self, and_true, true_and, Bool.false_eq_true, reduceCtorEq, eq_self, false_and, and_false]; done) | simp only [c1, c2, c3, c9, (Bool.eq_false_iff.mp c10), ↓reduceIte, and_self, and_true, true_and, Bool.false_eq_true, reduceCtorEq, eq_self, false_and, and_false]
            exact W.iret (v := 0) hx hb hr (fun t ht hW => ⟨⟨0, (), rfl, (by rw [hsp]), wHS_t ht (by rw [hsp]; exact hH)⟩, hS.F ht⟩) hS.2.2 dX5_insert_118
        · skip
          refine lv_bipush (v := 6) hx hb dX5_insert_32 (by decide) ?_
          refine lv_goto (tgt := 38) hx hb dX5_insert_34 (by decide) ?_
          refine lv_istore_n (lv' := [(3, .int 6), (0, .ref (g 10)), (1, .int b), (2, .int v)]) hx hb dX5_insert_38 rfl hl (by decide) rfl (fun ls hl => ?_)
          refine lv_aload_n hx hb dX5_insert_39 rfl (lv_at hl 1 rfl) ?_
          refine lv_aload_n hx hb dX5_insert_40 rfl (lv_at hl 1 rfl) ?_
          refine lv_iload_n hx hb dX5_insert_41 rfl (lv_at hl 2 rfl) ?_
          refine va_calli (va_runV (As := [.int b]) (rest := [.ref (g 10)]) ⟨hx, hb, hml, hown, hts⟩ (met_X5_isBox l E o g x y b (show (y.1 1 0) ≤ 100 by omega)) (cwV 1 hts gX5_insert_X5_isBox rfl rfl rfl (by decide +kernel) ⟨Nat.le_of_ble_eq_true rfl, Nat.le_of_ble_eq_true rfl⟩) ⟨fun a U f mk q => ⟨q.1, wPre.calling q.2 a f mk⟩, (va_recv hK (wH_one hH (lv_md (by decide) (by decide)) (cel_md (by omega) (by omega))) (ci := 7) (q0 := 0) rfl rfl), fun U hU hW => ⟨rfl, wPre_at hz hS hH hK U hU hW⟩⟩ rfl rfl hl.1 rfl (lv_room (Nat.le_of_ble_eq_true rfl)) dX5_insert_42 ⟨Nat.le_of_ble_eq_true rfl, Nat.le_of_ble_eq_true rfl⟩) hS (fun q _ h => h) (fun q h => h) (fun r u t H locs ht hvm hw hB hz1 hk1 hS => ?_)
          have hB := wHS_h ht hB
          try dsimp only at hw
          have hH := hB
          rcases hw with ⟨rfl, c11⟩ | ⟨rfl, c11⟩
          · have c11 : inB b (y.1 1 0) = true := c11
            obtain ⟨jb, hjb, rfl⟩ := inB_t c11 (by omega)
            refine lv_iconst (v := 1) hx hb dX5_insert_45 (by decide) ?_
            refine va_calli (va_runV (As := [.int 1, .int 1]) (rest := []) ⟨hx, hb, hml, hown, hts⟩ (met_X5_no1 l E o g x y 1) (cwV 2 hts gX5_insert_X5_no rfl rfl rfl (by decide +kernel) ⟨Nat.le_of_ble_eq_true rfl, Nat.le_of_ble_eq_true rfl⟩) ⟨fun a U f mk q => ⟨q.1, wPre.calling q.2 a f mk⟩, (va_recv hK (wH_one hH (lv_md (by decide) (by decide)) (cel_md (by omega) (by omega))) (ci := 7) (q0 := 0) rfl rfl), fun U hU hW => ⟨rfl, wPre_at hz hS hH hK U hU hW⟩⟩ rfl rfl hl.1 rfl (lv_room (Nat.le_of_ble_eq_true rfl)) dX5_insert_46 ⟨Nat.le_of_ble_eq_true rfl, Nat.le_of_ble_eq_true rfl⟩) hS (fun q _ h => h) (fun q h => h) (fun r u t H locs ht hvm hw hB hz1 hk1 hS => ?_)
            have hB := wHS_h ht hB
            try dsimp only at hw
            obtain rfl := hw
            have hH := hB
            refine lv_if_ne (tgt := 117) hx hb dX5_insert_49 (by decide) (fun hq => absurd (show (0 : Int32) = 0 by decide) hq) (fun _ => ?_)
            refine lv_aload_n hx hb dX5_insert_52 rfl (lv_at hl 1 rfl) ?_
            refine lv_iload_n hx hb dX5_insert_53 rfl (lv_at hl 0 rfl) ?_
            refine lv_if_le (tgt := 61) hx hb dX5_insert_54 (by decide) (fun hq => absurd hq (show ¬ (6 : Int32) ≤ 0 by decide)) (fun _ => ?_)
            refine lv_iconst (v := 1) hx hb dX5_insert_57 (by decide) ?_
            refine lv_goto (tgt := 62) hx hb dX5_insert_58 (by decide) ?_
            refine lv_iconst (v := 2) hx hb dX5_insert_62 (by decide) ?_
            refine va_calli (va_runV (As := [.int 1, .int 2]) (rest := []) ⟨hx, hb, hml, hown, hts⟩ (met_X5_no1 l E o g x (uI y 28 0 0) 2) (cwV 2 hts gX5_insert_X5_no rfl rfl rfl (by decide +kernel) ⟨Nat.le_of_ble_eq_true rfl, Nat.le_of_ble_eq_true rfl⟩) ⟨fun a U f mk q => ⟨q.1, wPre.calling q.2 a f mk⟩, (va_recv hK (wH_one hH (lv_md (by decide) (by decide)) (cel_md (by omega) (by omega))) (ci := 7) (q0 := 0) rfl rfl), fun U hU hW => ⟨rfl, wPre_at hz hS hH hK U hU hW⟩⟩ rfl rfl hl.1 rfl (lv_room (Nat.le_of_ble_eq_true rfl)) dX5_insert_63 ⟨Nat.le_of_ble_eq_true rfl, Nat.le_of_ble_eq_true rfl⟩) hS (fun q _ h => h) (fun q h => h) (fun r u t H locs ht hvm hw hB hz1 hk1 hS => ?_)
            have hB := wHS_h ht hB
            try dsimp only at hw
            obtain rfl := hw
            have hH := hB
            refine lv_if_ne (tgt := 117) hx hb dX5_insert_66 (by decide) (fun hq => absurd (show (0 : Int32) = 0 by decide) hq) (fun _ => ?_)
            refine lv_aload_n hx hb dX5_insert_69 rfl (lv_at hl 1 rfl) ?_
            refine lv_aload_n hx hb dX5_insert_70 rfl (lv_at hl 1 rfl) ?_
            refine wr_get (T := TX5) (N := 30) (ci := 7) (v := .ref (g 27)) hx hb hts hinX5 hown hK hH (lv_md (by decide) (by decide)) (cel_md (by omega) (by omega)) rfl 17 (by decide) (hts (.fieldLink RX5 58 "SelectoRouteModel" "jammed" "[Z") (by decide +kernel)) (fun _ h => h) rfl dX5_insert_71 ?_
            refine lv_iload_n hx hb dX5_insert_74 rfl (lv_at hl 2 rfl) ?_
            refine wr_zald (v := (y.2 10 jb)) hx hb hK hH (lv_md (by decide) (by decide)) (cel_md (by decide) (by decide)) 1 rfl (vp_in_nI (n := jb) (N := 4) (by omega) (by decide)) (by rw [(nI_clamp (n := jb) (by omega))]; try rfl) dX5_insert_75 ?_
            refine lv_if_ne (tgt := 83) hx hb dX5_insert_76 (by decide) (fun c12 => ?_) (fun c12 => ?_)
            · skip
              refine lv_iconst (v := 0) hx hb dX5_insert_83 (by decide) ?_
              refine lv_iconst (v := 3) hx hb dX5_insert_84 (by decide) ?_
              refine va_calli (va_runV (As := [.int 0, .int 3]) (rest := []) ⟨hx, hb, hml, hown, hts⟩ (met_X5_no0 l E o g x (uI (uI y 28 0 0) 28 0 0) 3) (cwV 2 hts gX5_insert_X5_no rfl rfl rfl (by decide +kernel) ⟨Nat.le_of_ble_eq_true rfl, Nat.le_of_ble_eq_true rfl⟩) ⟨fun a U f mk q => ⟨q.1, wPre.calling q.2 a f mk⟩, (va_recv hK (wH_one hH (lv_md (by decide) (by decide)) (cel_md (by omega) (by omega))) (ci := 7) (q0 := 0) rfl rfl), fun U hU hW => ⟨rfl, wPre_at hz hS hH hK U hU hW⟩⟩ rfl rfl hl.1 rfl (lv_room (Nat.le_of_ble_eq_true rfl)) dX5_insert_85 ⟨Nat.le_of_ble_eq_true rfl, Nat.le_of_ble_eq_true rfl⟩) hS (fun q _ h => h) (fun q h => h) (fun r u t H locs ht hvm hw hB hz1 hk1 hS => ?_)
              have hB := wHS_h ht hB
              try dsimp only at hw
              obtain rfl := hw
              have hH := hB
              refine lv_if_ne (tgt := 117) hx hb dX5_insert_88 (by decide) (fun _ => ?_) (fun hq => absurd hq (show ¬ (1 : Int32) = 0 by decide))
              refine lv_iconst (v := 0) hx hb dX5_insert_117 (by decide) ?_
              have hsp : mp_insert y (nI jb) v = (0, (uI (uI (uI y 28 0 0) 28 0 0) 28 0 3)) := by
                unfold mp_insert
                first | (simp only [c1, c2, c3, c9, c11, c12, inB_nI hjb (by omega), ix_nI (show jb < 2 ^ 31 by omega), ↓reduceIte, and_self, and_true, true_and, Bool.false_eq_true, reduceCtorEq, eq_self, false_and, and_false]; done) | (simp [c1, c2, c3, c9, c11, c12, inB_nI hjb (by omega), ix_nI (show jb < 2 ^ 31 by omega), ↓reduceIte, and_self, and_true, true_and, Bool.false_eq_true, reduceCtorEq, eq_self, false_and, and_false]; done) | simp only [c1, c2, c3, c9, c11, c12, inB_nI hjb (by omega), ix_nI (show jb < 2 ^ 31 by omega), ↓reduceIte, and_self, and_true, true_and, Bool.false_eq_true, reduceCtorEq, eq_self, false_and, and_false]
              exact W.iret (v := 0) hx hb hr (fun t ht hW => ⟨⟨0, (), rfl, (by rw [hsp]), wHS_t ht (by rw [hsp]; exact hH)⟩, hS.F ht⟩) hS.2.2 dX5_insert_118
            · skip
              refine lv_iconst (v := 1) hx hb dX5_insert_79 (by decide) ?_
              refine lv_goto (tgt := 84) hx hb dX5_insert_80 (by decide) ?_
              refine lv_iconst (v := 3) hx hb dX5_insert_84 (by decide) ?_
              refine va_calli (va_runV (As := [.int 1, .int 3]) (rest := []) ⟨hx, hb, hml, hown, hts⟩ (met_X5_no1 l E o g x (uI (uI y 28 0 0) 28 0 0) 3) (cwV 2 hts gX5_insert_X5_no rfl rfl rfl (by decide +kernel) ⟨Nat.le_of_ble_eq_true rfl, Nat.le_of_ble_eq_true rfl⟩) ⟨fun a U f mk q => ⟨q.1, wPre.calling q.2 a f mk⟩, (va_recv hK (wH_one hH (lv_md (by decide) (by decide)) (cel_md (by omega) (by omega))) (ci := 7) (q0 := 0) rfl rfl), fun U hU hW => ⟨rfl, wPre_at hz hS hH hK U hU hW⟩⟩ rfl rfl hl.1 rfl (lv_room (Nat.le_of_ble_eq_true rfl)) dX5_insert_85 ⟨Nat.le_of_ble_eq_true rfl, Nat.le_of_ble_eq_true rfl⟩) hS (fun q _ h => h) (fun q h => h) (fun r u t H locs ht hvm hw hB hz1 hk1 hS => ?_)
              have hB := wHS_h ht hB
              try dsimp only at hw
              obtain rfl := hw
              have hH := hB
              refine lv_if_ne (tgt := 117) hx hb dX5_insert_88 (by decide) (fun hq => absurd (show (0 : Int32) = 0 by decide) hq) (fun _ => ?_)
              refine lv_aload_n hx hb dX5_insert_91 rfl (lv_at hl 1 rfl) ?_
              refine lv_aload_n hx hb dX5_insert_92 rfl (lv_at hl 1 rfl) ?_
              refine wr_get (T := TX5) (N := 30) (ci := 7) (v := .ref (g 19)) hx hb hts hinX5 hown hK hH (lv_md (by decide) (by decide)) (cel_md (by omega) (by omega)) rfl 9 (by decide) (hts (.fieldLink RX5 34 "SelectoRouteModel" "credits" "[I") (by decide +kernel)) (fun _ h => h) rfl dX5_insert_93 ?_
              refine lv_iload_n hx hb dX5_insert_96 rfl (lv_at hl 2 rfl) ?_
              refine wr_iald (v := (y.2 7 jb)) hx hb hK hH (lv_md (by decide) (by decide)) (cel_md (by decide) (by decide)) 0 rfl (vp_in_nI (n := jb) (N := 4) (by omega) (by decide)) (by rw [(nI_clamp (n := jb) (by omega))]; try rfl) dX5_insert_97 ?_
              refine lv_iload_n hx hb dX5_insert_98 rfl (lv_at hl 0 rfl) ?_
              refine lv_iadd hx hb dX5_insert_99 ?_
              refine lv_bipush (v := 99) hx hb dX5_insert_100 (by decide) ?_
              refine lv_icmp_gt (tgt := 109) hx hb dX5_insert_102 (by decide) (fun c13 => ?_) (fun c13 => ?_)
              · skip
                refine lv_iconst (v := 0) hx hb dX5_insert_109 (by decide) ?_
                refine lv_iconst (v := 4) hx hb dX5_insert_110 (by decide) ?_
                refine va_calli (va_runV (As := [.int 0, .int 4]) (rest := []) ⟨hx, hb, hml, hown, hts⟩ (met_X5_no0 l E o g x (uI (uI (uI y 28 0 0) 28 0 0) 28 0 0) 4) (cwV 2 hts gX5_insert_X5_no rfl rfl rfl (by decide +kernel) ⟨Nat.le_of_ble_eq_true rfl, Nat.le_of_ble_eq_true rfl⟩) ⟨fun a U f mk q => ⟨q.1, wPre.calling q.2 a f mk⟩, (va_recv hK (wH_one hH (lv_md (by decide) (by decide)) (cel_md (by omega) (by omega))) (ci := 7) (q0 := 0) rfl rfl), fun U hU hW => ⟨rfl, wPre_at hz hS hH hK U hU hW⟩⟩ rfl rfl hl.1 rfl (lv_room (Nat.le_of_ble_eq_true rfl)) dX5_insert_111 ⟨Nat.le_of_ble_eq_true rfl, Nat.le_of_ble_eq_true rfl⟩) hS (fun q _ h => h) (fun q h => h) (fun r u t H locs ht hvm hw hB hz1 hk1 hS => ?_)
                have hB := wHS_h ht hB
                try dsimp only at hw
                obtain rfl := hw
                have hH := hB
                refine lv_if_eq (tgt := 119) hx hb dX5_insert_114 (by decide) (fun hq => absurd hq (show ¬ (1 : Int32) = 0 by decide)) (fun _ => ?_)
                refine lv_iconst (v := 0) hx hb dX5_insert_117 (by decide) ?_
                have hsp : mp_insert y (nI jb) v = (0, (uI (uI (uI (uI y 28 0 0) 28 0 0) 28 0 0) 28 0 4)) := by
                  unfold mp_insert
                  first | (simp only [c1, c2, c3, c9, c11, c12, c13, inB_nI hjb (by omega), ix_nI (show jb < 2 ^ 31 by omega), ↓reduceIte, and_self, and_true, true_and, Bool.false_eq_true, reduceCtorEq, eq_self, false_and, and_false]; done) | (simp [c1, c2, c3, c9, c11, c12, c13, inB_nI hjb (by omega), ix_nI (show jb < 2 ^ 31 by omega), ↓reduceIte, and_self, and_true, true_and, Bool.false_eq_true, reduceCtorEq, eq_self, false_and, and_false]; done) | simp only [c1, c2, c3, c9, c11, c12, c13, inB_nI hjb (by omega), ix_nI (show jb < 2 ^ 31 by omega), ↓reduceIte, and_self, and_true, true_and, Bool.false_eq_true, reduceCtorEq, eq_self, false_and, and_false]
                exact W.iret (v := 0) hx hb hr (fun t ht hW => ⟨⟨0, (), rfl, (by rw [hsp]), wHS_t ht (by rw [hsp]; exact hH)⟩, hS.F ht⟩) hS.2.2 dX5_insert_118
              · skip
                refine lv_iconst (v := 1) hx hb dX5_insert_105 (by decide) ?_
                refine lv_goto (tgt := 110) hx hb dX5_insert_106 (by decide) ?_
                refine lv_iconst (v := 4) hx hb dX5_insert_110 (by decide) ?_
                refine va_calli (va_runV (As := [.int 1, .int 4]) (rest := []) ⟨hx, hb, hml, hown, hts⟩ (met_X5_no1 l E o g x (uI (uI (uI y 28 0 0) 28 0 0) 28 0 0) 4) (cwV 2 hts gX5_insert_X5_no rfl rfl rfl (by decide +kernel) ⟨Nat.le_of_ble_eq_true rfl, Nat.le_of_ble_eq_true rfl⟩) ⟨fun a U f mk q => ⟨q.1, wPre.calling q.2 a f mk⟩, (va_recv hK (wH_one hH (lv_md (by decide) (by decide)) (cel_md (by omega) (by omega))) (ci := 7) (q0 := 0) rfl rfl), fun U hU hW => ⟨rfl, wPre_at hz hS hH hK U hU hW⟩⟩ rfl rfl hl.1 rfl (lv_room (Nat.le_of_ble_eq_true rfl)) dX5_insert_111 ⟨Nat.le_of_ble_eq_true rfl, Nat.le_of_ble_eq_true rfl⟩) hS (fun q _ h => h) (fun q h => h) (fun r u t H locs ht hvm hw hB hz1 hk1 hS => ?_)
                have hB := wHS_h ht hB
                try dsimp only at hw
                obtain rfl := hw
                have hH := hB
                refine lv_if_eq (tgt := 119) hx hb dX5_insert_114 (by decide) (fun _ => ?_) (fun hq => absurd (show (0 : Int32) = 0 by decide) hq)
                refine lv_aload_n hx hb dX5_insert_119 rfl (lv_at hl 1 rfl) ?_
                refine wr_get (T := TX5) (N := 30) (ci := 7) (v := .ref (g 19)) hx hb hts hinX5 hown hK hH (lv_md (by decide) (by decide)) (cel_md (by omega) (by omega)) rfl 9 (by decide) (hts (.fieldLink RX5 34 "SelectoRouteModel" "credits" "[I") (by decide +kernel)) (fun _ h => h) rfl dX5_insert_120 ?_
                refine lv_iload_n hx hb dX5_insert_123 rfl (lv_at hl 2 rfl) ?_
                refine lv_dup2_11 hx hb dX5_insert_124 rfl rfl ?_
                refine wr_iald (v := (y.2 7 jb)) hx hb hK hH (lv_md (by decide) (by decide)) (cel_md (by decide) (by decide)) 0 rfl (vp_in_nI (n := jb) (N := 4) (by omega) (by decide)) (by rw [(nI_clamp (n := jb) (by omega))]; try rfl) dX5_insert_125 ?_
                refine lv_iload_n hx hb dX5_insert_126 rfl (lv_at hl 0 rfl) ?_
                refine lv_iadd hx hb dX5_insert_127 ?_
                refine lv_topi (fun v14 ev14 => ?_)
                refine wr_iast hx hb hK hH hS (lv_md (by decide) (by decide)) (cel_md (by decide) (by decide)) 0 rfl (vp_in_nI (n := jb) (N := 4) (by omega) (by decide)) dX5_insert_128 (fun H locs hH hS => ?_)
                have hH : wHS E o g x (uI (uI (uI (uI (uI y 28 0 0) 28 0 0) 28 0 0) 28 0 0) 7 jb v14) H := pa_credits (v := v14) (nI_clamp (n := jb) (by omega)) hH
                refine lv_aload_n hx hb dX5_insert_129 rfl (lv_at hl 1 rfl) ?_
                refine wr_get (T := TX5) (N := 30) (ci := 7) (v := .ref (g 20)) hx hb hts hinX5 hown hK hH (lv_md (by decide) (by decide)) (cel_md (by omega) (by omega)) rfl 10 (by decide) (hts (.fieldLink RX5 37 "SelectoRouteModel" "cents" "[I") (by decide +kernel)) (fun _ h => h) rfl dX5_insert_130 ?_
                refine lv_iload_n hx hb dX5_insert_133 rfl (lv_at hl 2 rfl) ?_
                refine lv_dup2_11 hx hb dX5_insert_134 rfl rfl ?_
                refine wr_iald (v := (y.2 8 jb)) hx hb hK hH (lv_md (by decide) (by decide)) (cel_md (by decide) (by decide)) 0 rfl (vp_in_nI (n := jb) (N := 4) (by omega) (by decide)) (by rw [(nI_clamp (n := jb) (by omega))]; try rfl) dX5_insert_135 ?_
                refine lv_iload_n hx hb dX5_insert_136 rfl (lv_at hl 3 rfl) ?_
                refine lv_bipush (v := 110) hx hb dX5_insert_137 (by decide) ?_
                refine lv_icmp_ne (tgt := 146) hx hb dX5_insert_139 (by decide) (fun _ => ?_) (fun hq => absurd hq c1)
                refine lv_iload_n hx hb dX5_insert_146 rfl (lv_at hl 3 rfl) ?_
                refine lv_bipush (v := 100) hx hb dX5_insert_147 (by decide) ?_
                refine lv_icmp_ne (tgt := 157) hx hb dX5_insert_149 (by decide) (fun _ => ?_) (fun hq => absurd hq c2)
                refine lv_iload_n hx hb dX5_insert_157 rfl (lv_at hl 3 rfl) ?_
                refine lv_bipush (v := 113) hx hb dX5_insert_158 (by decide) ?_
                refine lv_icmp_ne (tgt := 168) hx hb dX5_insert_160 (by decide) (fun _ => ?_) (fun hq => absurd hq c3)
                refine lv_iconst (v := 0) hx hb dX5_insert_168 (by decide) ?_
                refine lv_iadd hx hb dX5_insert_169 ?_
                refine lv_topi (fun v15 ev15 => ?_)
                refine wr_iast hx hb hK hH hS (lv_md (by decide) (by decide)) (cel_md (by decide) (by decide)) 0 rfl (vp_in_nI (n := jb) (N := 4) (by omega) (by decide)) dX5_insert_170 (fun H locs hH hS => ?_)
                have hH : wHS E o g x (uI (uI (uI (uI (uI (uI y 28 0 0) 28 0 0) 28 0 0) 28 0 0) 7 jb v14) 8 jb v15) H := pa_cents (v := v15) (nI_clamp (n := jb) (by omega)) hH
                refine lv_aload_n hx hb dX5_insert_171 rfl (lv_at hl 1 rfl) ?_
                refine wr_get (T := TX5) (N := 30) (ci := 7) (v := .ref (g 19)) hx hb hts hinX5 hown hK hH (lv_md (by decide) (by decide)) (cel_md (by omega) (by omega)) rfl 9 (by decide) (hts (.fieldLink RX5 34 "SelectoRouteModel" "credits" "[I") (by decide +kernel)) (fun _ h => h) rfl dX5_insert_172 ?_
                refine lv_iload_n hx hb dX5_insert_175 rfl (lv_at hl 2 rfl) ?_
                refine wr_iald (v := v14) hx hb hK hH (lv_md (by decide) (by decide)) (cel_md (by decide) (by decide)) 0 rfl (vp_in_nI (n := jb) (N := 4) (by omega) (by decide)) (by rw [(nI_clamp (n := jb) (by omega))]; try simp [uI, uN, va_up]) dX5_insert_176 ?_
                subst ev15
                subst ev14
                have hsp : mp_insert y (nI jb) v = (((y.2 7 jb) + 6), (uI (uI (uI (uI (uI (uI y 28 0 0) 28 0 0) 28 0 0) 28 0 0) 7 jb ((y.2 7 jb) + 6)) 8 jb ((y.2 8 jb) + 0))) := by
                  unfold mp_insert
                  first | (simp only [c1, c2, c3, c9, c11, c12, c13, inB_nI hjb (by omega), ix_nI (show jb < 2 ^ 31 by omega), ↓reduceIte, and_self, and_true, true_and, Bool.false_eq_true, reduceCtorEq, eq_self, false_and, and_false]; done) | (simp [c1, c2, c3, c9, c11, c12, c13, inB_nI hjb (by omega), ix_nI (show jb < 2 ^ 31 by omega), ↓reduceIte, and_self, and_true, true_and, Bool.false_eq_true, reduceCtorEq, eq_self, false_and, and_false]; done) | simp only [c1, c2, c3, c9, c11, c12, c13, inB_nI hjb (by omega), ix_nI (show jb < 2 ^ 31 by omega), ↓reduceIte, and_self, and_true, true_and, Bool.false_eq_true, reduceCtorEq, eq_self, false_and, and_false]
                exact W.iret (v := ((y.2 7 jb) + 6)) hx hb hr (fun t ht hW => ⟨⟨((y.2 7 jb) + 6), (), rfl, (by rw [hsp]), wHS_t ht (by rw [hsp]; exact hH)⟩, hS.F ht⟩) hS.2.2 dX5_insert_177
          · have c11 : inB b (y.1 1 0) = false := c11
            refine lv_iconst (v := 1) hx hb dX5_insert_45 (by decide) ?_
            refine va_calli (va_runV (As := [.int 0, .int 1]) (rest := []) ⟨hx, hb, hml, hown, hts⟩ (met_X5_no0 l E o g x y 1) (cwV 2 hts gX5_insert_X5_no rfl rfl rfl (by decide +kernel) ⟨Nat.le_of_ble_eq_true rfl, Nat.le_of_ble_eq_true rfl⟩) ⟨fun a U f mk q => ⟨q.1, wPre.calling q.2 a f mk⟩, (va_recv hK (wH_one hH (lv_md (by decide) (by decide)) (cel_md (by omega) (by omega))) (ci := 7) (q0 := 0) rfl rfl), fun U hU hW => ⟨rfl, wPre_at hz hS hH hK U hU hW⟩⟩ rfl rfl hl.1 rfl (lv_room (Nat.le_of_ble_eq_true rfl)) dX5_insert_46 ⟨Nat.le_of_ble_eq_true rfl, Nat.le_of_ble_eq_true rfl⟩) hS (fun q _ h => h) (fun q h => h) (fun r u t H locs ht hvm hw hB hz1 hk1 hS => ?_)
            have hB := wHS_h ht hB
            try dsimp only at hw
            obtain rfl := hw
            have hH := hB
            refine lv_if_ne (tgt := 117) hx hb dX5_insert_49 (by decide) (fun _ => ?_) (fun hq => absurd hq (show ¬ (1 : Int32) = 0 by decide))
            refine lv_iconst (v := 0) hx hb dX5_insert_117 (by decide) ?_
            have hsp : mp_insert y b v = (0, (uI y 28 0 1)) := by
              unfold mp_insert
              first | (simp only [c1, c2, c3, c9, (Bool.eq_false_iff.mp c11), ↓reduceIte, and_self, and_true, true_and, Bool.false_eq_true, reduceCtorEq, eq_self, false_and, and_false]; done) | (simp [c1, c2, c3, c9, (Bool.eq_false_iff.mp c11), ↓reduceIte, and_self, and_true, true_and, Bool.false_eq_true, reduceCtorEq, eq_self, false_and, and_false]; done) | simp only [c1, c2, c3, c9, (Bool.eq_false_iff.mp c11), ↓reduceIte, and_self, and_true, true_and, Bool.false_eq_true, reduceCtorEq, eq_self, false_and, and_false]
            exact W.iret (v := 0) hx hb hr (fun t ht hW => ⟨⟨0, (), rfl, (by rw [hsp]), wHS_t ht (by rw [hsp]; exact hH)⟩, hS.F ht⟩) hS.2.2 dX5_insert_118
    · skip
      refine lv_iconst (v := 2) hx hb dX5_insert_16 (by decide) ?_
      refine lv_goto (tgt := 38) hx hb dX5_insert_17 (by decide) ?_
      refine lv_istore_n (lv' := [(3, .int 2), (0, .ref (g 10)), (1, .int b), (2, .int v)]) hx hb dX5_insert_38 rfl hl (by decide) rfl (fun ls hl => ?_)
      refine lv_aload_n hx hb dX5_insert_39 rfl (lv_at hl 1 rfl) ?_
      refine lv_aload_n hx hb dX5_insert_40 rfl (lv_at hl 1 rfl) ?_
      refine lv_iload_n hx hb dX5_insert_41 rfl (lv_at hl 2 rfl) ?_
      refine va_calli (va_runV (As := [.int b]) (rest := [.ref (g 10)]) ⟨hx, hb, hml, hown, hts⟩ (met_X5_isBox l E o g x y b (show (y.1 1 0) ≤ 100 by omega)) (cwV 1 hts gX5_insert_X5_isBox rfl rfl rfl (by decide +kernel) ⟨Nat.le_of_ble_eq_true rfl, Nat.le_of_ble_eq_true rfl⟩) ⟨fun a U f mk q => ⟨q.1, wPre.calling q.2 a f mk⟩, (va_recv hK (wH_one hH (lv_md (by decide) (by decide)) (cel_md (by omega) (by omega))) (ci := 7) (q0 := 0) rfl rfl), fun U hU hW => ⟨rfl, wPre_at hz hS hH hK U hU hW⟩⟩ rfl rfl hl.1 rfl (lv_room (Nat.le_of_ble_eq_true rfl)) dX5_insert_42 ⟨Nat.le_of_ble_eq_true rfl, Nat.le_of_ble_eq_true rfl⟩) hS (fun q _ h => h) (fun q h => h) (fun r u t H locs ht hvm hw hB hz1 hk1 hS => ?_)
      have hB := wHS_h ht hB
      try dsimp only at hw
      have hH := hB
      rcases hw with ⟨rfl, c16⟩ | ⟨rfl, c16⟩
      · have c16 : inB b (y.1 1 0) = true := c16
        obtain ⟨jb, hjb, rfl⟩ := inB_t c16 (by omega)
        refine lv_iconst (v := 1) hx hb dX5_insert_45 (by decide) ?_
        refine va_calli (va_runV (As := [.int 1, .int 1]) (rest := []) ⟨hx, hb, hml, hown, hts⟩ (met_X5_no1 l E o g x y 1) (cwV 2 hts gX5_insert_X5_no rfl rfl rfl (by decide +kernel) ⟨Nat.le_of_ble_eq_true rfl, Nat.le_of_ble_eq_true rfl⟩) ⟨fun a U f mk q => ⟨q.1, wPre.calling q.2 a f mk⟩, (va_recv hK (wH_one hH (lv_md (by decide) (by decide)) (cel_md (by omega) (by omega))) (ci := 7) (q0 := 0) rfl rfl), fun U hU hW => ⟨rfl, wPre_at hz hS hH hK U hU hW⟩⟩ rfl rfl hl.1 rfl (lv_room (Nat.le_of_ble_eq_true rfl)) dX5_insert_46 ⟨Nat.le_of_ble_eq_true rfl, Nat.le_of_ble_eq_true rfl⟩) hS (fun q _ h => h) (fun q h => h) (fun r u t H locs ht hvm hw hB hz1 hk1 hS => ?_)
        have hB := wHS_h ht hB
        try dsimp only at hw
        obtain rfl := hw
        have hH := hB
        refine lv_if_ne (tgt := 117) hx hb dX5_insert_49 (by decide) (fun hq => absurd (show (0 : Int32) = 0 by decide) hq) (fun _ => ?_)
        refine lv_aload_n hx hb dX5_insert_52 rfl (lv_at hl 1 rfl) ?_
        refine lv_iload_n hx hb dX5_insert_53 rfl (lv_at hl 0 rfl) ?_
        refine lv_if_le (tgt := 61) hx hb dX5_insert_54 (by decide) (fun hq => absurd hq (show ¬ (2 : Int32) ≤ 0 by decide)) (fun _ => ?_)
        refine lv_iconst (v := 1) hx hb dX5_insert_57 (by decide) ?_
        refine lv_goto (tgt := 62) hx hb dX5_insert_58 (by decide) ?_
        refine lv_iconst (v := 2) hx hb dX5_insert_62 (by decide) ?_
        refine va_calli (va_runV (As := [.int 1, .int 2]) (rest := []) ⟨hx, hb, hml, hown, hts⟩ (met_X5_no1 l E o g x (uI y 28 0 0) 2) (cwV 2 hts gX5_insert_X5_no rfl rfl rfl (by decide +kernel) ⟨Nat.le_of_ble_eq_true rfl, Nat.le_of_ble_eq_true rfl⟩) ⟨fun a U f mk q => ⟨q.1, wPre.calling q.2 a f mk⟩, (va_recv hK (wH_one hH (lv_md (by decide) (by decide)) (cel_md (by omega) (by omega))) (ci := 7) (q0 := 0) rfl rfl), fun U hU hW => ⟨rfl, wPre_at hz hS hH hK U hU hW⟩⟩ rfl rfl hl.1 rfl (lv_room (Nat.le_of_ble_eq_true rfl)) dX5_insert_63 ⟨Nat.le_of_ble_eq_true rfl, Nat.le_of_ble_eq_true rfl⟩) hS (fun q _ h => h) (fun q h => h) (fun r u t H locs ht hvm hw hB hz1 hk1 hS => ?_)
        have hB := wHS_h ht hB
        try dsimp only at hw
        obtain rfl := hw
        have hH := hB
        refine lv_if_ne (tgt := 117) hx hb dX5_insert_66 (by decide) (fun hq => absurd (show (0 : Int32) = 0 by decide) hq) (fun _ => ?_)
        refine lv_aload_n hx hb dX5_insert_69 rfl (lv_at hl 1 rfl) ?_
        refine lv_aload_n hx hb dX5_insert_70 rfl (lv_at hl 1 rfl) ?_
        refine wr_get (T := TX5) (N := 30) (ci := 7) (v := .ref (g 27)) hx hb hts hinX5 hown hK hH (lv_md (by decide) (by decide)) (cel_md (by omega) (by omega)) rfl 17 (by decide) (hts (.fieldLink RX5 58 "SelectoRouteModel" "jammed" "[Z") (by decide +kernel)) (fun _ h => h) rfl dX5_insert_71 ?_
        refine lv_iload_n hx hb dX5_insert_74 rfl (lv_at hl 2 rfl) ?_
        refine wr_zald (v := (y.2 10 jb)) hx hb hK hH (lv_md (by decide) (by decide)) (cel_md (by decide) (by decide)) 1 rfl (vp_in_nI (n := jb) (N := 4) (by omega) (by decide)) (by rw [(nI_clamp (n := jb) (by omega))]; try rfl) dX5_insert_75 ?_
        refine lv_if_ne (tgt := 83) hx hb dX5_insert_76 (by decide) (fun c17 => ?_) (fun c17 => ?_)
        · skip
          refine lv_iconst (v := 0) hx hb dX5_insert_83 (by decide) ?_
          refine lv_iconst (v := 3) hx hb dX5_insert_84 (by decide) ?_
          refine va_calli (va_runV (As := [.int 0, .int 3]) (rest := []) ⟨hx, hb, hml, hown, hts⟩ (met_X5_no0 l E o g x (uI (uI y 28 0 0) 28 0 0) 3) (cwV 2 hts gX5_insert_X5_no rfl rfl rfl (by decide +kernel) ⟨Nat.le_of_ble_eq_true rfl, Nat.le_of_ble_eq_true rfl⟩) ⟨fun a U f mk q => ⟨q.1, wPre.calling q.2 a f mk⟩, (va_recv hK (wH_one hH (lv_md (by decide) (by decide)) (cel_md (by omega) (by omega))) (ci := 7) (q0 := 0) rfl rfl), fun U hU hW => ⟨rfl, wPre_at hz hS hH hK U hU hW⟩⟩ rfl rfl hl.1 rfl (lv_room (Nat.le_of_ble_eq_true rfl)) dX5_insert_85 ⟨Nat.le_of_ble_eq_true rfl, Nat.le_of_ble_eq_true rfl⟩) hS (fun q _ h => h) (fun q h => h) (fun r u t H locs ht hvm hw hB hz1 hk1 hS => ?_)
          have hB := wHS_h ht hB
          try dsimp only at hw
          obtain rfl := hw
          have hH := hB
          refine lv_if_ne (tgt := 117) hx hb dX5_insert_88 (by decide) (fun _ => ?_) (fun hq => absurd hq (show ¬ (1 : Int32) = 0 by decide))
          refine lv_iconst (v := 0) hx hb dX5_insert_117 (by decide) ?_
          have hsp : mp_insert y (nI jb) v = (0, (uI (uI (uI y 28 0 0) 28 0 0) 28 0 3)) := by
            unfold mp_insert
            first | (simp only [c1, c2, c16, c17, inB_nI hjb (by omega), ix_nI (show jb < 2 ^ 31 by omega), ↓reduceIte, and_self, and_true, true_and, Bool.false_eq_true, reduceCtorEq, eq_self, false_and, and_false]; done) | (simp [c1, c2, c16, c17, inB_nI hjb (by omega), ix_nI (show jb < 2 ^ 31 by omega), ↓reduceIte, and_self, and_true, true_and, Bool.false_eq_true, reduceCtorEq, eq_self, false_and, and_false]; done) | simp only [c1, c2, c16, c17, inB_nI hjb (by omega), ix_nI (show jb < 2 ^ 31 by omega), ↓reduceIte, and_self, and_true, true_and, Bool.false_eq_true, reduceCtorEq, eq_self, false_and, and_false]
          exact W.iret (v := 0) hx hb hr (fun t ht hW => ⟨⟨0, (), rfl, (by rw [hsp]), wHS_t ht (by rw [hsp]; exact hH)⟩, hS.F ht⟩) hS.2.2 dX5_insert_118
        · skip
          refine lv_iconst (v := 1) hx hb dX5_insert_79 (by decide) ?_
          refine lv_goto (tgt := 84) hx hb dX5_insert_80 (by decide) ?_
          refine lv_iconst (v := 3) hx hb dX5_insert_84 (by decide) ?_
          refine va_calli (va_runV (As := [.int 1, .int 3]) (rest := []) ⟨hx, hb, hml, hown, hts⟩ (met_X5_no1 l E o g x (uI (uI y 28 0 0) 28 0 0) 3) (cwV 2 hts gX5_insert_X5_no rfl rfl rfl (by decide +kernel) ⟨Nat.le_of_ble_eq_true rfl, Nat.le_of_ble_eq_true rfl⟩) ⟨fun a U f mk q => ⟨q.1, wPre.calling q.2 a f mk⟩, (va_recv hK (wH_one hH (lv_md (by decide) (by decide)) (cel_md (by omega) (by omega))) (ci := 7) (q0 := 0) rfl rfl), fun U hU hW => ⟨rfl, wPre_at hz hS hH hK U hU hW⟩⟩ rfl rfl hl.1 rfl (lv_room (Nat.le_of_ble_eq_true rfl)) dX5_insert_85 ⟨Nat.le_of_ble_eq_true rfl, Nat.le_of_ble_eq_true rfl⟩) hS (fun q _ h => h) (fun q h => h) (fun r u t H locs ht hvm hw hB hz1 hk1 hS => ?_)
          have hB := wHS_h ht hB
          try dsimp only at hw
          obtain rfl := hw
          have hH := hB
          refine lv_if_ne (tgt := 117) hx hb dX5_insert_88 (by decide) (fun hq => absurd (show (0 : Int32) = 0 by decide) hq) (fun _ => ?_)
          refine lv_aload_n hx hb dX5_insert_91 rfl (lv_at hl 1 rfl) ?_
          refine lv_aload_n hx hb dX5_insert_92 rfl (lv_at hl 1 rfl) ?_
          refine wr_get (T := TX5) (N := 30) (ci := 7) (v := .ref (g 19)) hx hb hts hinX5 hown hK hH (lv_md (by decide) (by decide)) (cel_md (by omega) (by omega)) rfl 9 (by decide) (hts (.fieldLink RX5 34 "SelectoRouteModel" "credits" "[I") (by decide +kernel)) (fun _ h => h) rfl dX5_insert_93 ?_
          refine lv_iload_n hx hb dX5_insert_96 rfl (lv_at hl 2 rfl) ?_
          refine wr_iald (v := (y.2 7 jb)) hx hb hK hH (lv_md (by decide) (by decide)) (cel_md (by decide) (by decide)) 0 rfl (vp_in_nI (n := jb) (N := 4) (by omega) (by decide)) (by rw [(nI_clamp (n := jb) (by omega))]; try rfl) dX5_insert_97 ?_
          refine lv_iload_n hx hb dX5_insert_98 rfl (lv_at hl 0 rfl) ?_
          refine lv_iadd hx hb dX5_insert_99 ?_
          refine lv_bipush (v := 99) hx hb dX5_insert_100 (by decide) ?_
          refine lv_icmp_gt (tgt := 109) hx hb dX5_insert_102 (by decide) (fun c18 => ?_) (fun c18 => ?_)
          · skip
            refine lv_iconst (v := 0) hx hb dX5_insert_109 (by decide) ?_
            refine lv_iconst (v := 4) hx hb dX5_insert_110 (by decide) ?_
            refine va_calli (va_runV (As := [.int 0, .int 4]) (rest := []) ⟨hx, hb, hml, hown, hts⟩ (met_X5_no0 l E o g x (uI (uI (uI y 28 0 0) 28 0 0) 28 0 0) 4) (cwV 2 hts gX5_insert_X5_no rfl rfl rfl (by decide +kernel) ⟨Nat.le_of_ble_eq_true rfl, Nat.le_of_ble_eq_true rfl⟩) ⟨fun a U f mk q => ⟨q.1, wPre.calling q.2 a f mk⟩, (va_recv hK (wH_one hH (lv_md (by decide) (by decide)) (cel_md (by omega) (by omega))) (ci := 7) (q0 := 0) rfl rfl), fun U hU hW => ⟨rfl, wPre_at hz hS hH hK U hU hW⟩⟩ rfl rfl hl.1 rfl (lv_room (Nat.le_of_ble_eq_true rfl)) dX5_insert_111 ⟨Nat.le_of_ble_eq_true rfl, Nat.le_of_ble_eq_true rfl⟩) hS (fun q _ h => h) (fun q h => h) (fun r u t H locs ht hvm hw hB hz1 hk1 hS => ?_)
            have hB := wHS_h ht hB
            try dsimp only at hw
            obtain rfl := hw
            have hH := hB
            refine lv_if_eq (tgt := 119) hx hb dX5_insert_114 (by decide) (fun hq => absurd hq (show ¬ (1 : Int32) = 0 by decide)) (fun _ => ?_)
            refine lv_iconst (v := 0) hx hb dX5_insert_117 (by decide) ?_
            have hsp : mp_insert y (nI jb) v = (0, (uI (uI (uI (uI y 28 0 0) 28 0 0) 28 0 0) 28 0 4)) := by
              unfold mp_insert
              first | (simp only [c1, c2, c16, c17, c18, inB_nI hjb (by omega), ix_nI (show jb < 2 ^ 31 by omega), ↓reduceIte, and_self, and_true, true_and, Bool.false_eq_true, reduceCtorEq, eq_self, false_and, and_false]; done) | (simp [c1, c2, c16, c17, c18, inB_nI hjb (by omega), ix_nI (show jb < 2 ^ 31 by omega), ↓reduceIte, and_self, and_true, true_and, Bool.false_eq_true, reduceCtorEq, eq_self, false_and, and_false]; done) | simp only [c1, c2, c16, c17, c18, inB_nI hjb (by omega), ix_nI (show jb < 2 ^ 31 by omega), ↓reduceIte, and_self, and_true, true_and, Bool.false_eq_true, reduceCtorEq, eq_self, false_and, and_false]
            exact W.iret (v := 0) hx hb hr (fun t ht hW => ⟨⟨0, (), rfl, (by rw [hsp]), wHS_t ht (by rw [hsp]; exact hH)⟩, hS.F ht⟩) hS.2.2 dX5_insert_118
          · skip
            refine lv_iconst (v := 1) hx hb dX5_insert_105 (by decide) ?_
            refine lv_goto (tgt := 110) hx hb dX5_insert_106 (by decide) ?_
            refine lv_iconst (v := 4) hx hb dX5_insert_110 (by decide) ?_
            refine va_calli (va_runV (As := [.int 1, .int 4]) (rest := []) ⟨hx, hb, hml, hown, hts⟩ (met_X5_no1 l E o g x (uI (uI (uI y 28 0 0) 28 0 0) 28 0 0) 4) (cwV 2 hts gX5_insert_X5_no rfl rfl rfl (by decide +kernel) ⟨Nat.le_of_ble_eq_true rfl, Nat.le_of_ble_eq_true rfl⟩) ⟨fun a U f mk q => ⟨q.1, wPre.calling q.2 a f mk⟩, (va_recv hK (wH_one hH (lv_md (by decide) (by decide)) (cel_md (by omega) (by omega))) (ci := 7) (q0 := 0) rfl rfl), fun U hU hW => ⟨rfl, wPre_at hz hS hH hK U hU hW⟩⟩ rfl rfl hl.1 rfl (lv_room (Nat.le_of_ble_eq_true rfl)) dX5_insert_111 ⟨Nat.le_of_ble_eq_true rfl, Nat.le_of_ble_eq_true rfl⟩) hS (fun q _ h => h) (fun q h => h) (fun r u t H locs ht hvm hw hB hz1 hk1 hS => ?_)
            have hB := wHS_h ht hB
            try dsimp only at hw
            obtain rfl := hw
            have hH := hB
            refine lv_if_eq (tgt := 119) hx hb dX5_insert_114 (by decide) (fun _ => ?_) (fun hq => absurd (show (0 : Int32) = 0 by decide) hq)
            refine lv_aload_n hx hb dX5_insert_119 rfl (lv_at hl 1 rfl) ?_
            refine wr_get (T := TX5) (N := 30) (ci := 7) (v := .ref (g 19)) hx hb hts hinX5 hown hK hH (lv_md (by decide) (by decide)) (cel_md (by omega) (by omega)) rfl 9 (by decide) (hts (.fieldLink RX5 34 "SelectoRouteModel" "credits" "[I") (by decide +kernel)) (fun _ h => h) rfl dX5_insert_120 ?_
            refine lv_iload_n hx hb dX5_insert_123 rfl (lv_at hl 2 rfl) ?_
            refine lv_dup2_11 hx hb dX5_insert_124 rfl rfl ?_
            refine wr_iald (v := (y.2 7 jb)) hx hb hK hH (lv_md (by decide) (by decide)) (cel_md (by decide) (by decide)) 0 rfl (vp_in_nI (n := jb) (N := 4) (by omega) (by decide)) (by rw [(nI_clamp (n := jb) (by omega))]; try rfl) dX5_insert_125 ?_
            refine lv_iload_n hx hb dX5_insert_126 rfl (lv_at hl 0 rfl) ?_
            refine lv_iadd hx hb dX5_insert_127 ?_
            refine lv_topi (fun v19 ev19 => ?_)
            refine wr_iast hx hb hK hH hS (lv_md (by decide) (by decide)) (cel_md (by decide) (by decide)) 0 rfl (vp_in_nI (n := jb) (N := 4) (by omega) (by decide)) dX5_insert_128 (fun H locs hH hS => ?_)
            have hH : wHS E o g x (uI (uI (uI (uI (uI y 28 0 0) 28 0 0) 28 0 0) 28 0 0) 7 jb v19) H := pa_credits (v := v19) (nI_clamp (n := jb) (by omega)) hH
            refine lv_aload_n hx hb dX5_insert_129 rfl (lv_at hl 1 rfl) ?_
            refine wr_get (T := TX5) (N := 30) (ci := 7) (v := .ref (g 20)) hx hb hts hinX5 hown hK hH (lv_md (by decide) (by decide)) (cel_md (by omega) (by omega)) rfl 10 (by decide) (hts (.fieldLink RX5 37 "SelectoRouteModel" "cents" "[I") (by decide +kernel)) (fun _ h => h) rfl dX5_insert_130 ?_
            refine lv_iload_n hx hb dX5_insert_133 rfl (lv_at hl 2 rfl) ?_
            refine lv_dup2_11 hx hb dX5_insert_134 rfl rfl ?_
            refine wr_iald (v := (y.2 8 jb)) hx hb hK hH (lv_md (by decide) (by decide)) (cel_md (by decide) (by decide)) 0 rfl (vp_in_nI (n := jb) (N := 4) (by omega) (by decide)) (by rw [(nI_clamp (n := jb) (by omega))]; try rfl) dX5_insert_135 ?_
            refine lv_iload_n hx hb dX5_insert_136 rfl (lv_at hl 3 rfl) ?_
            refine lv_bipush (v := 110) hx hb dX5_insert_137 (by decide) ?_
            refine lv_icmp_ne (tgt := 146) hx hb dX5_insert_139 (by decide) (fun _ => ?_) (fun hq => absurd hq c1)
            refine lv_iload_n hx hb dX5_insert_146 rfl (lv_at hl 3 rfl) ?_
            refine lv_bipush (v := 100) hx hb dX5_insert_147 (by decide) ?_
            refine lv_icmp_ne (tgt := 157) hx hb dX5_insert_149 (by decide) (fun hq => absurd c2 hq) (fun _ => ?_)
            refine lv_bipush (v := 10) hx hb dX5_insert_152 (by decide) ?_
            refine lv_goto (tgt := 169) hx hb dX5_insert_154 (by decide) ?_
            refine lv_iadd hx hb dX5_insert_169 ?_
            refine lv_topi (fun v20 ev20 => ?_)
            refine wr_iast hx hb hK hH hS (lv_md (by decide) (by decide)) (cel_md (by decide) (by decide)) 0 rfl (vp_in_nI (n := jb) (N := 4) (by omega) (by decide)) dX5_insert_170 (fun H locs hH hS => ?_)
            have hH : wHS E o g x (uI (uI (uI (uI (uI (uI y 28 0 0) 28 0 0) 28 0 0) 28 0 0) 7 jb v19) 8 jb v20) H := pa_cents (v := v20) (nI_clamp (n := jb) (by omega)) hH
            refine lv_aload_n hx hb dX5_insert_171 rfl (lv_at hl 1 rfl) ?_
            refine wr_get (T := TX5) (N := 30) (ci := 7) (v := .ref (g 19)) hx hb hts hinX5 hown hK hH (lv_md (by decide) (by decide)) (cel_md (by omega) (by omega)) rfl 9 (by decide) (hts (.fieldLink RX5 34 "SelectoRouteModel" "credits" "[I") (by decide +kernel)) (fun _ h => h) rfl dX5_insert_172 ?_
            refine lv_iload_n hx hb dX5_insert_175 rfl (lv_at hl 2 rfl) ?_
            refine wr_iald (v := v19) hx hb hK hH (lv_md (by decide) (by decide)) (cel_md (by decide) (by decide)) 0 rfl (vp_in_nI (n := jb) (N := 4) (by omega) (by decide)) (by rw [(nI_clamp (n := jb) (by omega))]; try simp [uI, uN, va_up]) dX5_insert_176 ?_
            subst ev20
            subst ev19
            have hsp : mp_insert y (nI jb) v = (((y.2 7 jb) + 2), (uI (uI (uI (uI (uI (uI y 28 0 0) 28 0 0) 28 0 0) 28 0 0) 7 jb ((y.2 7 jb) + 2)) 8 jb ((y.2 8 jb) + 10))) := by
              unfold mp_insert
              first | (simp only [c1, c2, c16, c17, c18, inB_nI hjb (by omega), ix_nI (show jb < 2 ^ 31 by omega), ↓reduceIte, and_self, and_true, true_and, Bool.false_eq_true, reduceCtorEq, eq_self, false_and, and_false]; done) | (simp [c1, c2, c16, c17, c18, inB_nI hjb (by omega), ix_nI (show jb < 2 ^ 31 by omega), ↓reduceIte, and_self, and_true, true_and, Bool.false_eq_true, reduceCtorEq, eq_self, false_and, and_false]; done) | simp only [c1, c2, c16, c17, c18, inB_nI hjb (by omega), ix_nI (show jb < 2 ^ 31 by omega), ↓reduceIte, and_self, and_true, true_and, Bool.false_eq_true, reduceCtorEq, eq_self, false_and, and_false]
            exact W.iret (v := ((y.2 7 jb) + 2)) hx hb hr (fun t ht hW => ⟨⟨((y.2 7 jb) + 2), (), rfl, (by rw [hsp]), wHS_t ht (by rw [hsp]; exact hH)⟩, hS.F ht⟩) hS.2.2 dX5_insert_177
      · have c16 : inB b (y.1 1 0) = false := c16
        refine lv_iconst (v := 1) hx hb dX5_insert_45 (by decide) ?_
        refine va_calli (va_runV (As := [.int 0, .int 1]) (rest := []) ⟨hx, hb, hml, hown, hts⟩ (met_X5_no0 l E o g x y 1) (cwV 2 hts gX5_insert_X5_no rfl rfl rfl (by decide +kernel) ⟨Nat.le_of_ble_eq_true rfl, Nat.le_of_ble_eq_true rfl⟩) ⟨fun a U f mk q => ⟨q.1, wPre.calling q.2 a f mk⟩, (va_recv hK (wH_one hH (lv_md (by decide) (by decide)) (cel_md (by omega) (by omega))) (ci := 7) (q0 := 0) rfl rfl), fun U hU hW => ⟨rfl, wPre_at hz hS hH hK U hU hW⟩⟩ rfl rfl hl.1 rfl (lv_room (Nat.le_of_ble_eq_true rfl)) dX5_insert_46 ⟨Nat.le_of_ble_eq_true rfl, Nat.le_of_ble_eq_true rfl⟩) hS (fun q _ h => h) (fun q h => h) (fun r u t H locs ht hvm hw hB hz1 hk1 hS => ?_)
        have hB := wHS_h ht hB
        try dsimp only at hw
        obtain rfl := hw
        have hH := hB
        refine lv_if_ne (tgt := 117) hx hb dX5_insert_49 (by decide) (fun _ => ?_) (fun hq => absurd hq (show ¬ (1 : Int32) = 0 by decide))
        refine lv_iconst (v := 0) hx hb dX5_insert_117 (by decide) ?_
        have hsp : mp_insert y b v = (0, (uI y 28 0 1)) := by
          unfold mp_insert
          first | (simp only [c1, c2, (Bool.eq_false_iff.mp c16), ↓reduceIte, and_self, and_true, true_and, Bool.false_eq_true, reduceCtorEq, eq_self, false_and, and_false]; done) | (simp [c1, c2, (Bool.eq_false_iff.mp c16), ↓reduceIte, and_self, and_true, true_and, Bool.false_eq_true, reduceCtorEq, eq_self, false_and, and_false]; done) | simp only [c1, c2, (Bool.eq_false_iff.mp c16), ↓reduceIte, and_self, and_true, true_and, Bool.false_eq_true, reduceCtorEq, eq_self, false_and, and_false]
        exact W.iret (v := 0) hx hb hr (fun t ht hW => ⟨⟨0, (), rfl, (by rw [hsp]), wHS_t ht (by rw [hsp]; exact hH)⟩, hS.F ht⟩) hS.2.2 dX5_insert_118
  · skip
    refine lv_iconst (v := 1) hx hb dX5_insert_6 (by decide) ?_
    refine lv_goto (tgt := 38) hx hb dX5_insert_7 (by decide) ?_
    refine lv_istore_n (lv' := [(3, .int 1), (0, .ref (g 10)), (1, .int b), (2, .int v)]) hx hb dX5_insert_38 rfl hl (by decide) rfl (fun ls hl => ?_)
    refine lv_aload_n hx hb dX5_insert_39 rfl (lv_at hl 1 rfl) ?_
    refine lv_aload_n hx hb dX5_insert_40 rfl (lv_at hl 1 rfl) ?_
    refine lv_iload_n hx hb dX5_insert_41 rfl (lv_at hl 2 rfl) ?_
    refine va_calli (va_runV (As := [.int b]) (rest := [.ref (g 10)]) ⟨hx, hb, hml, hown, hts⟩ (met_X5_isBox l E o g x y b (show (y.1 1 0) ≤ 100 by omega)) (cwV 1 hts gX5_insert_X5_isBox rfl rfl rfl (by decide +kernel) ⟨Nat.le_of_ble_eq_true rfl, Nat.le_of_ble_eq_true rfl⟩) ⟨fun a U f mk q => ⟨q.1, wPre.calling q.2 a f mk⟩, (va_recv hK (wH_one hH (lv_md (by decide) (by decide)) (cel_md (by omega) (by omega))) (ci := 7) (q0 := 0) rfl rfl), fun U hU hW => ⟨rfl, wPre_at hz hS hH hK U hU hW⟩⟩ rfl rfl hl.1 rfl (lv_room (Nat.le_of_ble_eq_true rfl)) dX5_insert_42 ⟨Nat.le_of_ble_eq_true rfl, Nat.le_of_ble_eq_true rfl⟩) hS (fun q _ h => h) (fun q h => h) (fun r u t H locs ht hvm hw hB hz1 hk1 hS => ?_)
    have hB := wHS_h ht hB
    try dsimp only at hw
    have hH := hB
    rcases hw with ⟨rfl, c21⟩ | ⟨rfl, c21⟩
    · have c21 : inB b (y.1 1 0) = true := c21
      obtain ⟨jb, hjb, rfl⟩ := inB_t c21 (by omega)
      refine lv_iconst (v := 1) hx hb dX5_insert_45 (by decide) ?_
      refine va_calli (va_runV (As := [.int 1, .int 1]) (rest := []) ⟨hx, hb, hml, hown, hts⟩ (met_X5_no1 l E o g x y 1) (cwV 2 hts gX5_insert_X5_no rfl rfl rfl (by decide +kernel) ⟨Nat.le_of_ble_eq_true rfl, Nat.le_of_ble_eq_true rfl⟩) ⟨fun a U f mk q => ⟨q.1, wPre.calling q.2 a f mk⟩, (va_recv hK (wH_one hH (lv_md (by decide) (by decide)) (cel_md (by omega) (by omega))) (ci := 7) (q0 := 0) rfl rfl), fun U hU hW => ⟨rfl, wPre_at hz hS hH hK U hU hW⟩⟩ rfl rfl hl.1 rfl (lv_room (Nat.le_of_ble_eq_true rfl)) dX5_insert_46 ⟨Nat.le_of_ble_eq_true rfl, Nat.le_of_ble_eq_true rfl⟩) hS (fun q _ h => h) (fun q h => h) (fun r u t H locs ht hvm hw hB hz1 hk1 hS => ?_)
      have hB := wHS_h ht hB
      try dsimp only at hw
      obtain rfl := hw
      have hH := hB
      refine lv_if_ne (tgt := 117) hx hb dX5_insert_49 (by decide) (fun hq => absurd (show (0 : Int32) = 0 by decide) hq) (fun _ => ?_)
      refine lv_aload_n hx hb dX5_insert_52 rfl (lv_at hl 1 rfl) ?_
      refine lv_iload_n hx hb dX5_insert_53 rfl (lv_at hl 0 rfl) ?_
      refine lv_if_le (tgt := 61) hx hb dX5_insert_54 (by decide) (fun hq => absurd hq (show ¬ (1 : Int32) ≤ 0 by decide)) (fun _ => ?_)
      refine lv_iconst (v := 1) hx hb dX5_insert_57 (by decide) ?_
      refine lv_goto (tgt := 62) hx hb dX5_insert_58 (by decide) ?_
      refine lv_iconst (v := 2) hx hb dX5_insert_62 (by decide) ?_
      refine va_calli (va_runV (As := [.int 1, .int 2]) (rest := []) ⟨hx, hb, hml, hown, hts⟩ (met_X5_no1 l E o g x (uI y 28 0 0) 2) (cwV 2 hts gX5_insert_X5_no rfl rfl rfl (by decide +kernel) ⟨Nat.le_of_ble_eq_true rfl, Nat.le_of_ble_eq_true rfl⟩) ⟨fun a U f mk q => ⟨q.1, wPre.calling q.2 a f mk⟩, (va_recv hK (wH_one hH (lv_md (by decide) (by decide)) (cel_md (by omega) (by omega))) (ci := 7) (q0 := 0) rfl rfl), fun U hU hW => ⟨rfl, wPre_at hz hS hH hK U hU hW⟩⟩ rfl rfl hl.1 rfl (lv_room (Nat.le_of_ble_eq_true rfl)) dX5_insert_63 ⟨Nat.le_of_ble_eq_true rfl, Nat.le_of_ble_eq_true rfl⟩) hS (fun q _ h => h) (fun q h => h) (fun r u t H locs ht hvm hw hB hz1 hk1 hS => ?_)
      have hB := wHS_h ht hB
      try dsimp only at hw
      obtain rfl := hw
      have hH := hB
      refine lv_if_ne (tgt := 117) hx hb dX5_insert_66 (by decide) (fun hq => absurd (show (0 : Int32) = 0 by decide) hq) (fun _ => ?_)
      refine lv_aload_n hx hb dX5_insert_69 rfl (lv_at hl 1 rfl) ?_
      refine lv_aload_n hx hb dX5_insert_70 rfl (lv_at hl 1 rfl) ?_
      refine wr_get (T := TX5) (N := 30) (ci := 7) (v := .ref (g 27)) hx hb hts hinX5 hown hK hH (lv_md (by decide) (by decide)) (cel_md (by omega) (by omega)) rfl 17 (by decide) (hts (.fieldLink RX5 58 "SelectoRouteModel" "jammed" "[Z") (by decide +kernel)) (fun _ h => h) rfl dX5_insert_71 ?_
      refine lv_iload_n hx hb dX5_insert_74 rfl (lv_at hl 2 rfl) ?_
      refine wr_zald (v := (y.2 10 jb)) hx hb hK hH (lv_md (by decide) (by decide)) (cel_md (by decide) (by decide)) 1 rfl (vp_in_nI (n := jb) (N := 4) (by omega) (by decide)) (by rw [(nI_clamp (n := jb) (by omega))]; try rfl) dX5_insert_75 ?_
      refine lv_if_ne (tgt := 83) hx hb dX5_insert_76 (by decide) (fun c22 => ?_) (fun c22 => ?_)
      · skip
        refine lv_iconst (v := 0) hx hb dX5_insert_83 (by decide) ?_
        refine lv_iconst (v := 3) hx hb dX5_insert_84 (by decide) ?_
        refine va_calli (va_runV (As := [.int 0, .int 3]) (rest := []) ⟨hx, hb, hml, hown, hts⟩ (met_X5_no0 l E o g x (uI (uI y 28 0 0) 28 0 0) 3) (cwV 2 hts gX5_insert_X5_no rfl rfl rfl (by decide +kernel) ⟨Nat.le_of_ble_eq_true rfl, Nat.le_of_ble_eq_true rfl⟩) ⟨fun a U f mk q => ⟨q.1, wPre.calling q.2 a f mk⟩, (va_recv hK (wH_one hH (lv_md (by decide) (by decide)) (cel_md (by omega) (by omega))) (ci := 7) (q0 := 0) rfl rfl), fun U hU hW => ⟨rfl, wPre_at hz hS hH hK U hU hW⟩⟩ rfl rfl hl.1 rfl (lv_room (Nat.le_of_ble_eq_true rfl)) dX5_insert_85 ⟨Nat.le_of_ble_eq_true rfl, Nat.le_of_ble_eq_true rfl⟩) hS (fun q _ h => h) (fun q h => h) (fun r u t H locs ht hvm hw hB hz1 hk1 hS => ?_)
        have hB := wHS_h ht hB
        try dsimp only at hw
        obtain rfl := hw
        have hH := hB
        refine lv_if_ne (tgt := 117) hx hb dX5_insert_88 (by decide) (fun _ => ?_) (fun hq => absurd hq (show ¬ (1 : Int32) = 0 by decide))
        refine lv_iconst (v := 0) hx hb dX5_insert_117 (by decide) ?_
        have hsp : mp_insert y (nI jb) v = (0, (uI (uI (uI y 28 0 0) 28 0 0) 28 0 3)) := by
          unfold mp_insert
          first | (simp only [c1, c21, c22, inB_nI hjb (by omega), ix_nI (show jb < 2 ^ 31 by omega), ↓reduceIte, and_self, and_true, true_and, Bool.false_eq_true, reduceCtorEq, eq_self, false_and, and_false]; done) | (simp [c1, c21, c22, inB_nI hjb (by omega), ix_nI (show jb < 2 ^ 31 by omega), ↓reduceIte, and_self, and_true, true_and, Bool.false_eq_true, reduceCtorEq, eq_self, false_and, and_false]; done) | simp only [c1, c21, c22, inB_nI hjb (by omega), ix_nI (show jb < 2 ^ 31 by omega), ↓reduceIte, and_self, and_true, true_and, Bool.false_eq_true, reduceCtorEq, eq_self, false_and, and_false]
        exact W.iret (v := 0) hx hb hr (fun t ht hW => ⟨⟨0, (), rfl, (by rw [hsp]), wHS_t ht (by rw [hsp]; exact hH)⟩, hS.F ht⟩) hS.2.2 dX5_insert_118
      · skip
        refine lv_iconst (v := 1) hx hb dX5_insert_79 (by decide) ?_
        refine lv_goto (tgt := 84) hx hb dX5_insert_80 (by decide) ?_
        refine lv_iconst (v := 3) hx hb dX5_insert_84 (by decide) ?_
        refine va_calli (va_runV (As := [.int 1, .int 3]) (rest := []) ⟨hx, hb, hml, hown, hts⟩ (met_X5_no1 l E o g x (uI (uI y 28 0 0) 28 0 0) 3) (cwV 2 hts gX5_insert_X5_no rfl rfl rfl (by decide +kernel) ⟨Nat.le_of_ble_eq_true rfl, Nat.le_of_ble_eq_true rfl⟩) ⟨fun a U f mk q => ⟨q.1, wPre.calling q.2 a f mk⟩, (va_recv hK (wH_one hH (lv_md (by decide) (by decide)) (cel_md (by omega) (by omega))) (ci := 7) (q0 := 0) rfl rfl), fun U hU hW => ⟨rfl, wPre_at hz hS hH hK U hU hW⟩⟩ rfl rfl hl.1 rfl (lv_room (Nat.le_of_ble_eq_true rfl)) dX5_insert_85 ⟨Nat.le_of_ble_eq_true rfl, Nat.le_of_ble_eq_true rfl⟩) hS (fun q _ h => h) (fun q h => h) (fun r u t H locs ht hvm hw hB hz1 hk1 hS => ?_)
        have hB := wHS_h ht hB
        try dsimp only at hw
        obtain rfl := hw
        have hH := hB
        refine lv_if_ne (tgt := 117) hx hb dX5_insert_88 (by decide) (fun hq => absurd (show (0 : Int32) = 0 by decide) hq) (fun _ => ?_)
        refine lv_aload_n hx hb dX5_insert_91 rfl (lv_at hl 1 rfl) ?_
        refine lv_aload_n hx hb dX5_insert_92 rfl (lv_at hl 1 rfl) ?_
        refine wr_get (T := TX5) (N := 30) (ci := 7) (v := .ref (g 19)) hx hb hts hinX5 hown hK hH (lv_md (by decide) (by decide)) (cel_md (by omega) (by omega)) rfl 9 (by decide) (hts (.fieldLink RX5 34 "SelectoRouteModel" "credits" "[I") (by decide +kernel)) (fun _ h => h) rfl dX5_insert_93 ?_
        refine lv_iload_n hx hb dX5_insert_96 rfl (lv_at hl 2 rfl) ?_
        refine wr_iald (v := (y.2 7 jb)) hx hb hK hH (lv_md (by decide) (by decide)) (cel_md (by decide) (by decide)) 0 rfl (vp_in_nI (n := jb) (N := 4) (by omega) (by decide)) (by rw [(nI_clamp (n := jb) (by omega))]; try rfl) dX5_insert_97 ?_
        refine lv_iload_n hx hb dX5_insert_98 rfl (lv_at hl 0 rfl) ?_
        refine lv_iadd hx hb dX5_insert_99 ?_
        refine lv_bipush (v := 99) hx hb dX5_insert_100 (by decide) ?_
        refine lv_icmp_gt (tgt := 109) hx hb dX5_insert_102 (by decide) (fun c23 => ?_) (fun c23 => ?_)
        · skip
          refine lv_iconst (v := 0) hx hb dX5_insert_109 (by decide) ?_
          refine lv_iconst (v := 4) hx hb dX5_insert_110 (by decide) ?_
          refine va_calli (va_runV (As := [.int 0, .int 4]) (rest := []) ⟨hx, hb, hml, hown, hts⟩ (met_X5_no0 l E o g x (uI (uI (uI y 28 0 0) 28 0 0) 28 0 0) 4) (cwV 2 hts gX5_insert_X5_no rfl rfl rfl (by decide +kernel) ⟨Nat.le_of_ble_eq_true rfl, Nat.le_of_ble_eq_true rfl⟩) ⟨fun a U f mk q => ⟨q.1, wPre.calling q.2 a f mk⟩, (va_recv hK (wH_one hH (lv_md (by decide) (by decide)) (cel_md (by omega) (by omega))) (ci := 7) (q0 := 0) rfl rfl), fun U hU hW => ⟨rfl, wPre_at hz hS hH hK U hU hW⟩⟩ rfl rfl hl.1 rfl (lv_room (Nat.le_of_ble_eq_true rfl)) dX5_insert_111 ⟨Nat.le_of_ble_eq_true rfl, Nat.le_of_ble_eq_true rfl⟩) hS (fun q _ h => h) (fun q h => h) (fun r u t H locs ht hvm hw hB hz1 hk1 hS => ?_)
          have hB := wHS_h ht hB
          try dsimp only at hw
          obtain rfl := hw
          have hH := hB
          refine lv_if_eq (tgt := 119) hx hb dX5_insert_114 (by decide) (fun hq => absurd hq (show ¬ (1 : Int32) = 0 by decide)) (fun _ => ?_)
          refine lv_iconst (v := 0) hx hb dX5_insert_117 (by decide) ?_
          have hsp : mp_insert y (nI jb) v = (0, (uI (uI (uI (uI y 28 0 0) 28 0 0) 28 0 0) 28 0 4)) := by
            unfold mp_insert
            first | (simp only [c1, c21, c22, c23, inB_nI hjb (by omega), ix_nI (show jb < 2 ^ 31 by omega), ↓reduceIte, and_self, and_true, true_and, Bool.false_eq_true, reduceCtorEq, eq_self, false_and, and_false]; done) | (simp [c1, c21, c22, c23, inB_nI hjb (by omega), ix_nI (show jb < 2 ^ 31 by omega), ↓reduceIte, and_self, and_true, true_and, Bool.false_eq_true, reduceCtorEq, eq_self, false_and, and_false]; done) | simp only [c1, c21, c22, c23, inB_nI hjb (by omega), ix_nI (show jb < 2 ^ 31 by omega), ↓reduceIte, and_self, and_true, true_and, Bool.false_eq_true, reduceCtorEq, eq_self, false_and, and_false]
          exact W.iret (v := 0) hx hb hr (fun t ht hW => ⟨⟨0, (), rfl, (by rw [hsp]), wHS_t ht (by rw [hsp]; exact hH)⟩, hS.F ht⟩) hS.2.2 dX5_insert_118
        · skip
          refine lv_iconst (v := 1) hx hb dX5_insert_105 (by decide) ?_
          refine lv_goto (tgt := 110) hx hb dX5_insert_106 (by decide) ?_
          refine lv_iconst (v := 4) hx hb dX5_insert_110 (by decide) ?_
          refine va_calli (va_runV (As := [.int 1, .int 4]) (rest := []) ⟨hx, hb, hml, hown, hts⟩ (met_X5_no1 l E o g x (uI (uI (uI y 28 0 0) 28 0 0) 28 0 0) 4) (cwV 2 hts gX5_insert_X5_no rfl rfl rfl (by decide +kernel) ⟨Nat.le_of_ble_eq_true rfl, Nat.le_of_ble_eq_true rfl⟩) ⟨fun a U f mk q => ⟨q.1, wPre.calling q.2 a f mk⟩, (va_recv hK (wH_one hH (lv_md (by decide) (by decide)) (cel_md (by omega) (by omega))) (ci := 7) (q0 := 0) rfl rfl), fun U hU hW => ⟨rfl, wPre_at hz hS hH hK U hU hW⟩⟩ rfl rfl hl.1 rfl (lv_room (Nat.le_of_ble_eq_true rfl)) dX5_insert_111 ⟨Nat.le_of_ble_eq_true rfl, Nat.le_of_ble_eq_true rfl⟩) hS (fun q _ h => h) (fun q h => h) (fun r u t H locs ht hvm hw hB hz1 hk1 hS => ?_)
          have hB := wHS_h ht hB
          try dsimp only at hw
          obtain rfl := hw
          have hH := hB
          refine lv_if_eq (tgt := 119) hx hb dX5_insert_114 (by decide) (fun _ => ?_) (fun hq => absurd (show (0 : Int32) = 0 by decide) hq)
          refine lv_aload_n hx hb dX5_insert_119 rfl (lv_at hl 1 rfl) ?_
          refine wr_get (T := TX5) (N := 30) (ci := 7) (v := .ref (g 19)) hx hb hts hinX5 hown hK hH (lv_md (by decide) (by decide)) (cel_md (by omega) (by omega)) rfl 9 (by decide) (hts (.fieldLink RX5 34 "SelectoRouteModel" "credits" "[I") (by decide +kernel)) (fun _ h => h) rfl dX5_insert_120 ?_
          refine lv_iload_n hx hb dX5_insert_123 rfl (lv_at hl 2 rfl) ?_
          refine lv_dup2_11 hx hb dX5_insert_124 rfl rfl ?_
          refine wr_iald (v := (y.2 7 jb)) hx hb hK hH (lv_md (by decide) (by decide)) (cel_md (by decide) (by decide)) 0 rfl (vp_in_nI (n := jb) (N := 4) (by omega) (by decide)) (by rw [(nI_clamp (n := jb) (by omega))]; try rfl) dX5_insert_125 ?_
          refine lv_iload_n hx hb dX5_insert_126 rfl (lv_at hl 0 rfl) ?_
          refine lv_iadd hx hb dX5_insert_127 ?_
          refine lv_topi (fun v24 ev24 => ?_)
          refine wr_iast hx hb hK hH hS (lv_md (by decide) (by decide)) (cel_md (by decide) (by decide)) 0 rfl (vp_in_nI (n := jb) (N := 4) (by omega) (by decide)) dX5_insert_128 (fun H locs hH hS => ?_)
          have hH : wHS E o g x (uI (uI (uI (uI (uI y 28 0 0) 28 0 0) 28 0 0) 28 0 0) 7 jb v24) H := pa_credits (v := v24) (nI_clamp (n := jb) (by omega)) hH
          refine lv_aload_n hx hb dX5_insert_129 rfl (lv_at hl 1 rfl) ?_
          refine wr_get (T := TX5) (N := 30) (ci := 7) (v := .ref (g 20)) hx hb hts hinX5 hown hK hH (lv_md (by decide) (by decide)) (cel_md (by omega) (by omega)) rfl 10 (by decide) (hts (.fieldLink RX5 37 "SelectoRouteModel" "cents" "[I") (by decide +kernel)) (fun _ h => h) rfl dX5_insert_130 ?_
          refine lv_iload_n hx hb dX5_insert_133 rfl (lv_at hl 2 rfl) ?_
          refine lv_dup2_11 hx hb dX5_insert_134 rfl rfl ?_
          refine wr_iald (v := (y.2 8 jb)) hx hb hK hH (lv_md (by decide) (by decide)) (cel_md (by decide) (by decide)) 0 rfl (vp_in_nI (n := jb) (N := 4) (by omega) (by decide)) (by rw [(nI_clamp (n := jb) (by omega))]; try rfl) dX5_insert_135 ?_
          refine lv_iload_n hx hb dX5_insert_136 rfl (lv_at hl 3 rfl) ?_
          refine lv_bipush (v := 110) hx hb dX5_insert_137 (by decide) ?_
          refine lv_icmp_ne (tgt := 146) hx hb dX5_insert_139 (by decide) (fun hq => absurd c1 hq) (fun _ => ?_)
          refine lv_iconst (v := 5) hx hb dX5_insert_142 (by decide) ?_
          refine lv_goto (tgt := 169) hx hb dX5_insert_143 (by decide) ?_
          refine lv_iadd hx hb dX5_insert_169 ?_
          refine lv_topi (fun v25 ev25 => ?_)
          refine wr_iast hx hb hK hH hS (lv_md (by decide) (by decide)) (cel_md (by decide) (by decide)) 0 rfl (vp_in_nI (n := jb) (N := 4) (by omega) (by decide)) dX5_insert_170 (fun H locs hH hS => ?_)
          have hH : wHS E o g x (uI (uI (uI (uI (uI (uI y 28 0 0) 28 0 0) 28 0 0) 28 0 0) 7 jb v24) 8 jb v25) H := pa_cents (v := v25) (nI_clamp (n := jb) (by omega)) hH
          refine lv_aload_n hx hb dX5_insert_171 rfl (lv_at hl 1 rfl) ?_
          refine wr_get (T := TX5) (N := 30) (ci := 7) (v := .ref (g 19)) hx hb hts hinX5 hown hK hH (lv_md (by decide) (by decide)) (cel_md (by omega) (by omega)) rfl 9 (by decide) (hts (.fieldLink RX5 34 "SelectoRouteModel" "credits" "[I") (by decide +kernel)) (fun _ h => h) rfl dX5_insert_172 ?_
          refine lv_iload_n hx hb dX5_insert_175 rfl (lv_at hl 2 rfl) ?_
          refine wr_iald (v := v24) hx hb hK hH (lv_md (by decide) (by decide)) (cel_md (by decide) (by decide)) 0 rfl (vp_in_nI (n := jb) (N := 4) (by omega) (by decide)) (by rw [(nI_clamp (n := jb) (by omega))]; try simp [uI, uN, va_up]) dX5_insert_176 ?_
          subst ev25
          subst ev24
          have hsp : mp_insert y (nI jb) v = (((y.2 7 jb) + 1), (uI (uI (uI (uI (uI (uI y 28 0 0) 28 0 0) 28 0 0) 28 0 0) 7 jb ((y.2 7 jb) + 1)) 8 jb ((y.2 8 jb) + 5))) := by
            unfold mp_insert
            first | (simp only [c1, c21, c22, c23, inB_nI hjb (by omega), ix_nI (show jb < 2 ^ 31 by omega), ↓reduceIte, and_self, and_true, true_and, Bool.false_eq_true, reduceCtorEq, eq_self, false_and, and_false]; done) | (simp [c1, c21, c22, c23, inB_nI hjb (by omega), ix_nI (show jb < 2 ^ 31 by omega), ↓reduceIte, and_self, and_true, true_and, Bool.false_eq_true, reduceCtorEq, eq_self, false_and, and_false]; done) | simp only [c1, c21, c22, c23, inB_nI hjb (by omega), ix_nI (show jb < 2 ^ 31 by omega), ↓reduceIte, and_self, and_true, true_and, Bool.false_eq_true, reduceCtorEq, eq_self, false_and, and_false]
          exact W.iret (v := ((y.2 7 jb) + 1)) hx hb hr (fun t ht hW => ⟨⟨((y.2 7 jb) + 1), (), rfl, (by rw [hsp]), wHS_t ht (by rw [hsp]; exact hH)⟩, hS.F ht⟩) hS.2.2 dX5_insert_177
    · have c21 : inB b (y.1 1 0) = false := c21
      refine lv_iconst (v := 1) hx hb dX5_insert_45 (by decide) ?_
      refine va_calli (va_runV (As := [.int 0, .int 1]) (rest := []) ⟨hx, hb, hml, hown, hts⟩ (met_X5_no0 l E o g x y 1) (cwV 2 hts gX5_insert_X5_no rfl rfl rfl (by decide +kernel) ⟨Nat.le_of_ble_eq_true rfl, Nat.le_of_ble_eq_true rfl⟩) ⟨fun a U f mk q => ⟨q.1, wPre.calling q.2 a f mk⟩, (va_recv hK (wH_one hH (lv_md (by decide) (by decide)) (cel_md (by omega) (by omega))) (ci := 7) (q0 := 0) rfl rfl), fun U hU hW => ⟨rfl, wPre_at hz hS hH hK U hU hW⟩⟩ rfl rfl hl.1 rfl (lv_room (Nat.le_of_ble_eq_true rfl)) dX5_insert_46 ⟨Nat.le_of_ble_eq_true rfl, Nat.le_of_ble_eq_true rfl⟩) hS (fun q _ h => h) (fun q h => h) (fun r u t H locs ht hvm hw hB hz1 hk1 hS => ?_)
      have hB := wHS_h ht hB
      try dsimp only at hw
      obtain rfl := hw
      have hH := hB
      refine lv_if_ne (tgt := 117) hx hb dX5_insert_49 (by decide) (fun _ => ?_) (fun hq => absurd hq (show ¬ (1 : Int32) = 0 by decide))
      refine lv_iconst (v := 0) hx hb dX5_insert_117 (by decide) ?_
      have hsp : mp_insert y b v = (0, (uI y 28 0 1)) := by
        unfold mp_insert
        first | (simp only [c1, (Bool.eq_false_iff.mp c21), ↓reduceIte, and_self, and_true, true_and, Bool.false_eq_true, reduceCtorEq, eq_self, false_and, and_false]; done) | (simp [c1, (Bool.eq_false_iff.mp c21), ↓reduceIte, and_self, and_true, true_and, Bool.false_eq_true, reduceCtorEq, eq_self, false_and, and_false]; done) | simp only [c1, (Bool.eq_false_iff.mp c21), ↓reduceIte, and_self, and_true, true_and, Bool.false_eq_true, reduceCtorEq, eq_self, false_and, and_false]
      exact W.iret (v := 0) hx hb hr (fun t ht hW => ⟨⟨0, (), rfl, (by rw [hsp]), wHS_t ht (by rw [hsp]; exact hH)⟩, hS.F ht⟩) hS.2.2 dX5_insert_118
def mp_visit (y : St) (b : Int32) : Int32 × St := if inB b (y.1 1 0) = true then (if (y.1 11 (ix b)) = 0 then (if (y.2 17 0) < 40 then (0, (uI (uI y 28 0 0) 28 0 2)) else ((y.2 8 (ix b)), (uI (uI (uI (uI (uI (uI (uN (uI (uI (uI y 28 0 0) 28 0 0) 17 0 ((y.2 17 0) - 40)) 11 (ix b) 1) 10 (ix b) 0) 13 (ix b) ((y.2 13 (ix b)) + (((y.2 8 (ix b)) * (y.2 4 (ix b))) / 100))) 18 0 ((y.2 18 0) + ((y.2 8 (ix b)) - (((y.2 8 (ix b)) * (y.2 4 (ix b))) / 100)))) 12 (ix b) ((5 * (y.2 11 (ix b))) - (y.2 8 (ix b)))) 11 (ix b) 0) 8 (ix b) 0))) else (0, (uI (uI y 28 0 0) 28 0 2))) else (0, (uI y 28 0 1))
set_option maxHeartbeats 4000000 in
set_option maxRecDepth 100000 in
theorem met_X5_visit (l : Launch) (E : wE) (o : wO) (g : Nat → Nat) (x y : St) (b : Int32) (hI : MI y) : Met l yX5_visit wsX5_visit ({ frames := 3, cells := 0, slots := 0, locals := 300 } : Room) (va_Pc [.ref (g 10), .int b] (wPre E o g x y)) (va_Qi (fun (r : Int32) (_ : Unit) => r = (mp_visit y b).1) (fun (_ : Unit) t => wHS E o g x (mp_visit y b).2 t.heap) (wA E)) 0 0 (wA E) := by
  refine Met.ofW (cc := cX5_visit) (maxL := 4) (ret := (some .int)) (by decide) rfl ?_
  intro p e s m args below meth c s₁ B hml hv
  obtain ⟨rfl, hz, hH, hK⟩ := hv
  have hx := B.exec
  have hb := B.bytes
  have hr := B.returns
  have hts := atoms_spec (ws := wsX5_visit) B.pre
  have hown : s.vm.findClass RX5 = some m.cls := findClass_of_methodNamed B.named
  have hlocks := B.notSynchronized
  have hS : va_S (wA E) s.heap s.heap [] := va_S.rf
  have hinX5 : ∀ w ∈ wsX50, w ∈ wsX5_visit := fun w h => List.mem_cons_of_mem _ (List.mem_append_left _ (List.mem_append_right _ h))
  have hl := lv_entry ([.ref (g 10), .int b]) (n := 4) (Nat.le_of_ble_eq_true rfl)
  rw [lg_entry_eq]
  generalize (lg_sl ([.ref (g 10), .int b]) ++ List.replicate (4 - (lg_sl ([.ref (g 10), .int b])).length) Slot.unset).toArray = ls at hl ⊢
  have hl : lv_has ls 4 [(0, .ref (g 10)), (1, .int b)] := hl
  obtain ⟨H, eH⟩ : ∃ z, z = s.heap := ⟨_, rfl⟩
  have hH : wHS E o g x y H := by rw [eH]; exact hH
  have hS : va_S (wA E) s.heap H [] := by rw [eH]; exact hS
  refine W.heapTo eH ?_
  obtain ⟨hm0, hm1, hm7, hm8, hm5, hm6, hm9, hm12, hm11⟩ := id hI
  refine lv_aload_n hx hb dX5_visit_0 rfl (lv_at hl 0 rfl) ?_
  refine lv_aload_n hx hb dX5_visit_1 rfl (lv_at hl 0 rfl) ?_
  refine lv_iload_n hx hb dX5_visit_2 rfl (lv_at hl 1 rfl) ?_
  refine va_calli (va_runV (As := [.int b]) (rest := [.ref (g 10)]) ⟨hx, hb, hml, hown, hts⟩ (met_X5_isBox l E o g x y b (show (y.1 1 0) ≤ 100 by omega)) (cwV 1 hts gX5_visit_X5_isBox rfl rfl rfl (by decide +kernel) ⟨Nat.le_of_ble_eq_true rfl, Nat.le_of_ble_eq_true rfl⟩) ⟨fun a U f mk q => ⟨q.1, wPre.calling q.2 a f mk⟩, (va_recv hK (wH_one hH (lv_md (by decide) (by decide)) (cel_md (by omega) (by omega))) (ci := 7) (q0 := 0) rfl rfl), fun U hU hW => ⟨rfl, wPre_at hz hS hH hK U hU hW⟩⟩ rfl rfl hl.1 rfl (lv_room (Nat.le_of_ble_eq_true rfl)) dX5_visit_3 ⟨Nat.le_of_ble_eq_true rfl, Nat.le_of_ble_eq_true rfl⟩) hS (fun q _ h => h) (fun q h => h) (fun r u t H locs ht hvm hw hB hz1 hk1 hS => ?_)
  have hB := wHS_h ht hB
  try dsimp only at hw
  have hH := hB
  rcases hw with ⟨rfl, c1⟩ | ⟨rfl, c1⟩
  · have c1 : inB b (y.1 1 0) = true := c1
    obtain ⟨jb, hjb, rfl⟩ := inB_t c1 (by omega)
    refine lv_iconst (v := 1) hx hb dX5_visit_6 (by decide) ?_
    refine va_calli (va_runV (As := [.int 1, .int 1]) (rest := []) ⟨hx, hb, hml, hown, hts⟩ (met_X5_no1 l E o g x y 1) (cwV 2 hts gX5_visit_X5_no rfl rfl rfl (by decide +kernel) ⟨Nat.le_of_ble_eq_true rfl, Nat.le_of_ble_eq_true rfl⟩) ⟨fun a U f mk q => ⟨q.1, wPre.calling q.2 a f mk⟩, (va_recv hK (wH_one hH (lv_md (by decide) (by decide)) (cel_md (by omega) (by omega))) (ci := 7) (q0 := 0) rfl rfl), fun U hU hW => ⟨rfl, wPre_at hz hS hH hK U hU hW⟩⟩ rfl rfl hl.1 rfl (lv_room (Nat.le_of_ble_eq_true rfl)) dX5_visit_7 ⟨Nat.le_of_ble_eq_true rfl, Nat.le_of_ble_eq_true rfl⟩) hS (fun q _ h => h) (fun q h => h) (fun r u t H locs ht hvm hw hB hz1 hk1 hS => ?_)
    have hB := wHS_h ht hB
    try dsimp only at hw
    obtain rfl := hw
    have hH := hB
    refine lv_if_ne (tgt := 44) hx hb dX5_visit_10 (by decide) (fun hq => absurd (show (0 : Int32) = 0 by decide) hq) (fun _ => ?_)
    refine lv_aload_n hx hb dX5_visit_13 rfl (lv_at hl 0 rfl) ?_
    refine lv_aload_n hx hb dX5_visit_14 rfl (lv_at hl 0 rfl) ?_
    refine wr_get (T := TX5) (N := 30) (ci := 7) (v := .ref (g 28)) hx hb hts hinX5 hown hK hH (lv_md (by decide) (by decide)) (cel_md (by omega) (by omega)) rfl 18 (by decide) (hts (.fieldLink RX5 62 "SelectoRouteModel" "visited" "[Z") (by decide +kernel)) (fun _ h => h) rfl dX5_visit_15 ?_
    refine lv_iload_n hx hb dX5_visit_18 rfl (lv_at hl 1 rfl) ?_
    refine wr_zald (v := nI (y.1 11 jb)) hx hb hK hH (lv_md (by decide) (by decide)) (cel_md (by decide) (by decide)) 1 rfl (vp_in_nI (n := jb) (N := 4) (by omega) (by decide)) (by rw [(nI_clamp (n := jb) (by omega))]; try rfl) dX5_visit_19 ?_
    refine lv_if_ne (tgt := 36) hx hb dX5_visit_20 (by decide) (fun c2 => ?_) (fun c2 => ?_)
    · have c2 : ¬ ((y.1 11 jb) = 0) := fun hq => c2 ((nI_eq (a := (y.1 11 jb)) (b := 0) (by have q0 := hm11 jb; omega) (by omega)).mpr hq)
      refine lv_iconst (v := 0) hx hb dX5_visit_36 (by decide) ?_
      refine lv_iconst (v := 2) hx hb dX5_visit_37 (by decide) ?_
      refine va_calli (va_runV (As := [.int 0, .int 2]) (rest := []) ⟨hx, hb, hml, hown, hts⟩ (met_X5_no0 l E o g x (uI y 28 0 0) 2) (cwV 2 hts gX5_visit_X5_no rfl rfl rfl (by decide +kernel) ⟨Nat.le_of_ble_eq_true rfl, Nat.le_of_ble_eq_true rfl⟩) ⟨fun a U f mk q => ⟨q.1, wPre.calling q.2 a f mk⟩, (va_recv hK (wH_one hH (lv_md (by decide) (by decide)) (cel_md (by omega) (by omega))) (ci := 7) (q0 := 0) rfl rfl), fun U hU hW => ⟨rfl, wPre_at hz hS hH hK U hU hW⟩⟩ rfl rfl hl.1 rfl (lv_room (Nat.le_of_ble_eq_true rfl)) dX5_visit_38 ⟨Nat.le_of_ble_eq_true rfl, Nat.le_of_ble_eq_true rfl⟩) hS (fun q _ h => h) (fun q h => h) (fun r u t H locs ht hvm hw hB hz1 hk1 hS => ?_)
      have hB := wHS_h ht hB
      try dsimp only at hw
      obtain rfl := hw
      have hH := hB
      refine lv_if_eq (tgt := 46) hx hb dX5_visit_41 (by decide) (fun hq => absurd hq (show ¬ (1 : Int32) = 0 by decide)) (fun _ => ?_)
      refine lv_iconst (v := 0) hx hb dX5_visit_44 (by decide) ?_
      have hsp : mp_visit y (nI jb) = (0, (uI (uI y 28 0 0) 28 0 2)) := by
        unfold mp_visit
        first | (simp only [c1, c2, inB_nI hjb (by omega), ix_nI (show jb < 2 ^ 31 by omega), ↓reduceIte, and_self, and_true, true_and, Bool.false_eq_true, reduceCtorEq, eq_self, false_and, and_false]; done) | (simp [c1, c2, inB_nI hjb (by omega), ix_nI (show jb < 2 ^ 31 by omega), ↓reduceIte, and_self, and_true, true_and, Bool.false_eq_true, reduceCtorEq, eq_self, false_and, and_false]; done) | simp only [c1, c2, inB_nI hjb (by omega), ix_nI (show jb < 2 ^ 31 by omega), ↓reduceIte, and_self, and_true, true_and, Bool.false_eq_true, reduceCtorEq, eq_self, false_and, and_false]
      exact W.iret (v := 0) hx hb hr (fun t ht hW => ⟨⟨0, (), rfl, (by rw [hsp]), wHS_t ht (by rw [hsp]; exact hH)⟩, hS.F ht⟩) hS.2.2 dX5_visit_45
    · have c2 := (nI_eq (a := (y.1 11 jb)) (b := 0) (by have q0 := hm11 jb; omega) (by omega)).mp c2
      refine lv_aload_n hx hb dX5_visit_23 rfl (lv_at hl 0 rfl) ?_
      refine wr_get (T := TX5) (N := 30) (ci := 7) (v := .int (y.2 17 0)) hx hb hts hinX5 hown hK hH (lv_md (by decide) (by decide)) (cel_md (by omega) (by omega)) rfl 27 (by decide) (hts (.fieldLink RX5 84 "SelectoRouteModel" "minutes" "I") (by decide +kernel)) (fun _ h => h) rfl dX5_visit_24 ?_
      refine lv_bipush (v := 40) hx hb dX5_visit_27 (by decide) ?_
      refine lv_icmp_lt (tgt := 36) hx hb dX5_visit_29 (by decide) (fun c3 => ?_) (fun c3 => ?_)
      · skip
        refine lv_iconst (v := 0) hx hb dX5_visit_36 (by decide) ?_
        refine lv_iconst (v := 2) hx hb dX5_visit_37 (by decide) ?_
        refine va_calli (va_runV (As := [.int 0, .int 2]) (rest := []) ⟨hx, hb, hml, hown, hts⟩ (met_X5_no0 l E o g x (uI y 28 0 0) 2) (cwV 2 hts gX5_visit_X5_no rfl rfl rfl (by decide +kernel) ⟨Nat.le_of_ble_eq_true rfl, Nat.le_of_ble_eq_true rfl⟩) ⟨fun a U f mk q => ⟨q.1, wPre.calling q.2 a f mk⟩, (va_recv hK (wH_one hH (lv_md (by decide) (by decide)) (cel_md (by omega) (by omega))) (ci := 7) (q0 := 0) rfl rfl), fun U hU hW => ⟨rfl, wPre_at hz hS hH hK U hU hW⟩⟩ rfl rfl hl.1 rfl (lv_room (Nat.le_of_ble_eq_true rfl)) dX5_visit_38 ⟨Nat.le_of_ble_eq_true rfl, Nat.le_of_ble_eq_true rfl⟩) hS (fun q _ h => h) (fun q h => h) (fun r u t H locs ht hvm hw hB hz1 hk1 hS => ?_)
        have hB := wHS_h ht hB
        try dsimp only at hw
        obtain rfl := hw
        have hH := hB
        refine lv_if_eq (tgt := 46) hx hb dX5_visit_41 (by decide) (fun hq => absurd hq (show ¬ (1 : Int32) = 0 by decide)) (fun _ => ?_)
        refine lv_iconst (v := 0) hx hb dX5_visit_44 (by decide) ?_
        have hsp : mp_visit y (nI jb) = (0, (uI (uI y 28 0 0) 28 0 2)) := by
          unfold mp_visit
          first | (simp only [c1, c2, c3, inB_nI hjb (by omega), ix_nI (show jb < 2 ^ 31 by omega), ↓reduceIte, and_self, and_true, true_and, Bool.false_eq_true, reduceCtorEq, eq_self, false_and, and_false]; done) | (simp [c1, c2, c3, inB_nI hjb (by omega), ix_nI (show jb < 2 ^ 31 by omega), ↓reduceIte, and_self, and_true, true_and, Bool.false_eq_true, reduceCtorEq, eq_self, false_and, and_false]; done) | simp only [c1, c2, c3, inB_nI hjb (by omega), ix_nI (show jb < 2 ^ 31 by omega), ↓reduceIte, and_self, and_true, true_and, Bool.false_eq_true, reduceCtorEq, eq_self, false_and, and_false]
        exact W.iret (v := 0) hx hb hr (fun t ht hW => ⟨⟨0, (), rfl, (by rw [hsp]), wHS_t ht (by rw [hsp]; exact hH)⟩, hS.F ht⟩) hS.2.2 dX5_visit_45
      · skip
        refine lv_iconst (v := 1) hx hb dX5_visit_32 (by decide) ?_
        refine lv_goto (tgt := 37) hx hb dX5_visit_33 (by decide) ?_
        refine lv_iconst (v := 2) hx hb dX5_visit_37 (by decide) ?_
        refine va_calli (va_runV (As := [.int 1, .int 2]) (rest := []) ⟨hx, hb, hml, hown, hts⟩ (met_X5_no1 l E o g x (uI y 28 0 0) 2) (cwV 2 hts gX5_visit_X5_no rfl rfl rfl (by decide +kernel) ⟨Nat.le_of_ble_eq_true rfl, Nat.le_of_ble_eq_true rfl⟩) ⟨fun a U f mk q => ⟨q.1, wPre.calling q.2 a f mk⟩, (va_recv hK (wH_one hH (lv_md (by decide) (by decide)) (cel_md (by omega) (by omega))) (ci := 7) (q0 := 0) rfl rfl), fun U hU hW => ⟨rfl, wPre_at hz hS hH hK U hU hW⟩⟩ rfl rfl hl.1 rfl (lv_room (Nat.le_of_ble_eq_true rfl)) dX5_visit_38 ⟨Nat.le_of_ble_eq_true rfl, Nat.le_of_ble_eq_true rfl⟩) hS (fun q _ h => h) (fun q h => h) (fun r u t H locs ht hvm hw hB hz1 hk1 hS => ?_)
        have hB := wHS_h ht hB
        try dsimp only at hw
        obtain rfl := hw
        have hH := hB
        refine lv_if_eq (tgt := 46) hx hb dX5_visit_41 (by decide) (fun _ => ?_) (fun hq => absurd (show (0 : Int32) = 0 by decide) hq)
        refine lv_aload_n hx hb dX5_visit_46 rfl (lv_at hl 0 rfl) ?_
        refine lv_dup hx hb dX5_visit_47 rfl ?_
        refine wr_get (T := TX5) (N := 30) (ci := 7) (v := .int (y.2 17 0)) hx hb hts hinX5 hown hK hH (lv_md (by decide) (by decide)) (cel_md (by omega) (by omega)) rfl 27 (by decide) (hts (.fieldLink RX5 84 "SelectoRouteModel" "minutes" "I") (by decide +kernel)) (fun _ h => h) rfl dX5_visit_48 ?_
        refine lv_bipush (v := 40) hx hb dX5_visit_51 (by decide) ?_
        refine lv_isub hx hb dX5_visit_53 ?_
        refine lv_topi (fun v4 ev4 => ?_)
        refine wr_put (T := TX5) (N := 30) (ci := 7) (v := .int v4) hx hb hts hinX5 tyX5 tyX5_ok nmX5 hown hK hH hS (lv_md (by decide) (by decide)) (cel_md (by omega) (by omega)) rfl 27 (by decide) (hts (.fieldLink RX5 84 "SelectoRouteModel" "minutes" "I") (by decide +kernel)) (fun _ h => h) rfl (ty := .int) (by decide +kernel) rfl rfl (Nat.le_of_ble_eq_true rfl) dX5_visit_54 (fun H locs hH hS => ?_)
        have hH : wHS E o g x (uI (uI (uI y 28 0 0) 28 0 0) 17 0 v4) H := pm_minutes hH
        refine lv_aload_n hx hb dX5_visit_57 rfl (lv_at hl 0 rfl) ?_
        refine wr_get (T := TX5) (N := 30) (ci := 7) (v := .ref (g 28)) hx hb hts hinX5 hown hK hH (lv_md (by decide) (by decide)) (cel_md (by omega) (by omega)) rfl 18 (by decide) (hts (.fieldLink RX5 62 "SelectoRouteModel" "visited" "[Z") (by decide +kernel)) (fun _ h => h) rfl dX5_visit_58 ?_
        refine lv_iload_n hx hb dX5_visit_61 rfl (lv_at hl 1 rfl) ?_
        refine lv_iconst (v := 1) hx hb dX5_visit_62 (by decide) ?_
        refine wr_zast hx hb hK hH hS (lv_md (by decide) (by decide)) (cel_md (by decide) (by decide)) 1 rfl (vp_in_nI (n := jb) (N := 4) (by omega) (by decide)) dX5_visit_63 (fun H locs hH hS => ?_)
        have hH : wHS E o g x (uN (uI (uI (uI y 28 0 0) 28 0 0) 17 0 v4) 11 jb 1) H := pa_visited (v := 1) (nI_clamp (n := jb) (by omega)) (by decide) hH
        refine lv_aload_n hx hb dX5_visit_64 rfl (lv_at hl 0 rfl) ?_
        refine wr_get (T := TX5) (N := 30) (ci := 7) (v := .ref (g 27)) hx hb hts hinX5 hown hK hH (lv_md (by decide) (by decide)) (cel_md (by omega) (by omega)) rfl 17 (by decide) (hts (.fieldLink RX5 58 "SelectoRouteModel" "jammed" "[Z") (by decide +kernel)) (fun _ h => h) rfl dX5_visit_65 ?_
        refine lv_iload_n hx hb dX5_visit_68 rfl (lv_at hl 1 rfl) ?_
        refine lv_iconst (v := 0) hx hb dX5_visit_69 (by decide) ?_
        refine wr_zast hx hb hK hH hS (lv_md (by decide) (by decide)) (cel_md (by decide) (by decide)) 1 rfl (vp_in_nI (n := jb) (N := 4) (by omega) (by decide)) dX5_visit_70 (fun H locs hH hS => ?_)
        have hH : wHS E o g x (uI (uN (uI (uI (uI y 28 0 0) 28 0 0) 17 0 v4) 11 jb 1) 10 jb 0) H := pa_jammed (v := 0) (nI_clamp (n := jb) (by omega)) (by decide) hH
        refine lv_aload_n hx hb dX5_visit_71 rfl (lv_at hl 0 rfl) ?_
        refine wr_get (T := TX5) (N := 30) (ci := 7) (v := .ref (g 20)) hx hb hts hinX5 hown hK hH (lv_md (by decide) (by decide)) (cel_md (by omega) (by omega)) rfl 10 (by decide) (hts (.fieldLink RX5 37 "SelectoRouteModel" "cents" "[I") (by decide +kernel)) (fun _ h => h) rfl dX5_visit_72 ?_
        refine lv_iload_n hx hb dX5_visit_75 rfl (lv_at hl 1 rfl) ?_
        refine wr_iald (v := (y.2 8 jb)) hx hb hK hH (lv_md (by decide) (by decide)) (cel_md (by decide) (by decide)) 0 rfl (vp_in_nI (n := jb) (N := 4) (by omega) (by decide)) (by rw [(nI_clamp (n := jb) (by omega))]; try rfl) dX5_visit_76 ?_
        refine lv_istore_n (lv' := [(2, .int (y.2 8 jb)), (0, .ref (g 10)), (1, .int (nI jb))]) hx hb dX5_visit_77 rfl hl (by decide) rfl (fun ls hl => ?_)
        refine lv_iload_n hx hb dX5_visit_78 rfl (lv_at hl 0 rfl) ?_
        refine lv_aload_n hx hb dX5_visit_79 rfl (lv_at hl 1 rfl) ?_
        refine wr_get (T := TX5) (N := 30) (ci := 7) (v := .ref (g 16)) hx hb hts hinX5 hown hK hH (lv_md (by decide) (by decide)) (cel_md (by omega) (by omega)) rfl 6 (by decide) (hts (.fieldLink RX5 25 "SelectoRouteModel" "share" "[I") (by decide +kernel)) (fun _ h => h) rfl dX5_visit_80 ?_
        refine lv_iload_n hx hb dX5_visit_83 rfl (lv_at hl 2 rfl) ?_
        refine wr_iald (v := (y.2 4 jb)) hx hb hK hH (lv_md (by decide) (by decide)) (cel_md (by decide) (by decide)) 0 rfl (vp_in_nI (n := jb) (N := 4) (by omega) (by decide)) (by rw [(nI_clamp (n := jb) (by omega))]; try rfl) dX5_visit_84 ?_
        refine lv_imul hx hb dX5_visit_85 ?_
        refine lv_bipush (v := 100) hx hb dX5_visit_86 (by decide) ?_
        refine lv_idiv hx hb dX5_visit_88 (by decide) ?_
        refine lv_istore_n (lv' := [(3, .int (((y.2 8 jb) * (y.2 4 jb)) / 100)), (2, .int (y.2 8 jb)), (0, .ref (g 10)), (1, .int (nI jb))]) hx hb dX5_visit_89 rfl hl (by decide) rfl (fun ls hl => ?_)
        refine lv_aload_n hx hb dX5_visit_90 rfl (lv_at hl 2 rfl) ?_
        refine wr_get (T := TX5) (N := 30) (ci := 7) (v := .ref (g 26)) hx hb hts hinX5 hown hK hH (lv_md (by decide) (by decide)) (cel_md (by omega) (by omega)) rfl 16 (by decide) (hts (.fieldLink RX5 55 "SelectoRouteModel" "landlord" "[I") (by decide +kernel)) (fun _ h => h) rfl dX5_visit_91 ?_
        refine lv_iload_n hx hb dX5_visit_94 rfl (lv_at hl 3 rfl) ?_
        refine lv_dup2_11 hx hb dX5_visit_95 rfl rfl ?_
        refine wr_iald (v := (y.2 13 jb)) hx hb hK hH (lv_md (by decide) (by decide)) (cel_md (by decide) (by decide)) 0 rfl (vp_in_nI (n := jb) (N := 4) (by omega) (by decide)) (by rw [(nI_clamp (n := jb) (by omega))]; try rfl) dX5_visit_96 ?_
        refine lv_iload_n hx hb dX5_visit_97 rfl (lv_at hl 0 rfl) ?_
        refine lv_iadd hx hb dX5_visit_98 ?_
        refine lv_topi (fun v5 ev5 => ?_)
        refine wr_iast hx hb hK hH hS (lv_md (by decide) (by decide)) (cel_md (by decide) (by decide)) 0 rfl (vp_in_nI (n := jb) (N := 4) (by omega) (by decide)) dX5_visit_99 (fun H locs hH hS => ?_)
        have hH : wHS E o g x (uI (uI (uN (uI (uI (uI y 28 0 0) 28 0 0) 17 0 v4) 11 jb 1) 10 jb 0) 13 jb v5) H := pa_landlord (v := v5) (nI_clamp (n := jb) (by omega)) hH
        refine lv_aload_n hx hb dX5_visit_100 rfl (lv_at hl 2 rfl) ?_
        refine lv_dup hx hb dX5_visit_101 rfl ?_
        refine wr_get (T := TX5) (N := 30) (ci := 7) (v := .int (y.2 18 0)) hx hb hts hinX5 hown hK hH (lv_md (by decide) (by decide)) (cel_md (by omega) (by omega)) rfl 28 (by decide) (hts (.fieldLink RX5 135 "SelectoRouteModel" "earned" "I") (by decide +kernel)) (fun _ h => h) rfl dX5_visit_102 ?_
        refine lv_iload_n hx hb dX5_visit_105 rfl (lv_at hl 1 rfl) ?_
        refine lv_iload_n hx hb dX5_visit_106 rfl (lv_at hl 0 rfl) ?_
        refine lv_isub hx hb dX5_visit_107 ?_
        refine lv_iadd hx hb dX5_visit_108 ?_
        refine lv_topi (fun v6 ev6 => ?_)
        refine wr_put (T := TX5) (N := 30) (ci := 7) (v := .int v6) hx hb hts hinX5 tyX5 tyX5_ok nmX5 hown hK hH hS (lv_md (by decide) (by decide)) (cel_md (by omega) (by omega)) rfl 28 (by decide) (hts (.fieldLink RX5 135 "SelectoRouteModel" "earned" "I") (by decide +kernel)) (fun _ h => h) rfl (ty := .int) (by decide +kernel) rfl rfl (Nat.le_of_ble_eq_true rfl) dX5_visit_109 (fun H locs hH hS => ?_)
        have hH : wHS E o g x (uI (uI (uI (uN (uI (uI (uI y 28 0 0) 28 0 0) 17 0 v4) 11 jb 1) 10 jb 0) 13 jb v5) 18 0 v6) H := pm_earned hH
        refine lv_aload_n hx hb dX5_visit_112 rfl (lv_at hl 2 rfl) ?_
        refine wr_get (T := TX5) (N := 30) (ci := 7) (v := .ref (g 25)) hx hb hts hinX5 hown hK hH (lv_md (by decide) (by decide)) (cel_md (by omega) (by omega)) rfl 15 (by decide) (hts (.fieldLink RX5 52 "SelectoRouteModel" "missing" "[I") (by decide +kernel)) (fun _ h => h) rfl dX5_visit_113 ?_
        refine lv_iload_n hx hb dX5_visit_116 rfl (lv_at hl 3 rfl) ?_
        refine lv_iconst (v := 5) hx hb dX5_visit_117 (by decide) ?_
        refine lv_aload_n hx hb dX5_visit_118 rfl (lv_at hl 2 rfl) ?_
        refine wr_get (T := TX5) (N := 30) (ci := 7) (v := .ref (g 24)) hx hb hts hinX5 hown hK hH (lv_md (by decide) (by decide)) (cel_md (by omega) (by omega)) rfl 14 (by decide) (hts (.fieldLink RX5 49 "SelectoRouteModel" "plays" "[I") (by decide +kernel)) (fun _ h => h) rfl dX5_visit_119 ?_
        refine lv_iload_n hx hb dX5_visit_122 rfl (lv_at hl 3 rfl) ?_
        refine wr_iald (v := (y.2 11 jb)) hx hb hK hH (lv_md (by decide) (by decide)) (cel_md (by decide) (by decide)) 0 rfl (vp_in_nI (n := jb) (N := 4) (by omega) (by decide)) (by rw [(nI_clamp (n := jb) (by omega))]; try rfl) dX5_visit_123 ?_
        refine lv_imul hx hb dX5_visit_124 ?_
        refine lv_iload_n hx hb dX5_visit_125 rfl (lv_at hl 1 rfl) ?_
        refine lv_isub hx hb dX5_visit_126 ?_
        refine lv_topi (fun v7 ev7 => ?_)
        refine wr_iast hx hb hK hH hS (lv_md (by decide) (by decide)) (cel_md (by decide) (by decide)) 0 rfl (vp_in_nI (n := jb) (N := 4) (by omega) (by decide)) dX5_visit_127 (fun H locs hH hS => ?_)
        have hH : wHS E o g x (uI (uI (uI (uI (uN (uI (uI (uI y 28 0 0) 28 0 0) 17 0 v4) 11 jb 1) 10 jb 0) 13 jb v5) 18 0 v6) 12 jb v7) H := pa_missing (v := v7) (nI_clamp (n := jb) (by omega)) hH
        refine lv_aload_n hx hb dX5_visit_128 rfl (lv_at hl 2 rfl) ?_
        refine wr_get (T := TX5) (N := 30) (ci := 7) (v := .ref (g 24)) hx hb hts hinX5 hown hK hH (lv_md (by decide) (by decide)) (cel_md (by omega) (by omega)) rfl 14 (by decide) (hts (.fieldLink RX5 49 "SelectoRouteModel" "plays" "[I") (by decide +kernel)) (fun _ h => h) rfl dX5_visit_129 ?_
        refine lv_iload_n hx hb dX5_visit_132 rfl (lv_at hl 3 rfl) ?_
        refine lv_iconst (v := 0) hx hb dX5_visit_133 (by decide) ?_
        refine wr_iast hx hb hK hH hS (lv_md (by decide) (by decide)) (cel_md (by decide) (by decide)) 0 rfl (vp_in_nI (n := jb) (N := 4) (by omega) (by decide)) dX5_visit_134 (fun H locs hH hS => ?_)
        have hH : wHS E o g x (uI (uI (uI (uI (uI (uN (uI (uI (uI y 28 0 0) 28 0 0) 17 0 v4) 11 jb 1) 10 jb 0) 13 jb v5) 18 0 v6) 12 jb v7) 11 jb 0) H := pa_plays (v := 0) (nI_clamp (n := jb) (by omega)) hH
        refine lv_aload_n hx hb dX5_visit_135 rfl (lv_at hl 2 rfl) ?_
        refine wr_get (T := TX5) (N := 30) (ci := 7) (v := .ref (g 20)) hx hb hts hinX5 hown hK hH (lv_md (by decide) (by decide)) (cel_md (by omega) (by omega)) rfl 10 (by decide) (hts (.fieldLink RX5 37 "SelectoRouteModel" "cents" "[I") (by decide +kernel)) (fun _ h => h) rfl dX5_visit_136 ?_
        refine lv_iload_n hx hb dX5_visit_139 rfl (lv_at hl 3 rfl) ?_
        refine lv_iconst (v := 0) hx hb dX5_visit_140 (by decide) ?_
        refine wr_iast hx hb hK hH hS (lv_md (by decide) (by decide)) (cel_md (by decide) (by decide)) 0 rfl (vp_in_nI (n := jb) (N := 4) (by omega) (by decide)) dX5_visit_141 (fun H locs hH hS => ?_)
        have hH : wHS E o g x (uI (uI (uI (uI (uI (uI (uN (uI (uI (uI y 28 0 0) 28 0 0) 17 0 v4) 11 jb 1) 10 jb 0) 13 jb v5) 18 0 v6) 12 jb v7) 11 jb 0) 8 jb 0) H := pa_cents (v := 0) (nI_clamp (n := jb) (by omega)) hH
        refine lv_iload_n hx hb dX5_visit_142 rfl (lv_at hl 1 rfl) ?_
        subst ev7
        subst ev6
        subst ev5
        subst ev4
        have hsp : mp_visit y (nI jb) = ((y.2 8 jb), (uI (uI (uI (uI (uI (uI (uN (uI (uI (uI y 28 0 0) 28 0 0) 17 0 ((y.2 17 0) - 40)) 11 jb 1) 10 jb 0) 13 jb ((y.2 13 jb) + (((y.2 8 jb) * (y.2 4 jb)) / 100))) 18 0 ((y.2 18 0) + ((y.2 8 jb) - (((y.2 8 jb) * (y.2 4 jb)) / 100)))) 12 jb ((5 * (y.2 11 jb)) - (y.2 8 jb))) 11 jb 0) 8 jb 0)) := by
          unfold mp_visit
          first | (simp only [c1, c2, c3, inB_nI hjb (by omega), ix_nI (show jb < 2 ^ 31 by omega), ↓reduceIte, and_self, and_true, true_and, Bool.false_eq_true, reduceCtorEq, eq_self, false_and, and_false]; done) | (simp [c1, c2, c3, inB_nI hjb (by omega), ix_nI (show jb < 2 ^ 31 by omega), ↓reduceIte, and_self, and_true, true_and, Bool.false_eq_true, reduceCtorEq, eq_self, false_and, and_false]; done) | simp only [c1, c2, c3, inB_nI hjb (by omega), ix_nI (show jb < 2 ^ 31 by omega), ↓reduceIte, and_self, and_true, true_and, Bool.false_eq_true, reduceCtorEq, eq_self, false_and, and_false]
        exact W.iret (v := (y.2 8 jb)) hx hb hr (fun t ht hW => ⟨⟨(y.2 8 jb), (), rfl, (by rw [hsp]), wHS_t ht (by rw [hsp]; exact hH)⟩, hS.F ht⟩) hS.2.2 dX5_visit_143
  · have c1 : inB b (y.1 1 0) = false := c1
    refine lv_iconst (v := 1) hx hb dX5_visit_6 (by decide) ?_
    refine va_calli (va_runV (As := [.int 0, .int 1]) (rest := []) ⟨hx, hb, hml, hown, hts⟩ (met_X5_no0 l E o g x y 1) (cwV 2 hts gX5_visit_X5_no rfl rfl rfl (by decide +kernel) ⟨Nat.le_of_ble_eq_true rfl, Nat.le_of_ble_eq_true rfl⟩) ⟨fun a U f mk q => ⟨q.1, wPre.calling q.2 a f mk⟩, (va_recv hK (wH_one hH (lv_md (by decide) (by decide)) (cel_md (by omega) (by omega))) (ci := 7) (q0 := 0) rfl rfl), fun U hU hW => ⟨rfl, wPre_at hz hS hH hK U hU hW⟩⟩ rfl rfl hl.1 rfl (lv_room (Nat.le_of_ble_eq_true rfl)) dX5_visit_7 ⟨Nat.le_of_ble_eq_true rfl, Nat.le_of_ble_eq_true rfl⟩) hS (fun q _ h => h) (fun q h => h) (fun r u t H locs ht hvm hw hB hz1 hk1 hS => ?_)
    have hB := wHS_h ht hB
    try dsimp only at hw
    obtain rfl := hw
    have hH := hB
    refine lv_if_ne (tgt := 44) hx hb dX5_visit_10 (by decide) (fun _ => ?_) (fun hq => absurd hq (show ¬ (1 : Int32) = 0 by decide))
    refine lv_iconst (v := 0) hx hb dX5_visit_44 (by decide) ?_
    have hsp : mp_visit y b = (0, (uI y 28 0 1)) := by
      unfold mp_visit
      first | (simp only [(Bool.eq_false_iff.mp c1), ↓reduceIte, and_self, and_true, true_and, Bool.false_eq_true, reduceCtorEq, eq_self, false_and, and_false]; done) | (simp [(Bool.eq_false_iff.mp c1), ↓reduceIte, and_self, and_true, true_and, Bool.false_eq_true, reduceCtorEq, eq_self, false_and, and_false]; done) | simp only [(Bool.eq_false_iff.mp c1), ↓reduceIte, and_self, and_true, true_and, Bool.false_eq_true, reduceCtorEq, eq_self, false_and, and_false]
    exact W.iret (v := 0) hx hb hr (fun t ht hW => ⟨⟨0, (), rfl, (by rw [hsp]), wHS_t ht (by rw [hsp]; exact hH)⟩, hS.F ht⟩) hS.2.2 dX5_visit_45
