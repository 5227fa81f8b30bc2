/-! ===== the model: further methods without loops ===== -/
def mp_thrown (y : St)  : Int32 × St := ((y.2 28 0), y)
set_option maxHeartbeats 4000000 in
set_option maxRecDepth 100000 in
theorem met_X5_thrown (l : Launch) (E : wE) (o : wO) (g : Nat → Nat) (x y : St) (hI : MI y) : Met l yX5_thrown wsX5_thrown ({ frames := 0, cells := 0, slots := 0, locals := 0 } : Room) (va_Pc [.ref (g 10)] (wPre E o g x y)) (va_Qi (fun (r : Int32) (_ : Unit) => r = (mp_thrown y ).1) (fun (_ : Unit) t => wHS E o g x (mp_thrown y ).2 t.heap) (wA E)) 0 0 (wA E) := by
  refine Met.ofW (cc := cX5_thrown) (maxL := 1) (ret := (some .int)) (by decide) rfl ?_
  intro p e s m args below meth c s₁ B hml hv
  obtain ⟨rfl, hz, hH, hK⟩ := hv
  have hx := B.exec
  have hb := B.bytes
  have hr := B.returns
  have hts := atoms_spec (ws := wsX5_thrown) B.pre
  have hown : s.vm.findClass RX5 = some m.cls := findClass_of_methodNamed B.named
  have hlocks := B.notSynchronized
  have hS : va_S (wA E) s.heap s.heap [] := va_S.rf
  have hinX5 : ∀ w ∈ wsX50, w ∈ wsX5_thrown := fun w h => List.mem_cons_of_mem _ (List.mem_append_right _ h)
  have hl := lv_entry ([.ref (g 10)]) (n := 1) (Nat.le_of_ble_eq_true rfl)
  rw [lg_entry_eq]
  generalize (lg_sl ([.ref (g 10)]) ++ List.replicate (1 - (lg_sl ([.ref (g 10)])).length) Slot.unset).toArray = ls at hl ⊢
  have hl : lv_has ls 1 [(0, .ref (g 10))] := hl
  obtain ⟨H, eH⟩ : ∃ z, z = s.heap := ⟨_, rfl⟩
  have hH : wHS E o g x y H := by rw [eH]; exact hH
  have hS : va_S (wA E) s.heap H [] := by rw [eH]; exact hS
  refine W.heapTo eH ?_
  obtain ⟨hm0, hm1, hm7, hm8, hm5, hm6, hm9, hm12, hm11⟩ := id hI
  refine lv_aload_n hx hb dX5_thrown_0 rfl (lv_at hl 0 rfl) ?_
  refine wr_get (T := TX5) (N := 30) (ci := 7) (v := .int (y.2 28 0)) hx hb hts hinX5 hown hK hH (lv_md (by decide) (by decide)) (cel_md (by omega) (by omega)) rfl 29 (by decide) (hts (.fieldLink RX5 87 "SelectoRouteModel" "thrown" "I") (by decide +kernel)) (fun _ h => h) rfl dX5_thrown_1 ?_
  have hsp : mp_thrown y = ((y.2 28 0), y) := by
    unfold mp_thrown
    first | (simp only [↓reduceIte, and_self, and_true, true_and, Bool.false_eq_true, reduceCtorEq, eq_self, false_and, and_false]; done) | (simp [↓reduceIte, and_self, and_true, true_and, Bool.false_eq_true, reduceCtorEq, eq_self, false_and, and_false]; done) | simp only [↓reduceIte, and_self, and_true, true_and, Bool.false_eq_true, reduceCtorEq, eq_self, false_and, and_false]
  exact W.iret (v := (y.2 28 0)) hx hb hr (fun t ht hW => ⟨⟨(y.2 28 0), (), rfl, (by rw [hsp]), wHS_t ht (by rw [hsp]; exact hH)⟩, hS.F ht⟩) hS.2.2 dX5_thrown_4
def mp_getWeek (y : St)  : Int32 × St := ((nI (y.1 9 0)), y)
set_option maxHeartbeats 4000000 in
set_option maxRecDepth 100000 in
theorem met_X5_getWeek (l : Launch) (E : wE) (o : wO) (g : Nat → Nat) (x y : St) (hI : MI y) : Met l yX5_getWeek wsX5_getWeek ({ frames := 0, cells := 0, slots := 0, locals := 0 } : Room) (va_Pc [.ref (g 10)] (wPre E o g x y)) (va_Qi (fun (r : Int32) (_ : Unit) => r = (mp_getWeek y ).1) (fun (_ : Unit) t => wHS E o g x (mp_getWeek y ).2 t.heap) (wA E)) 0 0 (wA E) := by
  refine Met.ofW (cc := cX5_getWeek) (maxL := 1) (ret := (some .int)) (by decide) rfl ?_
  intro p e s m args below meth c s₁ B hml hv
  obtain ⟨rfl, hz, hH, hK⟩ := hv
  have hx := B.exec
  have hb := B.bytes
  have hr := B.returns
  have hts := atoms_spec (ws := wsX5_getWeek) B.pre
  have hown : s.vm.findClass RX5 = some m.cls := findClass_of_methodNamed B.named
  have hlocks := B.notSynchronized
  have hS : va_S (wA E) s.heap s.heap [] := va_S.rf
  have hinX5 : ∀ w ∈ wsX50, w ∈ wsX5_getWeek := fun w h => List.mem_cons_of_mem _ (List.mem_append_right _ h)
  have hl := lv_entry ([.ref (g 10)]) (n := 1) (Nat.le_of_ble_eq_true rfl)
  rw [lg_entry_eq]
  generalize (lg_sl ([.ref (g 10)]) ++ List.replicate (1 - (lg_sl ([.ref (g 10)])).length) Slot.unset).toArray = ls at hl ⊢
  have hl : lv_has ls 1 [(0, .ref (g 10))] := hl
  obtain ⟨H, eH⟩ : ∃ z, z = s.heap := ⟨_, rfl⟩
  have hH : wHS E o g x y H := by rw [eH]; exact hH
  have hS : va_S (wA E) s.heap H [] := by rw [eH]; exact hS
  refine W.heapTo eH ?_
  obtain ⟨hm0, hm1, hm7, hm8, hm5, hm6, hm9, hm12, hm11⟩ := id hI
  refine lv_aload_n hx hb dX5_getWeek_0 rfl (lv_at hl 0 rfl) ?_
  refine wr_get (T := TX5) (N := 30) (ci := 7) (v := .int (nI (y.1 9 0))) hx hb hts hinX5 hown hK hH (lv_md (by decide) (by decide)) (cel_md (by omega) (by omega)) rfl 26 (by decide) (hts (.fieldLink RX5 109 "SelectoRouteModel" "week" "I") (by decide +kernel)) (fun _ h => h) rfl dX5_getWeek_1 ?_
  have hsp : mp_getWeek y = ((nI (y.1 9 0)), y) := by
    unfold mp_getWeek
    first | (simp only [↓reduceIte, and_self, and_true, true_and, Bool.false_eq_true, reduceCtorEq, eq_self, false_and, and_false]; done) | (simp [↓reduceIte, and_self, and_true, true_and, Bool.false_eq_true, reduceCtorEq, eq_self, false_and, and_false]; done) | simp only [↓reduceIte, and_self, and_true, true_and, Bool.false_eq_true, reduceCtorEq, eq_self, false_and, and_false]
  exact W.iret (v := (nI (y.1 9 0))) hx hb hr (fun t ht hW => ⟨⟨(nI (y.1 9 0)), (), rfl, (by rw [hsp]), wHS_t ht (by rw [hsp]; exact hH)⟩, hS.F ht⟩) hS.2.2 dX5_getWeek_4
def mp_getMinutes (y : St)  : Int32 × St := ((y.2 17 0), y)
set_option maxHeartbeats 4000000 in
set_option maxRecDepth 100000 in
theorem met_X5_getMinutes (l : Launch) (E : wE) (o : wO) (g : Nat → Nat) (x y : St) (hI : MI y) : Met l yX5_getMinutes wsX5_getMinutes ({ frames := 0, cells := 0, slots := 0, locals := 0 } : Room) (va_Pc [.ref (g 10)] (wPre E o g x y)) (va_Qi (fun (r : Int32) (_ : Unit) => r = (mp_getMinutes y ).1) (fun (_ : Unit) t => wHS E o g x (mp_getMinutes y ).2 t.heap) (wA E)) 0 0 (wA E) := by
  refine Met.ofW (cc := cX5_getMinutes) (maxL := 1) (ret := (some .int)) (by decide) rfl ?_
  intro p e s m args below meth c s₁ B hml hv
  obtain ⟨rfl, hz, hH, hK⟩ := hv
  have hx := B.exec
  have hb := B.bytes
  have hr := B.returns
  have hts := atoms_spec (ws := wsX5_getMinutes) B.pre
  have hown : s.vm.findClass RX5 = some m.cls := findClass_of_methodNamed B.named
  have hlocks := B.notSynchronized
  have hS : va_S (wA E) s.heap s.heap [] := va_S.rf
  have hinX5 : ∀ w ∈ wsX50, w ∈ wsX5_getMinutes := fun w h => List.mem_cons_of_mem _ (List.mem_append_right _ h)
  have hl := lv_entry ([.ref (g 10)]) (n := 1) (Nat.le_of_ble_eq_true rfl)
  rw [lg_entry_eq]
  generalize (lg_sl ([.ref (g 10)]) ++ List.replicate (1 - (lg_sl ([.ref (g 10)])).length) Slot.unset).toArray = ls at hl ⊢
  have hl : lv_has ls 1 [(0, .ref (g 10))] := hl
  obtain ⟨H, eH⟩ : ∃ z, z = s.heap := ⟨_, rfl⟩
  have hH : wHS E o g x y H := by rw [eH]; exact hH
  have hS : va_S (wA E) s.heap H [] := by rw [eH]; exact hS
  refine W.heapTo eH ?_
  obtain ⟨hm0, hm1, hm7, hm8, hm5, hm6, hm9, hm12, hm11⟩ := id hI
  refine lv_aload_n hx hb dX5_getMinutes_0 rfl (lv_at hl 0 rfl) ?_
  refine wr_get (T := TX5) (N := 30) (ci := 7) (v := .int (y.2 17 0)) hx hb hts hinX5 hown hK hH (lv_md (by decide) (by decide)) (cel_md (by omega) (by omega)) rfl 27 (by decide) (hts (.fieldLink RX5 84 "SelectoRouteModel" "minutes" "I") (by decide +kernel)) (fun _ h => h) rfl dX5_getMinutes_1 ?_
  have hsp : mp_getMinutes y = ((y.2 17 0), y) := by
    unfold mp_getMinutes
    first | (simp only [↓reduceIte, and_self, and_true, true_and, Bool.false_eq_true, reduceCtorEq, eq_self, false_and, and_false]; done) | (simp [↓reduceIte, and_self, and_true, true_and, Bool.false_eq_true, reduceCtorEq, eq_self, false_and, and_false]; done) | simp only [↓reduceIte, and_self, and_true, true_and, Bool.false_eq_true, reduceCtorEq, eq_self, false_and, and_false]
  exact W.iret (v := (y.2 17 0)) hx hb hr (fun t ht hW => ⟨⟨(y.2 17 0), (), rfl, (by rw [hsp]), wHS_t ht (by rw [hsp]; exact hH)⟩, hS.F ht⟩) hS.2.2 dX5_getMinutes_4
def mp_getEarned (y : St)  : Int32 × St := ((y.2 18 0), y)
set_option maxHeartbeats 4000000 in
set_option maxRecDepth 100000 in
theorem met_X5_getEarned (l : Launch) (E : wE) (o : wO) (g : Nat → Nat) (x y : St) (hI : MI y) : Met l yX5_getEarned wsX5_getEarned ({ frames := 0, cells := 0, slots := 0, locals := 0 } : Room) (va_Pc [.ref (g 10)] (wPre E o g x y)) (va_Qi (fun (r : Int32) (_ : Unit) => r = (mp_getEarned y ).1) (fun (_ : Unit) t => wHS E o g x (mp_getEarned y ).2 t.heap) (wA E)) 0 0 (wA E) := by
  refine Met.ofW (cc := cX5_getEarned) (maxL := 1) (ret := (some .int)) (by decide) rfl ?_
  intro p e s m args below meth c s₁ B hml hv
  obtain ⟨rfl, hz, hH, hK⟩ := hv
  have hx := B.exec
  have hb := B.bytes
  have hr := B.returns
  have hts := atoms_spec (ws := wsX5_getEarned) B.pre
  have hown : s.vm.findClass RX5 = some m.cls := findClass_of_methodNamed B.named
  have hlocks := B.notSynchronized
  have hS : va_S (wA E) s.heap s.heap [] := va_S.rf
  have hinX5 : ∀ w ∈ wsX50, w ∈ wsX5_getEarned := fun w h => List.mem_cons_of_mem _ (List.mem_append_right _ h)
  have hl := lv_entry ([.ref (g 10)]) (n := 1) (Nat.le_of_ble_eq_true rfl)
  rw [lg_entry_eq]
  generalize (lg_sl ([.ref (g 10)]) ++ List.replicate (1 - (lg_sl ([.ref (g 10)])).length) Slot.unset).toArray = ls at hl ⊢
  have hl : lv_has ls 1 [(0, .ref (g 10))] := hl
  obtain ⟨H, eH⟩ : ∃ z, z = s.heap := ⟨_, rfl⟩
  have hH : wHS E o g x y H := by rw [eH]; exact hH
  have hS : va_S (wA E) s.heap H [] := by rw [eH]; exact hS
  refine W.heapTo eH ?_
  obtain ⟨hm0, hm1, hm7, hm8, hm5, hm6, hm9, hm12, hm11⟩ := id hI
  refine lv_aload_n hx hb dX5_getEarned_0 rfl (lv_at hl 0 rfl) ?_
  refine wr_get (T := TX5) (N := 30) (ci := 7) (v := .int (y.2 18 0)) hx hb hts hinX5 hown hK hH (lv_md (by decide) (by decide)) (cel_md (by omega) (by omega)) rfl 28 (by decide) (hts (.fieldLink RX5 135 "SelectoRouteModel" "earned" "I") (by decide +kernel)) (fun _ h => h) rfl dX5_getEarned_1 ?_
  have hsp : mp_getEarned y = ((y.2 18 0), y) := by
    unfold mp_getEarned
    first | (simp only [↓reduceIte, and_self, and_true, true_and, Bool.false_eq_true, reduceCtorEq, eq_self, false_and, and_false]; done) | (simp [↓reduceIte, and_self, and_true, true_and, Bool.false_eq_true, reduceCtorEq, eq_self, false_and, and_false]; done) | simp only [↓reduceIte, and_self, and_true, true_and, Bool.false_eq_true, reduceCtorEq, eq_self, false_and, and_false]
  exact W.iret (v := (y.2 18 0)) hx hb hr (fun t ht hW => ⟨⟨(y.2 18 0), (), rfl, (by rw [hsp]), wHS_t ht (by rw [hsp]; exact hH)⟩, hS.F ht⟩) hS.2.2 dX5_getEarned_4
def mp_isSound (y : St)  : Int32 × St := (1, y)
set_option maxHeartbeats 4000000 in
set_option maxRecDepth 100000 in
theorem met_X5_isSound (l : Launch) (E : wE) (o : wO) (g : Nat → Nat) (x y : St) (hI : MI y) : Met l yX5_isSound wsX5_isSound ({ frames := 0, cells := 0, slots := 0, locals := 0 } : Room) (va_Pc [.ref (g 10)] (wPre E o g x y)) (va_Qi (fun (r : Int32) (_ : Unit) => r = (mp_isSound y ).1) (fun (_ : Unit) t => wHS E o g x (mp_isSound y ).2 t.heap) (wA E)) 0 0 (wA E) := by
  refine Met.ofW (cc := cX5_isSound) (maxL := 1) (ret := (some .boolean)) (by decide) rfl ?_
  intro p e s m args below meth c s₁ B hml hv
  obtain ⟨rfl, hz, hH, hK⟩ := hv
  have hx := B.exec
  have hb := B.bytes
  have hr := B.returns
  have hts := atoms_spec (ws := wsX5_isSound) B.pre
  have hown : s.vm.findClass RX5 = some m.cls := findClass_of_methodNamed B.named
  have hlocks := B.notSynchronized
  have hS : va_S (wA E) s.heap s.heap [] := va_S.rf
  have hl := lv_entry ([.ref (g 10)]) (n := 1) (Nat.le_of_ble_eq_true rfl)
  rw [lg_entry_eq]
  generalize (lg_sl ([.ref (g 10)]) ++ List.replicate (1 - (lg_sl ([.ref (g 10)])).length) Slot.unset).toArray = ls at hl ⊢
  have hl : lv_has ls 1 [(0, .ref (g 10))] := hl
  obtain ⟨H, eH⟩ : ∃ z, z = s.heap := ⟨_, rfl⟩
  have hH : wHS E o g x y H := by rw [eH]; exact hH
  have hS : va_S (wA E) s.heap H [] := by rw [eH]; exact hS
  refine W.heapTo eH ?_
  obtain ⟨hm0, hm1, hm7, hm8, hm5, hm6, hm9, hm12, hm11⟩ := id hI
  refine lv_iconst (v := 1) hx hb dX5_isSound_0 (by decide) ?_
  have hsp : mp_isSound y = (1, y) := by
    unfold mp_isSound
    first | (simp only [↓reduceIte, and_self, and_true, true_and, Bool.false_eq_true, reduceCtorEq, eq_self, false_and, and_false]; done) | (simp [↓reduceIte, and_self, and_true, true_and, Bool.false_eq_true, reduceCtorEq, eq_self, false_and, and_false]; done) | simp only [↓reduceIte, and_self, and_true, true_and, Bool.false_eq_true, reduceCtorEq, eq_self, false_and, and_false]
  exact W.zret (v := 1) hx hb hr rfl (fun t ht hW => ⟨⟨1, (), rfl, (by rw [hsp]), wHS_t ht (by rw [hsp]; exact hH)⟩, hS.F ht⟩) hS.2.2 dX5_isSound_1
def mp_pull (y : St) (b : Int32) : Int32 × St := if inB b (y.1 0 0) = true then (if (y.1 8 (ix b)) < 2 then ((pD (uI y 28 0 0) (ix b) (-1) (nI ((uI y 28 0 0).1 9 0))), (uI y 28 0 0)) else ((pD (uI y 28 0 0) (ix b) ((uI y 28 0 0).2 5 (((y.1 8 (ix b)) - 2) / 10)) (nI ((uI y 28 0 0).1 9 0))), (uI y 28 0 0))) else (0, (uI y 28 0 1))
set_option maxHeartbeats 4000000 in
set_option maxRecDepth 100000 in
theorem met_X5_pull (l : Launch) (E : wE) (o : wO) (g : Nat → Nat) (x y : St) (b : Int32) (hI : MI y) : Met l yX5_pull wsX5_pull ({ frames := 3, cells := 0, slots := 0, locals := 300 } : Room) (va_Pc [.ref (g 10), .int b] (wPre E o g x y)) (va_Qi (fun (r : Int32) (_ : Unit) => r = (mp_pull y b).1) (fun (_ : Unit) t => wHS E o g x (mp_pull y b).2 t.heap) (wA E)) 0 0 (wA E) := by
  refine Met.ofW (cc := cX5_pull) (maxL := 2) (ret := (some .int)) (by decide) rfl ?_
  intro p e s m args below meth c s₁ B hml hv
  obtain ⟨rfl, hz, hH, hK⟩ := hv
  have hx := B.exec
  have hb := B.bytes
  have hr := B.returns
  have hts := atoms_spec (ws := wsX5_pull) B.pre
  have hown : s.vm.findClass RX5 = some m.cls := findClass_of_methodNamed B.named
  have hlocks := B.notSynchronized
  have hS : va_S (wA E) s.heap s.heap [] := va_S.rf
  have hinX5 : ∀ w ∈ wsX50, w ∈ wsX5_pull := fun w h => List.mem_cons_of_mem _ (List.mem_append_left _ (List.mem_append_right _ h))
  have hl := lv_entry ([.ref (g 10), .int b]) (n := 2) (Nat.le_of_ble_eq_true rfl)
  rw [lg_entry_eq]
  generalize (lg_sl ([.ref (g 10), .int b]) ++ List.replicate (2 - (lg_sl ([.ref (g 10), .int b])).length) Slot.unset).toArray = ls at hl ⊢
  have hl : lv_has ls 2 [(0, .ref (g 10)), (1, .int b)] := hl
  obtain ⟨H, eH⟩ : ∃ z, z = s.heap := ⟨_, rfl⟩
  have hH : wHS E o g x y H := by rw [eH]; exact hH
  have hS : va_S (wA E) s.heap H [] := by rw [eH]; exact hS
  refine W.heapTo eH ?_
  obtain ⟨hm0, hm1, hm7, hm8, hm5, hm6, hm9, hm12, hm11⟩ := id hI
  refine lv_aload_n hx hb dX5_pull_0 rfl (lv_at hl 0 rfl) ?_
  refine lv_aload_n hx hb dX5_pull_1 rfl (lv_at hl 0 rfl) ?_
  refine lv_iload_n hx hb dX5_pull_2 rfl (lv_at hl 1 rfl) ?_
  refine va_calli (va_runV (As := [.int b]) (rest := [.ref (g 10)]) ⟨hx, hb, hml, hown, hts⟩ (met_X5_isDisc l E o g x y b (show (y.1 0 0) ≤ 100 by omega)) (cwV 1 hts gX5_pull_X5_isDisc rfl rfl rfl (by decide +kernel) ⟨Nat.le_of_ble_eq_true rfl, Nat.le_of_ble_eq_true rfl⟩) ⟨fun a U f mk q => ⟨q.1, wPre.calling q.2 a f mk⟩, (va_recv hK (wH_one hH (lv_md (by decide) (by decide)) (cel_md (by omega) (by omega))) (ci := 7) (q0 := 0) rfl rfl), fun U hU hW => ⟨rfl, wPre_at hz hS hH hK U hU hW⟩⟩ rfl rfl hl.1 rfl (lv_room (Nat.le_of_ble_eq_true rfl)) dX5_pull_3 ⟨Nat.le_of_ble_eq_true rfl, Nat.le_of_ble_eq_true rfl⟩) hS (fun q _ h => h) (fun q h => h) (fun r u t H locs ht hvm hw hB hz1 hk1 hS => ?_)
  have hB := wHS_h ht hB
  try dsimp only at hw
  have hH := hB
  rcases hw with ⟨rfl, c1⟩ | ⟨rfl, c1⟩
  · have c1 : inB b (y.1 0 0) = true := c1
    obtain ⟨jb, hjb, rfl⟩ := inB_t c1 (by omega)
    refine lv_iconst (v := 1) hx hb dX5_pull_6 (by decide) ?_
    refine va_calli (va_runV (As := [.int 1, .int 1]) (rest := []) ⟨hx, hb, hml, hown, hts⟩ (met_X5_no1 l E o g x y 1) (cwV 2 hts gX5_pull_X5_no rfl rfl rfl (by decide +kernel) ⟨Nat.le_of_ble_eq_true rfl, Nat.le_of_ble_eq_true rfl⟩) ⟨fun a U f mk q => ⟨q.1, wPre.calling q.2 a f mk⟩, (va_recv hK (wH_one hH (lv_md (by decide) (by decide)) (cel_md (by omega) (by omega))) (ci := 7) (q0 := 0) rfl rfl), fun U hU hW => ⟨rfl, wPre_at hz hS hH hK U hU hW⟩⟩ rfl rfl hl.1 rfl (lv_room (Nat.le_of_ble_eq_true rfl)) dX5_pull_7 ⟨Nat.le_of_ble_eq_true rfl, Nat.le_of_ble_eq_true rfl⟩) hS (fun q _ h => h) (fun q h => h) (fun r u t H locs ht hvm hw hB hz1 hk1 hS => ?_)
    have hB := wHS_h ht hB
    try dsimp only at hw
    obtain rfl := hw
    have hH := hB
    refine lv_if_eq (tgt := 15) hx hb dX5_pull_10 (by decide) (fun _ => ?_) (fun hq => absurd (show (0 : Int32) = 0 by decide) hq)
    refine lv_aload_n hx hb dX5_pull_15 rfl (lv_at hl 0 rfl) ?_
    refine lv_aload_n hx hb dX5_pull_16 rfl (lv_at hl 0 rfl) ?_
    refine wr_get (T := TX5) (N := 30) (ci := 7) (v := .ref (g 15)) hx hb hts hinX5 hown hK hH (lv_md (by decide) (by decide)) (cel_md (by omega) (by omega)) rfl 4 (by decide) (hts (.fieldLink RX5 22 "SelectoRouteModel" "place" "[I") (by decide +kernel)) (fun _ h => h) rfl dX5_pull_17 ?_
    refine lv_iload_n hx hb dX5_pull_20 rfl (lv_at hl 1 rfl) ?_
    refine wr_iald (v := nI (y.1 8 jb) - 2) hx hb hK hH (lv_md (by decide) (by decide)) (cel_md (by decide) (by decide)) 0 rfl (vp_in_nI (n := jb) (N := 30) (by omega) (by decide)) (by rw [(nI_clamp (n := jb) (by omega))]; try rfl) dX5_pull_21 ?_
    refine lv_if_lt (tgt := 37) hx hb dX5_pull_22 (by decide) (fun c2 => ?_) (fun c2 => ?_)
    · have c2 := (pl_lt (n := (y.1 8 jb)) (by have q0 := hm8 jb; omega)).mp c2
      refine lv_iconst (v := (-1)) hx hb dX5_pull_37 (by decide) ?_
      refine lv_iload_n hx hb dX5_pull_38 rfl (lv_at hl 1 rfl) ?_
      refine va_calli (va_runV (As := [.int (-1), .int (nI jb)]) (rest := []) ⟨hx, hb, hml, hown, hts⟩ (met_X5_pullAt_v l E o g x (uI y 28 0 0) jb (by omega) (show (y.1 8 jb) < 42 by have q0 := hm8 jb; omega) (show (y.1 12 jb) < 100 by have q0 := hm12 jb; omega)) (cwV 2 hts gX5_pull_X5_pullAt rfl rfl rfl (by decide +kernel) ⟨Nat.le_of_ble_eq_true rfl, Nat.le_of_ble_eq_true rfl⟩) ⟨fun a U f mk q => ⟨q.1, wPre.calling q.2 a f mk⟩, (va_recv hK (wH_one hH (lv_md (by decide) (by decide)) (cel_md (by omega) (by omega))) (ci := 7) (q0 := 0) rfl rfl), fun U hU hW => ⟨rfl, wPre_at hz hS hH hK U hU hW⟩⟩ rfl rfl hl.1 rfl (lv_room (Nat.le_of_ble_eq_true rfl)) dX5_pull_39 ⟨Nat.le_of_ble_eq_true rfl, Nat.le_of_ble_eq_true rfl⟩) hS (fun q _ h => h) (fun q h => h) (fun r u t H locs ht hvm hw hB hz1 hk1 hS => ?_)
      have hB := wHS_h ht hB
      try dsimp only at hw
      obtain rfl := hw
      have hH := hB
      have hsp : mp_pull y (nI jb) = ((pD (uI y 28 0 0) jb (-1) (nI ((uI y 28 0 0).1 9 0))), (uI y 28 0 0)) := by
        unfold mp_pull
        first | (simp only [c1, c2, inB_nI hjb (by omega), ix_nI (show jb < 2 ^ 31 by omega), ↓reduceIte, and_self, and_true, true_and, Bool.false_eq_true, reduceCtorEq, eq_self, false_and, and_false]; done) | (simp [c1, c2, inB_nI hjb (by omega), ix_nI (show jb < 2 ^ 31 by omega), ↓reduceIte, and_self, and_true, true_and, Bool.false_eq_true, reduceCtorEq, eq_self, false_and, and_false]; done) | simp only [c1, c2, inB_nI hjb (by omega), ix_nI (show jb < 2 ^ 31 by omega), ↓reduceIte, and_self, and_true, true_and, Bool.false_eq_true, reduceCtorEq, eq_self, false_and, and_false]
      exact W.iret (v := (pD (uI y 28 0 0) jb (-1) (nI ((uI y 28 0 0).1 9 0)))) hx hb hr (fun t ht hW => ⟨⟨(pD (uI y 28 0 0) jb (-1) (nI ((uI y 28 0 0).1 9 0))), (), rfl, (by rw [hsp]), wHS_t ht (by rw [hsp]; exact hH)⟩, hS.F ht⟩) hS.2.2 dX5_pull_42
    · have c2 : ¬ ((y.1 8 jb) < 2) := fun hq => c2 ((pl_lt (n := (y.1 8 jb)) (by have q0 := hm8 jb; omega)).mpr hq)
      refine lv_aload_n hx hb dX5_pull_25 rfl (lv_at hl 0 rfl) ?_
      refine wr_get (T := TX5) (N := 30) (ci := 7) (v := .ref (g 15)) hx hb hts hinX5 hown hK hH (lv_md (by decide) (by decide)) (cel_md (by omega) (by omega)) rfl 4 (by decide) (hts (.fieldLink RX5 22 "SelectoRouteModel" "place" "[I") (by decide +kernel)) (fun _ h => h) rfl dX5_pull_26 ?_
      refine lv_iload_n hx hb dX5_pull_29 rfl (lv_at hl 1 rfl) ?_
      refine wr_iald (v := nI ((y.1 8 jb) - 2)) hx hb hK hH (lv_md (by decide) (by decide)) (cel_md (by decide) (by decide)) 0 rfl (vp_in_nI (n := jb) (N := 30) (by omega) (by decide)) (by rw [(nI_clamp (n := jb) (by omega))]; exact pk_sub (b := 2) (show 2 ≤ (y.1 8 jb) by have q0 := hm8 jb; omega)) dX5_pull_30 ?_
      refine lv_bipush (v := 10) hx hb dX5_pull_31 (by decide) ?_
      refine lv_idiv hx hb dX5_pull_33 (by decide) ?_
      refine lv_tope (pk_div (a := ((y.1 8 jb) - 2)) (d := 10) (by have q0 := hm8 jb; omega) (by decide) (by decide)) ?_
      refine lv_goto (tgt := 38) hx hb dX5_pull_34 (by decide) ?_
      refine lv_iload_n hx hb dX5_pull_38 rfl (lv_at hl 1 rfl) ?_
      refine va_calli (va_runV (As := [.int (nI (((y.1 8 jb) - 2) / 10)), .int (nI jb)]) (rest := []) ⟨hx, hb, hml, hown, hts⟩ (met_X5_pullAt_b l E o g x (uI y 28 0 0) (((y.1 8 jb) - 2) / 10) jb (by have q0 := hm8 jb; omega) (by omega) (show (y.1 8 jb) < 42 by have q0 := hm8 jb; omega) (show (y.1 12 jb) < 100 by have q0 := hm12 jb; omega)) (cwV 2 hts gX5_pull_X5_pullAt rfl rfl rfl (by decide +kernel) ⟨Nat.le_of_ble_eq_true rfl, Nat.le_of_ble_eq_true rfl⟩) ⟨fun a U f mk q => ⟨q.1, wPre.calling q.2 a f mk⟩, (va_recv hK (wH_one hH (lv_md (by decide) (by decide)) (cel_md (by omega) (by omega))) (ci := 7) (q0 := 0) rfl rfl), fun U hU hW => ⟨rfl, wPre_at hz hS hH hK U hU hW⟩⟩ rfl rfl hl.1 rfl (lv_room (Nat.le_of_ble_eq_true rfl)) dX5_pull_39 ⟨Nat.le_of_ble_eq_true rfl, Nat.le_of_ble_eq_true rfl⟩) hS (fun q _ h => h) (fun q h => h) (fun r u t H locs ht hvm hw hB hz1 hk1 hS => ?_)
      have hB := wHS_h ht hB
      try dsimp only at hw
      obtain rfl := hw
      have hH := hB
      have hsp : mp_pull y (nI jb) = ((pD (uI y 28 0 0) jb ((uI y 28 0 0).2 5 (((y.1 8 jb) - 2) / 10)) (nI ((uI y 28 0 0).1 9 0))), (uI y 28 0 0)) := by
        unfold mp_pull
        first | (simp only [c1, c2, inB_nI hjb (by omega), ix_nI (show jb < 2 ^ 31 by omega), ↓reduceIte, and_self, and_true, true_and, Bool.false_eq_true, reduceCtorEq, eq_self, false_and, and_false]; done) | (simp [c1, c2, inB_nI hjb (by omega), ix_nI (show jb < 2 ^ 31 by omega), ↓reduceIte, and_self, and_true, true_and, Bool.false_eq_true, reduceCtorEq, eq_self, false_and, and_false]; done) | simp only [c1, c2, inB_nI hjb (by omega), ix_nI (show jb < 2 ^ 31 by omega), ↓reduceIte, and_self, and_true, true_and, Bool.false_eq_true, reduceCtorEq, eq_self, false_and, and_false]
      exact W.iret (v := (pD (uI y 28 0 0) jb ((uI y 28 0 0).2 5 (((y.1 8 jb) - 2) / 10)) (nI ((uI y 28 0 0).1 9 0)))) hx hb hr (fun t ht hW => ⟨⟨(pD (uI y 28 0 0) jb ((uI y 28 0 0).2 5 (((y.1 8 jb) - 2) / 10)) (nI ((uI y 28 0 0).1 9 0))), (), rfl, (by rw [hsp]), wHS_t ht (by rw [hsp]; exact hH)⟩, hS.F ht⟩) hS.2.2 dX5_pull_42
  · have c1 : inB b (y.1 0 0) = false := c1
    refine lv_iconst (v := 1) hx hb dX5_pull_6 (by decide) ?_
    refine va_calli (va_runV (As := [.int 0, .int 1]) (rest := []) ⟨hx, hb, hml, hown, hts⟩ (met_X5_no0 l E o g x y 1) (cwV 2 hts gX5_pull_X5_no rfl rfl rfl (by decide +kernel) ⟨Nat.le_of_ble_eq_true rfl, Nat.le_of_ble_eq_true rfl⟩) ⟨fun a U f mk q => ⟨q.1, wPre.calling q.2 a f mk⟩, (va_recv hK (wH_one hH (lv_md (by decide) (by decide)) (cel_md (by omega) (by omega))) (ci := 7) (q0 := 0) rfl rfl), fun U hU hW => ⟨rfl, wPre_at hz hS hH hK U hU hW⟩⟩ rfl rfl hl.1 rfl (lv_room (Nat.le_of_ble_eq_true rfl)) dX5_pull_7 ⟨Nat.le_of_ble_eq_true rfl, Nat.le_of_ble_eq_true rfl⟩) hS (fun q _ h => h) (fun q h => h) (fun r u t H locs ht hvm hw hB hz1 hk1 hS => ?_)
    have hB := wHS_h ht hB
    try dsimp only at hw
    obtain rfl := hw
    have hH := hB
    refine lv_if_eq (tgt := 15) hx hb dX5_pull_10 (by decide) (fun hq => absurd hq (show ¬ (1 : Int32) = 0 by decide)) (fun _ => ?_)
    refine lv_iconst (v := 0) hx hb dX5_pull_13 (by decide) ?_
    have hsp : mp_pull y b = (0, (uI y 28 0 1)) := by
      unfold mp_pull
      first | (simp only [(Bool.eq_false_iff.mp c1), ↓reduceIte, and_self, and_true, true_and, Bool.false_eq_true, reduceCtorEq, eq_self, false_and, and_false]; done) | (simp [(Bool.eq_false_iff.mp c1), ↓reduceIte, and_self, and_true, true_and, Bool.false_eq_true, reduceCtorEq, eq_self, false_and, and_false]; done) | simp only [(Bool.eq_false_iff.mp c1), ↓reduceIte, and_self, and_true, true_and, Bool.false_eq_true, reduceCtorEq, eq_self, false_and, and_false]
    exact W.iret (v := 0) hx hb hr (fun t ht hW => ⟨⟨0, (), rfl, (by rw [hsp]), wHS_t ht (by rw [hsp]; exact hH)⟩, hS.F ht⟩) hS.2.2 dX5_pull_14
def mp_pullIn (y : St) (b : Int32) (v : Int32) : Int32 × St := if inB b (y.1 1 0) = true then (if inB v (y.1 0 0) = true then ((pD (uI y 28 0 0) (ix v) ((uI y 28 0 0).2 5 (ix b)) (nI ((uI y 28 0 0).1 9 0))), (uI y 28 0 0)) else (0, (uI y 28 0 1))) else (0, (uI y 28 0 1))
set_option maxHeartbeats 4000000 in
set_option maxRecDepth 100000 in
theorem met_X5_pullIn (l : Launch) (E : wE) (o : wO) (g : Nat → Nat) (x y : St) (b : Int32) (v : Int32) (hI : MI y) : Met l yX5_pullIn wsX5_pullIn ({ frames := 3, cells := 0, slots := 0, locals := 300 } : Room) (va_Pc [.ref (g 10), .int b, .int v] (wPre E o g x y)) (va_Qi (fun (r : Int32) (_ : Unit) => r = (mp_pullIn y b v).1) (fun (_ : Unit) t => wHS E o g x (mp_pullIn y b v).2 t.heap) (wA E)) 0 0 (wA E) := by
  refine Met.ofW (cc := cX5_pullIn) (maxL := 3) (ret := (some .int)) (by decide) rfl ?_
  intro p e s m args below meth c s₁ B hml hv
  obtain ⟨rfl, hz, hH, hK⟩ := hv
  have hx := B.exec
  have hb := B.bytes
  have hr := B.returns
  have hts := atoms_spec (ws := wsX5_pullIn) B.pre
  have hown : s.vm.findClass RX5 = some m.cls := findClass_of_methodNamed B.named
  have hlocks := B.notSynchronized
  have hS : va_S (wA E) s.heap s.heap [] := va_S.rf
  have hinX5 : ∀ w ∈ wsX50, w ∈ wsX5_pullIn := fun w h => List.mem_cons_of_mem _ (List.mem_append_left _ (List.mem_append_right _ h))
  have hl := lv_entry ([.ref (g 10), .int b, .int v]) (n := 3) (Nat.le_of_ble_eq_true rfl)
  rw [lg_entry_eq]
  generalize (lg_sl ([.ref (g 10), .int b, .int v]) ++ List.replicate (3 - (lg_sl ([.ref (g 10), .int b, .int v])).length) Slot.unset).toArray = ls at hl ⊢
  have hl : lv_has ls 3 [(0, .ref (g 10)), (1, .int b), (2, .int v)] := hl
  obtain ⟨H, eH⟩ : ∃ z, z = s.heap := ⟨_, rfl⟩
  have hH : wHS E o g x y H := by rw [eH]; exact hH
  have hS : va_S (wA E) s.heap H [] := by rw [eH]; exact hS
  refine W.heapTo eH ?_
  obtain ⟨hm0, hm1, hm7, hm8, hm5, hm6, hm9, hm12, hm11⟩ := id hI
  refine lv_aload_n hx hb dX5_pullIn_0 rfl (lv_at hl 0 rfl) ?_
  refine lv_aload_n hx hb dX5_pullIn_1 rfl (lv_at hl 0 rfl) ?_
  refine lv_iload_n hx hb dX5_pullIn_2 rfl (lv_at hl 1 rfl) ?_
  refine va_calli (va_runV (As := [.int b]) (rest := [.ref (g 10)]) ⟨hx, hb, hml, hown, hts⟩ (met_X5_isBox l E o g x y b (show (y.1 1 0) ≤ 100 by omega)) (cwV 1 hts gX5_pullIn_X5_isBox rfl rfl rfl (by decide +kernel) ⟨Nat.le_of_ble_eq_true rfl, Nat.le_of_ble_eq_true rfl⟩) ⟨fun a U f mk q => ⟨q.1, wPre.calling q.2 a f mk⟩, (va_recv hK (wH_one hH (lv_md (by decide) (by decide)) (cel_md (by omega) (by omega))) (ci := 7) (q0 := 0) rfl rfl), fun U hU hW => ⟨rfl, wPre_at hz hS hH hK U hU hW⟩⟩ rfl rfl hl.1 rfl (lv_room (Nat.le_of_ble_eq_true rfl)) dX5_pullIn_3 ⟨Nat.le_of_ble_eq_true rfl, Nat.le_of_ble_eq_true rfl⟩) hS (fun q _ h => h) (fun q h => h) (fun r u t H locs ht hvm hw hB hz1 hk1 hS => ?_)
  have hB := wHS_h ht hB
  try dsimp only at hw
  have hH := hB
  rcases hw with ⟨rfl, c1⟩ | ⟨rfl, c1⟩
  · have c1 : inB b (y.1 1 0) = true := c1
    obtain ⟨jb, hjb, rfl⟩ := inB_t c1 (by omega)
    refine lv_if_eq (tgt := 21) hx hb dX5_pullIn_6 (by decide) (fun hq => absurd hq (show ¬ (1 : Int32) = 0 by decide)) (fun _ => ?_)
    refine lv_aload_n hx hb dX5_pullIn_9 rfl (lv_at hl 0 rfl) ?_
    refine lv_iload_n hx hb dX5_pullIn_10 rfl (lv_at hl 2 rfl) ?_
    refine va_calli (va_runV (As := [.int v]) (rest := [.ref (g 10)]) ⟨hx, hb, hml, hown, hts⟩ (met_X5_isDisc l E o g x y v (show (y.1 0 0) ≤ 100 by omega)) (cwV 1 hts gX5_pullIn_X5_isDisc rfl rfl rfl (by decide +kernel) ⟨Nat.le_of_ble_eq_true rfl, Nat.le_of_ble_eq_true rfl⟩) ⟨fun a U f mk q => ⟨q.1, wPre.calling q.2 a f mk⟩, (va_recv hK (wH_one hH (lv_md (by decide) (by decide)) (cel_md (by omega) (by omega))) (ci := 7) (q0 := 0) rfl rfl), fun U hU hW => ⟨rfl, wPre_at hz hS hH hK U hU hW⟩⟩ rfl rfl hl.1 rfl (lv_room (Nat.le_of_ble_eq_true rfl)) dX5_pullIn_11 ⟨Nat.le_of_ble_eq_true rfl, Nat.le_of_ble_eq_true rfl⟩) hS (fun q _ h => h) (fun q h => h) (fun r u t H locs ht hvm hw hB hz1 hk1 hS => ?_)
    have hB := wHS_h ht hB
    try dsimp only at hw
    have hH := hB
    rcases hw with ⟨rfl, c2⟩ | ⟨rfl, c2⟩
    · have c2 : inB v (y.1 0 0) = true := c2
      obtain ⟨jv, hjv, rfl⟩ := inB_t c2 (by omega)
      refine lv_if_eq (tgt := 21) hx hb dX5_pullIn_14 (by decide) (fun hq => absurd hq (show ¬ (1 : Int32) = 0 by decide)) (fun _ => ?_)
      refine lv_iconst (v := 1) hx hb dX5_pullIn_17 (by decide) ?_
      refine lv_goto (tgt := 22) hx hb dX5_pullIn_18 (by decide) ?_
      refine lv_iconst (v := 1) hx hb dX5_pullIn_22 (by decide) ?_
      refine va_calli (va_runV (As := [.int 1, .int 1]) (rest := []) ⟨hx, hb, hml, hown, hts⟩ (met_X5_no1 l E o g x y 1) (cwV 2 hts gX5_pullIn_X5_no rfl rfl rfl (by decide +kernel) ⟨Nat.le_of_ble_eq_true rfl, Nat.le_of_ble_eq_true rfl⟩) ⟨fun a U f mk q => ⟨q.1, wPre.calling q.2 a f mk⟩, (va_recv hK (wH_one hH (lv_md (by decide) (by decide)) (cel_md (by omega) (by omega))) (ci := 7) (q0 := 0) rfl rfl), fun U hU hW => ⟨rfl, wPre_at hz hS hH hK U hU hW⟩⟩ rfl rfl hl.1 rfl (lv_room (Nat.le_of_ble_eq_true rfl)) dX5_pullIn_23 ⟨Nat.le_of_ble_eq_true rfl, Nat.le_of_ble_eq_true rfl⟩) hS (fun q _ h => h) (fun q h => h) (fun r u t H locs ht hvm hw hB hz1 hk1 hS => ?_)
      have hB := wHS_h ht hB
      try dsimp only at hw
      obtain rfl := hw
      have hH := hB
      refine lv_if_eq (tgt := 33) hx hb dX5_pullIn_26 (by decide) (fun _ => ?_) (fun hq => absurd (show (0 : Int32) = 0 by decide) hq)
      refine lv_aload_n hx hb dX5_pullIn_33 rfl (lv_at hl 0 rfl) ?_
      refine lv_iload_n hx hb dX5_pullIn_34 rfl (lv_at hl 1 rfl) ?_
      refine lv_iload_n hx hb dX5_pullIn_35 rfl (lv_at hl 2 rfl) ?_
      refine va_calli (va_runV (As := [.int (nI jb), .int (nI jv)]) (rest := []) ⟨hx, hb, hml, hown, hts⟩ (met_X5_pullAt_b l E o g x (uI y 28 0 0) jb jv (by omega) (by omega) (show (y.1 8 jv) < 42 by have q0 := hm8 jv; omega) (show (y.1 12 jv) < 100 by have q0 := hm12 jv; omega)) (cwV 2 hts gX5_pullIn_X5_pullAt rfl rfl rfl (by decide +kernel) ⟨Nat.le_of_ble_eq_true rfl, Nat.le_of_ble_eq_true rfl⟩) ⟨fun a U f mk q => ⟨q.1, wPre.calling q.2 a f mk⟩, (va_recv hK (wH_one hH (lv_md (by decide) (by decide)) (cel_md (by omega) (by omega))) (ci := 7) (q0 := 0) rfl rfl), fun U hU hW => ⟨rfl, wPre_at hz hS hH hK U hU hW⟩⟩ rfl rfl hl.1 rfl (lv_room (Nat.le_of_ble_eq_true rfl)) dX5_pullIn_36 ⟨Nat.le_of_ble_eq_true rfl, Nat.le_of_ble_eq_true rfl⟩) hS (fun q _ h => h) (fun q h => h) (fun r u t H locs ht hvm hw hB hz1 hk1 hS => ?_)
      have hB := wHS_h ht hB
      try dsimp only at hw
      obtain rfl := hw
      have hH := hB
      have hsp : mp_pullIn y (nI jb) (nI jv) = ((pD (uI y 28 0 0) jv ((uI y 28 0 0).2 5 jb) (nI ((uI y 28 0 0).1 9 0))), (uI y 28 0 0)) := by
        unfold mp_pullIn
        first | (simp only [c1, c2, inB_nI hjb (by omega), ix_nI (show jb < 2 ^ 31 by omega), inB_nI hjv (by omega), ix_nI (show jv < 2 ^ 31 by omega), ↓reduceIte, and_self, and_true, true_and, Bool.false_eq_true, reduceCtorEq, eq_self, false_and, and_false]; done) | (simp [c1, c2, inB_nI hjb (by omega), ix_nI (show jb < 2 ^ 31 by omega), inB_nI hjv (by omega), ix_nI (show jv < 2 ^ 31 by omega), ↓reduceIte, and_self, and_true, true_and, Bool.false_eq_true, reduceCtorEq, eq_self, false_and, and_false]; done) | simp only [c1, c2, inB_nI hjb (by omega), ix_nI (show jb < 2 ^ 31 by omega), inB_nI hjv (by omega), ix_nI (show jv < 2 ^ 31 by omega), ↓reduceIte, and_self, and_true, true_and, Bool.false_eq_true, reduceCtorEq, eq_self, false_and, and_false]
      exact W.iret (v := (pD (uI y 28 0 0) jv ((uI y 28 0 0).2 5 jb) (nI ((uI y 28 0 0).1 9 0)))) hx hb hr (fun t ht hW => ⟨⟨(pD (uI y 28 0 0) jv ((uI y 28 0 0).2 5 jb) (nI ((uI y 28 0 0).1 9 0))), (), rfl, (by rw [hsp]), wHS_t ht (by rw [hsp]; exact hH)⟩, hS.F ht⟩) hS.2.2 dX5_pullIn_39
    · have c2 : inB v (y.1 0 0) = false := c2
      refine lv_if_eq (tgt := 21) hx hb dX5_pullIn_14 (by decide) (fun _ => ?_) (fun hq => absurd (show (0 : Int32) = 0 by decide) hq)
      refine lv_iconst (v := 0) hx hb dX5_pullIn_21 (by decide) ?_
      refine lv_iconst (v := 1) hx hb dX5_pullIn_22 (by decide) ?_
      refine va_calli (va_runV (As := [.int 0, .int 1]) (rest := []) ⟨hx, hb, hml, hown, hts⟩ (met_X5_no0 l E o g x y 1) (cwV 2 hts gX5_pullIn_X5_no rfl rfl rfl (by decide +kernel) ⟨Nat.le_of_ble_eq_true rfl, Nat.le_of_ble_eq_true rfl⟩) ⟨fun a U f mk q => ⟨q.1, wPre.calling q.2 a f mk⟩, (va_recv hK (wH_one hH (lv_md (by decide) (by decide)) (cel_md (by omega) (by omega))) (ci := 7) (q0 := 0) rfl rfl), fun U hU hW => ⟨rfl, wPre_at hz hS hH hK U hU hW⟩⟩ rfl rfl hl.1 rfl (lv_room (Nat.le_of_ble_eq_true rfl)) dX5_pullIn_23 ⟨Nat.le_of_ble_eq_true rfl, Nat.le_of_ble_eq_true rfl⟩) hS (fun q _ h => h) (fun q h => h) (fun r u t H locs ht hvm hw hB hz1 hk1 hS => ?_)
      have hB := wHS_h ht hB
      try dsimp only at hw
      obtain rfl := hw
      have hH := hB
      refine lv_if_eq (tgt := 33) hx hb dX5_pullIn_26 (by decide) (fun hq => absurd hq (show ¬ (1 : Int32) = 0 by decide)) (fun _ => ?_)
      refine lv_iconst (v := 0) hx hb dX5_pullIn_29 (by decide) ?_
      refine lv_goto (tgt := 39) hx hb dX5_pullIn_30 (by decide) ?_
      have hsp : mp_pullIn y (nI jb) v = (0, (uI y 28 0 1)) := by
        unfold mp_pullIn
        first | (simp only [c1, (Bool.eq_false_iff.mp c2), inB_nI hjb (by omega), ix_nI (show jb < 2 ^ 31 by omega), ↓reduceIte, and_self, and_true, true_and, Bool.false_eq_true, reduceCtorEq, eq_self, false_and, and_false]; done) | (simp [c1, (Bool.eq_false_iff.mp c2), inB_nI hjb (by omega), ix_nI (show jb < 2 ^ 31 by omega), ↓reduceIte, and_self, and_true, true_and, Bool.false_eq_true, reduceCtorEq, eq_self, false_and, and_false]; done) | simp only [c1, (Bool.eq_false_iff.mp c2), inB_nI hjb (by omega), ix_nI (show jb < 2 ^ 31 by omega), ↓reduceIte, and_self, and_true, true_and, Bool.false_eq_true, reduceCtorEq, eq_self, false_and, and_false]
      exact W.iret (v := 0) hx hb hr (fun t ht hW => ⟨⟨0, (), rfl, (by rw [hsp]), wHS_t ht (by rw [hsp]; exact hH)⟩, hS.F ht⟩) hS.2.2 dX5_pullIn_39
  · have c1 : inB b (y.1 1 0) = false := c1
    refine lv_if_eq (tgt := 21) hx hb dX5_pullIn_6 (by decide) (fun _ => ?_) (fun hq => absurd (show (0 : Int32) = 0 by decide) hq)
    refine lv_iconst (v := 0) hx hb dX5_pullIn_21 (by decide) ?_
    refine lv_iconst (v := 1) hx hb dX5_pullIn_22 (by decide) ?_
    refine va_calli (va_runV (As := [.int 0, .int 1]) (rest := []) ⟨hx, hb, hml, hown, hts⟩ (met_X5_no0 l E o g x y 1) (cwV 2 hts gX5_pullIn_X5_no rfl rfl rfl (by decide +kernel) ⟨Nat.le_of_ble_eq_true rfl, Nat.le_of_ble_eq_true rfl⟩) ⟨fun a U f mk q => ⟨q.1, wPre.calling q.2 a f mk⟩, (va_recv hK (wH_one hH (lv_md (by decide) (by decide)) (cel_md (by omega) (by omega))) (ci := 7) (q0 := 0) rfl rfl), fun U hU hW => ⟨rfl, wPre_at hz hS hH hK U hU hW⟩⟩ rfl rfl hl.1 rfl (lv_room (Nat.le_of_ble_eq_true rfl)) dX5_pullIn_23 ⟨Nat.le_of_ble_eq_true rfl, Nat.le_of_ble_eq_true rfl⟩) hS (fun q _ h => h) (fun q h => h) (fun r u t H locs ht hvm hw hB hz1 hk1 hS => ?_)
    have hB := wHS_h ht hB
    try dsimp only at hw
    obtain rfl := hw
    have hH := hB
    refine lv_if_eq (tgt := 33) hx hb dX5_pullIn_26 (by decide) (fun hq => absurd hq (show ¬ (1 : Int32) = 0 by decide)) (fun _ => ?_)
    refine lv_iconst (v := 0) hx hb dX5_pullIn_29 (by decide) ?_
    refine lv_goto (tgt := 39) hx hb dX5_pullIn_30 (by decide) ?_
    have hsp : mp_pullIn y b v = (0, (uI y 28 0 1)) := by
      unfold mp_pullIn
      first | (simp only [(Bool.eq_false_iff.mp c1), ↓reduceIte, and_self, and_true, true_and, Bool.false_eq_true, reduceCtorEq, eq_self, false_and, and_false]; done) | (simp [(Bool.eq_false_iff.mp c1), ↓reduceIte, and_self, and_true, true_and, Bool.false_eq_true, reduceCtorEq, eq_self, false_and, and_false]; done) | simp only [(Bool.eq_false_iff.mp c1), ↓reduceIte, and_self, and_true, true_and, Bool.false_eq_true, reduceCtorEq, eq_self, false_and, and_false]
    exact W.iret (v := 0) hx hb hr (fun t ht hW => ⟨⟨0, (), rfl, (by rw [hsp]), wHS_t ht (by rw [hsp]; exact hH)⟩, hS.F ht⟩) hS.2.2 dX5_pullIn_39
def mp_burn (y : St) (b : Int32) : Int32 × St := if inB b (y.1 0 0) = true then (if (y.1 8 (ix b)) = 1 then ((y.2 3 (ix b)), (uN (uI (uI y 28 0 0) 28 0 0) 8 (ix b) 0)) else (0, (uI (uI y 28 0 0) 28 0 2))) else (0, (uI y 28 0 1))
set_option maxHeartbeats 4000000 in
set_option maxRecDepth 100000 in
theorem met_X5_burn (l : Launch) (E : wE) (o : wO) (g : Nat → Nat) (x y : St) (b : Int32) (hI : MI y) : Met l yX5_burn wsX5_burn ({ frames := 3, cells := 0, slots := 0, locals := 300 } : Room) (va_Pc [.ref (g 10), .int b] (wPre E o g x y)) (va_Qi (fun (r : Int32) (_ : Unit) => r = (mp_burn y b).1) (fun (_ : Unit) t => wHS E o g x (mp_burn y b).2 t.heap) (wA E)) 0 0 (wA E) := by
  refine Met.ofW (cc := cX5_burn) (maxL := 2) (ret := (some .int)) (by decide) rfl ?_
  intro p e s m args below meth c s₁ B hml hv
  obtain ⟨rfl, hz, hH, hK⟩ := hv
  have hx := B.exec
  have hb := B.bytes
  have hr := B.returns
  have hts := atoms_spec (ws := wsX5_burn) B.pre
  have hown : s.vm.findClass RX5 = some m.cls := findClass_of_methodNamed B.named
  have hlocks := B.notSynchronized
  have hS : va_S (wA E) s.heap s.heap [] := va_S.rf
  have hinX5 : ∀ w ∈ wsX50, w ∈ wsX5_burn := fun w h => List.mem_cons_of_mem _ (List.mem_append_left _ (List.mem_append_right _ h))
  have hl := lv_entry ([.ref (g 10), .int b]) (n := 2) (Nat.le_of_ble_eq_true rfl)
  rw [lg_entry_eq]
  generalize (lg_sl ([.ref (g 10), .int b]) ++ List.replicate (2 - (lg_sl ([.ref (g 10), .int b])).length) Slot.unset).toArray = ls at hl ⊢
  have hl : lv_has ls 2 [(0, .ref (g 10)), (1, .int b)] := hl
  obtain ⟨H, eH⟩ : ∃ z, z = s.heap := ⟨_, rfl⟩
  have hH : wHS E o g x y H := by rw [eH]; exact hH
  have hS : va_S (wA E) s.heap H [] := by rw [eH]; exact hS
  refine W.heapTo eH ?_
  obtain ⟨hm0, hm1, hm7, hm8, hm5, hm6, hm9, hm12, hm11⟩ := id hI
  refine lv_aload_n hx hb dX5_burn_0 rfl (lv_at hl 0 rfl) ?_
  refine lv_aload_n hx hb dX5_burn_1 rfl (lv_at hl 0 rfl) ?_
  refine lv_iload_n hx hb dX5_burn_2 rfl (lv_at hl 1 rfl) ?_
  refine va_calli (va_runV (As := [.int b]) (rest := [.ref (g 10)]) ⟨hx, hb, hml, hown, hts⟩ (met_X5_isDisc l E o g x y b (show (y.1 0 0) ≤ 100 by omega)) (cwV 1 hts gX5_burn_X5_isDisc rfl rfl rfl (by decide +kernel) ⟨Nat.le_of_ble_eq_true rfl, Nat.le_of_ble_eq_true rfl⟩) ⟨fun a U f mk q => ⟨q.1, wPre.calling q.2 a f mk⟩, (va_recv hK (wH_one hH (lv_md (by decide) (by decide)) (cel_md (by omega) (by omega))) (ci := 7) (q0 := 0) rfl rfl), fun U hU hW => ⟨rfl, wPre_at hz hS hH hK U hU hW⟩⟩ rfl rfl hl.1 rfl (lv_room (Nat.le_of_ble_eq_true rfl)) dX5_burn_3 ⟨Nat.le_of_ble_eq_true rfl, Nat.le_of_ble_eq_true rfl⟩) hS (fun q _ h => h) (fun q h => h) (fun r u t H locs ht hvm hw hB hz1 hk1 hS => ?_)
  have hB := wHS_h ht hB
  try dsimp only at hw
  have hH := hB
  rcases hw with ⟨rfl, c1⟩ | ⟨rfl, c1⟩
  · have c1 : inB b (y.1 0 0) = true := c1
    obtain ⟨jb, hjb, rfl⟩ := inB_t c1 (by omega)
    refine lv_iconst (v := 1) hx hb dX5_burn_6 (by decide) ?_
    refine va_calli (va_runV (As := [.int 1, .int 1]) (rest := []) ⟨hx, hb, hml, hown, hts⟩ (met_X5_no1 l E o g x y 1) (cwV 2 hts gX5_burn_X5_no rfl rfl rfl (by decide +kernel) ⟨Nat.le_of_ble_eq_true rfl, Nat.le_of_ble_eq_true rfl⟩) ⟨fun a U f mk q => ⟨q.1, wPre.calling q.2 a f mk⟩, (va_recv hK (wH_one hH (lv_md (by decide) (by decide)) (cel_md (by omega) (by omega))) (ci := 7) (q0 := 0) rfl rfl), fun U hU hW => ⟨rfl, wPre_at hz hS hH hK U hU hW⟩⟩ rfl rfl hl.1 rfl (lv_room (Nat.le_of_ble_eq_true rfl)) dX5_burn_7 ⟨Nat.le_of_ble_eq_true rfl, Nat.le_of_ble_eq_true rfl⟩) hS (fun q _ h => h) (fun q h => h) (fun r u t H locs ht hvm hw hB hz1 hk1 hS => ?_)
    have hB := wHS_h ht hB
    try dsimp only at hw
    obtain rfl := hw
    have hH := hB
    refine lv_if_ne (tgt := 26) hx hb dX5_burn_10 (by decide) (fun hq => absurd (show (0 : Int32) = 0 by decide) hq) (fun _ => ?_)
    refine lv_aload_n hx hb dX5_burn_13 rfl (lv_at hl 0 rfl) ?_
    refine lv_aload_n hx hb dX5_burn_14 rfl (lv_at hl 0 rfl) ?_
    refine lv_iload_n hx hb dX5_burn_15 rfl (lv_at hl 1 rfl) ?_
    refine va_calli (va_runV (As := [.int (nI jb)]) (rest := [.ref (g 10)]) ⟨hx, hb, hml, hown, hts⟩ (met_X5_isInVan l E o g x (uI y 28 0 0) jb (by omega) (show (y.1 8 jb) < 42 by have q0 := hm8 jb; omega)) (cwV 1 hts gX5_burn_X5_isInVan rfl rfl rfl (by decide +kernel) ⟨Nat.le_of_ble_eq_true rfl, Nat.le_of_ble_eq_true rfl⟩) ⟨fun a U f mk q => ⟨q.1, wPre.calling q.2 a f mk⟩, (va_recv hK (wH_one hH (lv_md (by decide) (by decide)) (cel_md (by omega) (by omega))) (ci := 7) (q0 := 0) rfl rfl), fun U hU hW => ⟨rfl, wPre_at hz hS hH hK U hU hW⟩⟩ rfl rfl hl.1 rfl (lv_room (Nat.le_of_ble_eq_true rfl)) dX5_burn_16 ⟨Nat.le_of_ble_eq_true rfl, Nat.le_of_ble_eq_true rfl⟩) hS (fun q _ h => h) (fun q h => h) (fun r u t H locs ht hvm hw hB hz1 hk1 hS => ?_)
    have hB := wHS_h ht hB
    try dsimp only at hw
    have hH := hB
    rcases hw with ⟨rfl, c2⟩ | ⟨rfl, c2⟩
    · have c2 : (y.1 8 jb) = 1 := c2
      refine lv_iconst (v := 2) hx hb dX5_burn_19 (by decide) ?_
      refine va_calli (va_runV (As := [.int 1, .int 2]) (rest := []) ⟨hx, hb, hml, hown, hts⟩ (met_X5_no1 l E o g x (uI y 28 0 0) 2) (cwV 2 hts gX5_burn_X5_no rfl rfl rfl (by decide +kernel) ⟨Nat.le_of_ble_eq_true rfl, Nat.le_of_ble_eq_true rfl⟩) ⟨fun a U f mk q => ⟨q.1, wPre.calling q.2 a f mk⟩, (va_recv hK (wH_one hH (lv_md (by decide) (by decide)) (cel_md (by omega) (by omega))) (ci := 7) (q0 := 0) rfl rfl), fun U hU hW => ⟨rfl, wPre_at hz hS hH hK U hU hW⟩⟩ rfl rfl hl.1 rfl (lv_room (Nat.le_of_ble_eq_true rfl)) dX5_burn_20 ⟨Nat.le_of_ble_eq_true rfl, Nat.le_of_ble_eq_true rfl⟩) hS (fun q _ h => h) (fun q h => h) (fun r u t H locs ht hvm hw hB hz1 hk1 hS => ?_)
      have hB := wHS_h ht hB
      try dsimp only at hw
      obtain rfl := hw
      have hH := hB
      refine lv_if_eq (tgt := 28) hx hb dX5_burn_23 (by decide) (fun _ => ?_) (fun hq => absurd (show (0 : Int32) = 0 by decide) hq)
      refine lv_aload_n hx hb dX5_burn_28 rfl (lv_at hl 0 rfl) ?_
      refine wr_get (T := TX5) (N := 30) (ci := 7) (v := .ref (g 15)) hx hb hts hinX5 hown hK hH (lv_md (by decide) (by decide)) (cel_md (by omega) (by omega)) rfl 4 (by decide) (hts (.fieldLink RX5 22 "SelectoRouteModel" "place" "[I") (by decide +kernel)) (fun _ h => h) rfl dX5_burn_29 ?_
      refine lv_iload_n hx hb dX5_burn_32 rfl (lv_at hl 1 rfl) ?_
      refine lv_bipush (v := (-2)) hx hb dX5_burn_33 (by decide) ?_
      refine wr_iast hx hb hK hH hS (lv_md (by decide) (by decide)) (cel_md (by decide) (by decide)) 0 rfl (vp_in_nI (n := jb) (N := 30) (by omega) (by decide)) dX5_burn_35 (fun H locs hH hS => ?_)
      have hv8 : ((-2) : Int32) = nI 0 - 2 := rfl
      rw [hv8] at hH
      have hH : wHS E o g x (uN (uI (uI y 28 0 0) 28 0 0) 8 jb 0) H := pa_place (v := 0) (nI_clamp (n := jb) (by omega)) hH
      refine lv_aload_n hx hb dX5_burn_36 rfl (lv_at hl 0 rfl) ?_
      refine wr_get (T := TX5) (N := 30) (ci := 7) (v := .ref (g 14)) hx hb hts hinX5 hown hK hH (lv_md (by decide) (by decide)) (cel_md (by omega) (by omega)) rfl 3 (by decide) (hts (.fieldLink RX5 19 "SelectoRouteModel" "wear" "[I") (by decide +kernel)) (fun _ h => h) rfl dX5_burn_37 ?_
      refine lv_iload_n hx hb dX5_burn_40 rfl (lv_at hl 1 rfl) ?_
      refine wr_iald (v := (y.2 3 jb)) hx hb hK hH (lv_md (by decide) (by decide)) (cel_md (by decide) (by decide)) 0 rfl (vp_in_nI (n := jb) (N := 30) (by omega) (by decide)) (by rw [(nI_clamp (n := jb) (by omega))]; try rfl) dX5_burn_41 ?_
      have hsp : mp_burn y (nI jb) = ((y.2 3 jb), (uN (uI (uI y 28 0 0) 28 0 0) 8 jb 0)) := by
        unfold mp_burn
        first | (simp only [c1, c2, inB_nI hjb (by omega), ix_nI (show jb < 2 ^ 31 by omega), ↓reduceIte, and_self, and_true, true_and, Bool.false_eq_true, reduceCtorEq, eq_self, false_and, and_false]; done) | (simp [c1, c2, inB_nI hjb (by omega), ix_nI (show jb < 2 ^ 31 by omega), ↓reduceIte, and_self, and_true, true_and, Bool.false_eq_true, reduceCtorEq, eq_self, false_and, and_false]; done) | simp only [c1, c2, inB_nI hjb (by omega), ix_nI (show jb < 2 ^ 31 by omega), ↓reduceIte, and_self, and_true, true_and, Bool.false_eq_true, reduceCtorEq, eq_self, false_and, and_false]
      exact W.iret (v := (y.2 3 jb)) hx hb hr (fun t ht hW => ⟨⟨(y.2 3 jb), (), rfl, (by rw [hsp]), wHS_t ht (by rw [hsp]; exact hH)⟩, hS.F ht⟩) hS.2.2 dX5_burn_42
    · have c2 : ¬ ((y.1 8 jb) = 1) := c2
      refine lv_iconst (v := 2) hx hb dX5_burn_19 (by decide) ?_
      refine va_calli (va_runV (As := [.int 0, .int 2]) (rest := []) ⟨hx, hb, hml, hown, hts⟩ (met_X5_no0 l E o g x (uI y 28 0 0) 2) (cwV 2 hts gX5_burn_X5_no rfl rfl rfl (by decide +kernel) ⟨Nat.le_of_ble_eq_true rfl, Nat.le_of_ble_eq_true rfl⟩) ⟨fun a U f mk q => ⟨q.1, wPre.calling q.2 a f mk⟩, (va_recv hK (wH_one hH (lv_md (by decide) (by decide)) (cel_md (by omega) (by omega))) (ci := 7) (q0 := 0) rfl rfl), fun U hU hW => ⟨rfl, wPre_at hz hS hH hK U hU hW⟩⟩ rfl rfl hl.1 rfl (lv_room (Nat.le_of_ble_eq_true rfl)) dX5_burn_20 ⟨Nat.le_of_ble_eq_true rfl, Nat.le_of_ble_eq_true rfl⟩) hS (fun q _ h => h) (fun q h => h) (fun r u t H locs ht hvm hw hB hz1 hk1 hS => ?_)
      have hB := wHS_h ht hB
      try dsimp only at hw
      obtain rfl := hw
      have hH := hB
      refine lv_if_eq (tgt := 28) hx hb dX5_burn_23 (by decide) (fun hq => absurd hq (show ¬ (1 : Int32) = 0 by decide)) (fun _ => ?_)
      refine lv_iconst (v := 0) hx hb dX5_burn_26 (by decide) ?_
      have hsp : mp_burn y (nI jb) = (0, (uI (uI y 28 0 0) 28 0 2)) := by
        unfold mp_burn
        first | (simp only [c1, c2, inB_nI hjb (by omega), ix_nI (show jb < 2 ^ 31 by omega), ↓reduceIte, and_self, and_true, true_and, Bool.false_eq_true, reduceCtorEq, eq_self, false_and, and_false]; done) | (simp [c1, c2, inB_nI hjb (by omega), ix_nI (show jb < 2 ^ 31 by omega), ↓reduceIte, and_self, and_true, true_and, Bool.false_eq_true, reduceCtorEq, eq_self, false_and, and_false]; done) | simp only [c1, c2, inB_nI hjb (by omega), ix_nI (show jb < 2 ^ 31 by omega), ↓reduceIte, and_self, and_true, true_and, Bool.false_eq_true, reduceCtorEq, eq_self, false_and, and_false]
      exact W.iret (v := 0) hx hb hr (fun t ht hW => ⟨⟨0, (), rfl, (by rw [hsp]), wHS_t ht (by rw [hsp]; exact hH)⟩, hS.F ht⟩) hS.2.2 dX5_burn_27
  · have c1 : inB b (y.1 0 0) = false := c1
    refine lv_iconst (v := 1) hx hb dX5_burn_6 (by decide) ?_
    refine va_calli (va_runV (As := [.int 0, .int 1]) (rest := []) ⟨hx, hb, hml, hown, hts⟩ (met_X5_no0 l E o g x y 1) (cwV 2 hts gX5_burn_X5_no rfl rfl rfl (by decide +kernel) ⟨Nat.le_of_ble_eq_true rfl, Nat.le_of_ble_eq_true rfl⟩) ⟨fun a U f mk q => ⟨q.1, wPre.calling q.2 a f mk⟩, (va_recv hK (wH_one hH (lv_md (by decide) (by decide)) (cel_md (by omega) (by omega))) (ci := 7) (q0 := 0) rfl rfl), fun U hU hW => ⟨rfl, wPre_at hz hS hH hK U hU hW⟩⟩ rfl rfl hl.1 rfl (lv_room (Nat.le_of_ble_eq_true rfl)) dX5_burn_7 ⟨Nat.le_of_ble_eq_true rfl, Nat.le_of_ble_eq_true rfl⟩) hS (fun q _ h => h) (fun q h => h) (fun r u t H locs ht hvm hw hB hz1 hk1 hS => ?_)
    have hB := wHS_h ht hB
    try dsimp only at hw
    obtain rfl := hw
    have hH := hB
    refine lv_if_ne (tgt := 26) hx hb dX5_burn_10 (by decide) (fun _ => ?_) (fun hq => absurd hq (show ¬ (1 : Int32) = 0 by decide))
    refine lv_iconst (v := 0) hx hb dX5_burn_26 (by decide) ?_
    have hsp : mp_burn y b = (0, (uI y 28 0 1)) := by
      unfold mp_burn
      first | (simp only [(Bool.eq_false_iff.mp c1), ↓reduceIte, and_self, and_true, true_and, Bool.false_eq_true, reduceCtorEq, eq_self, false_and, and_false]; done) | (simp [(Bool.eq_false_iff.mp c1), ↓reduceIte, and_self, and_true, true_and, Bool.false_eq_true, reduceCtorEq, eq_self, false_and, and_false]; done) | simp only [(Bool.eq_false_iff.mp c1), ↓reduceIte, and_self, and_true, true_and, Bool.false_eq_true, reduceCtorEq, eq_self, false_and, and_false]
    exact W.iret (v := 0) hx hb hr (fun t ht hW => ⟨⟨0, (), rfl, (by rw [hsp]), wHS_t ht (by rw [hsp]; exact hH)⟩, hS.F ht⟩) hS.2.2 dX5_burn_27
def mp_worth (y : St) (b : Int32) (k : Int32) (v : Int32) : Int32 × St := if inB b (y.1 1 0) = true ∧ inB k 10 = true then (if inB v (y.1 0 0) = true then (if (y.1 8 (ix v)) = 1 then (((pD (uI (uI y 28 0 0) 28 0 0) (ix v) ((uI (uI y 28 0 0) 28 0 0).2 5 (ix b)) (nI ((uI (uI y 28 0 0) 28 0 0).1 9 0))) - (pS (uI (uI y 28 0 0) 28 0 0) ((10 * (ix b)) + (ix k)) ((uI (uI y 28 0 0) 28 0 0).2 5 (((10 * (ix b)) + (ix k)) / 10)) (nI ((uI (uI y 28 0 0) 28 0 0).1 9 0)))), (uI (uI y 28 0 0) 28 0 0)) else (0, (uI (uI y 28 0 0) 28 0 2))) else (0, (uI y 28 0 1))) else (0, (uI y 28 0 1))
set_option maxHeartbeats 4000000 in
set_option maxRecDepth 100000 in
theorem met_X5_worth (l : Launch) (E : wE) (o : wO) (g : Nat → Nat) (x y : St) (b : Int32) (k : Int32) (v : Int32) (hI : MI y) : Met l yX5_worth wsX5_worth ({ frames := 3, cells := 0, slots := 0, locals := 300 } : Room) (va_Pc [.ref (g 10), .int b, .int k, .int v] (wPre E o g x y)) (va_Qi (fun (r : Int32) (_ : Unit) => r = (mp_worth y b k v).1) (fun (_ : Unit) t => wHS E o g x (mp_worth y b k v).2 t.heap) (wA E)) 0 0 (wA E) := by
  refine Met.ofW (cc := cX5_worth) (maxL := 4) (ret := (some .int)) (by decide) rfl ?_
  intro p e s m args below meth c s₁ B hml hv
  obtain ⟨rfl, hz, hH, hK⟩ := hv
  have hx := B.exec
  have hb := B.bytes
  have hr := B.returns
  have hts := atoms_spec (ws := wsX5_worth) B.pre
  have hown : s.vm.findClass RX5 = some m.cls := findClass_of_methodNamed B.named
  have hlocks := B.notSynchronized
  have hS : va_S (wA E) s.heap s.heap [] := va_S.rf
  have hinX5 : ∀ w ∈ wsX50, w ∈ wsX5_worth := fun w h => List.mem_cons_of_mem _ (List.mem_append_left _ (List.mem_append_right _ h))
  have hl := lv_entry ([.ref (g 10), .int b, .int k, .int v]) (n := 4) (Nat.le_of_ble_eq_true rfl)
  rw [lg_entry_eq]
  generalize (lg_sl ([.ref (g 10), .int b, .int k, .int v]) ++ List.replicate (4 - (lg_sl ([.ref (g 10), .int b, .int k, .int v])).length) Slot.unset).toArray = ls at hl ⊢
  have hl : lv_has ls 4 [(0, .ref (g 10)), (1, .int b), (2, .int k), (3, .int v)] := hl
  obtain ⟨H, eH⟩ : ∃ z, z = s.heap := ⟨_, rfl⟩
  have hH : wHS E o g x y H := by rw [eH]; exact hH
  have hS : va_S (wA E) s.heap H [] := by rw [eH]; exact hS
  refine W.heapTo eH ?_
  obtain ⟨hm0, hm1, hm7, hm8, hm5, hm6, hm9, hm12, hm11⟩ := id hI
  refine lv_aload_n hx hb dX5_worth_0 rfl (lv_at hl 0 rfl) ?_
  refine lv_aload_n hx hb dX5_worth_1 rfl (lv_at hl 0 rfl) ?_
  refine lv_iload_n hx hb dX5_worth_2 rfl (lv_at hl 1 rfl) ?_
  refine lv_iload_n hx hb dX5_worth_3 rfl (lv_at hl 2 rfl) ?_
  refine va_calli (va_runV (As := [.int b, .int k]) (rest := [.ref (g 10)]) ⟨hx, hb, hml, hown, hts⟩ (met_X5_isSlot l E o g x y b k (show (y.1 1 0) ≤ 100 by omega)) (cwV 2 hts gX5_worth_X5_isSlot rfl rfl rfl (by decide +kernel) ⟨Nat.le_of_ble_eq_true rfl, Nat.le_of_ble_eq_true rfl⟩) ⟨fun a U f mk q => ⟨q.1, wPre.calling q.2 a f mk⟩, (va_recv hK (wH_one hH (lv_md (by decide) (by decide)) (cel_md (by omega) (by omega))) (ci := 7) (q0 := 0) rfl rfl), fun U hU hW => ⟨rfl, wPre_at hz hS hH hK U hU hW⟩⟩ rfl rfl hl.1 rfl (lv_room (Nat.le_of_ble_eq_true rfl)) dX5_worth_4 ⟨Nat.le_of_ble_eq_true rfl, Nat.le_of_ble_eq_true rfl⟩) hS (fun q _ h => h) (fun q h => h) (fun r u t H locs ht hvm hw hB hz1 hk1 hS => ?_)
  have hB := wHS_h ht hB
  try dsimp only at hw
  have hH := hB
  rcases hw with ⟨rfl, c1, c1_s⟩ | ⟨rfl, c1⟩
  · obtain ⟨jb, hjb, rfl⟩ := inB_t c1 (by omega)
    obtain ⟨jk, hjk, rfl⟩ := inB_t c1_s (by omega)
    refine lv_if_eq (tgt := 22) hx hb dX5_worth_7 (by decide) (fun hq => absurd hq (show ¬ (1 : Int32) = 0 by decide)) (fun _ => ?_)
    refine lv_aload_n hx hb dX5_worth_10 rfl (lv_at hl 0 rfl) ?_
    refine lv_iload_n hx hb dX5_worth_11 rfl (lv_at hl 3 rfl) ?_
    refine va_calli (va_runV (As := [.int v]) (rest := [.ref (g 10)]) ⟨hx, hb, hml, hown, hts⟩ (met_X5_isDisc l E o g x y v (show (y.1 0 0) ≤ 100 by omega)) (cwV 1 hts gX5_worth_X5_isDisc rfl rfl rfl (by decide +kernel) ⟨Nat.le_of_ble_eq_true rfl, Nat.le_of_ble_eq_true rfl⟩) ⟨fun a U f mk q => ⟨q.1, wPre.calling q.2 a f mk⟩, (va_recv hK (wH_one hH (lv_md (by decide) (by decide)) (cel_md (by omega) (by omega))) (ci := 7) (q0 := 0) rfl rfl), fun U hU hW => ⟨rfl, wPre_at hz hS hH hK U hU hW⟩⟩ rfl rfl hl.1 rfl (lv_room (Nat.le_of_ble_eq_true rfl)) dX5_worth_12 ⟨Nat.le_of_ble_eq_true rfl, Nat.le_of_ble_eq_true rfl⟩) hS (fun q _ h => h) (fun q h => h) (fun r u t H locs ht hvm hw hB hz1 hk1 hS => ?_)
    have hB := wHS_h ht hB
    try dsimp only at hw
    have hH := hB
    rcases hw with ⟨rfl, c2⟩ | ⟨rfl, c2⟩
    · have c2 : inB v (y.1 0 0) = true := c2
      obtain ⟨jv, hjv, rfl⟩ := inB_t c2 (by omega)
      refine lv_if_eq (tgt := 22) hx hb dX5_worth_15 (by decide) (fun hq => absurd hq (show ¬ (1 : Int32) = 0 by decide)) (fun _ => ?_)
      refine lv_iconst (v := 1) hx hb dX5_worth_18 (by decide) ?_
      refine lv_goto (tgt := 23) hx hb dX5_worth_19 (by decide) ?_
      refine lv_iconst (v := 1) hx hb dX5_worth_23 (by decide) ?_
      refine va_calli (va_runV (As := [.int 1, .int 1]) (rest := []) ⟨hx, hb, hml, hown, hts⟩ (met_X5_no1 l E o g x y 1) (cwV 2 hts gX5_worth_X5_no rfl rfl rfl (by decide +kernel) ⟨Nat.le_of_ble_eq_true rfl, Nat.le_of_ble_eq_true rfl⟩) ⟨fun a U f mk q => ⟨q.1, wPre.calling q.2 a f mk⟩, (va_recv hK (wH_one hH (lv_md (by decide) (by decide)) (cel_md (by omega) (by omega))) (ci := 7) (q0 := 0) rfl rfl), fun U hU hW => ⟨rfl, wPre_at hz hS hH hK U hU hW⟩⟩ rfl rfl hl.1 rfl (lv_room (Nat.le_of_ble_eq_true rfl)) dX5_worth_24 ⟨Nat.le_of_ble_eq_true rfl, Nat.le_of_ble_eq_true rfl⟩) hS (fun q _ h => h) (fun q h => h) (fun r u t H locs ht hvm hw hB hz1 hk1 hS => ?_)
      have hB := wHS_h ht hB
      try dsimp only at hw
      obtain rfl := hw
      have hH := hB
      refine lv_if_ne (tgt := 43) hx hb dX5_worth_27 (by decide) (fun hq => absurd (show (0 : Int32) = 0 by decide) hq) (fun _ => ?_)
      refine lv_aload_n hx hb dX5_worth_30 rfl (lv_at hl 0 rfl) ?_
      refine lv_aload_n hx hb dX5_worth_31 rfl (lv_at hl 0 rfl) ?_
      refine lv_iload_n hx hb dX5_worth_32 rfl (lv_at hl 3 rfl) ?_
      refine va_calli (va_runV (As := [.int (nI jv)]) (rest := [.ref (g 10)]) ⟨hx, hb, hml, hown, hts⟩ (met_X5_isInVan l E o g x (uI y 28 0 0) jv (by omega) (show (y.1 8 jv) < 42 by have q0 := hm8 jv; omega)) (cwV 1 hts gX5_worth_X5_isInVan rfl rfl rfl (by decide +kernel) ⟨Nat.le_of_ble_eq_true rfl, Nat.le_of_ble_eq_true rfl⟩) ⟨fun a U f mk q => ⟨q.1, wPre.calling q.2 a f mk⟩, (va_recv hK (wH_one hH (lv_md (by decide) (by decide)) (cel_md (by omega) (by omega))) (ci := 7) (q0 := 0) rfl rfl), fun U hU hW => ⟨rfl, wPre_at hz hS hH hK U hU hW⟩⟩ rfl rfl hl.1 rfl (lv_room (Nat.le_of_ble_eq_true rfl)) dX5_worth_33 ⟨Nat.le_of_ble_eq_true rfl, Nat.le_of_ble_eq_true rfl⟩) hS (fun q _ h => h) (fun q h => h) (fun r u t H locs ht hvm hw hB hz1 hk1 hS => ?_)
      have hB := wHS_h ht hB
      try dsimp only at hw
      have hH := hB
      rcases hw with ⟨rfl, c3⟩ | ⟨rfl, c3⟩
      · have c3 : (y.1 8 jv) = 1 := c3
        refine lv_iconst (v := 2) hx hb dX5_worth_36 (by decide) ?_
        refine va_calli (va_runV (As := [.int 1, .int 2]) (rest := []) ⟨hx, hb, hml, hown, hts⟩ (met_X5_no1 l E o g x (uI y 28 0 0) 2) (cwV 2 hts gX5_worth_X5_no rfl rfl rfl (by decide +kernel) ⟨Nat.le_of_ble_eq_true rfl, Nat.le_of_ble_eq_true rfl⟩) ⟨fun a U f mk q => ⟨q.1, wPre.calling q.2 a f mk⟩, (va_recv hK (wH_one hH (lv_md (by decide) (by decide)) (cel_md (by omega) (by omega))) (ci := 7) (q0 := 0) rfl rfl), fun U hU hW => ⟨rfl, wPre_at hz hS hH hK U hU hW⟩⟩ rfl rfl hl.1 rfl (lv_room (Nat.le_of_ble_eq_true rfl)) dX5_worth_37 ⟨Nat.le_of_ble_eq_true rfl, Nat.le_of_ble_eq_true rfl⟩) hS (fun q _ h => h) (fun q h => h) (fun r u t H locs ht hvm hw hB hz1 hk1 hS => ?_)
        have hB := wHS_h ht hB
        try dsimp only at hw
        obtain rfl := hw
        have hH := hB
        refine lv_if_eq (tgt := 45) hx hb dX5_worth_40 (by decide) (fun _ => ?_) (fun hq => absurd (show (0 : Int32) = 0 by decide) hq)
        refine lv_aload_n hx hb dX5_worth_45 rfl (lv_at hl 0 rfl) ?_
        refine lv_iload_n hx hb dX5_worth_46 rfl (lv_at hl 1 rfl) ?_
        refine lv_iload_n hx hb dX5_worth_47 rfl (lv_at hl 3 rfl) ?_
        refine va_calli (va_runV (As := [.int (nI jb), .int (nI jv)]) (rest := []) ⟨hx, hb, hml, hown, hts⟩ (met_X5_pullAt_b l E o g x (uI (uI y 28 0 0) 28 0 0) jb jv (by omega) (by omega) (show (y.1 8 jv) < 42 by have q0 := hm8 jv; omega) (show (y.1 12 jv) < 100 by have q0 := hm12 jv; omega)) (cwV 2 hts gX5_worth_X5_pullAt rfl rfl rfl (by decide +kernel) ⟨Nat.le_of_ble_eq_true rfl, Nat.le_of_ble_eq_true rfl⟩) ⟨fun a U f mk q => ⟨q.1, wPre.calling q.2 a f mk⟩, (va_recv hK (wH_one hH (lv_md (by decide) (by decide)) (cel_md (by omega) (by omega))) (ci := 7) (q0 := 0) rfl rfl), fun U hU hW => ⟨rfl, wPre_at hz hS hH hK U hU hW⟩⟩ rfl rfl hl.1 rfl (lv_room (Nat.le_of_ble_eq_true rfl)) dX5_worth_48 ⟨Nat.le_of_ble_eq_true rfl, Nat.le_of_ble_eq_true rfl⟩) hS (fun q _ h => h) (fun q h => h) (fun r u t H locs ht hvm hw hB hz1 hk1 hS => ?_)
        have hB := wHS_h ht hB
        try dsimp only at hw
        obtain rfl := hw
        have hH := hB
        refine lv_aload_n hx hb dX5_worth_51 rfl (lv_at hl 0 rfl) ?_
        refine lv_bipush (v := 10) hx hb dX5_worth_52 (by decide) ?_
        refine lv_iload_n hx hb dX5_worth_54 rfl (lv_at hl 1 rfl) ?_
        refine lv_imul hx hb dX5_worth_55 ?_
        refine lv_tope (pk_mul 10 jb) ?_
        refine lv_iload_n hx hb dX5_worth_56 rfl (lv_at hl 2 rfl) ?_
        refine lv_iadd hx hb dX5_worth_57 ?_
        refine lv_tope (nI_add (10 * jb) jk) ?_
        refine va_calli (va_runV (As := [.int (nI ((10 * jb) + jk))]) (rest := [.int (pD (uI (uI y 28 0 0) 28 0 0) jv ((uI (uI y 28 0 0) 28 0 0).2 5 jb) (nI ((uI (uI y 28 0 0) 28 0 0).1 9 0)))]) ⟨hx, hb, hml, hown, hts⟩ (met_X5_pullOfSlot l E o g x (uI (uI y 28 0 0) 28 0 0) ((10 * jb) + jk) (by omega) (show (y.1 7 ((10 * jb) + jk)) ≤ 30 by have q0 := hm7 ((10 * jb) + jk); omega) hm8 hm12) (cwV 1 hts gX5_worth_X5_pullOfSlot rfl rfl rfl (by decide +kernel) ⟨Nat.le_of_ble_eq_true rfl, Nat.le_of_ble_eq_true rfl⟩) ⟨fun a U f mk q => ⟨q.1, wPre.calling q.2 a f mk⟩, (va_recv hK (wH_one hH (lv_md (by decide) (by decide)) (cel_md (by omega) (by omega))) (ci := 7) (q0 := 0) rfl rfl), fun U hU hW => ⟨rfl, wPre_at hz hS hH hK U hU hW⟩⟩ rfl rfl hl.1 rfl (lv_room (Nat.le_of_ble_eq_true rfl)) dX5_worth_58 ⟨Nat.le_of_ble_eq_true rfl, Nat.le_of_ble_eq_true rfl⟩) hS (fun q _ h => h) (fun q h => h) (fun r u t H locs ht hvm hw hB hz1 hk1 hS => ?_)
        have hB := wHS_h ht hB
        try dsimp only at hw
        obtain rfl := hw
        have hH := hB
        refine lv_isub hx hb dX5_worth_61 ?_
        have hsp : mp_worth y (nI jb) (nI jk) (nI jv) = (((pD (uI (uI y 28 0 0) 28 0 0) jv ((uI (uI y 28 0 0) 28 0 0).2 5 jb) (nI ((uI (uI y 28 0 0) 28 0 0).1 9 0))) - (pS (uI (uI y 28 0 0) 28 0 0) ((10 * jb) + jk) ((uI (uI y 28 0 0) 28 0 0).2 5 (((10 * jb) + jk) / 10)) (nI ((uI (uI y 28 0 0) 28 0 0).1 9 0)))), (uI (uI y 28 0 0) 28 0 0)) := by
          unfold mp_worth
          first | (simp only [c1, c1_s, c2, c3, inB_nI hjb (by omega), ix_nI (show jb < 2 ^ 31 by omega), inB_nI hjk (by omega), ix_nI (show jk < 2 ^ 31 by omega), inB_nI hjv (by omega), ix_nI (show jv < 2 ^ 31 by omega), ↓reduceIte, and_self, and_true, true_and, Bool.false_eq_true, reduceCtorEq, eq_self, false_and, and_false]; done) | (simp [c1, c1_s, c2, c3, inB_nI hjb (by omega), ix_nI (show jb < 2 ^ 31 by omega), inB_nI hjk (by omega), ix_nI (show jk < 2 ^ 31 by omega), inB_nI hjv (by omega), ix_nI (show jv < 2 ^ 31 by omega), ↓reduceIte, and_self, and_true, true_and, Bool.false_eq_true, reduceCtorEq, eq_self, false_and, and_false]; done) | simp only [c1, c1_s, c2, c3, inB_nI hjb (by omega), ix_nI (show jb < 2 ^ 31 by omega), inB_nI hjk (by omega), ix_nI (show jk < 2 ^ 31 by omega), inB_nI hjv (by omega), ix_nI (show jv < 2 ^ 31 by omega), ↓reduceIte, and_self, and_true, true_and, Bool.false_eq_true, reduceCtorEq, eq_self, false_and, and_false]
        exact W.iret (v := ((pD (uI (uI y 28 0 0) 28 0 0) jv ((uI (uI y 28 0 0) 28 0 0).2 5 jb) (nI ((uI (uI y 28 0 0) 28 0 0).1 9 0))) - (pS (uI (uI y 28 0 0) 28 0 0) ((10 * jb) + jk) ((uI (uI y 28 0 0) 28 0 0).2 5 (((10 * jb) + jk) / 10)) (nI ((uI (uI y 28 0 0) 28 0 0).1 9 0))))) hx hb hr (fun t ht hW => ⟨⟨((pD (uI (uI y 28 0 0) 28 0 0) jv ((uI (uI y 28 0 0) 28 0 0).2 5 jb) (nI ((uI (uI y 28 0 0) 28 0 0).1 9 0))) - (pS (uI (uI y 28 0 0) 28 0 0) ((10 * jb) + jk) ((uI (uI y 28 0 0) 28 0 0).2 5 (((10 * jb) + jk) / 10)) (nI ((uI (uI y 28 0 0) 28 0 0).1 9 0)))), (), rfl, (by rw [hsp]), wHS_t ht (by rw [hsp]; exact hH)⟩, hS.F ht⟩) hS.2.2 dX5_worth_62
      · have c3 : ¬ ((y.1 8 jv) = 1) := c3
        refine lv_iconst (v := 2) hx hb dX5_worth_36 (by decide) ?_
        refine va_calli (va_runV (As := [.int 0, .int 2]) (rest := []) ⟨hx, hb, hml, hown, hts⟩ (met_X5_no0 l E o g x (uI y 28 0 0) 2) (cwV 2 hts gX5_worth_X5_no rfl rfl rfl (by decide +kernel) ⟨Nat.le_of_ble_eq_true rfl, Nat.le_of_ble_eq_true rfl⟩) ⟨fun a U f mk q => ⟨q.1, wPre.calling q.2 a f mk⟩, (va_recv hK (wH_one hH (lv_md (by decide) (by decide)) (cel_md (by omega) (by omega))) (ci := 7) (q0 := 0) rfl rfl), fun U hU hW => ⟨rfl, wPre_at hz hS hH hK U hU hW⟩⟩ rfl rfl hl.1 rfl (lv_room (Nat.le_of_ble_eq_true rfl)) dX5_worth_37 ⟨Nat.le_of_ble_eq_true rfl, Nat.le_of_ble_eq_true rfl⟩) hS (fun q _ h => h) (fun q h => h) (fun r u t H locs ht hvm hw hB hz1 hk1 hS => ?_)
        have hB := wHS_h ht hB
        try dsimp only at hw
        obtain rfl := hw
        have hH := hB
        refine lv_if_eq (tgt := 45) hx hb dX5_worth_40 (by decide) (fun hq => absurd hq (show ¬ (1 : Int32) = 0 by decide)) (fun _ => ?_)
        refine lv_iconst (v := 0) hx hb dX5_worth_43 (by decide) ?_
        have hsp : mp_worth y (nI jb) (nI jk) (nI jv) = (0, (uI (uI y 28 0 0) 28 0 2)) := by
          unfold mp_worth
          first | (simp only [c1, c1_s, c2, c3, inB_nI hjb (by omega), ix_nI (show jb < 2 ^ 31 by omega), inB_nI hjk (by omega), ix_nI (show jk < 2 ^ 31 by omega), inB_nI hjv (by omega), ix_nI (show jv < 2 ^ 31 by omega), ↓reduceIte, and_self, and_true, true_and, Bool.false_eq_true, reduceCtorEq, eq_self, false_and, and_false]; done) | (simp [c1, c1_s, c2, c3, inB_nI hjb (by omega), ix_nI (show jb < 2 ^ 31 by omega), inB_nI hjk (by omega), ix_nI (show jk < 2 ^ 31 by omega), inB_nI hjv (by omega), ix_nI (show jv < 2 ^ 31 by omega), ↓reduceIte, and_self, and_true, true_and, Bool.false_eq_true, reduceCtorEq, eq_self, false_and, and_false]; done) | simp only [c1, c1_s, c2, c3, inB_nI hjb (by omega), ix_nI (show jb < 2 ^ 31 by omega), inB_nI hjk (by omega), ix_nI (show jk < 2 ^ 31 by omega), inB_nI hjv (by omega), ix_nI (show jv < 2 ^ 31 by omega), ↓reduceIte, and_self, and_true, true_and, Bool.false_eq_true, reduceCtorEq, eq_self, false_and, and_false]
        exact W.iret (v := 0) hx hb hr (fun t ht hW => ⟨⟨0, (), rfl, (by rw [hsp]), wHS_t ht (by rw [hsp]; exact hH)⟩, hS.F ht⟩) hS.2.2 dX5_worth_44
    · have c2 : inB v (y.1 0 0) = false := c2
      refine lv_if_eq (tgt := 22) hx hb dX5_worth_15 (by decide) (fun _ => ?_) (fun hq => absurd (show (0 : Int32) = 0 by decide) hq)
      refine lv_iconst (v := 0) hx hb dX5_worth_22 (by decide) ?_
      refine lv_iconst (v := 1) hx hb dX5_worth_23 (by decide) ?_
      refine va_calli (va_runV (As := [.int 0, .int 1]) (rest := []) ⟨hx, hb, hml, hown, hts⟩ (met_X5_no0 l E o g x y 1) (cwV 2 hts gX5_worth_X5_no rfl rfl rfl (by decide +kernel) ⟨Nat.le_of_ble_eq_true rfl, Nat.le_of_ble_eq_true rfl⟩) ⟨fun a U f mk q => ⟨q.1, wPre.calling q.2 a f mk⟩, (va_recv hK (wH_one hH (lv_md (by decide) (by decide)) (cel_md (by omega) (by omega))) (ci := 7) (q0 := 0) rfl rfl), fun U hU hW => ⟨rfl, wPre_at hz hS hH hK U hU hW⟩⟩ rfl rfl hl.1 rfl (lv_room (Nat.le_of_ble_eq_true rfl)) dX5_worth_24 ⟨Nat.le_of_ble_eq_true rfl, Nat.le_of_ble_eq_true rfl⟩) hS (fun q _ h => h) (fun q h => h) (fun r u t H locs ht hvm hw hB hz1 hk1 hS => ?_)
      have hB := wHS_h ht hB
      try dsimp only at hw
      obtain rfl := hw
      have hH := hB
      refine lv_if_ne (tgt := 43) hx hb dX5_worth_27 (by decide) (fun _ => ?_) (fun hq => absurd hq (show ¬ (1 : Int32) = 0 by decide))
      refine lv_iconst (v := 0) hx hb dX5_worth_43 (by decide) ?_
      have hsp : mp_worth y (nI jb) (nI jk) v = (0, (uI y 28 0 1)) := by
        unfold mp_worth
        first | (simp only [c1, c1_s, (Bool.eq_false_iff.mp c2), inB_nI hjb (by omega), ix_nI (show jb < 2 ^ 31 by omega), inB_nI hjk (by omega), ix_nI (show jk < 2 ^ 31 by omega), ↓reduceIte, and_self, and_true, true_and, Bool.false_eq_true, reduceCtorEq, eq_self, false_and, and_false]; done) | (simp [c1, c1_s, (Bool.eq_false_iff.mp c2), inB_nI hjb (by omega), ix_nI (show jb < 2 ^ 31 by omega), inB_nI hjk (by omega), ix_nI (show jk < 2 ^ 31 by omega), ↓reduceIte, and_self, and_true, true_and, Bool.false_eq_true, reduceCtorEq, eq_self, false_and, and_false]; done) | simp only [c1, c1_s, (Bool.eq_false_iff.mp c2), inB_nI hjb (by omega), ix_nI (show jb < 2 ^ 31 by omega), inB_nI hjk (by omega), ix_nI (show jk < 2 ^ 31 by omega), ↓reduceIte, and_self, and_true, true_and, Bool.false_eq_true, reduceCtorEq, eq_self, false_and, and_false]
      exact W.iret (v := 0) hx hb hr (fun t ht hW => ⟨⟨0, (), rfl, (by rw [hsp]), wHS_t ht (by rw [hsp]; exact hH)⟩, hS.F ht⟩) hS.2.2 dX5_worth_44
  · skip
    refine lv_if_eq (tgt := 22) hx hb dX5_worth_7 (by decide) (fun _ => ?_) (fun hq => absurd (show (0 : Int32) = 0 by decide) hq)
    refine lv_iconst (v := 0) hx hb dX5_worth_22 (by decide) ?_
    refine lv_iconst (v := 1) hx hb dX5_worth_23 (by decide) ?_
    refine va_calli (va_runV (As := [.int 0, .int 1]) (rest := []) ⟨hx, hb, hml, hown, hts⟩ (met_X5_no0 l E o g x y 1) (cwV 2 hts gX5_worth_X5_no rfl rfl rfl (by decide +kernel) ⟨Nat.le_of_ble_eq_true rfl, Nat.le_of_ble_eq_true rfl⟩) ⟨fun a U f mk q => ⟨q.1, wPre.calling q.2 a f mk⟩, (va_recv hK (wH_one hH (lv_md (by decide) (by decide)) (cel_md (by omega) (by omega))) (ci := 7) (q0 := 0) rfl rfl), fun U hU hW => ⟨rfl, wPre_at hz hS hH hK U hU hW⟩⟩ rfl rfl hl.1 rfl (lv_room (Nat.le_of_ble_eq_true rfl)) dX5_worth_24 ⟨Nat.le_of_ble_eq_true rfl, Nat.le_of_ble_eq_true rfl⟩) hS (fun q _ h => h) (fun q h => h) (fun r u t H locs ht hvm hw hB hz1 hk1 hS => ?_)
    have hB := wHS_h ht hB
    try dsimp only at hw
    obtain rfl := hw
    have hH := hB
    refine lv_if_ne (tgt := 43) hx hb dX5_worth_27 (by decide) (fun _ => ?_) (fun hq => absurd hq (show ¬ (1 : Int32) = 0 by decide))
    refine lv_iconst (v := 0) hx hb dX5_worth_43 (by decide) ?_
    have hsp : mp_worth y b k v = (0, (uI y 28 0 1)) := by
      unfold mp_worth
      first | (simp only [c1, ↓reduceIte, and_self, and_true, true_and, Bool.false_eq_true, reduceCtorEq, eq_self, false_and, and_false]; done) | (simp [c1, ↓reduceIte, and_self, and_true, true_and, Bool.false_eq_true, reduceCtorEq, eq_self, false_and, and_false]; done) | simp only [c1, ↓reduceIte, and_self, and_true, true_and, Bool.false_eq_true, reduceCtorEq, eq_self, false_and, and_false]
    exact W.iret (v := 0) hx hb hr (fun t ht hW => ⟨⟨0, (), rfl, (by rw [hsp]), wHS_t ht (by rw [hsp]; exact hH)⟩, hS.F ht⟩) hS.2.2 dX5_worth_44
def mp_change (y : St) (b : Int32) (k : Int32) (v : Int32) : Int32 × St := if inB b (y.1 1 0) = true ∧ inB k 10 = true then (if v = (-1) then (if (y.1 11 (ix b)) = 0 then (0, (uI (uI y 28 0 0) 28 0 2)) else (if (y.2 17 0) < 10 then (0, (uI (uI y 28 0 0) 28 0 2)) else (if (y.1 7 ((10 * (ix b)) + (ix k))) = 0 then ((-1), (uI (uN (uI (uI (uI y 28 0 0) 28 0 0) 17 0 ((y.2 17 0) - 10)) 7 ((10 * (ix b)) + (ix k)) 0) 14 ((10 * (ix b)) + (ix k)) 0)) else ((nI ((y.1 7 ((10 * (ix b)) + (ix k))) - 1)), (uI (uN (uN (uI (uI (uI y 28 0 0) 28 0 0) 17 0 ((y.2 17 0) - 10)) 8 ((y.1 7 ((10 * (ix b)) + (ix k))) - 1) 1) 7 ((10 * (ix b)) + (ix k)) 0) 14 ((10 * (ix b)) + (ix k)) 0))))) else (if inB v (y.1 0 0) = true then (if (y.1 11 (ix b)) = 0 then (0, (uI (uI y 28 0 0) 28 0 2)) else (if (y.1 8 (ix v)) = 1 then (if (y.2 17 0) < 10 then (0, (uI (uI y 28 0 0) 28 0 2)) else (if (y.1 7 ((10 * (ix b)) + (ix k))) = 0 then ((-1), (uI (uN (uI (uN (uI (uI (uI y 28 0 0) 28 0 0) 17 0 ((y.2 17 0) - 10)) 7 ((10 * (ix b)) + (ix k)) ((ix v) + 1)) 14 ((10 * (ix b)) + (ix k)) 0) 8 (ix v) (((10 * (ix b)) + (ix k)) + 2)) 15 ((100 * (ix b)) + (y.1 12 (ix v))) 0)) else ((nI ((y.1 7 ((10 * (ix b)) + (ix k))) - 1)), (uI (uN (uI (uN (uN (uI (uI (uI y 28 0 0) 28 0 0) 17 0 ((y.2 17 0) - 10)) 8 ((y.1 7 ((10 * (ix b)) + (ix k))) - 1) 1) 7 ((10 * (ix b)) + (ix k)) ((ix v) + 1)) 14 ((10 * (ix b)) + (ix k)) 0) 8 (ix v) (((10 * (ix b)) + (ix k)) + 2)) 15 ((100 * (ix b)) + (y.1 12 (ix v))) 0)))) else (0, (uI (uI y 28 0 0) 28 0 2)))) else (0, (uI y 28 0 1)))) else (0, (uI y 28 0 1))
set_option maxHeartbeats 4000000 in
set_option maxRecDepth 100000 in
theorem met_X5_change (l : Launch) (E : wE) (o : wO) (g : Nat → Nat) (x y : St) (b : Int32) (k : Int32) (v : Int32) (hI : MI y) : Met l yX5_change wsX5_change ({ frames := 3, cells := 0, slots := 0, locals := 300 } : Room) (va_Pc [.ref (g 10), .int b, .int k, .int v] (wPre E o g x y)) (va_Qi (fun (r : Int32) (_ : Unit) => r = (mp_change y b k v).1) (fun (_ : Unit) t => wHS E o g x (mp_change y b k v).2 t.heap) (wA E)) 0 0 (wA E) := by
  refine Met.ofW (cc := cX5_change) (maxL := 6) (ret := (some .int)) (by decide) rfl ?_
  intro p e s m args below meth c s₁ B hml hv
  obtain ⟨rfl, hz, hH, hK⟩ := hv
  have hx := B.exec
  have hb := B.bytes
  have hr := B.returns
  have hts := atoms_spec (ws := wsX5_change) B.pre
  have hown : s.vm.findClass RX5 = some m.cls := findClass_of_methodNamed B.named
  have hlocks := B.notSynchronized
  have hS : va_S (wA E) s.heap s.heap [] := va_S.rf
  have hinX5 : ∀ w ∈ wsX50, w ∈ wsX5_change := fun w h => List.mem_cons_of_mem _ (List.mem_append_left _ (List.mem_append_right _ h))
  have hl := lv_entry ([.ref (g 10), .int b, .int k, .int v]) (n := 6) (Nat.le_of_ble_eq_true rfl)
  rw [lg_entry_eq]
  generalize (lg_sl ([.ref (g 10), .int b, .int k, .int v]) ++ List.replicate (6 - (lg_sl ([.ref (g 10), .int b, .int k, .int v])).length) Slot.unset).toArray = ls at hl ⊢
  have hl : lv_has ls 6 [(0, .ref (g 10)), (1, .int b), (2, .int k), (3, .int v)] := hl
  obtain ⟨H, eH⟩ : ∃ z, z = s.heap := ⟨_, rfl⟩
  have hH : wHS E o g x y H := by rw [eH]; exact hH
  have hS : va_S (wA E) s.heap H [] := by rw [eH]; exact hS
  refine W.heapTo eH ?_
  obtain ⟨hm0, hm1, hm7, hm8, hm5, hm6, hm9, hm12, hm11⟩ := id hI
  refine lv_aload_n hx hb dX5_change_0 rfl (lv_at hl 0 rfl) ?_
  refine lv_aload_n hx hb dX5_change_1 rfl (lv_at hl 0 rfl) ?_
  refine lv_iload_n hx hb dX5_change_2 rfl (lv_at hl 1 rfl) ?_
  refine lv_iload_n hx hb dX5_change_3 rfl (lv_at hl 2 rfl) ?_
  refine va_calli (va_runV (As := [.int b, .int k]) (rest := [.ref (g 10)]) ⟨hx, hb, hml, hown, hts⟩ (met_X5_isSlot l E o g x y b k (show (y.1 1 0) ≤ 100 by omega)) (cwV 2 hts gX5_change_X5_isSlot rfl rfl rfl (by decide +kernel) ⟨Nat.le_of_ble_eq_true rfl, Nat.le_of_ble_eq_true rfl⟩) ⟨fun a U f mk q => ⟨q.1, wPre.calling q.2 a f mk⟩, (va_recv hK (wH_one hH (lv_md (by decide) (by decide)) (cel_md (by omega) (by omega))) (ci := 7) (q0 := 0) rfl rfl), fun U hU hW => ⟨rfl, wPre_at hz hS hH hK U hU hW⟩⟩ rfl rfl hl.1 rfl (lv_room (Nat.le_of_ble_eq_true rfl)) dX5_change_4 ⟨Nat.le_of_ble_eq_true rfl, Nat.le_of_ble_eq_true rfl⟩) hS (fun q _ h => h) (fun q h => h) (fun r u t H locs ht hvm hw hB hz1 hk1 hS => ?_)
  have hB := wHS_h ht hB
  try dsimp only at hw
  have hH := hB
  rcases hw with ⟨rfl, c1, c1_s⟩ | ⟨rfl, c1⟩
  · obtain ⟨jb, hjb, rfl⟩ := inB_t c1 (by omega)
    obtain ⟨jk, hjk, rfl⟩ := inB_t c1_s (by omega)
    refine lv_if_eq (tgt := 27) hx hb dX5_change_7 (by decide) (fun hq => absurd hq (show ¬ (1 : Int32) = 0 by decide)) (fun _ => ?_)
    refine lv_iload_n hx hb dX5_change_10 rfl (lv_at hl 3 rfl) ?_
    refine lv_iconst (v := (-1)) hx hb dX5_change_11 (by decide) ?_
    refine lv_icmp_eq (tgt := 23) hx hb dX5_change_12 (by decide) (fun c2 => ?_) (fun c2 => ?_)
    · skip
      subst c2
      refine lv_iconst (v := 1) hx hb dX5_change_23 (by decide) ?_
      refine lv_goto (tgt := 28) hx hb dX5_change_24 (by decide) ?_
      refine lv_iconst (v := 1) hx hb dX5_change_28 (by decide) ?_
      refine va_calli (va_runV (As := [.int 1, .int 1]) (rest := []) ⟨hx, hb, hml, hown, hts⟩ (met_X5_no1 l E o g x y 1) (cwV 2 hts gX5_change_X5_no rfl rfl rfl (by decide +kernel) ⟨Nat.le_of_ble_eq_true rfl, Nat.le_of_ble_eq_true rfl⟩) ⟨fun a U f mk q => ⟨q.1, wPre.calling q.2 a f mk⟩, (va_recv hK (wH_one hH (lv_md (by decide) (by decide)) (cel_md (by omega) (by omega))) (ci := 7) (q0 := 0) rfl rfl), fun U hU hW => ⟨rfl, wPre_at hz hS hH hK U hU hW⟩⟩ rfl rfl hl.1 rfl (lv_room (Nat.le_of_ble_eq_true rfl)) dX5_change_29 ⟨Nat.le_of_ble_eq_true rfl, Nat.le_of_ble_eq_true rfl⟩) hS (fun q _ h => h) (fun q h => h) (fun r u t H locs ht hvm hw hB hz1 hk1 hS => ?_)
      have hB := wHS_h ht hB
      try dsimp only at hw
      obtain rfl := hw
      have hH := hB
      refine lv_if_eq (tgt := 37) hx hb dX5_change_32 (by decide) (fun _ => ?_) (fun hq => absurd (show (0 : Int32) = 0 by decide) hq)
      refine lv_aload_n hx hb dX5_change_37 rfl (lv_at hl 0 rfl) ?_
      refine lv_aload_n hx hb dX5_change_38 rfl (lv_at hl 0 rfl) ?_
      refine wr_get (T := TX5) (N := 30) (ci := 7) (v := .ref (g 28)) hx hb hts hinX5 hown hK hH (lv_md (by decide) (by decide)) (cel_md (by omega) (by omega)) rfl 18 (by decide) (hts (.fieldLink RX5 62 "SelectoRouteModel" "visited" "[Z") (by decide +kernel)) (fun _ h => h) rfl dX5_change_39 ?_
      refine lv_iload_n hx hb dX5_change_42 rfl (lv_at hl 1 rfl) ?_
      refine wr_zald (v := nI (y.1 11 jb)) hx hb hK hH (lv_md (by decide) (by decide)) (cel_md (by decide) (by decide)) 1 rfl (vp_in_nI (n := jb) (N := 4) (by omega) (by decide)) (by rw [(nI_clamp (n := jb) (by omega))]; try rfl) dX5_change_43 ?_
      refine lv_if_eq (tgt := 73) hx hb dX5_change_44 (by decide) (fun c3 => ?_) (fun c3 => ?_)
      · have c3 := (nI_eq (a := (y.1 11 jb)) (b := 0) (by have q0 := hm11 jb; omega) (by omega)).mp c3
        refine lv_iconst (v := 0) hx hb dX5_change_73 (by decide) ?_
        refine lv_iconst (v := 2) hx hb dX5_change_74 (by decide) ?_
        refine va_calli (va_runV (As := [.int 0, .int 2]) (rest := []) ⟨hx, hb, hml, hown, hts⟩ (met_X5_no0 l E o g x (uI y 28 0 0) 2) (cwV 2 hts gX5_change_X5_no rfl rfl rfl (by decide +kernel) ⟨Nat.le_of_ble_eq_true rfl, Nat.le_of_ble_eq_true rfl⟩) ⟨fun a U f mk q => ⟨q.1, wPre.calling q.2 a f mk⟩, (va_recv hK (wH_one hH (lv_md (by decide) (by decide)) (cel_md (by omega) (by omega))) (ci := 7) (q0 := 0) rfl rfl), fun U hU hW => ⟨rfl, wPre_at hz hS hH hK U hU hW⟩⟩ rfl rfl hl.1 rfl (lv_room (Nat.le_of_ble_eq_true rfl)) dX5_change_75 ⟨Nat.le_of_ble_eq_true rfl, Nat.le_of_ble_eq_true rfl⟩) hS (fun q _ h => h) (fun q h => h) (fun r u t H locs ht hvm hw hB hz1 hk1 hS => ?_)
        have hB := wHS_h ht hB
        try dsimp only at hw
        obtain rfl := hw
        have hH := hB
        refine lv_if_eq (tgt := 83) hx hb dX5_change_78 (by decide) (fun hq => absurd hq (show ¬ (1 : Int32) = 0 by decide)) (fun _ => ?_)
        refine lv_iconst (v := 0) hx hb dX5_change_81 (by decide) ?_
        have hsp : mp_change y (nI jb) (nI jk) (-1) = (0, (uI (uI y 28 0 0) 28 0 2)) := by
          unfold mp_change
          first | (simp only [c1, c1_s, eq_self, c3, inB_nI hjb (by omega), ix_nI (show jb < 2 ^ 31 by omega), inB_nI hjk (by omega), ix_nI (show jk < 2 ^ 31 by omega), ↓reduceIte, and_self, and_true, true_and, Bool.false_eq_true, reduceCtorEq, eq_self, false_and, and_false]; done) | (simp [c1, c1_s, eq_self, c3, inB_nI hjb (by omega), ix_nI (show jb < 2 ^ 31 by omega), inB_nI hjk (by omega), ix_nI (show jk < 2 ^ 31 by omega), ↓reduceIte, and_self, and_true, true_and, Bool.false_eq_true, reduceCtorEq, eq_self, false_and, and_false]; done) | simp only [c1, c1_s, eq_self, c3, inB_nI hjb (by omega), ix_nI (show jb < 2 ^ 31 by omega), inB_nI hjk (by omega), ix_nI (show jk < 2 ^ 31 by omega), ↓reduceIte, and_self, and_true, true_and, Bool.false_eq_true, reduceCtorEq, eq_self, false_and, and_false]
        exact W.iret (v := 0) hx hb hr (fun t ht hW => ⟨⟨0, (), rfl, (by rw [hsp]), wHS_t ht (by rw [hsp]; exact hH)⟩, hS.F ht⟩) hS.2.2 dX5_change_82
      · have c3 : ¬ ((y.1 11 jb) = 0) := fun hq => c3 ((nI_eq (a := (y.1 11 jb)) (b := 0) (by have q0 := hm11 jb; omega) (by omega)).mpr hq)
        refine lv_iload_n hx hb dX5_change_47 rfl (lv_at hl 3 rfl) ?_
        refine lv_iconst (v := (-1)) hx hb dX5_change_48 (by decide) ?_
        refine lv_icmp_eq (tgt := 60) hx hb dX5_change_49 (by decide) (fun _ => ?_) (fun hq => absurd (show ((-1) : Int32) = (-1) by decide) hq)
        refine lv_aload_n hx hb dX5_change_60 rfl (lv_at hl 0 rfl) ?_
        refine wr_get (T := TX5) (N := 30) (ci := 7) (v := .int (y.2 17 0)) hx hb hts hinX5 hown hK hH (lv_md (by decide) (by decide)) (cel_md (by omega) (by omega)) rfl 27 (by decide) (hts (.fieldLink RX5 84 "SelectoRouteModel" "minutes" "I") (by decide +kernel)) (fun _ h => h) rfl dX5_change_61 ?_
        refine lv_bipush (v := 10) hx hb dX5_change_64 (by decide) ?_
        refine lv_icmp_lt (tgt := 73) hx hb dX5_change_66 (by decide) (fun c4 => ?_) (fun c4 => ?_)
        · skip
          refine lv_iconst (v := 0) hx hb dX5_change_73 (by decide) ?_
          refine lv_iconst (v := 2) hx hb dX5_change_74 (by decide) ?_
          refine va_calli (va_runV (As := [.int 0, .int 2]) (rest := []) ⟨hx, hb, hml, hown, hts⟩ (met_X5_no0 l E o g x (uI y 28 0 0) 2) (cwV 2 hts gX5_change_X5_no rfl rfl rfl (by decide +kernel) ⟨Nat.le_of_ble_eq_true rfl, Nat.le_of_ble_eq_true rfl⟩) ⟨fun a U f mk q => ⟨q.1, wPre.calling q.2 a f mk⟩, (va_recv hK (wH_one hH (lv_md (by decide) (by decide)) (cel_md (by omega) (by omega))) (ci := 7) (q0 := 0) rfl rfl), fun U hU hW => ⟨rfl, wPre_at hz hS hH hK U hU hW⟩⟩ rfl rfl hl.1 rfl (lv_room (Nat.le_of_ble_eq_true rfl)) dX5_change_75 ⟨Nat.le_of_ble_eq_true rfl, Nat.le_of_ble_eq_true rfl⟩) hS (fun q _ h => h) (fun q h => h) (fun r u t H locs ht hvm hw hB hz1 hk1 hS => ?_)
          have hB := wHS_h ht hB
          try dsimp only at hw
          obtain rfl := hw
          have hH := hB
          refine lv_if_eq (tgt := 83) hx hb dX5_change_78 (by decide) (fun hq => absurd hq (show ¬ (1 : Int32) = 0 by decide)) (fun _ => ?_)
          refine lv_iconst (v := 0) hx hb dX5_change_81 (by decide) ?_
          have hsp : mp_change y (nI jb) (nI jk) (-1) = (0, (uI (uI y 28 0 0) 28 0 2)) := by
            unfold mp_change
            first | (simp only [c1, c1_s, eq_self, c3, c4, inB_nI hjb (by omega), ix_nI (show jb < 2 ^ 31 by omega), inB_nI hjk (by omega), ix_nI (show jk < 2 ^ 31 by omega), ↓reduceIte, and_self, and_true, true_and, Bool.false_eq_true, reduceCtorEq, eq_self, false_and, and_false]; done) | (simp [c1, c1_s, eq_self, c3, c4, inB_nI hjb (by omega), ix_nI (show jb < 2 ^ 31 by omega), inB_nI hjk (by omega), ix_nI (show jk < 2 ^ 31 by omega), ↓reduceIte, and_self, and_true, true_and, Bool.false_eq_true, reduceCtorEq, eq_self, false_and, and_false]; done) | simp only [c1, c1_s, eq_self, c3, c4, inB_nI hjb (by omega), ix_nI (show jb < 2 ^ 31 by omega), inB_nI hjk (by omega), ix_nI (show jk < 2 ^ 31 by omega), ↓reduceIte, and_self, and_true, true_and, Bool.false_eq_true, reduceCtorEq, eq_self, false_and, and_false]
          exact W.iret (v := 0) hx hb hr (fun t ht hW => ⟨⟨0, (), rfl, (by rw [hsp]), wHS_t ht (by rw [hsp]; exact hH)⟩, hS.F ht⟩) hS.2.2 dX5_change_82
        · skip
          refine lv_iconst (v := 1) hx hb dX5_change_69 (by decide) ?_
          refine lv_goto (tgt := 74) hx hb dX5_change_70 (by decide) ?_
          refine lv_iconst (v := 2) hx hb dX5_change_74 (by decide) ?_
          refine va_calli (va_runV (As := [.int 1, .int 2]) (rest := []) ⟨hx, hb, hml, hown, hts⟩ (met_X5_no1 l E o g x (uI y 28 0 0) 2) (cwV 2 hts gX5_change_X5_no rfl rfl rfl (by decide +kernel) ⟨Nat.le_of_ble_eq_true rfl, Nat.le_of_ble_eq_true rfl⟩) ⟨fun a U f mk q => ⟨q.1, wPre.calling q.2 a f mk⟩, (va_recv hK (wH_one hH (lv_md (by decide) (by decide)) (cel_md (by omega) (by omega))) (ci := 7) (q0 := 0) rfl rfl), fun U hU hW => ⟨rfl, wPre_at hz hS hH hK U hU hW⟩⟩ rfl rfl hl.1 rfl (lv_room (Nat.le_of_ble_eq_true rfl)) dX5_change_75 ⟨Nat.le_of_ble_eq_true rfl, Nat.le_of_ble_eq_true rfl⟩) hS (fun q _ h => h) (fun q h => h) (fun r u t H locs ht hvm hw hB hz1 hk1 hS => ?_)
          have hB := wHS_h ht hB
          try dsimp only at hw
          obtain rfl := hw
          have hH := hB
          refine lv_if_eq (tgt := 83) hx hb dX5_change_78 (by decide) (fun _ => ?_) (fun hq => absurd (show (0 : Int32) = 0 by decide) hq)
          refine lv_bipush (v := 10) hx hb dX5_change_83 (by decide) ?_
          refine lv_iload_n hx hb dX5_change_85 rfl (lv_at hl 1 rfl) ?_
          refine lv_imul hx hb dX5_change_86 ?_
          refine lv_tope (pk_mul 10 jb) ?_
          refine lv_iload_n hx hb dX5_change_87 rfl (lv_at hl 2 rfl) ?_
          refine lv_iadd hx hb dX5_change_88 ?_
          refine lv_tope (nI_add (10 * jb) jk) ?_
          refine lv_istore (lv' := [(4, .int (nI ((10 * jb) + jk))), (0, .ref (g 10)), (1, .int (nI jb)), (2, .int (nI jk)), (3, .int (-1))]) hx hb dX5_change_89 hl (by decide) rfl (fun ls hl => ?_)
          refine lv_aload_n hx hb dX5_change_91 rfl (lv_at hl 1 rfl) ?_
          refine wr_get (T := TX5) (N := 30) (ci := 7) (v := .ref (g 29)) hx hb hts hinX5 hown hK hH (lv_md (by decide) (by decide)) (cel_md (by omega) (by omega)) rfl 20 (by decide) (hts (.fieldLink RX5 65 "SelectoRouteModel" "slots" "[I") (by decide +kernel)) (fun _ h => h) rfl dX5_change_92 ?_
          refine lv_iload hx hb dX5_change_95 (lv_at hl 0 rfl) ?_
          refine wr_iald (v := nI (y.1 7 ((10 * jb) + jk))) hx hb hK hH (lv_md (by decide) (by decide)) (cel_md (by decide) (by decide)) 0 rfl (vp_in_nI (n := ((10 * jb) + jk)) (N := 40) (by omega) (by decide)) (by rw [(nI_clamp (n := ((10 * jb) + jk)) (by omega))]; try rfl) dX5_change_97 ?_
          refine lv_iconst (v := 1) hx hb dX5_change_98 (by decide) ?_
          by_cases c5 : (y.1 7 ((10 * jb) + jk)) = 0
          · skip
            refine lv_isub hx hb dX5_change_99 ?_
            refine lv_tope (show nI (y.1 7 ((10 * jb) + jk)) - 1 = -1 by rw [c5]; rfl) ?_
            refine lv_istore (lv' := [(5, .int (-1)), (4, .int (nI ((10 * jb) + jk))), (0, .ref (g 10)), (1, .int (nI jb)), (2, .int (nI jk)), (3, .int (-1))]) hx hb dX5_change_100 hl (by decide) rfl (fun ls hl => ?_)
            refine lv_aload_n hx hb dX5_change_102 rfl (lv_at hl 2 rfl) ?_
            refine lv_dup hx hb dX5_change_103 rfl ?_
            refine wr_get (T := TX5) (N := 30) (ci := 7) (v := .int (y.2 17 0)) hx hb hts hinX5 hown hK hH (lv_md (by decide) (by decide)) (cel_md (by omega) (by omega)) rfl 27 (by decide) (hts (.fieldLink RX5 84 "SelectoRouteModel" "minutes" "I") (by decide +kernel)) (fun _ h => h) rfl dX5_change_104 ?_
            refine lv_bipush (v := 10) hx hb dX5_change_107 (by decide) ?_
            refine lv_isub hx hb dX5_change_109 ?_
            refine lv_topi (fun v6 ev6 => ?_)
            refine wr_put (T := TX5) (N := 30) (ci := 7) (v := .int v6) hx hb hts hinX5 tyX5 tyX5_ok nmX5 hown hK hH hS (lv_md (by decide) (by decide)) (cel_md (by omega) (by omega)) rfl 27 (by decide) (hts (.fieldLink RX5 84 "SelectoRouteModel" "minutes" "I") (by decide +kernel)) (fun _ h => h) rfl (ty := .int) (by decide +kernel) rfl rfl (Nat.le_of_ble_eq_true rfl) dX5_change_110 (fun H locs hH hS => ?_)
            have hH : wHS E o g x (uI (uI (uI y 28 0 0) 28 0 0) 17 0 v6) H := pm_minutes hH
            refine lv_iload hx hb dX5_change_113 (lv_at hl 0 rfl) ?_
            refine lv_if_lt (tgt := 126) hx hb dX5_change_115 (by decide) (fun _ => ?_) (fun hq => absurd (show ((-1) : Int32) < 0 by decide) hq)
            refine lv_aload_n hx hb dX5_change_126 rfl (lv_at hl 2 rfl) ?_
            refine wr_get (T := TX5) (N := 30) (ci := 7) (v := .ref (g 29)) hx hb hts hinX5 hown hK hH (lv_md (by decide) (by decide)) (cel_md (by omega) (by omega)) rfl 20 (by decide) (hts (.fieldLink RX5 65 "SelectoRouteModel" "slots" "[I") (by decide +kernel)) (fun _ h => h) rfl dX5_change_127 ?_
            refine lv_iload hx hb dX5_change_130 (lv_at hl 1 rfl) ?_
            refine lv_iload_n hx hb dX5_change_132 rfl (lv_at hl 5 rfl) ?_
            refine lv_iconst (v := 1) hx hb dX5_change_133 (by decide) ?_
            refine lv_iadd hx hb dX5_change_134 ?_
            refine lv_tope (show ((-1 : Int32) + 1) = 0 from rfl) ?_
            refine wr_iast hx hb hK hH hS (lv_md (by decide) (by decide)) (cel_md (by decide) (by decide)) 0 rfl (vp_in_nI (n := ((10 * jb) + jk)) (N := 40) (by omega) (by decide)) dX5_change_135 (fun H locs hH hS => ?_)
            have hH : wHS E o g x (uN (uI (uI (uI y 28 0 0) 28 0 0) 17 0 v6) 7 ((10 * jb) + jk) 0) H := pa_slots (v := 0) (nI_clamp (n := ((10 * jb) + jk)) (by omega)) hH
            refine lv_aload_n hx hb dX5_change_136 rfl (lv_at hl 2 rfl) ?_
            refine wr_get (T := TX5) (N := 30) (ci := 7) (v := .ref (g 30)) hx hb hts hinX5 hown hK hH (lv_md (by decide) (by decide)) (cel_md (by omega) (by omega)) rfl 21 (by decide) (hts (.fieldLink RX5 68 "SelectoRouteModel" "wheel" "[I") (by decide +kernel)) (fun _ h => h) rfl dX5_change_137 ?_
            refine lv_iload hx hb dX5_change_140 (lv_at hl 1 rfl) ?_
            refine lv_iconst (v := 0) hx hb dX5_change_142 (by decide) ?_
            refine wr_iast hx hb hK hH hS (lv_md (by decide) (by decide)) (cel_md (by decide) (by decide)) 0 rfl (vp_in_nI (n := ((10 * jb) + jk)) (N := 40) (by omega) (by decide)) dX5_change_143 (fun H locs hH hS => ?_)
            have hH : wHS E o g x (uI (uN (uI (uI (uI y 28 0 0) 28 0 0) 17 0 v6) 7 ((10 * jb) + jk) 0) 14 ((10 * jb) + jk) 0) H := pa_wheel (v := 0) (nI_clamp (n := ((10 * jb) + jk)) (by omega)) hH
            refine lv_iload_n hx hb dX5_change_144 rfl (lv_at hl 5 rfl) ?_
            refine lv_if_lt (tgt := 173) hx hb dX5_change_145 (by decide) (fun _ => ?_) (fun hq => absurd (show ((-1) : Int32) < 0 by decide) hq)
            refine lv_iload hx hb dX5_change_173 (lv_at hl 0 rfl) ?_
            subst ev6
            have hsp : mp_change y (nI jb) (nI jk) (-1) = ((-1), (uI (uN (uI (uI (uI y 28 0 0) 28 0 0) 17 0 ((y.2 17 0) - 10)) 7 ((10 * jb) + jk) 0) 14 ((10 * jb) + jk) 0)) := by
              unfold mp_change
              first | (simp only [c1, c1_s, eq_self, c3, c4, c5, inB_nI hjb (by omega), ix_nI (show jb < 2 ^ 31 by omega), inB_nI hjk (by omega), ix_nI (show jk < 2 ^ 31 by omega), ↓reduceIte, and_self, and_true, true_and, Bool.false_eq_true, reduceCtorEq, eq_self, false_and, and_false]; done) | (simp [c1, c1_s, eq_self, c3, c4, c5, inB_nI hjb (by omega), ix_nI (show jb < 2 ^ 31 by omega), inB_nI hjk (by omega), ix_nI (show jk < 2 ^ 31 by omega), ↓reduceIte, and_self, and_true, true_and, Bool.false_eq_true, reduceCtorEq, eq_self, false_and, and_false]; done) | simp only [c1, c1_s, eq_self, c3, c4, c5, inB_nI hjb (by omega), ix_nI (show jb < 2 ^ 31 by omega), inB_nI hjk (by omega), ix_nI (show jk < 2 ^ 31 by omega), ↓reduceIte, and_self, and_true, true_and, Bool.false_eq_true, reduceCtorEq, eq_self, false_and, and_false]
            exact W.iret (v := (-1)) hx hb hr (fun t ht hW => ⟨⟨(-1), (), rfl, (by rw [hsp]), wHS_t ht (by rw [hsp]; exact hH)⟩, hS.F ht⟩) hS.2.2 dX5_change_175
          · skip
            refine lv_isub hx hb dX5_change_99 ?_
            refine lv_tope (pk_sub (a := (y.1 7 ((10 * jb) + jk))) (b := 1) (by omega)) ?_
            refine lv_istore (lv' := [(5, .int (nI ((y.1 7 ((10 * jb) + jk)) - 1))), (4, .int (nI ((10 * jb) + jk))), (0, .ref (g 10)), (1, .int (nI jb)), (2, .int (nI jk)), (3, .int (-1))]) hx hb dX5_change_100 hl (by decide) rfl (fun ls hl => ?_)
            refine lv_aload_n hx hb dX5_change_102 rfl (lv_at hl 2 rfl) ?_
            refine lv_dup hx hb dX5_change_103 rfl ?_
            refine wr_get (T := TX5) (N := 30) (ci := 7) (v := .int (y.2 17 0)) hx hb hts hinX5 hown hK hH (lv_md (by decide) (by decide)) (cel_md (by omega) (by omega)) rfl 27 (by decide) (hts (.fieldLink RX5 84 "SelectoRouteModel" "minutes" "I") (by decide +kernel)) (fun _ h => h) rfl dX5_change_104 ?_
            refine lv_bipush (v := 10) hx hb dX5_change_107 (by decide) ?_
            refine lv_isub hx hb dX5_change_109 ?_
            refine lv_topi (fun v7 ev7 => ?_)
            refine wr_put (T := TX5) (N := 30) (ci := 7) (v := .int v7) hx hb hts hinX5 tyX5 tyX5_ok nmX5 hown hK hH hS (lv_md (by decide) (by decide)) (cel_md (by omega) (by omega)) rfl 27 (by decide) (hts (.fieldLink RX5 84 "SelectoRouteModel" "minutes" "I") (by decide +kernel)) (fun _ h => h) rfl (ty := .int) (by decide +kernel) rfl rfl (Nat.le_of_ble_eq_true rfl) dX5_change_110 (fun H locs hH hS => ?_)
            have hH : wHS E o g x (uI (uI (uI y 28 0 0) 28 0 0) 17 0 v7) H := pm_minutes hH
            refine lv_iload hx hb dX5_change_113 (lv_at hl 0 rfl) ?_
            refine lv_if_lt (tgt := 126) hx hb dX5_change_115 (by decide) (fun hq => absurd ((nI_ltI (a := ((y.1 7 ((10 * jb) + jk)) - 1)) (b := 0) (by have q0 := hm7 ((10 * jb) + jk); omega) (by omega)).mp hq) (Nat.not_lt_zero _)) (fun _ => ?_)
            refine lv_aload_n hx hb dX5_change_118 rfl (lv_at hl 2 rfl) ?_
            refine wr_get (T := TX5) (N := 30) (ci := 7) (v := .ref (g 15)) hx hb hts hinX5 hown hK hH (lv_md (by decide) (by decide)) (cel_md (by omega) (by omega)) rfl 4 (by decide) (hts (.fieldLink RX5 22 "SelectoRouteModel" "place" "[I") (by decide +kernel)) (fun _ h => h) rfl dX5_change_119 ?_
            refine lv_iload hx hb dX5_change_122 (lv_at hl 0 rfl) ?_
            refine lv_iconst (v := (-1)) hx hb dX5_change_124 (by decide) ?_
            refine wr_iast hx hb hK hH hS (lv_md (by decide) (by decide)) (cel_md (by decide) (by decide)) 0 rfl (vp_in_nI (n := ((y.1 7 ((10 * jb) + jk)) - 1)) (N := 30) (by have q0 := hm7 ((10 * jb) + jk); omega) (by decide)) dX5_change_125 (fun H locs hH hS => ?_)
            have hv8 : ((-1) : Int32) = nI 1 - 2 := rfl
            rw [hv8] at hH
            have hH : wHS E o g x (uN (uI (uI (uI y 28 0 0) 28 0 0) 17 0 v7) 8 ((y.1 7 ((10 * jb) + jk)) - 1) 1) H := pa_place (v := 1) (nI_clamp (n := ((y.1 7 ((10 * jb) + jk)) - 1)) (by have q0 := hm7 ((10 * jb) + jk); omega)) hH
            refine lv_aload_n hx hb dX5_change_126 rfl (lv_at hl 2 rfl) ?_
            refine wr_get (T := TX5) (N := 30) (ci := 7) (v := .ref (g 29)) hx hb hts hinX5 hown hK hH (lv_md (by decide) (by decide)) (cel_md (by omega) (by omega)) rfl 20 (by decide) (hts (.fieldLink RX5 65 "SelectoRouteModel" "slots" "[I") (by decide +kernel)) (fun _ h => h) rfl dX5_change_127 ?_
            refine lv_iload hx hb dX5_change_130 (lv_at hl 1 rfl) ?_
            refine lv_iload_n hx hb dX5_change_132 rfl (lv_at hl 5 rfl) ?_
            refine lv_iconst (v := 1) hx hb dX5_change_133 (by decide) ?_
            refine lv_iadd hx hb dX5_change_134 ?_
            refine lv_tope (show ((-1 : Int32) + 1) = 0 from rfl) ?_
            refine wr_iast hx hb hK hH hS (lv_md (by decide) (by decide)) (cel_md (by decide) (by decide)) 0 rfl (vp_in_nI (n := ((10 * jb) + jk)) (N := 40) (by omega) (by decide)) dX5_change_135 (fun H locs hH hS => ?_)
            have hH : wHS E o g x (uN (uN (uI (uI (uI y 28 0 0) 28 0 0) 17 0 v7) 8 ((y.1 7 ((10 * jb) + jk)) - 1) 1) 7 ((10 * jb) + jk) 0) H := pa_slots (v := 0) (nI_clamp (n := ((10 * jb) + jk)) (by omega)) hH
            refine lv_aload_n hx hb dX5_change_136 rfl (lv_at hl 2 rfl) ?_
            refine wr_get (T := TX5) (N := 30) (ci := 7) (v := .ref (g 30)) hx hb hts hinX5 hown hK hH (lv_md (by decide) (by decide)) (cel_md (by omega) (by omega)) rfl 21 (by decide) (hts (.fieldLink RX5 68 "SelectoRouteModel" "wheel" "[I") (by decide +kernel)) (fun _ h => h) rfl dX5_change_137 ?_
            refine lv_iload hx hb dX5_change_140 (lv_at hl 1 rfl) ?_
            refine lv_iconst (v := 0) hx hb dX5_change_142 (by decide) ?_
            refine wr_iast hx hb hK hH hS (lv_md (by decide) (by decide)) (cel_md (by decide) (by decide)) 0 rfl (vp_in_nI (n := ((10 * jb) + jk)) (N := 40) (by omega) (by decide)) dX5_change_143 (fun H locs hH hS => ?_)
            have hH : wHS E o g x (uI (uN (uN (uI (uI (uI y 28 0 0) 28 0 0) 17 0 v7) 8 ((y.1 7 ((10 * jb) + jk)) - 1) 1) 7 ((10 * jb) + jk) 0) 14 ((10 * jb) + jk) 0) H := pa_wheel (v := 0) (nI_clamp (n := ((10 * jb) + jk)) (by omega)) hH
            refine lv_iload_n hx hb dX5_change_144 rfl (lv_at hl 5 rfl) ?_
            refine lv_if_lt (tgt := 173) hx hb dX5_change_145 (by decide) (fun _ => ?_) (fun hq => absurd (show ((-1) : Int32) < 0 by decide) hq)
            refine lv_iload hx hb dX5_change_173 (lv_at hl 0 rfl) ?_
            subst ev7
            have hsp : mp_change y (nI jb) (nI jk) (-1) = ((nI ((y.1 7 ((10 * jb) + jk)) - 1)), (uI (uN (uN (uI (uI (uI y 28 0 0) 28 0 0) 17 0 ((y.2 17 0) - 10)) 8 ((y.1 7 ((10 * jb) + jk)) - 1) 1) 7 ((10 * jb) + jk) 0) 14 ((10 * jb) + jk) 0)) := by
              unfold mp_change
              first | (simp only [c1, c1_s, eq_self, c3, c4, c5, inB_nI hjb (by omega), ix_nI (show jb < 2 ^ 31 by omega), inB_nI hjk (by omega), ix_nI (show jk < 2 ^ 31 by omega), ↓reduceIte, and_self, and_true, true_and, Bool.false_eq_true, reduceCtorEq, eq_self, false_and, and_false]; done) | (simp [c1, c1_s, eq_self, c3, c4, c5, inB_nI hjb (by omega), ix_nI (show jb < 2 ^ 31 by omega), inB_nI hjk (by omega), ix_nI (show jk < 2 ^ 31 by omega), ↓reduceIte, and_self, and_true, true_and, Bool.false_eq_true, reduceCtorEq, eq_self, false_and, and_false]; done) | simp only [c1, c1_s, eq_self, c3, c4, c5, inB_nI hjb (by omega), ix_nI (show jb < 2 ^ 31 by omega), inB_nI hjk (by omega), ix_nI (show jk < 2 ^ 31 by omega), ↓reduceIte, and_self, and_true, true_and, Bool.false_eq_true, reduceCtorEq, eq_self, false_and, and_false]
            exact W.iret (v := (nI ((y.1 7 ((10 * jb) + jk)) - 1))) hx hb hr (fun t ht hW => ⟨⟨(nI ((y.1 7 ((10 * jb) + jk)) - 1)), (), rfl, (by rw [hsp]), wHS_t ht (by rw [hsp]; exact hH)⟩, hS.F ht⟩) hS.2.2 dX5_change_175
    · skip
      refine lv_aload_n hx hb dX5_change_15 rfl (lv_at hl 0 rfl) ?_
      refine lv_iload_n hx hb dX5_change_16 rfl (lv_at hl 3 rfl) ?_
      refine va_calli (va_runV (As := [.int v]) (rest := [.ref (g 10)]) ⟨hx, hb, hml, hown, hts⟩ (met_X5_isDisc l E o g x y v (show (y.1 0 0) ≤ 100 by omega)) (cwV 1 hts gX5_change_X5_isDisc rfl rfl rfl (by decide +kernel) ⟨Nat.le_of_ble_eq_true rfl, Nat.le_of_ble_eq_true rfl⟩) ⟨fun a U f mk q => ⟨q.1, wPre.calling q.2 a f mk⟩, (va_recv hK (wH_one hH (lv_md (by decide) (by decide)) (cel_md (by omega) (by omega))) (ci := 7) (q0 := 0) rfl rfl), fun U hU hW => ⟨rfl, wPre_at hz hS hH hK U hU hW⟩⟩ rfl rfl hl.1 rfl (lv_room (Nat.le_of_ble_eq_true rfl)) dX5_change_17 ⟨Nat.le_of_ble_eq_true rfl, Nat.le_of_ble_eq_true rfl⟩) hS (fun q _ h => h) (fun q h => h) (fun r u t H locs ht hvm hw hB hz1 hk1 hS => ?_)
      have hB := wHS_h ht hB
      try dsimp only at hw
      have hH := hB
      rcases hw with ⟨rfl, c8⟩ | ⟨rfl, c8⟩
      · have c8 : inB v (y.1 0 0) = true := c8
        obtain ⟨jv, hjv, rfl⟩ := inB_t c8 (by omega)
        refine lv_if_eq (tgt := 27) hx hb dX5_change_20 (by decide) (fun hq => absurd hq (show ¬ (1 : Int32) = 0 by decide)) (fun _ => ?_)
        refine lv_iconst (v := 1) hx hb dX5_change_23 (by decide) ?_
        refine lv_goto (tgt := 28) hx hb dX5_change_24 (by decide) ?_
        refine lv_iconst (v := 1) hx hb dX5_change_28 (by decide) ?_
        refine va_calli (va_runV (As := [.int 1, .int 1]) (rest := []) ⟨hx, hb, hml, hown, hts⟩ (met_X5_no1 l E o g x y 1) (cwV 2 hts gX5_change_X5_no rfl rfl rfl (by decide +kernel) ⟨Nat.le_of_ble_eq_true rfl, Nat.le_of_ble_eq_true rfl⟩) ⟨fun a U f mk q => ⟨q.1, wPre.calling q.2 a f mk⟩, (va_recv hK (wH_one hH (lv_md (by decide) (by decide)) (cel_md (by omega) (by omega))) (ci := 7) (q0 := 0) rfl rfl), fun U hU hW => ⟨rfl, wPre_at hz hS hH hK U hU hW⟩⟩ rfl rfl hl.1 rfl (lv_room (Nat.le_of_ble_eq_true rfl)) dX5_change_29 ⟨Nat.le_of_ble_eq_true rfl, Nat.le_of_ble_eq_true rfl⟩) hS (fun q _ h => h) (fun q h => h) (fun r u t H locs ht hvm hw hB hz1 hk1 hS => ?_)
        have hB := wHS_h ht hB
        try dsimp only at hw
        obtain rfl := hw
        have hH := hB
        refine lv_if_eq (tgt := 37) hx hb dX5_change_32 (by decide) (fun _ => ?_) (fun hq => absurd (show (0 : Int32) = 0 by decide) hq)
        refine lv_aload_n hx hb dX5_change_37 rfl (lv_at hl 0 rfl) ?_
        refine lv_aload_n hx hb dX5_change_38 rfl (lv_at hl 0 rfl) ?_
        refine wr_get (T := TX5) (N := 30) (ci := 7) (v := .ref (g 28)) hx hb hts hinX5 hown hK hH (lv_md (by decide) (by decide)) (cel_md (by omega) (by omega)) rfl 18 (by decide) (hts (.fieldLink RX5 62 "SelectoRouteModel" "visited" "[Z") (by decide +kernel)) (fun _ h => h) rfl dX5_change_39 ?_
        refine lv_iload_n hx hb dX5_change_42 rfl (lv_at hl 1 rfl) ?_
        refine wr_zald (v := nI (y.1 11 jb)) hx hb hK hH (lv_md (by decide) (by decide)) (cel_md (by decide) (by decide)) 1 rfl (vp_in_nI (n := jb) (N := 4) (by omega) (by decide)) (by rw [(nI_clamp (n := jb) (by omega))]; try rfl) dX5_change_43 ?_
        refine lv_if_eq (tgt := 73) hx hb dX5_change_44 (by decide) (fun c9 => ?_) (fun c9 => ?_)
        · have c9 := (nI_eq (a := (y.1 11 jb)) (b := 0) (by have q0 := hm11 jb; omega) (by omega)).mp c9
          refine lv_iconst (v := 0) hx hb dX5_change_73 (by decide) ?_
          refine lv_iconst (v := 2) hx hb dX5_change_74 (by decide) ?_
          refine va_calli (va_runV (As := [.int 0, .int 2]) (rest := []) ⟨hx, hb, hml, hown, hts⟩ (met_X5_no0 l E o g x (uI y 28 0 0) 2) (cwV 2 hts gX5_change_X5_no rfl rfl rfl (by decide +kernel) ⟨Nat.le_of_ble_eq_true rfl, Nat.le_of_ble_eq_true rfl⟩) ⟨fun a U f mk q => ⟨q.1, wPre.calling q.2 a f mk⟩, (va_recv hK (wH_one hH (lv_md (by decide) (by decide)) (cel_md (by omega) (by omega))) (ci := 7) (q0 := 0) rfl rfl), fun U hU hW => ⟨rfl, wPre_at hz hS hH hK U hU hW⟩⟩ rfl rfl hl.1 rfl (lv_room (Nat.le_of_ble_eq_true rfl)) dX5_change_75 ⟨Nat.le_of_ble_eq_true rfl, Nat.le_of_ble_eq_true rfl⟩) hS (fun q _ h => h) (fun q h => h) (fun r u t H locs ht hvm hw hB hz1 hk1 hS => ?_)
          have hB := wHS_h ht hB
          try dsimp only at hw
          obtain rfl := hw
          have hH := hB
          refine lv_if_eq (tgt := 83) hx hb dX5_change_78 (by decide) (fun hq => absurd hq (show ¬ (1 : Int32) = 0 by decide)) (fun _ => ?_)
          refine lv_iconst (v := 0) hx hb dX5_change_81 (by decide) ?_
          have hsp : mp_change y (nI jb) (nI jk) (nI jv) = (0, (uI (uI y 28 0 0) 28 0 2)) := by
            unfold mp_change
            first | (simp only [c1, c1_s, c2, c8, c9, inB_nI hjb (by omega), ix_nI (show jb < 2 ^ 31 by omega), inB_nI hjk (by omega), ix_nI (show jk < 2 ^ 31 by omega), inB_nI hjv (by omega), ix_nI (show jv < 2 ^ 31 by omega), ↓reduceIte, and_self, and_true, true_and, Bool.false_eq_true, reduceCtorEq, eq_self, false_and, and_false]; done) | (simp [c1, c1_s, c2, c8, c9, inB_nI hjb (by omega), ix_nI (show jb < 2 ^ 31 by omega), inB_nI hjk (by omega), ix_nI (show jk < 2 ^ 31 by omega), inB_nI hjv (by omega), ix_nI (show jv < 2 ^ 31 by omega), ↓reduceIte, and_self, and_true, true_and, Bool.false_eq_true, reduceCtorEq, eq_self, false_and, and_false]; done) | simp only [c1, c1_s, c2, c8, c9, inB_nI hjb (by omega), ix_nI (show jb < 2 ^ 31 by omega), inB_nI hjk (by omega), ix_nI (show jk < 2 ^ 31 by omega), inB_nI hjv (by omega), ix_nI (show jv < 2 ^ 31 by omega), ↓reduceIte, and_self, and_true, true_and, Bool.false_eq_true, reduceCtorEq, eq_self, false_and, and_false]
          exact W.iret (v := 0) hx hb hr (fun t ht hW => ⟨⟨0, (), rfl, (by rw [hsp]), wHS_t ht (by rw [hsp]; exact hH)⟩, hS.F ht⟩) hS.2.2 dX5_change_82
        · have c9 : ¬ ((y.1 11 jb) = 0) := fun hq => c9 ((nI_eq (a := (y.1 11 jb)) (b := 0) (by have q0 := hm11 jb; omega) (by omega)).mpr hq)
          refine lv_iload_n hx hb dX5_change_47 rfl (lv_at hl 3 rfl) ?_
          refine lv_iconst (v := (-1)) hx hb dX5_change_48 (by decide) ?_
          refine lv_icmp_eq (tgt := 60) hx hb dX5_change_49 (by decide) (fun hq => absurd hq c2) (fun _ => ?_)
          refine lv_aload_n hx hb dX5_change_52 rfl (lv_at hl 0 rfl) ?_
          refine lv_iload_n hx hb dX5_change_53 rfl (lv_at hl 3 rfl) ?_
          refine va_calli (va_runV (As := [.int (nI jv)]) (rest := [.ref (g 10)]) ⟨hx, hb, hml, hown, hts⟩ (met_X5_isInVan l E o g x (uI y 28 0 0) jv (by omega) (show (y.1 8 jv) < 42 by have q0 := hm8 jv; omega)) (cwV 1 hts gX5_change_X5_isInVan rfl rfl rfl (by decide +kernel) ⟨Nat.le_of_ble_eq_true rfl, Nat.le_of_ble_eq_true rfl⟩) ⟨fun a U f mk q => ⟨q.1, wPre.calling q.2 a f mk⟩, (va_recv hK (wH_one hH (lv_md (by decide) (by decide)) (cel_md (by omega) (by omega))) (ci := 7) (q0 := 0) rfl rfl), fun U hU hW => ⟨rfl, wPre_at hz hS hH hK U hU hW⟩⟩ rfl rfl hl.1 rfl (lv_room (Nat.le_of_ble_eq_true rfl)) dX5_change_54 ⟨Nat.le_of_ble_eq_true rfl, Nat.le_of_ble_eq_true rfl⟩) hS (fun q _ h => h) (fun q h => h) (fun r u t H locs ht hvm hw hB hz1 hk1 hS => ?_)
          have hB := wHS_h ht hB
          try dsimp only at hw
          have hH := hB
          rcases hw with ⟨rfl, c10⟩ | ⟨rfl, c10⟩
          · have c10 : (y.1 8 jv) = 1 := c10
            refine lv_if_eq (tgt := 73) hx hb dX5_change_57 (by decide) (fun hq => absurd hq (show ¬ (1 : Int32) = 0 by decide)) (fun _ => ?_)
            refine lv_aload_n hx hb dX5_change_60 rfl (lv_at hl 0 rfl) ?_
            refine wr_get (T := TX5) (N := 30) (ci := 7) (v := .int (y.2 17 0)) hx hb hts hinX5 hown hK hH (lv_md (by decide) (by decide)) (cel_md (by omega) (by omega)) rfl 27 (by decide) (hts (.fieldLink RX5 84 "SelectoRouteModel" "minutes" "I") (by decide +kernel)) (fun _ h => h) rfl dX5_change_61 ?_
            refine lv_bipush (v := 10) hx hb dX5_change_64 (by decide) ?_
            refine lv_icmp_lt (tgt := 73) hx hb dX5_change_66 (by decide) (fun c11 => ?_) (fun c11 => ?_)
            · skip
              refine lv_iconst (v := 0) hx hb dX5_change_73 (by decide) ?_
              refine lv_iconst (v := 2) hx hb dX5_change_74 (by decide) ?_
              refine va_calli (va_runV (As := [.int 0, .int 2]) (rest := []) ⟨hx, hb, hml, hown, hts⟩ (met_X5_no0 l E o g x (uI y 28 0 0) 2) (cwV 2 hts gX5_change_X5_no rfl rfl rfl (by decide +kernel) ⟨Nat.le_of_ble_eq_true rfl, Nat.le_of_ble_eq_true rfl⟩) ⟨fun a U f mk q => ⟨q.1, wPre.calling q.2 a f mk⟩, (va_recv hK (wH_one hH (lv_md (by decide) (by decide)) (cel_md (by omega) (by omega))) (ci := 7) (q0 := 0) rfl rfl), fun U hU hW => ⟨rfl, wPre_at hz hS hH hK U hU hW⟩⟩ rfl rfl hl.1 rfl (lv_room (Nat.le_of_ble_eq_true rfl)) dX5_change_75 ⟨Nat.le_of_ble_eq_true rfl, Nat.le_of_ble_eq_true rfl⟩) hS (fun q _ h => h) (fun q h => h) (fun r u t H locs ht hvm hw hB hz1 hk1 hS => ?_)
              have hB := wHS_h ht hB
              try dsimp only at hw
              obtain rfl := hw
              have hH := hB
              refine lv_if_eq (tgt := 83) hx hb dX5_change_78 (by decide) (fun hq => absurd hq (show ¬ (1 : Int32) = 0 by decide)) (fun _ => ?_)
              refine lv_iconst (v := 0) hx hb dX5_change_81 (by decide) ?_
              have hsp : mp_change y (nI jb) (nI jk) (nI jv) = (0, (uI (uI y 28 0 0) 28 0 2)) := by
                unfold mp_change
                first | (simp only [c1, c1_s, c2, c8, c9, c10, c11, inB_nI hjb (by omega), ix_nI (show jb < 2 ^ 31 by omega), inB_nI hjk (by omega), ix_nI (show jk < 2 ^ 31 by omega), inB_nI hjv (by omega), ix_nI (show jv < 2 ^ 31 by omega), ↓reduceIte, and_self, and_true, true_and, Bool.false_eq_true, reduceCtorEq, eq_self, false_and, and_false]; done) | (simp [c1, c1_s, c2, c8, c9, c10, c11, inB_nI hjb (by omega), ix_nI (show jb < 2 ^ 31 by omega), inB_nI hjk (by omega), ix_nI (show jk < 2 ^ 31 by omega), inB_nI hjv (by omega), ix_nI (show jv < 2 ^ 31 by omega), ↓reduceIte, and_self, and_true, true_and, Bool.false_eq_true, reduceCtorEq, eq_self, false_and, and_false]; done) | simp only [c1, c1_s, c2, c8, c9, c10, c11, inB_nI hjb (by omega), ix_nI (show jb < 2 ^ 31 by omega), inB_nI hjk (by omega), ix_nI (show jk < 2 ^ 31 by omega), inB_nI hjv (by omega), ix_nI (show jv < 2 ^ 31 by omega), ↓reduceIte, and_self, and_true, true_and, Bool.false_eq_true, reduceCtorEq, eq_self, false_and, and_false]
              exact W.iret (v := 0) hx hb hr (fun t ht hW => ⟨⟨0, (), rfl, (by rw [hsp]), wHS_t ht (by rw [hsp]; exact hH)⟩, hS.F ht⟩) hS.2.2 dX5_change_82
            · skip
              refine lv_iconst (v := 1) hx hb dX5_change_69 (by decide) ?_
              refine lv_goto (tgt := 74) hx hb dX5_change_70 (by decide) ?_
              refine lv_iconst (v := 2) hx hb dX5_change_74 (by decide) ?_
              refine va_calli (va_runV (As := [.int 1, .int 2]) (rest := []) ⟨hx, hb, hml, hown, hts⟩ (met_X5_no1 l E o g x (uI y 28 0 0) 2) (cwV 2 hts gX5_change_X5_no rfl rfl rfl (by decide +kernel) ⟨Nat.le_of_ble_eq_true rfl, Nat.le_of_ble_eq_true rfl⟩) ⟨fun a U f mk q => ⟨q.1, wPre.calling q.2 a f mk⟩, (va_recv hK (wH_one hH (lv_md (by decide) (by decide)) (cel_md (by omega) (by omega))) (ci := 7) (q0 := 0) rfl rfl), fun U hU hW => ⟨rfl, wPre_at hz hS hH hK U hU hW⟩⟩ rfl rfl hl.1 rfl (lv_room (Nat.le_of_ble_eq_true rfl)) dX5_change_75 ⟨Nat.le_of_ble_eq_true rfl, Nat.le_of_ble_eq_true rfl⟩) hS (fun q _ h => h) (fun q h => h) (fun r u t H locs ht hvm hw hB hz1 hk1 hS => ?_)
              have hB := wHS_h ht hB
              try dsimp only at hw
              obtain rfl := hw
              have hH := hB
              refine lv_if_eq (tgt := 83) hx hb dX5_change_78 (by decide) (fun _ => ?_) (fun hq => absurd (show (0 : Int32) = 0 by decide) hq)
              refine lv_bipush (v := 10) hx hb dX5_change_83 (by decide) ?_
              refine lv_iload_n hx hb dX5_change_85 rfl (lv_at hl 1 rfl) ?_
              refine lv_imul hx hb dX5_change_86 ?_
              refine lv_tope (pk_mul 10 jb) ?_
              refine lv_iload_n hx hb dX5_change_87 rfl (lv_at hl 2 rfl) ?_
              refine lv_iadd hx hb dX5_change_88 ?_
              refine lv_tope (nI_add (10 * jb) jk) ?_
              refine lv_istore (lv' := [(4, .int (nI ((10 * jb) + jk))), (0, .ref (g 10)), (1, .int (nI jb)), (2, .int (nI jk)), (3, .int (nI jv))]) hx hb dX5_change_89 hl (by decide) rfl (fun ls hl => ?_)
              refine lv_aload_n hx hb dX5_change_91 rfl (lv_at hl 1 rfl) ?_
              refine wr_get (T := TX5) (N := 30) (ci := 7) (v := .ref (g 29)) hx hb hts hinX5 hown hK hH (lv_md (by decide) (by decide)) (cel_md (by omega) (by omega)) rfl 20 (by decide) (hts (.fieldLink RX5 65 "SelectoRouteModel" "slots" "[I") (by decide +kernel)) (fun _ h => h) rfl dX5_change_92 ?_
              refine lv_iload hx hb dX5_change_95 (lv_at hl 0 rfl) ?_
              refine wr_iald (v := nI (y.1 7 ((10 * jb) + jk))) hx hb hK hH (lv_md (by decide) (by decide)) (cel_md (by decide) (by decide)) 0 rfl (vp_in_nI (n := ((10 * jb) + jk)) (N := 40) (by omega) (by decide)) (by rw [(nI_clamp (n := ((10 * jb) + jk)) (by omega))]; try rfl) dX5_change_97 ?_
              refine lv_iconst (v := 1) hx hb dX5_change_98 (by decide) ?_
              by_cases c12 : (y.1 7 ((10 * jb) + jk)) = 0
              · skip
                refine lv_isub hx hb dX5_change_99 ?_
                refine lv_tope (show nI (y.1 7 ((10 * jb) + jk)) - 1 = -1 by rw [c12]; rfl) ?_
                refine lv_istore (lv' := [(5, .int (-1)), (4, .int (nI ((10 * jb) + jk))), (0, .ref (g 10)), (1, .int (nI jb)), (2, .int (nI jk)), (3, .int (nI jv))]) hx hb dX5_change_100 hl (by decide) rfl (fun ls hl => ?_)
                refine lv_aload_n hx hb dX5_change_102 rfl (lv_at hl 2 rfl) ?_
                refine lv_dup hx hb dX5_change_103 rfl ?_
                refine wr_get (T := TX5) (N := 30) (ci := 7) (v := .int (y.2 17 0)) hx hb hts hinX5 hown hK hH (lv_md (by decide) (by decide)) (cel_md (by omega) (by omega)) rfl 27 (by decide) (hts (.fieldLink RX5 84 "SelectoRouteModel" "minutes" "I") (by decide +kernel)) (fun _ h => h) rfl dX5_change_104 ?_
                refine lv_bipush (v := 10) hx hb dX5_change_107 (by decide) ?_
                refine lv_isub hx hb dX5_change_109 ?_
                refine lv_topi (fun v13 ev13 => ?_)
                refine wr_put (T := TX5) (N := 30) (ci := 7) (v := .int v13) hx hb hts hinX5 tyX5 tyX5_ok nmX5 hown hK hH hS (lv_md (by decide) (by decide)) (cel_md (by omega) (by omega)) rfl 27 (by decide) (hts (.fieldLink RX5 84 "SelectoRouteModel" "minutes" "I") (by decide +kernel)) (fun _ h => h) rfl (ty := .int) (by decide +kernel) rfl rfl (Nat.le_of_ble_eq_true rfl) dX5_change_110 (fun H locs hH hS => ?_)
                have hH : wHS E o g x (uI (uI (uI y 28 0 0) 28 0 0) 17 0 v13) H := pm_minutes hH
                refine lv_iload hx hb dX5_change_113 (lv_at hl 0 rfl) ?_
                refine lv_if_lt (tgt := 126) hx hb dX5_change_115 (by decide) (fun _ => ?_) (fun hq => absurd (show ((-1) : Int32) < 0 by decide) hq)
                refine lv_aload_n hx hb dX5_change_126 rfl (lv_at hl 2 rfl) ?_
                refine wr_get (T := TX5) (N := 30) (ci := 7) (v := .ref (g 29)) hx hb hts hinX5 hown hK hH (lv_md (by decide) (by decide)) (cel_md (by omega) (by omega)) rfl 20 (by decide) (hts (.fieldLink RX5 65 "SelectoRouteModel" "slots" "[I") (by decide +kernel)) (fun _ h => h) rfl dX5_change_127 ?_
                refine lv_iload hx hb dX5_change_130 (lv_at hl 1 rfl) ?_
                refine lv_iload_n hx hb dX5_change_132 rfl (lv_at hl 5 rfl) ?_
                refine lv_iconst (v := 1) hx hb dX5_change_133 (by decide) ?_
                refine lv_iadd hx hb dX5_change_134 ?_
                refine lv_tope (nI_add jv 1) ?_
                refine wr_iast hx hb hK hH hS (lv_md (by decide) (by decide)) (cel_md (by decide) (by decide)) 0 rfl (vp_in_nI (n := ((10 * jb) + jk)) (N := 40) (by omega) (by decide)) dX5_change_135 (fun H locs hH hS => ?_)
                have hH : wHS E o g x (uN (uI (uI (uI y 28 0 0) 28 0 0) 17 0 v13) 7 ((10 * jb) + jk) (jv + 1)) H := pa_slots (v := (jv + 1)) (nI_clamp (n := ((10 * jb) + jk)) (by omega)) hH
                refine lv_aload_n hx hb dX5_change_136 rfl (lv_at hl 2 rfl) ?_
                refine wr_get (T := TX5) (N := 30) (ci := 7) (v := .ref (g 30)) hx hb hts hinX5 hown hK hH (lv_md (by decide) (by decide)) (cel_md (by omega) (by omega)) rfl 21 (by decide) (hts (.fieldLink RX5 68 "SelectoRouteModel" "wheel" "[I") (by decide +kernel)) (fun _ h => h) rfl dX5_change_137 ?_
                refine lv_iload hx hb dX5_change_140 (lv_at hl 1 rfl) ?_
                refine lv_iconst (v := 0) hx hb dX5_change_142 (by decide) ?_
                refine wr_iast hx hb hK hH hS (lv_md (by decide) (by decide)) (cel_md (by decide) (by decide)) 0 rfl (vp_in_nI (n := ((10 * jb) + jk)) (N := 40) (by omega) (by decide)) dX5_change_143 (fun H locs hH hS => ?_)
                have hH : wHS E o g x (uI (uN (uI (uI (uI y 28 0 0) 28 0 0) 17 0 v13) 7 ((10 * jb) + jk) (jv + 1)) 14 ((10 * jb) + jk) 0) H := pa_wheel (v := 0) (nI_clamp (n := ((10 * jb) + jk)) (by omega)) hH
                refine lv_iload_n hx hb dX5_change_144 rfl (lv_at hl 5 rfl) ?_
                refine lv_if_lt (tgt := 173) hx hb dX5_change_145 (by decide) (fun hq => absurd ((nI_ltI (a := jv) (b := 0) (by omega) (by omega)).mp hq) (Nat.not_lt_zero _)) (fun _ => ?_)
                refine lv_aload_n hx hb dX5_change_148 rfl (lv_at hl 2 rfl) ?_
                refine wr_get (T := TX5) (N := 30) (ci := 7) (v := .ref (g 15)) hx hb hts hinX5 hown hK hH (lv_md (by decide) (by decide)) (cel_md (by omega) (by omega)) rfl 4 (by decide) (hts (.fieldLink RX5 22 "SelectoRouteModel" "place" "[I") (by decide +kernel)) (fun _ h => h) rfl dX5_change_149 ?_
                refine lv_iload_n hx hb dX5_change_152 rfl (lv_at hl 5 rfl) ?_
                refine lv_iload hx hb dX5_change_153 (lv_at hl 1 rfl) ?_
                refine wr_iast hx hb hK hH hS (lv_md (by decide) (by decide)) (cel_md (by decide) (by decide)) 0 rfl (vp_in_nI (n := jv) (N := 30) (by omega) (by decide)) dX5_change_155 (fun H locs hH hS => ?_)
                have hv8 : (nI ((10 * jb) + jk) : Int32) = nI (((10 * jb) + jk) + 2) - 2 := (pl_in _).symm
                rw [hv8] at hH
                have hH : wHS E o g x (uN (uI (uN (uI (uI (uI y 28 0 0) 28 0 0) 17 0 v13) 7 ((10 * jb) + jk) (jv + 1)) 14 ((10 * jb) + jk) 0) 8 jv (((10 * jb) + jk) + 2)) H := pa_place (v := ((10 * jb) + jk) + 2) (nI_clamp (n := jv) (by omega)) hH
                refine lv_aload_n hx hb dX5_change_156 rfl (lv_at hl 2 rfl) ?_
                refine wr_get (T := TX5) (N := 30) (ci := 7) (v := .ref (g 31)) hx hb hts hinX5 hown hK hH (lv_md (by decide) (by decide)) (cel_md (by omega) (by omega)) rfl 22 (by decide) (hts (.fieldLink RX5 71 "SelectoRouteModel" "asked" "[I") (by decide +kernel)) (fun _ h => h) rfl dX5_change_157 ?_
                refine lv_bipush (v := 100) hx hb dX5_change_160 (by decide) ?_
                refine lv_iload_n hx hb dX5_change_162 rfl (lv_at hl 3 rfl) ?_
                refine lv_imul hx hb dX5_change_163 ?_
                refine lv_tope (pk_mul 100 jb) ?_
                refine lv_aload_n hx hb dX5_change_164 rfl (lv_at hl 2 rfl) ?_
                refine wr_get (T := TX5) (N := 30) (ci := 7) (v := .ref (g 11)) hx hb hts hinX5 hown hK hH (lv_md (by decide) (by decide)) (cel_md (by omega) (by omega)) rfl 0 (by decide) (hts (.fieldLink RX5 7 "SelectoRouteModel" "song" "[I") (by decide +kernel)) (fun _ h => h) rfl dX5_change_165 ?_
                refine lv_iload_n hx hb dX5_change_168 rfl (lv_at hl 5 rfl) ?_
                refine wr_iald (v := nI (y.1 12 jv)) hx hb hK hH (lv_md (by decide) (by decide)) (cel_md (by decide) (by decide)) 0 rfl (vp_in_nI (n := jv) (N := 30) (by omega) (by decide)) (by rw [(nI_clamp (n := jv) (by omega))]; try rfl) dX5_change_169 ?_
                refine lv_iadd hx hb dX5_change_170 ?_
                refine lv_tope (nI_add (100 * jb) (y.1 12 jv)) ?_
                refine lv_iconst (v := 0) hx hb dX5_change_171 (by decide) ?_
                refine wr_iast hx hb hK hH hS (lv_md (by decide) (by decide)) (cel_md (by decide) (by decide)) 0 rfl (vp_in_nI (n := ((100 * jb) + (y.1 12 jv))) (N := 400) (by have q0 := hm12 jv; omega) (by decide)) dX5_change_172 (fun H locs hH hS => ?_)
                have hH : wHS E o g x (uI (uN (uI (uN (uI (uI (uI y 28 0 0) 28 0 0) 17 0 v13) 7 ((10 * jb) + jk) (jv + 1)) 14 ((10 * jb) + jk) 0) 8 jv (((10 * jb) + jk) + 2)) 15 ((100 * jb) + (y.1 12 jv)) 0) H := pa_asked (v := 0) (nI_clamp (n := ((100 * jb) + (y.1 12 jv))) (by have q0 := hm12 jv; omega)) hH
                refine lv_iload hx hb dX5_change_173 (lv_at hl 0 rfl) ?_
                subst ev13
                have hsp : mp_change y (nI jb) (nI jk) (nI jv) = ((-1), (uI (uN (uI (uN (uI (uI (uI y 28 0 0) 28 0 0) 17 0 ((y.2 17 0) - 10)) 7 ((10 * jb) + jk) (jv + 1)) 14 ((10 * jb) + jk) 0) 8 jv (((10 * jb) + jk) + 2)) 15 ((100 * jb) + (y.1 12 jv)) 0)) := by
                  unfold mp_change
                  first | (simp only [c1, c1_s, c2, c8, c9, c10, c11, c12, inB_nI hjb (by omega), ix_nI (show jb < 2 ^ 31 by omega), inB_nI hjk (by omega), ix_nI (show jk < 2 ^ 31 by omega), inB_nI hjv (by omega), ix_nI (show jv < 2 ^ 31 by omega), ↓reduceIte, and_self, and_true, true_and, Bool.false_eq_true, reduceCtorEq, eq_self, false_and, and_false]; done) | (simp [c1, c1_s, c2, c8, c9, c10, c11, c12, inB_nI hjb (by omega), ix_nI (show jb < 2 ^ 31 by omega), inB_nI hjk (by omega), ix_nI (show jk < 2 ^ 31 by omega), inB_nI hjv (by omega), ix_nI (show jv < 2 ^ 31 by omega), ↓reduceIte, and_self, and_true, true_and, Bool.false_eq_true, reduceCtorEq, eq_self, false_and, and_false]; done) | simp only [c1, c1_s, c2, c8, c9, c10, c11, c12, inB_nI hjb (by omega), ix_nI (show jb < 2 ^ 31 by omega), inB_nI hjk (by omega), ix_nI (show jk < 2 ^ 31 by omega), inB_nI hjv (by omega), ix_nI (show jv < 2 ^ 31 by omega), ↓reduceIte, and_self, and_true, true_and, Bool.false_eq_true, reduceCtorEq, eq_self, false_and, and_false]
                exact W.iret (v := (-1)) hx hb hr (fun t ht hW => ⟨⟨(-1), (), rfl, (by rw [hsp]), wHS_t ht (by rw [hsp]; exact hH)⟩, hS.F ht⟩) hS.2.2 dX5_change_175
              · skip
                refine lv_isub hx hb dX5_change_99 ?_
                refine lv_tope (pk_sub (a := (y.1 7 ((10 * jb) + jk))) (b := 1) (by omega)) ?_
                refine lv_istore (lv' := [(5, .int (nI ((y.1 7 ((10 * jb) + jk)) - 1))), (4, .int (nI ((10 * jb) + jk))), (0, .ref (g 10)), (1, .int (nI jb)), (2, .int (nI jk)), (3, .int (nI jv))]) hx hb dX5_change_100 hl (by decide) rfl (fun ls hl => ?_)
                refine lv_aload_n hx hb dX5_change_102 rfl (lv_at hl 2 rfl) ?_
                refine lv_dup hx hb dX5_change_103 rfl ?_
                refine wr_get (T := TX5) (N := 30) (ci := 7) (v := .int (y.2 17 0)) hx hb hts hinX5 hown hK hH (lv_md (by decide) (by decide)) (cel_md (by omega) (by omega)) rfl 27 (by decide) (hts (.fieldLink RX5 84 "SelectoRouteModel" "minutes" "I") (by decide +kernel)) (fun _ h => h) rfl dX5_change_104 ?_
                refine lv_bipush (v := 10) hx hb dX5_change_107 (by decide) ?_
                refine lv_isub hx hb dX5_change_109 ?_
                refine lv_topi (fun v14 ev14 => ?_)
                refine wr_put (T := TX5) (N := 30) (ci := 7) (v := .int v14) hx hb hts hinX5 tyX5 tyX5_ok nmX5 hown hK hH hS (lv_md (by decide) (by decide)) (cel_md (by omega) (by omega)) rfl 27 (by decide) (hts (.fieldLink RX5 84 "SelectoRouteModel" "minutes" "I") (by decide +kernel)) (fun _ h => h) rfl (ty := .int) (by decide +kernel) rfl rfl (Nat.le_of_ble_eq_true rfl) dX5_change_110 (fun H locs hH hS => ?_)
                have hH : wHS E o g x (uI (uI (uI y 28 0 0) 28 0 0) 17 0 v14) H := pm_minutes hH
                refine lv_iload hx hb dX5_change_113 (lv_at hl 0 rfl) ?_
                refine lv_if_lt (tgt := 126) hx hb dX5_change_115 (by decide) (fun hq => absurd ((nI_ltI (a := ((y.1 7 ((10 * jb) + jk)) - 1)) (b := 0) (by have q0 := hm7 ((10 * jb) + jk); omega) (by omega)).mp hq) (Nat.not_lt_zero _)) (fun _ => ?_)
                refine lv_aload_n hx hb dX5_change_118 rfl (lv_at hl 2 rfl) ?_
                refine wr_get (T := TX5) (N := 30) (ci := 7) (v := .ref (g 15)) hx hb hts hinX5 hown hK hH (lv_md (by decide) (by decide)) (cel_md (by omega) (by omega)) rfl 4 (by decide) (hts (.fieldLink RX5 22 "SelectoRouteModel" "place" "[I") (by decide +kernel)) (fun _ h => h) rfl dX5_change_119 ?_
                refine lv_iload hx hb dX5_change_122 (lv_at hl 0 rfl) ?_
                refine lv_iconst (v := (-1)) hx hb dX5_change_124 (by decide) ?_
                refine wr_iast hx hb hK hH hS (lv_md (by decide) (by decide)) (cel_md (by decide) (by decide)) 0 rfl (vp_in_nI (n := ((y.1 7 ((10 * jb) + jk)) - 1)) (N := 30) (by have q0 := hm7 ((10 * jb) + jk); omega) (by decide)) dX5_change_125 (fun H locs hH hS => ?_)
                have hv8 : ((-1) : Int32) = nI 1 - 2 := rfl
                rw [hv8] at hH
                have hH : wHS E o g x (uN (uI (uI (uI y 28 0 0) 28 0 0) 17 0 v14) 8 ((y.1 7 ((10 * jb) + jk)) - 1) 1) H := pa_place (v := 1) (nI_clamp (n := ((y.1 7 ((10 * jb) + jk)) - 1)) (by have q0 := hm7 ((10 * jb) + jk); omega)) hH
                refine lv_aload_n hx hb dX5_change_126 rfl (lv_at hl 2 rfl) ?_
                refine wr_get (T := TX5) (N := 30) (ci := 7) (v := .ref (g 29)) hx hb hts hinX5 hown hK hH (lv_md (by decide) (by decide)) (cel_md (by omega) (by omega)) rfl 20 (by decide) (hts (.fieldLink RX5 65 "SelectoRouteModel" "slots" "[I") (by decide +kernel)) (fun _ h => h) rfl dX5_change_127 ?_
                refine lv_iload hx hb dX5_change_130 (lv_at hl 1 rfl) ?_
                refine lv_iload_n hx hb dX5_change_132 rfl (lv_at hl 5 rfl) ?_
                refine lv_iconst (v := 1) hx hb dX5_change_133 (by decide) ?_
                refine lv_iadd hx hb dX5_change_134 ?_
                refine lv_tope (nI_add jv 1) ?_
                refine wr_iast hx hb hK hH hS (lv_md (by decide) (by decide)) (cel_md (by decide) (by decide)) 0 rfl (vp_in_nI (n := ((10 * jb) + jk)) (N := 40) (by omega) (by decide)) dX5_change_135 (fun H locs hH hS => ?_)
                have hH : wHS E o g x (uN (uN (uI (uI (uI y 28 0 0) 28 0 0) 17 0 v14) 8 ((y.1 7 ((10 * jb) + jk)) - 1) 1) 7 ((10 * jb) + jk) (jv + 1)) H := pa_slots (v := (jv + 1)) (nI_clamp (n := ((10 * jb) + jk)) (by omega)) hH
                refine lv_aload_n hx hb dX5_change_136 rfl (lv_at hl 2 rfl) ?_
                refine wr_get (T := TX5) (N := 30) (ci := 7) (v := .ref (g 30)) hx hb hts hinX5 hown hK hH (lv_md (by decide) (by decide)) (cel_md (by omega) (by omega)) rfl 21 (by decide) (hts (.fieldLink RX5 68 "SelectoRouteModel" "wheel" "[I") (by decide +kernel)) (fun _ h => h) rfl dX5_change_137 ?_
                refine lv_iload hx hb dX5_change_140 (lv_at hl 1 rfl) ?_
                refine lv_iconst (v := 0) hx hb dX5_change_142 (by decide) ?_
                refine wr_iast hx hb hK hH hS (lv_md (by decide) (by decide)) (cel_md (by decide) (by decide)) 0 rfl (vp_in_nI (n := ((10 * jb) + jk)) (N := 40) (by omega) (by decide)) dX5_change_143 (fun H locs hH hS => ?_)
                have hH : wHS E o g x (uI (uN (uN (uI (uI (uI y 28 0 0) 28 0 0) 17 0 v14) 8 ((y.1 7 ((10 * jb) + jk)) - 1) 1) 7 ((10 * jb) + jk) (jv + 1)) 14 ((10 * jb) + jk) 0) H := pa_wheel (v := 0) (nI_clamp (n := ((10 * jb) + jk)) (by omega)) hH
                refine lv_iload_n hx hb dX5_change_144 rfl (lv_at hl 5 rfl) ?_
                refine lv_if_lt (tgt := 173) hx hb dX5_change_145 (by decide) (fun hq => absurd ((nI_ltI (a := jv) (b := 0) (by omega) (by omega)).mp hq) (Nat.not_lt_zero _)) (fun _ => ?_)
                refine lv_aload_n hx hb dX5_change_148 rfl (lv_at hl 2 rfl) ?_
                refine wr_get (T := TX5) (N := 30) (ci := 7) (v := .ref (g 15)) hx hb hts hinX5 hown hK hH (lv_md (by decide) (by decide)) (cel_md (by omega) (by omega)) rfl 4 (by decide) (hts (.fieldLink RX5 22 "SelectoRouteModel" "place" "[I") (by decide +kernel)) (fun _ h => h) rfl dX5_change_149 ?_
                refine lv_iload_n hx hb dX5_change_152 rfl (lv_at hl 5 rfl) ?_
                refine lv_iload hx hb dX5_change_153 (lv_at hl 1 rfl) ?_
                refine wr_iast hx hb hK hH hS (lv_md (by decide) (by decide)) (cel_md (by decide) (by decide)) 0 rfl (vp_in_nI (n := jv) (N := 30) (by omega) (by decide)) dX5_change_155 (fun H locs hH hS => ?_)
                have hv8 : (nI ((10 * jb) + jk) : Int32) = nI (((10 * jb) + jk) + 2) - 2 := (pl_in _).symm
                rw [hv8] at hH
                have hH : wHS E o g x (uN (uI (uN (uN (uI (uI (uI y 28 0 0) 28 0 0) 17 0 v14) 8 ((y.1 7 ((10 * jb) + jk)) - 1) 1) 7 ((10 * jb) + jk) (jv + 1)) 14 ((10 * jb) + jk) 0) 8 jv (((10 * jb) + jk) + 2)) H := pa_place (v := ((10 * jb) + jk) + 2) (nI_clamp (n := jv) (by omega)) hH
                refine lv_aload_n hx hb dX5_change_156 rfl (lv_at hl 2 rfl) ?_
                refine wr_get (T := TX5) (N := 30) (ci := 7) (v := .ref (g 31)) hx hb hts hinX5 hown hK hH (lv_md (by decide) (by decide)) (cel_md (by omega) (by omega)) rfl 22 (by decide) (hts (.fieldLink RX5 71 "SelectoRouteModel" "asked" "[I") (by decide +kernel)) (fun _ h => h) rfl dX5_change_157 ?_
                refine lv_bipush (v := 100) hx hb dX5_change_160 (by decide) ?_
                refine lv_iload_n hx hb dX5_change_162 rfl (lv_at hl 3 rfl) ?_
                refine lv_imul hx hb dX5_change_163 ?_
                refine lv_tope (pk_mul 100 jb) ?_
                refine lv_aload_n hx hb dX5_change_164 rfl (lv_at hl 2 rfl) ?_
                refine wr_get (T := TX5) (N := 30) (ci := 7) (v := .ref (g 11)) hx hb hts hinX5 hown hK hH (lv_md (by decide) (by decide)) (cel_md (by omega) (by omega)) rfl 0 (by decide) (hts (.fieldLink RX5 7 "SelectoRouteModel" "song" "[I") (by decide +kernel)) (fun _ h => h) rfl dX5_change_165 ?_
                refine lv_iload_n hx hb dX5_change_168 rfl (lv_at hl 5 rfl) ?_
                refine wr_iald (v := nI (y.1 12 jv)) hx hb hK hH (lv_md (by decide) (by decide)) (cel_md (by decide) (by decide)) 0 rfl (vp_in_nI (n := jv) (N := 30) (by omega) (by decide)) (by rw [(nI_clamp (n := jv) (by omega))]; try rfl) dX5_change_169 ?_
                refine lv_iadd hx hb dX5_change_170 ?_
                refine lv_tope (nI_add (100 * jb) (y.1 12 jv)) ?_
                refine lv_iconst (v := 0) hx hb dX5_change_171 (by decide) ?_
                refine wr_iast hx hb hK hH hS (lv_md (by decide) (by decide)) (cel_md (by decide) (by decide)) 0 rfl (vp_in_nI (n := ((100 * jb) + (y.1 12 jv))) (N := 400) (by have q0 := hm12 jv; omega) (by decide)) dX5_change_172 (fun H locs hH hS => ?_)
                have hH : wHS E o g x (uI (uN (uI (uN (uN (uI (uI (uI y 28 0 0) 28 0 0) 17 0 v14) 8 ((y.1 7 ((10 * jb) + jk)) - 1) 1) 7 ((10 * jb) + jk) (jv + 1)) 14 ((10 * jb) + jk) 0) 8 jv (((10 * jb) + jk) + 2)) 15 ((100 * jb) + (y.1 12 jv)) 0) H := pa_asked (v := 0) (nI_clamp (n := ((100 * jb) + (y.1 12 jv))) (by have q0 := hm12 jv; omega)) hH
                refine lv_iload hx hb dX5_change_173 (lv_at hl 0 rfl) ?_
                subst ev14
                have hsp : mp_change y (nI jb) (nI jk) (nI jv) = ((nI ((y.1 7 ((10 * jb) + jk)) - 1)), (uI (uN (uI (uN (uN (uI (uI (uI y 28 0 0) 28 0 0) 17 0 ((y.2 17 0) - 10)) 8 ((y.1 7 ((10 * jb) + jk)) - 1) 1) 7 ((10 * jb) + jk) (jv + 1)) 14 ((10 * jb) + jk) 0) 8 jv (((10 * jb) + jk) + 2)) 15 ((100 * jb) + (y.1 12 jv)) 0)) := by
                  unfold mp_change
                  first | (simp only [c1, c1_s, c2, c8, c9, c10, c11, c12, inB_nI hjb (by omega), ix_nI (show jb < 2 ^ 31 by omega), inB_nI hjk (by omega), ix_nI (show jk < 2 ^ 31 by omega), inB_nI hjv (by omega), ix_nI (show jv < 2 ^ 31 by omega), ↓reduceIte, and_self, and_true, true_and, Bool.false_eq_true, reduceCtorEq, eq_self, false_and, and_false]; done) | (simp [c1, c1_s, c2, c8, c9, c10, c11, c12, inB_nI hjb (by omega), ix_nI (show jb < 2 ^ 31 by omega), inB_nI hjk (by omega), ix_nI (show jk < 2 ^ 31 by omega), inB_nI hjv (by omega), ix_nI (show jv < 2 ^ 31 by omega), ↓reduceIte, and_self, and_true, true_and, Bool.false_eq_true, reduceCtorEq, eq_self, false_and, and_false]; done) | simp only [c1, c1_s, c2, c8, c9, c10, c11, c12, inB_nI hjb (by omega), ix_nI (show jb < 2 ^ 31 by omega), inB_nI hjk (by omega), ix_nI (show jk < 2 ^ 31 by omega), inB_nI hjv (by omega), ix_nI (show jv < 2 ^ 31 by omega), ↓reduceIte, and_self, and_true, true_and, Bool.false_eq_true, reduceCtorEq, eq_self, false_and, and_false]
                exact W.iret (v := (nI ((y.1 7 ((10 * jb) + jk)) - 1))) hx hb hr (fun t ht hW => ⟨⟨(nI ((y.1 7 ((10 * jb) + jk)) - 1)), (), rfl, (by rw [hsp]), wHS_t ht (by rw [hsp]; exact hH)⟩, hS.F ht⟩) hS.2.2 dX5_change_175
          · have c10 : ¬ ((y.1 8 jv) = 1) := c10
            refine lv_if_eq (tgt := 73) hx hb dX5_change_57 (by decide) (fun _ => ?_) (fun hq => absurd (show (0 : Int32) = 0 by decide) hq)
            refine lv_iconst (v := 0) hx hb dX5_change_73 (by decide) ?_
            refine lv_iconst (v := 2) hx hb dX5_change_74 (by decide) ?_
            refine va_calli (va_runV (As := [.int 0, .int 2]) (rest := []) ⟨hx, hb, hml, hown, hts⟩ (met_X5_no0 l E o g x (uI y 28 0 0) 2) (cwV 2 hts gX5_change_X5_no rfl rfl rfl (by decide +kernel) ⟨Nat.le_of_ble_eq_true rfl, Nat.le_of_ble_eq_true rfl⟩) ⟨fun a U f mk q => ⟨q.1, wPre.calling q.2 a f mk⟩, (va_recv hK (wH_one hH (lv_md (by decide) (by decide)) (cel_md (by omega) (by omega))) (ci := 7) (q0 := 0) rfl rfl), fun U hU hW => ⟨rfl, wPre_at hz hS hH hK U hU hW⟩⟩ rfl rfl hl.1 rfl (lv_room (Nat.le_of_ble_eq_true rfl)) dX5_change_75 ⟨Nat.le_of_ble_eq_true rfl, Nat.le_of_ble_eq_true rfl⟩) hS (fun q _ h => h) (fun q h => h) (fun r u t H locs ht hvm hw hB hz1 hk1 hS => ?_)
            have hB := wHS_h ht hB
            try dsimp only at hw
            obtain rfl := hw
            have hH := hB
            refine lv_if_eq (tgt := 83) hx hb dX5_change_78 (by decide) (fun hq => absurd hq (show ¬ (1 : Int32) = 0 by decide)) (fun _ => ?_)
            refine lv_iconst (v := 0) hx hb dX5_change_81 (by decide) ?_
            have hsp : mp_change y (nI jb) (nI jk) (nI jv) = (0, (uI (uI y 28 0 0) 28 0 2)) := by
              unfold mp_change
              first | (simp only [c1, c1_s, c2, c8, c9, c10, inB_nI hjb (by omega), ix_nI (show jb < 2 ^ 31 by omega), inB_nI hjk (by omega), ix_nI (show jk < 2 ^ 31 by omega), inB_nI hjv (by omega), ix_nI (show jv < 2 ^ 31 by omega), ↓reduceIte, and_self, and_true, true_and, Bool.false_eq_true, reduceCtorEq, eq_self, false_and, and_false]; done) | (simp [c1, c1_s, c2, c8, c9, c10, inB_nI hjb (by omega), ix_nI (show jb < 2 ^ 31 by omega), inB_nI hjk (by omega), ix_nI (show jk < 2 ^ 31 by omega), inB_nI hjv (by omega), ix_nI (show jv < 2 ^ 31 by omega), ↓reduceIte, and_self, and_true, true_and, Bool.false_eq_true, reduceCtorEq, eq_self, false_and, and_false]; done) | simp only [c1, c1_s, c2, c8, c9, c10, inB_nI hjb (by omega), ix_nI (show jb < 2 ^ 31 by omega), inB_nI hjk (by omega), ix_nI (show jk < 2 ^ 31 by omega), inB_nI hjv (by omega), ix_nI (show jv < 2 ^ 31 by omega), ↓reduceIte, and_self, and_true, true_and, Bool.false_eq_true, reduceCtorEq, eq_self, false_and, and_false]
            exact W.iret (v := 0) hx hb hr (fun t ht hW => ⟨⟨0, (), rfl, (by rw [hsp]), wHS_t ht (by rw [hsp]; exact hH)⟩, hS.F ht⟩) hS.2.2 dX5_change_82
      · have c8 : inB v (y.1 0 0) = false := c8
        refine lv_if_eq (tgt := 27) hx hb dX5_change_20 (by decide) (fun _ => ?_) (fun hq => absurd (show (0 : Int32) = 0 by decide) hq)
        refine lv_iconst (v := 0) hx hb dX5_change_27 (by decide) ?_
        refine lv_iconst (v := 1) hx hb dX5_change_28 (by decide) ?_
        refine va_calli (va_runV (As := [.int 0, .int 1]) (rest := []) ⟨hx, hb, hml, hown, hts⟩ (met_X5_no0 l E o g x y 1) (cwV 2 hts gX5_change_X5_no rfl rfl rfl (by decide +kernel) ⟨Nat.le_of_ble_eq_true rfl, Nat.le_of_ble_eq_true rfl⟩) ⟨fun a U f mk q => ⟨q.1, wPre.calling q.2 a f mk⟩, (va_recv hK (wH_one hH (lv_md (by decide) (by decide)) (cel_md (by omega) (by omega))) (ci := 7) (q0 := 0) rfl rfl), fun U hU hW => ⟨rfl, wPre_at hz hS hH hK U hU hW⟩⟩ rfl rfl hl.1 rfl (lv_room (Nat.le_of_ble_eq_true rfl)) dX5_change_29 ⟨Nat.le_of_ble_eq_true rfl, Nat.le_of_ble_eq_true rfl⟩) hS (fun q _ h => h) (fun q h => h) (fun r u t H locs ht hvm hw hB hz1 hk1 hS => ?_)
        have hB := wHS_h ht hB
        try dsimp only at hw
        obtain rfl := hw
        have hH := hB
        refine lv_if_eq (tgt := 37) hx hb dX5_change_32 (by decide) (fun hq => absurd hq (show ¬ (1 : Int32) = 0 by decide)) (fun _ => ?_)
        refine lv_iconst (v := 0) hx hb dX5_change_35 (by decide) ?_
        have hsp : mp_change y (nI jb) (nI jk) v = (0, (uI y 28 0 1)) := by
          unfold mp_change
          first | (simp only [c1, c1_s, c2, (Bool.eq_false_iff.mp c8), inB_nI hjb (by omega), ix_nI (show jb < 2 ^ 31 by omega), inB_nI hjk (by omega), ix_nI (show jk < 2 ^ 31 by omega), ↓reduceIte, and_self, and_true, true_and, Bool.false_eq_true, reduceCtorEq, eq_self, false_and, and_false]; done) | (simp [c1, c1_s, c2, (Bool.eq_false_iff.mp c8), inB_nI hjb (by omega), ix_nI (show jb < 2 ^ 31 by omega), inB_nI hjk (by omega), ix_nI (show jk < 2 ^ 31 by omega), ↓reduceIte, and_self, and_true, true_and, Bool.false_eq_true, reduceCtorEq, eq_self, false_and, and_false]; done) | simp only [c1, c1_s, c2, (Bool.eq_false_iff.mp c8), inB_nI hjb (by omega), ix_nI (show jb < 2 ^ 31 by omega), inB_nI hjk (by omega), ix_nI (show jk < 2 ^ 31 by omega), ↓reduceIte, and_self, and_true, true_and, Bool.false_eq_true, reduceCtorEq, eq_self, false_and, and_false]
        exact W.iret (v := 0) hx hb hr (fun t ht hW => ⟨⟨0, (), rfl, (by rw [hsp]), wHS_t ht (by rw [hsp]; exact hH)⟩, hS.F ht⟩) hS.2.2 dX5_change_36
  · skip
    refine lv_if_eq (tgt := 27) hx hb dX5_change_7 (by decide) (fun _ => ?_) (fun hq => absurd (show (0 : Int32) = 0 by decide) hq)
    refine lv_iconst (v := 0) hx hb dX5_change_27 (by decide) ?_
    refine lv_iconst (v := 1) hx hb dX5_change_28 (by decide) ?_
    refine va_calli (va_runV (As := [.int 0, .int 1]) (rest := []) ⟨hx, hb, hml, hown, hts⟩ (met_X5_no0 l E o g x y 1) (cwV 2 hts gX5_change_X5_no rfl rfl rfl (by decide +kernel) ⟨Nat.le_of_ble_eq_true rfl, Nat.le_of_ble_eq_true rfl⟩) ⟨fun a U f mk q => ⟨q.1, wPre.calling q.2 a f mk⟩, (va_recv hK (wH_one hH (lv_md (by decide) (by decide)) (cel_md (by omega) (by omega))) (ci := 7) (q0 := 0) rfl rfl), fun U hU hW => ⟨rfl, wPre_at hz hS hH hK U hU hW⟩⟩ rfl rfl hl.1 rfl (lv_room (Nat.le_of_ble_eq_true rfl)) dX5_change_29 ⟨Nat.le_of_ble_eq_true rfl, Nat.le_of_ble_eq_true rfl⟩) hS (fun q _ h => h) (fun q h => h) (fun r u t H locs ht hvm hw hB hz1 hk1 hS => ?_)
    have hB := wHS_h ht hB
    try dsimp only at hw
    obtain rfl := hw
    have hH := hB
    refine lv_if_eq (tgt := 37) hx hb dX5_change_32 (by decide) (fun hq => absurd hq (show ¬ (1 : Int32) = 0 by decide)) (fun _ => ?_)
    refine lv_iconst (v := 0) hx hb dX5_change_35 (by decide) ?_
    have hsp : mp_change y b k v = (0, (uI y 28 0 1)) := by
      unfold mp_change
      first | (simp only [c1, ↓reduceIte, and_self, and_true, true_and, Bool.false_eq_true, reduceCtorEq, eq_self, false_and, and_false]; done) | (simp [c1, ↓reduceIte, and_self, and_true, true_and, Bool.false_eq_true, reduceCtorEq, eq_self, false_and, and_false]; done) | simp only [c1, ↓reduceIte, and_self, and_true, true_and, Bool.false_eq_true, reduceCtorEq, eq_self, false_and, and_false]
    exact W.iret (v := 0) hx hb hr (fun t ht hW => ⟨⟨0, (), rfl, (by rw [hsp]), wHS_t ht (by rw [hsp]; exact hH)⟩, hS.F ht⟩) hS.2.2 dX5_change_36
def mp_wears (y : St) (a : Nat) (n : Int32) : St := (uI (uI (uI (uI y 14 a ((y.2 14 a) + n)) 11 (a / 10) ((y.2 11 (a / 10)) + n)) 3 ((y.1 7 a) - 1) ((y.2 3 ((y.1 7 a) - 1)) + (n * (1 + ((y.2 9 (a / 10)) / 40))))) 9 (a / 10) ((y.2 9 (a / 10)) + n))
set_option maxHeartbeats 4000000 in
set_option maxRecDepth 100000 in
theorem met_X5_wears (l : Launch) (E : wE) (o : wO) (g : Nat → Nat) (x y : St) (a : Nat) (n : Int32) (hI : MI y) (ha : a < 40) (h7 : y.1 7 a ≠ 0) : Met l yX5_wears wsX5_wears ({ frames := 0, cells := 0, slots := 0, locals := 0 } : Room) (va_Pc [.ref (g 10), .int (nI a), .int n] (wPre E o g x y)) (va_Qv (fun (_ : Unit) => True) (fun (_ : Unit) t => wHS E o g x (mp_wears y a n) t.heap) (wA E)) 0 0 (wA E) := by
  refine Met.ofW (cc := cX5_wears) (maxL := 5) (ret := none) (by decide) rfl ?_
  intro p e s m args below meth c s₁ B hml hv
  obtain ⟨rfl, hz, hH, hK⟩ := hv
  have hx := B.exec
  have hb := B.bytes
  have hr := B.returns
  have hts := atoms_spec (ws := wsX5_wears) B.pre
  have hown : s.vm.findClass RX5 = some m.cls := findClass_of_methodNamed B.named
  have hlocks := B.notSynchronized
  have hS : va_S (wA E) s.heap s.heap [] := va_S.rf
  have hinX5 : ∀ w ∈ wsX50, w ∈ wsX5_wears := fun w h => List.mem_cons_of_mem _ (List.mem_append_left _ (List.mem_append_right _ h))
  have hl := lv_entry ([.ref (g 10), .int (nI a), .int n]) (n := 5) (Nat.le_of_ble_eq_true rfl)
  rw [lg_entry_eq]
  generalize (lg_sl ([.ref (g 10), .int (nI a), .int n]) ++ List.replicate (5 - (lg_sl ([.ref (g 10), .int (nI a), .int n])).length) Slot.unset).toArray = ls at hl ⊢
  have hl : lv_has ls 5 [(0, .ref (g 10)), (1, .int (nI a)), (2, .int n)] := hl
  obtain ⟨H, eH⟩ : ∃ z, z = s.heap := ⟨_, rfl⟩
  have hH : wHS E o g x y H := by rw [eH]; exact hH
  have hS : va_S (wA E) s.heap H [] := by rw [eH]; exact hS
  refine W.heapTo eH ?_
  obtain ⟨hm0, hm1, hm7, hm8, hm5, hm6, hm9, hm12, hm11⟩ := id hI
  refine lv_iload_n hx hb dX5_wears_0 rfl (lv_at hl 1 rfl) ?_
  refine lv_bipush (v := 10) hx hb dX5_wears_1 (by decide) ?_
  refine lv_idiv hx hb dX5_wears_3 (by decide) ?_
  refine lv_tope (pk_div (a := a) (d := 10) (by omega) (by decide) (by decide)) ?_
  refine lv_istore_n (lv' := [(3, .int (nI (a / 10))), (0, .ref (g 10)), (1, .int (nI a)), (2, .int n)]) hx hb dX5_wears_4 rfl hl (by decide) rfl (fun ls hl => ?_)
  refine lv_aload_n hx hb dX5_wears_5 rfl (lv_at hl 1 rfl) ?_
  refine wr_get (T := TX5) (N := 30) (ci := 7) (v := .ref (g 29)) hx hb hts hinX5 hown hK hH (lv_md (by decide) (by decide)) (cel_md (by omega) (by omega)) rfl 20 (by decide) (hts (.fieldLink RX5 65 "SelectoRouteModel" "slots" "[I") (by decide +kernel)) (fun _ h => h) rfl dX5_wears_6 ?_
  refine lv_iload_n hx hb dX5_wears_9 rfl (lv_at hl 2 rfl) ?_
  refine wr_iald (v := nI (y.1 7 a)) hx hb hK hH (lv_md (by decide) (by decide)) (cel_md (by decide) (by decide)) 0 rfl (vp_in_nI (n := a) (N := 40) (by omega) (by decide)) (by rw [(nI_clamp (n := a) (by omega))]; try rfl) dX5_wears_10 ?_
  refine lv_iconst (v := 1) hx hb dX5_wears_11 (by decide) ?_
  refine lv_isub hx hb dX5_wears_12 ?_
  refine lv_tope (pk_sub (a := (y.1 7 a)) (b := 1) (by have q0 := hm7 a; omega)) ?_
  refine lv_istore (lv' := [(4, .int (nI ((y.1 7 a) - 1))), (3, .int (nI (a / 10))), (0, .ref (g 10)), (1, .int (nI a)), (2, .int n)]) hx hb dX5_wears_13 hl (by decide) rfl (fun ls hl => ?_)
  refine lv_aload_n hx hb dX5_wears_15 rfl (lv_at hl 2 rfl) ?_
  refine wr_get (T := TX5) (N := 30) (ci := 7) (v := .ref (g 30)) hx hb hts hinX5 hown hK hH (lv_md (by decide) (by decide)) (cel_md (by omega) (by omega)) rfl 21 (by decide) (hts (.fieldLink RX5 68 "SelectoRouteModel" "wheel" "[I") (by decide +kernel)) (fun _ h => h) rfl dX5_wears_16 ?_
  refine lv_iload_n hx hb dX5_wears_19 rfl (lv_at hl 3 rfl) ?_
  refine lv_dup2_11 hx hb dX5_wears_20 rfl rfl ?_
  refine wr_iald (v := (y.2 14 a)) hx hb hK hH (lv_md (by decide) (by decide)) (cel_md (by decide) (by decide)) 0 rfl (vp_in_nI (n := a) (N := 40) (by omega) (by decide)) (by rw [(nI_clamp (n := a) (by omega))]; try rfl) dX5_wears_21 ?_
  refine lv_iload_n hx hb dX5_wears_22 rfl (lv_at hl 4 rfl) ?_
  refine lv_iadd hx hb dX5_wears_23 ?_
  refine lv_topi (fun v1 ev1 => ?_)
  refine wr_iast hx hb hK hH hS (lv_md (by decide) (by decide)) (cel_md (by decide) (by decide)) 0 rfl (vp_in_nI (n := a) (N := 40) (by omega) (by decide)) dX5_wears_24 (fun H locs hH hS => ?_)
  have hH : wHS E o g x (uI y 14 a v1) H := pa_wheel (v := v1) (nI_clamp (n := a) (by omega)) hH
  refine lv_aload_n hx hb dX5_wears_25 rfl (lv_at hl 2 rfl) ?_
  refine wr_get (T := TX5) (N := 30) (ci := 7) (v := .ref (g 24)) hx hb hts hinX5 hown hK hH (lv_md (by decide) (by decide)) (cel_md (by omega) (by omega)) rfl 14 (by decide) (hts (.fieldLink RX5 49 "SelectoRouteModel" "plays" "[I") (by decide +kernel)) (fun _ h => h) rfl dX5_wears_26 ?_
  refine lv_iload_n hx hb dX5_wears_29 rfl (lv_at hl 1 rfl) ?_
  refine lv_dup2_11 hx hb dX5_wears_30 rfl rfl ?_
  refine wr_iald (v := (y.2 11 (a / 10))) hx hb hK hH (lv_md (by decide) (by decide)) (cel_md (by decide) (by decide)) 0 rfl (vp_in_nI (n := (a / 10)) (N := 4) (by omega) (by decide)) (by rw [(nI_clamp (n := (a / 10)) (by omega))]; try rfl) dX5_wears_31 ?_
  refine lv_iload_n hx hb dX5_wears_32 rfl (lv_at hl 4 rfl) ?_
  refine lv_iadd hx hb dX5_wears_33 ?_
  refine lv_topi (fun v2 ev2 => ?_)
  refine wr_iast hx hb hK hH hS (lv_md (by decide) (by decide)) (cel_md (by decide) (by decide)) 0 rfl (vp_in_nI (n := (a / 10)) (N := 4) (by omega) (by decide)) dX5_wears_34 (fun H locs hH hS => ?_)
  have hH : wHS E o g x (uI (uI y 14 a v1) 11 (a / 10) v2) H := pa_plays (v := v2) (nI_clamp (n := (a / 10)) (by omega)) hH
  refine lv_aload_n hx hb dX5_wears_35 rfl (lv_at hl 2 rfl) ?_
  refine wr_get (T := TX5) (N := 30) (ci := 7) (v := .ref (g 14)) hx hb hts hinX5 hown hK hH (lv_md (by decide) (by decide)) (cel_md (by omega) (by omega)) rfl 3 (by decide) (hts (.fieldLink RX5 19 "SelectoRouteModel" "wear" "[I") (by decide +kernel)) (fun _ h => h) rfl dX5_wears_36 ?_
  refine lv_iload hx hb dX5_wears_39 (lv_at hl 0 rfl) ?_
  refine lv_dup2_11 hx hb dX5_wears_41 rfl rfl ?_
  refine wr_iald (v := (y.2 3 ((y.1 7 a) - 1))) hx hb hK hH (lv_md (by decide) (by decide)) (cel_md (by decide) (by decide)) 0 rfl (vp_in_nI (n := ((y.1 7 a) - 1)) (N := 30) (by have q0 := hm7 a; omega) (by decide)) (by rw [(nI_clamp (n := ((y.1 7 a) - 1)) (by have q0 := hm7 a; omega))]; try rfl) dX5_wears_42 ?_
  refine lv_iload_n hx hb dX5_wears_43 rfl (lv_at hl 4 rfl) ?_
  refine lv_iconst (v := 1) hx hb dX5_wears_44 (by decide) ?_
  refine lv_aload_n hx hb dX5_wears_45 rfl (lv_at hl 2 rfl) ?_
  refine wr_get (T := TX5) (N := 30) (ci := 7) (v := .ref (g 21)) hx hb hts hinX5 hown hK hH (lv_md (by decide) (by decide)) (cel_md (by omega) (by omega)) rfl 11 (by decide) (hts (.fieldLink RX5 40 "SelectoRouteModel" "needle" "[I") (by decide +kernel)) (fun _ h => h) rfl dX5_wears_46 ?_
  refine lv_iload_n hx hb dX5_wears_49 rfl (lv_at hl 1 rfl) ?_
  refine wr_iald (v := (y.2 9 (a / 10))) hx hb hK hH (lv_md (by decide) (by decide)) (cel_md (by decide) (by decide)) 0 rfl (vp_in_nI (n := (a / 10)) (N := 4) (by omega) (by decide)) (by rw [(nI_clamp (n := (a / 10)) (by omega))]; try rfl) dX5_wears_50 ?_
  refine lv_bipush (v := 40) hx hb dX5_wears_51 (by decide) ?_
  refine lv_idiv hx hb dX5_wears_53 (by decide) ?_
  refine lv_iadd hx hb dX5_wears_54 ?_
  refine lv_imul hx hb dX5_wears_55 ?_
  refine lv_iadd hx hb dX5_wears_56 ?_
  refine lv_topi (fun v3 ev3 => ?_)
  refine wr_iast hx hb hK hH hS (lv_md (by decide) (by decide)) (cel_md (by decide) (by decide)) 0 rfl (vp_in_nI (n := ((y.1 7 a) - 1)) (N := 30) (by have q0 := hm7 a; omega) (by decide)) dX5_wears_57 (fun H locs hH hS => ?_)
  have hH : wHS E o g x (uI (uI (uI y 14 a v1) 11 (a / 10) v2) 3 ((y.1 7 a) - 1) v3) H := pa_wear (v := v3) (nI_clamp (n := ((y.1 7 a) - 1)) (by have q0 := hm7 a; omega)) hH
  refine lv_aload_n hx hb dX5_wears_58 rfl (lv_at hl 2 rfl) ?_
  refine wr_get (T := TX5) (N := 30) (ci := 7) (v := .ref (g 21)) hx hb hts hinX5 hown hK hH (lv_md (by decide) (by decide)) (cel_md (by omega) (by omega)) rfl 11 (by decide) (hts (.fieldLink RX5 40 "SelectoRouteModel" "needle" "[I") (by decide +kernel)) (fun _ h => h) rfl dX5_wears_59 ?_
  refine lv_iload_n hx hb dX5_wears_62 rfl (lv_at hl 1 rfl) ?_
  refine lv_dup2_11 hx hb dX5_wears_63 rfl rfl ?_
  refine wr_iald (v := (y.2 9 (a / 10))) hx hb hK hH (lv_md (by decide) (by decide)) (cel_md (by decide) (by decide)) 0 rfl (vp_in_nI (n := (a / 10)) (N := 4) (by omega) (by decide)) (by rw [(nI_clamp (n := (a / 10)) (by omega))]; try rfl) dX5_wears_64 ?_
  refine lv_iload_n hx hb dX5_wears_65 rfl (lv_at hl 4 rfl) ?_
  refine lv_iadd hx hb dX5_wears_66 ?_
  refine lv_topi (fun v4 ev4 => ?_)
  refine wr_iast hx hb hK hH hS (lv_md (by decide) (by decide)) (cel_md (by decide) (by decide)) 0 rfl (vp_in_nI (n := (a / 10)) (N := 4) (by omega) (by decide)) dX5_wears_67 (fun H locs hH hS => ?_)
  have hH : wHS E o g x (uI (uI (uI (uI y 14 a v1) 11 (a / 10) v2) 3 ((y.1 7 a) - 1) v3) 9 (a / 10) v4) H := pa_needle (v := v4) (nI_clamp (n := (a / 10)) (by omega)) hH
  subst ev4
  subst ev3
  subst ev2
  subst ev1
  have hsp : mp_wears y a n = (uI (uI (uI (uI y 14 a ((y.2 14 a) + n)) 11 (a / 10) ((y.2 11 (a / 10)) + n)) 3 ((y.1 7 a) - 1) ((y.2 3 ((y.1 7 a) - 1)) + (n * (1 + ((y.2 9 (a / 10)) / 40))))) 9 (a / 10) ((y.2 9 (a / 10)) + n)) := by
    unfold mp_wears
    first | (simp only [↓reduceIte, and_self, and_true, true_and, Bool.false_eq_true, reduceCtorEq, eq_self, false_and, and_false]; done) | (simp [↓reduceIte, and_self, and_true, true_and, Bool.false_eq_true, reduceCtorEq, eq_self, false_and, and_false]; done) | simp only [↓reduceIte, and_self, and_true, true_and, Bool.false_eq_true, reduceCtorEq, eq_self, false_and, and_false]
  exact W.vret hx hb hr (fun t ht hW => ⟨⟨(), rfl, trivial, wHS_t ht (by rw [hsp]; exact hH)⟩, hS.F ht⟩) hS.2.2 dX5_wears_68
