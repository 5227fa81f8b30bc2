/-! ===== the model's methods ===== -/
theorem nz_le {n : Nat} (h : n < 2 ^ 31) : nI n ≤ 0 ↔ n = 0 := by
  rw [show (0 : Int32) = nI 0 from rfl, nI_leI h (by decide)]
  omega
theorem pl_in (n : Nat) : nI (n + 2) - 2 = nI n := by
  rw [show (2 : Int32) = nI 2 from rfl, pk_sub (by omega), Nat.add_sub_cancel]
theorem in_box {x : Int32} {n : Nat} (hn : n ≤ 1000) : (0 ≤ x ∧ x ≤ nI n - 1) ↔ inB x n = true := by
  have h1 : (nI n - 1).toInt = (n : Int) - 1 := by
    have := pk_sub_toInt (a := n) (b := 1) (by omega) (by decide)
    exact this
  rw [inB_vp, vp_in_iff, Int32.le_iff_toInt_le, Int32.le_iff_toInt_le, h1]
  have h0 : (0 : Int32).toInt = 0 := rfl
  rw [h0]
  omega
theorem in_ten {x : Int32} : (0 ≤ x ∧ x ≤ 9) ↔ inB x 10 = true := by
  rw [inB_vp, vp_in_iff, Int32.le_iff_toInt_le, Int32.le_iff_toInt_le]
  have h0 : (0 : Int32).toInt = 0 := rfl
  have h9 : (9 : Int32).toInt = 9 := rfl
  rw [h0, h9]
  omega
set_option maxHeartbeats 4000000 in
set_option maxRecDepth 100000 in
theorem met_X5_no1 (l : Launch) (E : wE) (o : wO) (g : Nat → Nat) (x y : St) (k : Int32) : Met l yX5_no wsX5_no ({ frames := 0, cells := 0, slots := 0, locals := 0 } : Room) (va_Pc [.ref (g 10), .int 1, .int k] (wPre E o g x y)) (va_Qi (fun (r : Int32) (_ : Unit) => r = 0) (fun (_ : Unit) t => wHS E o g x (uI y 28 0 0) t.heap) (wA E)) 0 0 (wA E) := by
  refine Met.ofW (cc := cX5_no) (maxL := 3) (ret := (some .boolean)) (by decide) rfl ?_
  intro p e s m args below meth c s₁ B hml hv
  obtain ⟨rfl, hz, hH, hK⟩ := hv
  have hx := B.exec
  have hb := B.bytes
  have hr := B.returns
  have hts := atoms_spec (ws := wsX5_no) B.pre
  have hown : s.vm.findClass RX5 = some m.cls := findClass_of_methodNamed B.named
  have hlocks := B.notSynchronized
  have hS : va_S (wA E) s.heap s.heap [] := va_S.rf
  have hinX5 : ∀ w ∈ wsX50, w ∈ wsX5_no := fun w h => List.mem_cons_of_mem _ (List.mem_append_right _ h)
  have hl := lv_entry ([.ref (g 10), .int 1, .int k]) (n := 3) (Nat.le_of_ble_eq_true rfl)
  rw [lg_entry_eq]
  generalize (lg_sl ([.ref (g 10), .int 1, .int k]) ++ List.replicate (3 - (lg_sl ([.ref (g 10), .int 1, .int k])).length) Slot.unset).toArray = ls at hl ⊢
  have hl : lv_has ls 3 [(0, .ref (g 10)), (1, .int 1), (2, .int k)] := hl
  obtain ⟨H, eH⟩ : ∃ z, z = s.heap := ⟨_, rfl⟩
  have hH : wHS E o g x y H := by rw [eH]; exact hH
  have hS : va_S (wA E) s.heap H [] := by rw [eH]; exact hS
  refine W.heapTo eH ?_
  refine lv_aload_n hx hb dX5_no_0 rfl (lv_at hl 0 rfl) ?_
  refine lv_iload_n hx hb dX5_no_1 rfl (lv_at hl 1 rfl) ?_
  refine lv_if_eq (tgt := 9) hx hb dX5_no_2 (by decide) (fun hq => absurd hq (show ¬ (1 : Int32) = 0 by decide)) (fun _ => ?_)
  refine lv_iconst (v := 0) hx hb dX5_no_5 (by decide) ?_
  refine lv_goto (tgt := 10) hx hb dX5_no_6 (by decide) ?_
  refine wr_put (T := TX5) (N := 30) (ci := 7) (v := .int 0) hx hb hts hinX5 tyX5 tyX5_ok nmX5 hown hK hH hS (lv_md (by decide) (by decide)) (cel_md (by omega) (by omega)) rfl 29 (by decide) (hts (.fieldLink RX5 87 "SelectoRouteModel" "thrown" "I") (by decide +kernel)) (fun _ h => h) rfl (ty := .int) (by decide +kernel) rfl rfl (Nat.le_of_ble_eq_true rfl) dX5_no_10 (fun H locs hH hS => ?_)
  have hH : wHS E o g x (uI y 28 0 0) H := pm_thrown hH
  refine lv_iload_n hx hb dX5_no_13 rfl (lv_at hl 1 rfl) ?_
  refine lv_if_ne (tgt := 21) hx hb dX5_no_14 (by decide) (fun _ => ?_) (fun hq => absurd hq (show ¬ (1 : Int32) = 0 by decide))
  refine lv_iconst (v := 0) hx hb dX5_no_21 (by decide) ?_
  exact W.zret (v := 0) hx hb hr rfl (fun t ht hW => ⟨⟨0, (), rfl, rfl, wHS_t ht hH⟩, hS.F ht⟩) hS.2.2 dX5_no_22
set_option maxHeartbeats 4000000 in
set_option maxRecDepth 100000 in
theorem met_X5_no0 (l : Launch) (E : wE) (o : wO) (g : Nat → Nat) (x y : St) (k : Int32) : Met l yX5_no wsX5_no ({ frames := 0, cells := 0, slots := 0, locals := 0 } : Room) (va_Pc [.ref (g 10), .int 0, .int k] (wPre E o g x y)) (va_Qi (fun (r : Int32) (_ : Unit) => r = 1) (fun (_ : Unit) t => wHS E o g x (uI y 28 0 k) t.heap) (wA E)) 0 0 (wA E) := by
  refine Met.ofW (cc := cX5_no) (maxL := 3) (ret := (some .boolean)) (by decide) rfl ?_
  intro p e s m args below meth c s₁ B hml hv
  obtain ⟨rfl, hz, hH, hK⟩ := hv
  have hx := B.exec
  have hb := B.bytes
  have hr := B.returns
  have hts := atoms_spec (ws := wsX5_no) B.pre
  have hown : s.vm.findClass RX5 = some m.cls := findClass_of_methodNamed B.named
  have hlocks := B.notSynchronized
  have hS : va_S (wA E) s.heap s.heap [] := va_S.rf
  have hinX5 : ∀ w ∈ wsX50, w ∈ wsX5_no := fun w h => List.mem_cons_of_mem _ (List.mem_append_right _ h)
  have hl := lv_entry ([.ref (g 10), .int 0, .int k]) (n := 3) (Nat.le_of_ble_eq_true rfl)
  rw [lg_entry_eq]
  generalize (lg_sl ([.ref (g 10), .int 0, .int k]) ++ List.replicate (3 - (lg_sl ([.ref (g 10), .int 0, .int k])).length) Slot.unset).toArray = ls at hl ⊢
  have hl : lv_has ls 3 [(0, .ref (g 10)), (1, .int 0), (2, .int k)] := hl
  obtain ⟨H, eH⟩ : ∃ z, z = s.heap := ⟨_, rfl⟩
  have hH : wHS E o g x y H := by rw [eH]; exact hH
  have hS : va_S (wA E) s.heap H [] := by rw [eH]; exact hS
  refine W.heapTo eH ?_
  refine lv_aload_n hx hb dX5_no_0 rfl (lv_at hl 0 rfl) ?_
  refine lv_iload_n hx hb dX5_no_1 rfl (lv_at hl 1 rfl) ?_
  refine lv_if_eq (tgt := 9) hx hb dX5_no_2 (by decide) (fun _ => ?_) (fun hq => absurd (show (0 : Int32) = 0 by decide) hq)
  refine lv_iload_n hx hb dX5_no_9 rfl (lv_at hl 2 rfl) ?_
  refine wr_put (T := TX5) (N := 30) (ci := 7) (v := .int k) hx hb hts hinX5 tyX5 tyX5_ok nmX5 hown hK hH hS (lv_md (by decide) (by decide)) (cel_md (by omega) (by omega)) rfl 29 (by decide) (hts (.fieldLink RX5 87 "SelectoRouteModel" "thrown" "I") (by decide +kernel)) (fun _ h => h) rfl (ty := .int) (by decide +kernel) rfl rfl (Nat.le_of_ble_eq_true rfl) dX5_no_10 (fun H locs hH hS => ?_)
  have hH : wHS E o g x (uI y 28 0 k) H := pm_thrown hH
  refine lv_iload_n hx hb dX5_no_13 rfl (lv_at hl 1 rfl) ?_
  refine lv_if_ne (tgt := 21) hx hb dX5_no_14 (by decide) (fun hq => absurd (show (0 : Int32) = 0 by decide) hq) (fun _ => ?_)
  refine lv_iconst (v := 1) hx hb dX5_no_17 (by decide) ?_
  refine lv_goto (tgt := 22) hx hb dX5_no_18 (by decide) ?_
  exact W.zret (v := 1) hx hb hr rfl (fun t ht hW => ⟨⟨1, (), rfl, rfl, wHS_t ht hH⟩, hS.F ht⟩) hS.2.2 dX5_no_22
set_option maxHeartbeats 4000000 in
set_option maxRecDepth 100000 in
theorem met_X5_isIn (l : Launch) (E : wE) (o : wO) (g : Nat → Nat) (x y : St) (v lo hi : Int32) : Met l yX5_isIn wsX5_isIn ({ frames := 0, cells := 0, slots := 0, locals := 0 } : Room) (va_Pc [.int v, .int lo, .int hi] (wPre E o g x y)) (va_Qi (fun (r : Int32) (_ : Unit) => (r = 1 ∧ lo ≤ v ∧ v ≤ hi) ∨ (r = 0 ∧ ¬ (lo ≤ v ∧ v ≤ hi))) (fun (_ : Unit) t => wHS E o g x y t.heap) (wA E)) 0 0 (wA E) := by
  refine Met.ofW (cc := cX5_isIn) (maxL := 3) (ret := (some .boolean)) (by decide) rfl ?_
  intro p e s m args below meth c s₁ B hml hv
  obtain ⟨rfl, hz, hH, hK⟩ := hv
  have hx := B.exec
  have hb := B.bytes
  have hr := B.returns
  have hts := atoms_spec (ws := wsX5_isIn) B.pre
  have hown : s.vm.findClass RX5 = some m.cls := findClass_of_methodNamed B.named
  have hlocks := B.notSynchronized
  have hS : va_S (wA E) s.heap s.heap [] := va_S.rf
  have hl := lv_entry ([.int v, .int lo, .int hi]) (n := 3) (Nat.le_of_ble_eq_true rfl)
  rw [lg_entry_eq]
  generalize (lg_sl ([.int v, .int lo, .int hi]) ++ List.replicate (3 - (lg_sl ([.int v, .int lo, .int hi])).length) Slot.unset).toArray = ls at hl ⊢
  have hl : lv_has ls 3 [(0, .int v), (1, .int lo), (2, .int hi)] := hl
  obtain ⟨H, eH⟩ : ∃ z, z = s.heap := ⟨_, rfl⟩
  have hH : wHS E o g x y H := by rw [eH]; exact hH
  have hS : va_S (wA E) s.heap H [] := by rw [eH]; exact hS
  refine W.heapTo eH ?_
  refine lv_iload_n hx hb dX5_isIn_0 rfl (lv_at hl 0 rfl) ?_
  refine lv_iload_n hx hb dX5_isIn_1 rfl (lv_at hl 1 rfl) ?_
  refine lv_icmp_lt (tgt := 14) hx hb dX5_isIn_2 (by decide) (fun c1 => ?_) (fun c1 => ?_)
  · skip
    refine lv_iconst (v := 0) hx hb dX5_isIn_14 (by decide) ?_
    exact W.zret (v := 0) hx hb hr rfl (fun t ht hW => ⟨⟨0, (), rfl, Or.inr ⟨rfl, fun q => Int32.not_lt.mpr q.1 c1⟩, wHS_t ht hH⟩, hS.F ht⟩) hS.2.2 dX5_isIn_15
  · skip
    refine lv_iload_n hx hb dX5_isIn_5 rfl (lv_at hl 0 rfl) ?_
    refine lv_iload_n hx hb dX5_isIn_6 rfl (lv_at hl 2 rfl) ?_
    refine lv_icmp_gt (tgt := 14) hx hb dX5_isIn_7 (by decide) (fun c2 => ?_) (fun c2 => ?_)
    · skip
      refine lv_iconst (v := 0) hx hb dX5_isIn_14 (by decide) ?_
      exact W.zret (v := 0) hx hb hr rfl (fun t ht hW => ⟨⟨0, (), rfl, Or.inr ⟨rfl, fun q => Int32.not_lt.mpr q.2 c2⟩, wHS_t ht hH⟩, hS.F ht⟩) hS.2.2 dX5_isIn_15
    · skip
      refine lv_iconst (v := 1) hx hb dX5_isIn_10 (by decide) ?_
      refine lv_goto (tgt := 15) hx hb dX5_isIn_11 (by decide) ?_
      exact W.zret (v := 1) hx hb hr rfl (fun t ht hW => ⟨⟨1, (), rfl, Or.inl ⟨rfl, Int32.not_lt.mp c1, Int32.not_lt.mp c2⟩, wHS_t ht hH⟩, hS.F ht⟩) hS.2.2 dX5_isIn_15
set_option maxHeartbeats 4000000 in
set_option maxRecDepth 100000 in
theorem met_X5_isBox (l : Launch) (E : wE) (o : wO) (g : Nat → Nat) (x y : St) (b : Int32) (hn : y.1 1 0 ≤ 100) : Met l yX5_isBox wsX5_isBox ({ frames := 1, cells := 0, slots := 0, locals := 100 } : Room) (va_Pc [.ref (g 10), .int b] (wPre E o g x y)) (va_Qi (fun (r : Int32) (_ : Unit) => (r = 1 ∧ inB b (y.1 1 0) = true) ∨ (r = 0 ∧ inB b (y.1 1 0) = false)) (fun (_ : Unit) t => wHS E o g x y t.heap) (wA E)) 0 0 (wA E) := by
  refine Met.ofW (cc := cX5_isBox) (maxL := 2) (ret := (some .boolean)) (by decide) rfl ?_
  intro p e s m args below meth c s₁ B hml hv
  obtain ⟨rfl, hz, hH, hK⟩ := hv
  have hx := B.exec
  have hb := B.bytes
  have hr := B.returns
  have hts := atoms_spec (ws := wsX5_isBox) B.pre
  have hown : s.vm.findClass RX5 = some m.cls := findClass_of_methodNamed B.named
  have hlocks := B.notSynchronized
  have hS : va_S (wA E) s.heap s.heap [] := va_S.rf
  have hinX5 : ∀ w ∈ wsX50, w ∈ wsX5_isBox := fun w h => List.mem_cons_of_mem _ (List.mem_append_right _ h)
  have hl := lv_entry ([.ref (g 10), .int b]) (n := 2) (Nat.le_of_ble_eq_true rfl)
  rw [lg_entry_eq]
  generalize (lg_sl ([.ref (g 10), .int b]) ++ List.replicate (2 - (lg_sl ([.ref (g 10), .int b])).length) Slot.unset).toArray = ls at hl ⊢
  have hl : lv_has ls 2 [(0, .ref (g 10)), (1, .int b)] := hl
  obtain ⟨H, eH⟩ : ∃ z, z = s.heap := ⟨_, rfl⟩
  have hH : wHS E o g x y H := by rw [eH]; exact hH
  have hS : va_S (wA E) s.heap H [] := by rw [eH]; exact hS
  refine W.heapTo eH ?_
  refine lv_iload_n hx hb dX5_isBox_0 rfl (lv_at hl 1 rfl) ?_
  refine lv_iconst (v := 0) hx hb dX5_isBox_1 (by decide) ?_
  refine lv_aload_n hx hb dX5_isBox_2 rfl (lv_at hl 0 rfl) ?_
  refine wr_get (T := TX5) (N := 30) (ci := 7) (v := .int (nI (y.1 1 0))) hx hb hts hinX5 hown hK hH (lv_md (by decide) (by decide)) (cel_md (by omega) (by omega)) rfl 19 (by decide) (hts (.fieldLink RX5 97 "SelectoRouteModel" "boxes" "I") (by decide +kernel)) (fun _ h => h) rfl dX5_isBox_3 ?_
  refine lv_iconst (v := 1) hx hb dX5_isBox_6 (by decide) ?_
  refine lv_isub hx hb dX5_isBox_7 ?_
  refine va_calli (va_runS (As := [.int b, .int 0, .int ((nI (y.1 1 0)) - 1)]) (rest := []) ⟨hx, hb, hml, hown, hts⟩ (met_X5_isIn l E o g x y b 0 ((nI (y.1 1 0)) - 1)) (va_cwS 3 hts gX5_isBox_X5_isIn rfl rfl rfl (by decide +kernel) ⟨Nat.le_of_ble_eq_true rfl, Nat.le_of_ble_eq_true rfl⟩) ⟨fun a U f mk q => ⟨q.1, wPre.calling q.2 a f mk⟩, fun U hU hW => ⟨rfl, wPre_at hz hS hH hK U hU hW⟩⟩ rfl rfl hl.1 rfl (lv_room (Nat.le_of_ble_eq_true rfl)) dX5_isBox_8 ⟨Nat.le_of_ble_eq_true rfl, Nat.le_of_ble_eq_true rfl⟩) hS (fun q _ h => h) (fun q h => h) (fun r u t H locs ht hvm hw hB hz1 hk1 hS => ?_)
  have hB := wHS_h ht hB
  try dsimp only at hw
  have hH := hB
  rcases hw with ⟨rfl, c1⟩ | ⟨rfl, c1⟩
  · skip
    exact W.zret (v := 1) hx hb hr rfl (fun t ht hW => ⟨⟨1, (), rfl, Or.inl ⟨rfl, (in_box (by omega)).mp c1⟩, wHS_t ht hH⟩, hS.F ht⟩) hS.2.2 dX5_isBox_11
  · skip
    exact W.zret (v := 0) hx hb hr rfl (fun t ht hW => ⟨⟨0, (), rfl, Or.inr ⟨rfl, by rw [Bool.eq_false_iff]; exact fun q => c1 ((in_box (by omega)).mpr q)⟩, wHS_t ht hH⟩, hS.F ht⟩) hS.2.2 dX5_isBox_11
set_option maxHeartbeats 4000000 in
set_option maxRecDepth 100000 in
theorem met_X5_isDisc (l : Launch) (E : wE) (o : wO) (g : Nat → Nat) (x y : St) (b : Int32) (hn : y.1 0 0 ≤ 100) : Met l yX5_isDisc wsX5_isDisc ({ frames := 1, cells := 0, slots := 0, locals := 100 } : Room) (va_Pc [.ref (g 10), .int b] (wPre E o g x y)) (va_Qi (fun (r : Int32) (_ : Unit) => (r = 1 ∧ inB b (y.1 0 0) = true) ∨ (r = 0 ∧ inB b (y.1 0 0) = false)) (fun (_ : Unit) t => wHS E o g x y t.heap) (wA E)) 0 0 (wA E) := by
  refine Met.ofW (cc := cX5_isDisc) (maxL := 2) (ret := (some .boolean)) (by decide) rfl ?_
  intro p e s m args below meth c s₁ B hml hv
  obtain ⟨rfl, hz, hH, hK⟩ := hv
  have hx := B.exec
  have hb := B.bytes
  have hr := B.returns
  have hts := atoms_spec (ws := wsX5_isDisc) B.pre
  have hown : s.vm.findClass RX5 = some m.cls := findClass_of_methodNamed B.named
  have hlocks := B.notSynchronized
  have hS : va_S (wA E) s.heap s.heap [] := va_S.rf
  have hinX5 : ∀ w ∈ wsX50, w ∈ wsX5_isDisc := fun w h => List.mem_cons_of_mem _ (List.mem_append_right _ h)
  have hl := lv_entry ([.ref (g 10), .int b]) (n := 2) (Nat.le_of_ble_eq_true rfl)
  rw [lg_entry_eq]
  generalize (lg_sl ([.ref (g 10), .int b]) ++ List.replicate (2 - (lg_sl ([.ref (g 10), .int b])).length) Slot.unset).toArray = ls at hl ⊢
  have hl : lv_has ls 2 [(0, .ref (g 10)), (1, .int b)] := hl
  obtain ⟨H, eH⟩ : ∃ z, z = s.heap := ⟨_, rfl⟩
  have hH : wHS E o g x y H := by rw [eH]; exact hH
  have hS : va_S (wA E) s.heap H [] := by rw [eH]; exact hS
  refine W.heapTo eH ?_
  refine lv_iload_n hx hb dX5_isDisc_0 rfl (lv_at hl 1 rfl) ?_
  refine lv_iconst (v := 0) hx hb dX5_isDisc_1 (by decide) ?_
  refine lv_aload_n hx hb dX5_isDisc_2 rfl (lv_at hl 0 rfl) ?_
  refine wr_get (T := TX5) (N := 30) (ci := 7) (v := .int (nI (y.1 0 0))) hx hb hts hinX5 hown hK hH (lv_md (by decide) (by decide)) (cel_md (by omega) (by omega)) rfl 5 (by decide) (hts (.fieldLink RX5 90 "SelectoRouteModel" "discs" "I") (by decide +kernel)) (fun _ h => h) rfl dX5_isDisc_3 ?_
  refine lv_iconst (v := 1) hx hb dX5_isDisc_6 (by decide) ?_
  refine lv_isub hx hb dX5_isDisc_7 ?_
  refine va_calli (va_runS (As := [.int b, .int 0, .int ((nI (y.1 0 0)) - 1)]) (rest := []) ⟨hx, hb, hml, hown, hts⟩ (met_X5_isIn l E o g x y b 0 ((nI (y.1 0 0)) - 1)) (va_cwS 3 hts gX5_isDisc_X5_isIn rfl rfl rfl (by decide +kernel) ⟨Nat.le_of_ble_eq_true rfl, Nat.le_of_ble_eq_true rfl⟩) ⟨fun a U f mk q => ⟨q.1, wPre.calling q.2 a f mk⟩, fun U hU hW => ⟨rfl, wPre_at hz hS hH hK U hU hW⟩⟩ rfl rfl hl.1 rfl (lv_room (Nat.le_of_ble_eq_true rfl)) dX5_isDisc_8 ⟨Nat.le_of_ble_eq_true rfl, Nat.le_of_ble_eq_true rfl⟩) hS (fun q _ h => h) (fun q h => h) (fun r u t H locs ht hvm hw hB hz1 hk1 hS => ?_)
  have hB := wHS_h ht hB
  try dsimp only at hw
  have hH := hB
  rcases hw with ⟨rfl, c1⟩ | ⟨rfl, c1⟩
  · skip
    exact W.zret (v := 1) hx hb hr rfl (fun t ht hW => ⟨⟨1, (), rfl, Or.inl ⟨rfl, (in_box (by omega)).mp c1⟩, wHS_t ht hH⟩, hS.F ht⟩) hS.2.2 dX5_isDisc_11
  · skip
    exact W.zret (v := 0) hx hb hr rfl (fun t ht hW => ⟨⟨0, (), rfl, Or.inr ⟨rfl, by rw [Bool.eq_false_iff]; exact fun q => c1 ((in_box (by omega)).mpr q)⟩, wHS_t ht hH⟩, hS.F ht⟩) hS.2.2 dX5_isDisc_11
set_option maxHeartbeats 4000000 in
set_option maxRecDepth 100000 in
theorem met_X5_isSlot (l : Launch) (E : wE) (o : wO) (g : Nat → Nat) (x y : St) (b k : Int32) (hn : y.1 1 0 ≤ 100) : Met l yX5_isSlot wsX5_isSlot ({ frames := 2, cells := 0, slots := 0, locals := 200 } : Room) (va_Pc [.ref (g 10), .int b, .int k] (wPre E o g x y)) (va_Qi (fun (r : Int32) (_ : Unit) => (r = 1 ∧ inB b (y.1 1 0) = true ∧ inB k 10 = true) ∨ (r = 0 ∧ ¬ (inB b (y.1 1 0) = true ∧ inB k 10 = true))) (fun (_ : Unit) t => wHS E o g x y t.heap) (wA E)) 0 0 (wA E) := by
  refine Met.ofW (cc := cX5_isSlot) (maxL := 3) (ret := (some .boolean)) (by decide) rfl ?_
  intro p e s m args below meth c s₁ B hml hv
  obtain ⟨rfl, hz, hH, hK⟩ := hv
  have hx := B.exec
  have hb := B.bytes
  have hr := B.returns
  have hts := atoms_spec (ws := wsX5_isSlot) B.pre
  have hown : s.vm.findClass RX5 = some m.cls := findClass_of_methodNamed B.named
  have hlocks := B.notSynchronized
  have hS : va_S (wA E) s.heap s.heap [] := va_S.rf
  have hinX5 : ∀ w ∈ wsX50, w ∈ wsX5_isSlot := fun w h => List.mem_cons_of_mem _ (List.mem_append_right _ h)
  have hl := lv_entry ([.ref (g 10), .int b, .int k]) (n := 3) (Nat.le_of_ble_eq_true rfl)
  rw [lg_entry_eq]
  generalize (lg_sl ([.ref (g 10), .int b, .int k]) ++ List.replicate (3 - (lg_sl ([.ref (g 10), .int b, .int k])).length) Slot.unset).toArray = ls at hl ⊢
  have hl : lv_has ls 3 [(0, .ref (g 10)), (1, .int b), (2, .int k)] := hl
  obtain ⟨H, eH⟩ : ∃ z, z = s.heap := ⟨_, rfl⟩
  have hH : wHS E o g x y H := by rw [eH]; exact hH
  have hS : va_S (wA E) s.heap H [] := by rw [eH]; exact hS
  refine W.heapTo eH ?_
  refine lv_aload_n hx hb dX5_isSlot_0 rfl (lv_at hl 0 rfl) ?_
  refine lv_iload_n hx hb dX5_isSlot_1 rfl (lv_at hl 1 rfl) ?_
  refine va_calli (va_runV (As := [.int b]) (rest := []) ⟨hx, hb, hml, hown, hts⟩ (met_X5_isBox l E o g x y b (by omega)) (cwV 1 hts gX5_isSlot_X5_isBox rfl rfl rfl (by decide +kernel) ⟨Nat.le_of_ble_eq_true rfl, Nat.le_of_ble_eq_true rfl⟩) ⟨fun a U f mk q => ⟨q.1, wPre.calling q.2 a f mk⟩, (va_recv hK (wH_one hH (lv_md (by decide) (by decide)) (cel_md (by omega) (by omega))) (ci := 7) (q0 := 0) rfl rfl), fun U hU hW => ⟨rfl, wPre_at hz hS hH hK U hU hW⟩⟩ rfl rfl hl.1 rfl (lv_room (Nat.le_of_ble_eq_true rfl)) dX5_isSlot_2 ⟨Nat.le_of_ble_eq_true rfl, Nat.le_of_ble_eq_true rfl⟩) hS (fun q _ h => h) (fun q h => h) (fun r u t H locs ht hvm hw hB hz1 hk1 hS => ?_)
  have hB := wHS_h ht hB
  try dsimp only at hw
  have hH := hB
  rcases hw with ⟨rfl, c1⟩ | ⟨rfl, c1⟩
  · obtain ⟨j, hj, rfl⟩ := inB_t c1 (by omega)
    refine lv_if_eq (tgt := 22) hx hb dX5_isSlot_5 (by decide) (fun hq => absurd hq (show ¬ (1 : Int32) = 0 by decide)) (fun _ => ?_)
    refine lv_iload_n hx hb dX5_isSlot_8 rfl (lv_at hl 2 rfl) ?_
    refine lv_iconst (v := 0) hx hb dX5_isSlot_9 (by decide) ?_
    refine lv_bipush (v := 9) hx hb dX5_isSlot_10 (by decide) ?_
    refine va_calli (va_runS (As := [.int k, .int 0, .int 9]) (rest := []) ⟨hx, hb, hml, hown, hts⟩ (met_X5_isIn l E o g x y k 0 9) (va_cwS 3 hts gX5_isSlot_X5_isIn rfl rfl rfl (by decide +kernel) ⟨Nat.le_of_ble_eq_true rfl, Nat.le_of_ble_eq_true rfl⟩) ⟨fun a U f mk q => ⟨q.1, wPre.calling q.2 a f mk⟩, fun U hU hW => ⟨rfl, wPre_at hz hS hH hK U hU hW⟩⟩ rfl rfl hl.1 rfl (lv_room (Nat.le_of_ble_eq_true rfl)) dX5_isSlot_12 ⟨Nat.le_of_ble_eq_true rfl, Nat.le_of_ble_eq_true rfl⟩) hS (fun q _ h => h) (fun q h => h) (fun r u t H locs ht hvm hw hB hz1 hk1 hS => ?_)
    have hB := wHS_h ht hB
    try dsimp only at hw
    have hH := hB
    rcases hw with ⟨rfl, c2⟩ | ⟨rfl, c2⟩
    · skip
      refine lv_if_eq (tgt := 22) hx hb dX5_isSlot_15 (by decide) (fun hq => absurd hq (show ¬ (1 : Int32) = 0 by decide)) (fun _ => ?_)
      refine lv_iconst (v := 1) hx hb dX5_isSlot_18 (by decide) ?_
      refine lv_goto (tgt := 23) hx hb dX5_isSlot_19 (by decide) ?_
      exact W.zret (v := 1) hx hb hr rfl (fun t ht hW => ⟨⟨1, (), rfl, Or.inl ⟨rfl, inB_nI hj (by omega), (in_ten).mp c2⟩, wHS_t ht hH⟩, hS.F ht⟩) hS.2.2 dX5_isSlot_23
    · skip
      refine lv_if_eq (tgt := 22) hx hb dX5_isSlot_15 (by decide) (fun _ => ?_) (fun hq => absurd (show (0 : Int32) = 0 by decide) hq)
      refine lv_iconst (v := 0) hx hb dX5_isSlot_22 (by decide) ?_
      exact W.zret (v := 0) hx hb hr rfl (fun t ht hW => ⟨⟨0, (), rfl, Or.inr ⟨rfl, fun q => absurd (in_ten.mpr q.2) c2⟩, wHS_t ht hH⟩, hS.F ht⟩) hS.2.2 dX5_isSlot_23
  · skip
    refine lv_if_eq (tgt := 22) hx hb dX5_isSlot_5 (by decide) (fun _ => ?_) (fun hq => absurd (show (0 : Int32) = 0 by decide) hq)
    refine lv_iconst (v := 0) hx hb dX5_isSlot_22 (by decide) ?_
    exact W.zret (v := 0) hx hb hr rfl (fun t ht hW => ⟨⟨0, (), rfl, Or.inr ⟨rfl, fun q => absurd q.1 (Bool.eq_false_iff.mp c1)⟩, wHS_t ht hH⟩, hS.F ht⟩) hS.2.2 dX5_isSlot_23
