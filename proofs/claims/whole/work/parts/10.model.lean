/-! ===== the model's methods ===== -/
theorem nz_le {n : Nat} (h : n < 2 ^ 31) : nI n ≤ 0 ↔ n = 0 := by
  rw [show (0 : Int32) = nI 0 from rfl, nI_leI h (by decide)]
  omega
theorem pl_in (n : Nat) : nI (n + 2) - 2 = nI n := by
  rw [show (2 : Int32) = nI 2 from rfl, pk_sub (by omega), Nat.add_sub_cancel]
theorem in_box {x : Int32} {n : Nat} (hn : n ≤ 1000) : (0 ≤ x ∧ x ≤ nI n - 1) ↔ inB x n = true := by
  have h1 : (nI n - 1).toInt = (n : Int) - 1 := by
    have := pk_sub_toInt (a := n) (b := 1) (by omega) (by decide)
    exact this
  rw [inB_vp, vp_in_iff, Int32.le_iff_toInt_le, Int32.le_iff_toInt_le, h1]
  have h0 : (0 : Int32).toInt = 0 := rfl
  rw [h0]
  omega
theorem in_nat {x : Int32} {n : Nat} (hn : n < 2 ^ 31) (h : 0 ≤ x ∧ x ≤ nI n) : ∃ j : Nat, j < n + 1 ∧ x = nI j := by
  obtain ⟨h1, h2⟩ := h
  obtain ⟨j, hj, rfl⟩ := nI_of (Int32.not_lt.mpr h1)
  exact ⟨j, Nat.lt_succ_of_le ((nI_leI hj hn).mp h2), rfl⟩
theorem in_ten {x : Int32} : (0 ≤ x ∧ x ≤ 9) ↔ inB x 10 = true := by
  rw [inB_vp, vp_in_iff, Int32.le_iff_toInt_le, Int32.le_iff_toInt_le]
  have h0 : (0 : Int32).toInt = 0 := rfl
  have h9 : (9 : Int32).toInt = 9 := rfl
  rw [h0, h9]
  omega
set_option maxHeartbeats 4000000 in
set_option maxRecDepth 100000 in
theorem met_X5_no1 (l : Launch) (E : wE) (o : wO) (g : Nat → Nat) (x y : St) (k : Int32) : Met l yX5_no wsX5_no ({ frames := 0, cells := 0, slots := 0, locals := 0 } : Room) (va_Pc [.ref (g 10), .int 1, .int k] (wPre E o g x y)) (va_Qi (fun (r : Int32) (_ : Unit) => r = 0) (fun (_ : Unit) t => wHS E o g x (uI y 28 0 0) t.heap) (wA E)) 0 0 (wA E) := by
  refine Met.ofW (cc := cX5_no) (maxL := 3) (ret := (some .boolean)) (by decide) rfl ?_
  intro p e s m args below meth c s₁ B hml hv
  obtain ⟨rfl, hz, hH, hK⟩ := hv
  have hx := B.exec
  have hb := B.bytes
  have hr := B.returns
  have hts := atoms_spec (ws := wsX5_no) B.pre
  have hown : s.vm.findClass RX5 = some m.cls := findClass_of_methodNamed B.named
  have hlocks := B.notSynchronized
  have hS : va_S (wA E) s.heap s.heap [] := va_S.rf
  have hinX5 : ∀ w ∈ wsX50, w ∈ wsX5_no := fun w h => List.mem_cons_of_mem _ (List.mem_append_right _ h)
  have hl := lv_entry ([.ref (g 10), .int 1, .int k]) (n := 3) (Nat.le_of_ble_eq_true rfl)
  rw [lg_entry_eq]
  generalize (lg_sl ([.ref (g 10), .int 1, .int k]) ++ List.replicate (3 - (lg_sl ([.ref (g 10), .int 1, .int k])).length) Slot.unset).toArray = ls at hl ⊢
  have hl : lv_has ls 3 [(0, .ref (g 10)), (1, .int 1), (2, .int k)] := hl
  obtain ⟨H, eH⟩ : ∃ z, z = s.heap := ⟨_, rfl⟩
  have hH : wHS E o g x y H := by rw [eH]; exact hH
  have hS : va_S (wA E) s.heap H [] := by rw [eH]; exact hS
  refine W.heapTo eH ?_
  refine lv_aload_n hx hb dX5_no_0 rfl (lv_at hl 0 rfl) ?_
  refine lv_iload_n hx hb dX5_no_1 rfl (lv_at hl 1 rfl) ?_
  refine lv_if_eq (tgt := 9) hx hb dX5_no_2 (by decide) (fun hq => absurd hq (show ¬ (1 : Int32) = 0 by decide)) (fun _ => ?_)
  refine lv_iconst (v := 0) hx hb dX5_no_5 (by decide) ?_
  refine lv_goto (tgt := 10) hx hb dX5_no_6 (by decide) ?_
  refine wr_put (T := TX5) (N := 30) (ci := 7) (v := .int 0) hx hb hts hinX5 tyX5 tyX5_ok nmX5 hown hK hH hS (lv_md (by decide) (by decide)) (cel_md (by omega) (by omega)) rfl 29 (by decide) (hts (.fieldLink RX5 87 "SelectoRouteModel" "thrown" "I") (by decide +kernel)) (fun _ h => h) rfl (ty := .int) (by decide +kernel) rfl rfl (Nat.le_of_ble_eq_true rfl) dX5_no_10 (fun H locs hH hS => ?_)
  have hH : wHS E o g x (uI y 28 0 0) H := pm_thrown hH
  refine lv_iload_n hx hb dX5_no_13 rfl (lv_at hl 1 rfl) ?_
  refine lv_if_ne (tgt := 21) hx hb dX5_no_14 (by decide) (fun _ => ?_) (fun hq => absurd hq (show ¬ (1 : Int32) = 0 by decide))
  refine lv_iconst (v := 0) hx hb dX5_no_21 (by decide) ?_
  exact W.zret (v := 0) hx hb hr rfl (fun t ht hW => ⟨⟨0, (), rfl, rfl, wHS_t ht hH⟩, hS.F ht⟩) hS.2.2 dX5_no_22
set_option maxHeartbeats 4000000 in
set_option maxRecDepth 100000 in
theorem met_X5_no0 (l : Launch) (E : wE) (o : wO) (g : Nat → Nat) (x y : St) (k : Int32) : Met l yX5_no wsX5_no ({ frames := 0, cells := 0, slots := 0, locals := 0 } : Room) (va_Pc [.ref (g 10), .int 0, .int k] (wPre E o g x y)) (va_Qi (fun (r : Int32) (_ : Unit) => r = 1) (fun (_ : Unit) t => wHS E o g x (uI y 28 0 k) t.heap) (wA E)) 0 0 (wA E) := by
  refine Met.ofW (cc := cX5_no) (maxL := 3) (ret := (some .boolean)) (by decide) rfl ?_
  intro p e s m args below meth c s₁ B hml hv
  obtain ⟨rfl, hz, hH, hK⟩ := hv
  have hx := B.exec
  have hb := B.bytes
  have hr := B.returns
  have hts := atoms_spec (ws := wsX5_no) B.pre
  have hown : s.vm.findClass RX5 = some m.cls := findClass_of_methodNamed B.named
  have hlocks := B.notSynchronized
  have hS : va_S (wA E) s.heap s.heap [] := va_S.rf
  have hinX5 : ∀ w ∈ wsX50, w ∈ wsX5_no := fun w h => List.mem_cons_of_mem _ (List.mem_append_right _ h)
  have hl := lv_entry ([.ref (g 10), .int 0, .int k]) (n := 3) (Nat.le_of_ble_eq_true rfl)
  rw [lg_entry_eq]
  generalize (lg_sl ([.ref (g 10), .int 0, .int k]) ++ List.replicate (3 - (lg_sl ([.ref (g 10), .int 0, .int k])).length) Slot.unset).toArray = ls at hl ⊢
  have hl : lv_has ls 3 [(0, .ref (g 10)), (1, .int 0), (2, .int k)] := hl
  obtain ⟨H, eH⟩ : ∃ z, z = s.heap := ⟨_, rfl⟩
  have hH : wHS E o g x y H := by rw [eH]; exact hH
  have hS : va_S (wA E) s.heap H [] := by rw [eH]; exact hS
  refine W.heapTo eH ?_
  refine lv_aload_n hx hb dX5_no_0 rfl (lv_at hl 0 rfl) ?_
  refine lv_iload_n hx hb dX5_no_1 rfl (lv_at hl 1 rfl) ?_
  refine lv_if_eq (tgt := 9) hx hb dX5_no_2 (by decide) (fun _ => ?_) (fun hq => absurd (show (0 : Int32) = 0 by decide) hq)
  refine lv_iload_n hx hb dX5_no_9 rfl (lv_at hl 2 rfl) ?_
  refine wr_put (T := TX5) (N := 30) (ci := 7) (v := .int k) hx hb hts hinX5 tyX5 tyX5_ok nmX5 hown hK hH hS (lv_md (by decide) (by decide)) (cel_md (by omega) (by omega)) rfl 29 (by decide) (hts (.fieldLink RX5 87 "SelectoRouteModel" "thrown" "I") (by decide +kernel)) (fun _ h => h) rfl (ty := .int) (by decide +kernel) rfl rfl (Nat.le_of_ble_eq_true rfl) dX5_no_10 (fun H locs hH hS => ?_)
  have hH : wHS E o g x (uI y 28 0 k) H := pm_thrown hH
  refine lv_iload_n hx hb dX5_no_13 rfl (lv_at hl 1 rfl) ?_
  refine lv_if_ne (tgt := 21) hx hb dX5_no_14 (by decide) (fun hq => absurd (show (0 : Int32) = 0 by decide) hq) (fun _ => ?_)
  refine lv_iconst (v := 1) hx hb dX5_no_17 (by decide) ?_
  refine lv_goto (tgt := 22) hx hb dX5_no_18 (by decide) ?_
  exact W.zret (v := 1) hx hb hr rfl (fun t ht hW => ⟨⟨1, (), rfl, rfl, wHS_t ht hH⟩, hS.F ht⟩) hS.2.2 dX5_no_22
set_option maxHeartbeats 4000000 in
set_option maxRecDepth 100000 in
theorem met_X5_isIn (l : Launch) (E : wE) (o : wO) (g : Nat → Nat) (x y : St) (v lo hi : Int32) : Met l yX5_isIn wsX5_isIn ({ frames := 0, cells := 0, slots := 0, locals := 0 } : Room) (va_Pc [.int v, .int lo, .int hi] (wPre E o g x y)) (va_Qi (fun (r : Int32) (_ : Unit) => (r = 1 ∧ lo ≤ v ∧ v ≤ hi) ∨ (r = 0 ∧ ¬ (lo ≤ v ∧ v ≤ hi))) (fun (_ : Unit) t => wHS E o g x y t.heap) (wA E)) 0 0 (wA E) := by
  refine Met.ofW (cc := cX5_isIn) (maxL := 3) (ret := (some .boolean)) (by decide) rfl ?_
  intro p e s m args below meth c s₁ B hml hv
  obtain ⟨rfl, hz, hH, hK⟩ := hv
  have hx := B.exec
  have hb := B.bytes
  have hr := B.returns
  have hts := atoms_spec (ws := wsX5_isIn) B.pre
  have hown : s.vm.findClass RX5 = some m.cls := findClass_of_methodNamed B.named
  have hlocks := B.notSynchronized
  have hS : va_S (wA E) s.heap s.heap [] := va_S.rf
  have hl := lv_entry ([.int v, .int lo, .int hi]) (n := 3) (Nat.le_of_ble_eq_true rfl)
  rw [lg_entry_eq]
  generalize (lg_sl ([.int v, .int lo, .int hi]) ++ List.replicate (3 - (lg_sl ([.int v, .int lo, .int hi])).length) Slot.unset).toArray = ls at hl ⊢
  have hl : lv_has ls 3 [(0, .int v), (1, .int lo), (2, .int hi)] := hl
  obtain ⟨H, eH⟩ : ∃ z, z = s.heap := ⟨_, rfl⟩
  have hH : wHS E o g x y H := by rw [eH]; exact hH
  have hS : va_S (wA E) s.heap H [] := by rw [eH]; exact hS
  refine W.heapTo eH ?_
  refine lv_iload_n hx hb dX5_isIn_0 rfl (lv_at hl 0 rfl) ?_
  refine lv_iload_n hx hb dX5_isIn_1 rfl (lv_at hl 1 rfl) ?_
  refine lv_icmp_lt (tgt := 14) hx hb dX5_isIn_2 (by decide) (fun c1 => ?_) (fun c1 => ?_)
  · skip
    refine lv_iconst (v := 0) hx hb dX5_isIn_14 (by decide) ?_
    exact W.zret (v := 0) hx hb hr rfl (fun t ht hW => ⟨⟨0, (), rfl, Or.inr ⟨rfl, fun q => Int32.not_lt.mpr q.1 c1⟩, wHS_t ht hH⟩, hS.F ht⟩) hS.2.2 dX5_isIn_15
  · skip
    refine lv_iload_n hx hb dX5_isIn_5 rfl (lv_at hl 0 rfl) ?_
    refine lv_iload_n hx hb dX5_isIn_6 rfl (lv_at hl 2 rfl) ?_
    refine lv_icmp_gt (tgt := 14) hx hb dX5_isIn_7 (by decide) (fun c2 => ?_) (fun c2 => ?_)
    · skip
      refine lv_iconst (v := 0) hx hb dX5_isIn_14 (by decide) ?_
      exact W.zret (v := 0) hx hb hr rfl (fun t ht hW => ⟨⟨0, (), rfl, Or.inr ⟨rfl, fun q => Int32.not_lt.mpr q.2 c2⟩, wHS_t ht hH⟩, hS.F ht⟩) hS.2.2 dX5_isIn_15
    · skip
      refine lv_iconst (v := 1) hx hb dX5_isIn_10 (by decide) ?_
      refine lv_goto (tgt := 15) hx hb dX5_isIn_11 (by decide) ?_
      exact W.zret (v := 1) hx hb hr rfl (fun t ht hW => ⟨⟨1, (), rfl, Or.inl ⟨rfl, Int32.not_lt.mp c1, Int32.not_lt.mp c2⟩, wHS_t ht hH⟩, hS.F ht⟩) hS.2.2 dX5_isIn_15
set_option maxHeartbeats 4000000 in
set_option maxRecDepth 100000 in
theorem met_X5_isBox (l : Launch) (E : wE) (o : wO) (g : Nat → Nat) (x y : St) (b : Int32) (hn : y.1 1 0 ≤ 100) : Met l yX5_isBox wsX5_isBox ({ frames := 1, cells := 0, slots := 0, locals := 100 } : Room) (va_Pc [.ref (g 10), .int b] (wPre E o g x y)) (va_Qi (fun (r : Int32) (_ : Unit) => (r = 1 ∧ inB b (y.1 1 0) = true) ∨ (r = 0 ∧ inB b (y.1 1 0) = false)) (fun (_ : Unit) t => wHS E o g x y t.heap) (wA E)) 0 0 (wA E) := by
  refine Met.ofW (cc := cX5_isBox) (maxL := 2) (ret := (some .boolean)) (by decide) rfl ?_
  intro p e s m args below meth c s₁ B hml hv
  obtain ⟨rfl, hz, hH, hK⟩ := hv
  have hx := B.exec
  have hb := B.bytes
  have hr := B.returns
  have hts := atoms_spec (ws := wsX5_isBox) B.pre
  have hown : s.vm.findClass RX5 = some m.cls := findClass_of_methodNamed B.named
  have hlocks := B.notSynchronized
  have hS : va_S (wA E) s.heap s.heap [] := va_S.rf
  have hinX5 : ∀ w ∈ wsX50, w ∈ wsX5_isBox := fun w h => List.mem_cons_of_mem _ (List.mem_append_right _ h)
  have hl := lv_entry ([.ref (g 10), .int b]) (n := 2) (Nat.le_of_ble_eq_true rfl)
  rw [lg_entry_eq]
  generalize (lg_sl ([.ref (g 10), .int b]) ++ List.replicate (2 - (lg_sl ([.ref (g 10), .int b])).length) Slot.unset).toArray = ls at hl ⊢
  have hl : lv_has ls 2 [(0, .ref (g 10)), (1, .int b)] := hl
  obtain ⟨H, eH⟩ : ∃ z, z = s.heap := ⟨_, rfl⟩
  have hH : wHS E o g x y H := by rw [eH]; exact hH
  have hS : va_S (wA E) s.heap H [] := by rw [eH]; exact hS
  refine W.heapTo eH ?_
  refine lv_iload_n hx hb dX5_isBox_0 rfl (lv_at hl 1 rfl) ?_
  refine lv_iconst (v := 0) hx hb dX5_isBox_1 (by decide) ?_
  refine lv_aload_n hx hb dX5_isBox_2 rfl (lv_at hl 0 rfl) ?_
  refine wr_get (T := TX5) (N := 30) (ci := 7) (v := .int (nI (y.1 1 0))) hx hb hts hinX5 hown hK hH (lv_md (by decide) (by decide)) (cel_md (by omega) (by omega)) rfl 19 (by decide) (hts (.fieldLink RX5 97 "SelectoRouteModel" "boxes" "I") (by decide +kernel)) (fun _ h => h) rfl dX5_isBox_3 ?_
  refine lv_iconst (v := 1) hx hb dX5_isBox_6 (by decide) ?_
  refine lv_isub hx hb dX5_isBox_7 ?_
  refine va_calli (va_runS (As := [.int b, .int 0, .int ((nI (y.1 1 0)) - 1)]) (rest := []) ⟨hx, hb, hml, hown, hts⟩ (met_X5_isIn l E o g x y b 0 ((nI (y.1 1 0)) - 1)) (va_cwS 3 hts gX5_isBox_X5_isIn rfl rfl rfl (by decide +kernel) ⟨Nat.le_of_ble_eq_true rfl, Nat.le_of_ble_eq_true rfl⟩) ⟨fun a U f mk q => ⟨q.1, wPre.calling q.2 a f mk⟩, fun U hU hW => ⟨rfl, wPre_at hz hS hH hK U hU hW⟩⟩ rfl rfl hl.1 rfl (lv_room (Nat.le_of_ble_eq_true rfl)) dX5_isBox_8 ⟨Nat.le_of_ble_eq_true rfl, Nat.le_of_ble_eq_true rfl⟩) hS (fun q _ h => h) (fun q h => h) (fun r u t H locs ht hvm hw hB hz1 hk1 hS => ?_)
  have hB := wHS_h ht hB
  try dsimp only at hw
  have hH := hB
  rcases hw with ⟨rfl, c1⟩ | ⟨rfl, c1⟩
  · skip
    exact W.zret (v := 1) hx hb hr rfl (fun t ht hW => ⟨⟨1, (), rfl, Or.inl ⟨rfl, (in_box (by omega)).mp c1⟩, wHS_t ht hH⟩, hS.F ht⟩) hS.2.2 dX5_isBox_11
  · skip
    exact W.zret (v := 0) hx hb hr rfl (fun t ht hW => ⟨⟨0, (), rfl, Or.inr ⟨rfl, by rw [Bool.eq_false_iff]; exact fun q => c1 ((in_box (by omega)).mpr q)⟩, wHS_t ht hH⟩, hS.F ht⟩) hS.2.2 dX5_isBox_11
set_option maxHeartbeats 4000000 in
set_option maxRecDepth 100000 in
theorem met_X5_isDisc (l : Launch) (E : wE) (o : wO) (g : Nat → Nat) (x y : St) (b : Int32) (hn : y.1 0 0 ≤ 100) : Met l yX5_isDisc wsX5_isDisc ({ frames := 1, cells := 0, slots := 0, locals := 100 } : Room) (va_Pc [.ref (g 10), .int b] (wPre E o g x y)) (va_Qi (fun (r : Int32) (_ : Unit) => (r = 1 ∧ inB b (y.1 0 0) = true) ∨ (r = 0 ∧ inB b (y.1 0 0) = false)) (fun (_ : Unit) t => wHS E o g x y t.heap) (wA E)) 0 0 (wA E) := by
  refine Met.ofW (cc := cX5_isDisc) (maxL := 2) (ret := (some .boolean)) (by decide) rfl ?_
  intro p e s m args below meth c s₁ B hml hv
  obtain ⟨rfl, hz, hH, hK⟩ := hv
  have hx := B.exec
  have hb := B.bytes
  have hr := B.returns
  have hts := atoms_spec (ws := wsX5_isDisc) B.pre
  have hown : s.vm.findClass RX5 = some m.cls := findClass_of_methodNamed B.named
  have hlocks := B.notSynchronized
  have hS : va_S (wA E) s.heap s.heap [] := va_S.rf
  have hinX5 : ∀ w ∈ wsX50, w ∈ wsX5_isDisc := fun w h => List.mem_cons_of_mem _ (List.mem_append_right _ h)
  have hl := lv_entry ([.ref (g 10), .int b]) (n := 2) (Nat.le_of_ble_eq_true rfl)
  rw [lg_entry_eq]
  generalize (lg_sl ([.ref (g 10), .int b]) ++ List.replicate (2 - (lg_sl ([.ref (g 10), .int b])).length) Slot.unset).toArray = ls at hl ⊢
  have hl : lv_has ls 2 [(0, .ref (g 10)), (1, .int b)] := hl
  obtain ⟨H, eH⟩ : ∃ z, z = s.heap := ⟨_, rfl⟩
  have hH : wHS E o g x y H := by rw [eH]; exact hH
  have hS : va_S (wA E) s.heap H [] := by rw [eH]; exact hS
  refine W.heapTo eH ?_
  refine lv_iload_n hx hb dX5_isDisc_0 rfl (lv_at hl 1 rfl) ?_
  refine lv_iconst (v := 0) hx hb dX5_isDisc_1 (by decide) ?_
  refine lv_aload_n hx hb dX5_isDisc_2 rfl (lv_at hl 0 rfl) ?_
  refine wr_get (T := TX5) (N := 30) (ci := 7) (v := .int (nI (y.1 0 0))) hx hb hts hinX5 hown hK hH (lv_md (by decide) (by decide)) (cel_md (by omega) (by omega)) rfl 5 (by decide) (hts (.fieldLink RX5 90 "SelectoRouteModel" "discs" "I") (by decide +kernel)) (fun _ h => h) rfl dX5_isDisc_3 ?_
  refine lv_iconst (v := 1) hx hb dX5_isDisc_6 (by decide) ?_
  refine lv_isub hx hb dX5_isDisc_7 ?_
  refine va_calli (va_runS (As := [.int b, .int 0, .int ((nI (y.1 0 0)) - 1)]) (rest := []) ⟨hx, hb, hml, hown, hts⟩ (met_X5_isIn l E o g x y b 0 ((nI (y.1 0 0)) - 1)) (va_cwS 3 hts gX5_isDisc_X5_isIn rfl rfl rfl (by decide +kernel) ⟨Nat.le_of_ble_eq_true rfl, Nat.le_of_ble_eq_true rfl⟩) ⟨fun a U f mk q => ⟨q.1, wPre.calling q.2 a f mk⟩, fun U hU hW => ⟨rfl, wPre_at hz hS hH hK U hU hW⟩⟩ rfl rfl hl.1 rfl (lv_room (Nat.le_of_ble_eq_true rfl)) dX5_isDisc_8 ⟨Nat.le_of_ble_eq_true rfl, Nat.le_of_ble_eq_true rfl⟩) hS (fun q _ h => h) (fun q h => h) (fun r u t H locs ht hvm hw hB hz1 hk1 hS => ?_)
  have hB := wHS_h ht hB
  try dsimp only at hw
  have hH := hB
  rcases hw with ⟨rfl, c1⟩ | ⟨rfl, c1⟩
  · skip
    exact W.zret (v := 1) hx hb hr rfl (fun t ht hW => ⟨⟨1, (), rfl, Or.inl ⟨rfl, (in_box (by omega)).mp c1⟩, wHS_t ht hH⟩, hS.F ht⟩) hS.2.2 dX5_isDisc_11
  · skip
    exact W.zret (v := 0) hx hb hr rfl (fun t ht hW => ⟨⟨0, (), rfl, Or.inr ⟨rfl, by rw [Bool.eq_false_iff]; exact fun q => c1 ((in_box (by omega)).mpr q)⟩, wHS_t ht hH⟩, hS.F ht⟩) hS.2.2 dX5_isDisc_11
set_option maxHeartbeats 4000000 in
set_option maxRecDepth 100000 in
theorem met_X5_isSlot (l : Launch) (E : wE) (o : wO) (g : Nat → Nat) (x y : St) (b k : Int32) (hn : y.1 1 0 ≤ 100) : Met l yX5_isSlot wsX5_isSlot ({ frames := 2, cells := 0, slots := 0, locals := 200 } : Room) (va_Pc [.ref (g 10), .int b, .int k] (wPre E o g x y)) (va_Qi (fun (r : Int32) (_ : Unit) => (r = 1 ∧ inB b (y.1 1 0) = true ∧ inB k 10 = true) ∨ (r = 0 ∧ ¬ (inB b (y.1 1 0) = true ∧ inB k 10 = true))) (fun (_ : Unit) t => wHS E o g x y t.heap) (wA E)) 0 0 (wA E) := by
  refine Met.ofW (cc := cX5_isSlot) (maxL := 3) (ret := (some .boolean)) (by decide) rfl ?_
  intro p e s m args below meth c s₁ B hml hv
  obtain ⟨rfl, hz, hH, hK⟩ := hv
  have hx := B.exec
  have hb := B.bytes
  have hr := B.returns
  have hts := atoms_spec (ws := wsX5_isSlot) B.pre
  have hown : s.vm.findClass RX5 = some m.cls := findClass_of_methodNamed B.named
  have hlocks := B.notSynchronized
  have hS : va_S (wA E) s.heap s.heap [] := va_S.rf
  have hinX5 : ∀ w ∈ wsX50, w ∈ wsX5_isSlot := fun w h => List.mem_cons_of_mem _ (List.mem_append_right _ h)
  have hl := lv_entry ([.ref (g 10), .int b, .int k]) (n := 3) (Nat.le_of_ble_eq_true rfl)
  rw [lg_entry_eq]
  generalize (lg_sl ([.ref (g 10), .int b, .int k]) ++ List.replicate (3 - (lg_sl ([.ref (g 10), .int b, .int k])).length) Slot.unset).toArray = ls at hl ⊢
  have hl : lv_has ls 3 [(0, .ref (g 10)), (1, .int b), (2, .int k)] := hl
  obtain ⟨H, eH⟩ : ∃ z, z = s.heap := ⟨_, rfl⟩
  have hH : wHS E o g x y H := by rw [eH]; exact hH
  have hS : va_S (wA E) s.heap H [] := by rw [eH]; exact hS
  refine W.heapTo eH ?_
  refine lv_aload_n hx hb dX5_isSlot_0 rfl (lv_at hl 0 rfl) ?_
  refine lv_iload_n hx hb dX5_isSlot_1 rfl (lv_at hl 1 rfl) ?_
  refine va_calli (va_runV (As := [.int b]) (rest := []) ⟨hx, hb, hml, hown, hts⟩ (met_X5_isBox l E o g x y b (show (y.1 1 0) ≤ 100 by omega)) (cwV 1 hts gX5_isSlot_X5_isBox rfl rfl rfl (by decide +kernel) ⟨Nat.le_of_ble_eq_true rfl, Nat.le_of_ble_eq_true rfl⟩) ⟨fun a U f mk q => ⟨q.1, wPre.calling q.2 a f mk⟩, (va_recv hK (wH_one hH (lv_md (by decide) (by decide)) (cel_md (by omega) (by omega))) (ci := 7) (q0 := 0) rfl rfl), fun U hU hW => ⟨rfl, wPre_at hz hS hH hK U hU hW⟩⟩ rfl rfl hl.1 rfl (lv_room (Nat.le_of_ble_eq_true rfl)) dX5_isSlot_2 ⟨Nat.le_of_ble_eq_true rfl, Nat.le_of_ble_eq_true rfl⟩) hS (fun q _ h => h) (fun q h => h) (fun r u t H locs ht hvm hw hB hz1 hk1 hS => ?_)
  have hB := wHS_h ht hB
  try dsimp only at hw
  have hH := hB
  rcases hw with ⟨rfl, c1⟩ | ⟨rfl, c1⟩
  · have c1 : inB b (y.1 1 0) = true := c1
    obtain ⟨jb, hjb, rfl⟩ := inB_t c1 (by omega)
    refine lv_if_eq (tgt := 22) hx hb dX5_isSlot_5 (by decide) (fun hq => absurd hq (show ¬ (1 : Int32) = 0 by decide)) (fun _ => ?_)
    refine lv_iload_n hx hb dX5_isSlot_8 rfl (lv_at hl 2 rfl) ?_
    refine lv_iconst (v := 0) hx hb dX5_isSlot_9 (by decide) ?_
    refine lv_bipush (v := 9) hx hb dX5_isSlot_10 (by decide) ?_
    refine va_calli (va_runS (As := [.int k, .int 0, .int 9]) (rest := []) ⟨hx, hb, hml, hown, hts⟩ (met_X5_isIn l E o g x y k 0 9) (va_cwS 3 hts gX5_isSlot_X5_isIn rfl rfl rfl (by decide +kernel) ⟨Nat.le_of_ble_eq_true rfl, Nat.le_of_ble_eq_true rfl⟩) ⟨fun a U f mk q => ⟨q.1, wPre.calling q.2 a f mk⟩, fun U hU hW => ⟨rfl, wPre_at hz hS hH hK U hU hW⟩⟩ rfl rfl hl.1 rfl (lv_room (Nat.le_of_ble_eq_true rfl)) dX5_isSlot_12 ⟨Nat.le_of_ble_eq_true rfl, Nat.le_of_ble_eq_true rfl⟩) hS (fun q _ h => h) (fun q h => h) (fun r u t H locs ht hvm hw hB hz1 hk1 hS => ?_)
    have hB := wHS_h ht hB
    try dsimp only at hw
    have hH := hB
    rcases hw with ⟨rfl, c2⟩ | ⟨rfl, c2⟩
    · skip
      refine lv_if_eq (tgt := 22) hx hb dX5_isSlot_15 (by decide) (fun hq => absurd hq (show ¬ (1 : Int32) = 0 by decide)) (fun _ => ?_)
      refine lv_iconst (v := 1) hx hb dX5_isSlot_18 (by decide) ?_
      refine lv_goto (tgt := 23) hx hb dX5_isSlot_19 (by decide) ?_
      exact W.zret (v := 1) hx hb hr rfl (fun t ht hW => ⟨⟨1, (), rfl, Or.inl ⟨rfl, inB_nI hjb (by omega), (in_ten).mp c2⟩, wHS_t ht hH⟩, hS.F ht⟩) hS.2.2 dX5_isSlot_23
    · skip
      refine lv_if_eq (tgt := 22) hx hb dX5_isSlot_15 (by decide) (fun _ => ?_) (fun hq => absurd (show (0 : Int32) = 0 by decide) hq)
      refine lv_iconst (v := 0) hx hb dX5_isSlot_22 (by decide) ?_
      exact W.zret (v := 0) hx hb hr rfl (fun t ht hW => ⟨⟨0, (), rfl, Or.inr ⟨rfl, fun q => absurd (in_ten.mpr q.2) c2⟩, wHS_t ht hH⟩, hS.F ht⟩) hS.2.2 dX5_isSlot_23
  · have c1 : inB b (y.1 1 0) = false := c1
    refine lv_if_eq (tgt := 22) hx hb dX5_isSlot_5 (by decide) (fun _ => ?_) (fun hq => absurd (show (0 : Int32) = 0 by decide) hq)
    refine lv_iconst (v := 0) hx hb dX5_isSlot_22 (by decide) ?_
    exact W.zret (v := 0) hx hb hr rfl (fun t ht hW => ⟨⟨0, (), rfl, Or.inr ⟨rfl, fun q => absurd q.1 (Bool.eq_false_iff.mp c1)⟩, wHS_t ht hH⟩, hS.F ht⟩) hS.2.2 dX5_isSlot_23
theorem pl_b {n : Nat} (h : n < 2 ^ 30) : nI n - 2 = -2 ↔ n = 0 := by
  constructor
  · intro q
    have h1 : (nI n - 2).toInt = (n : Int) - 2 := pk_sub_toInt (a := n) (b := 2) h (by decide)
    rw [q] at h1
    have h2 : (-2 : Int32).toInt = -2 := rfl
    rw [h2] at h1
    omega
  · rintro rfl; rfl
theorem pl_v {n : Nat} (h : n < 2 ^ 30) : nI n - 2 = -1 ↔ n = 1 := by
  constructor
  · intro q
    have h1 : (nI n - 2).toInt = (n : Int) - 2 := pk_sub_toInt (a := n) (b := 2) h (by decide)
    rw [q] at h1
    have h2 : (-1 : Int32).toInt = -1 := rfl
    rw [h2] at h1
    omega
  · rintro rfl; rfl
theorem pl_lt {n : Nat} (h : n < 2 ^ 30) : nI n - 2 < 0 ↔ n < 2 := by
  have h1 : (nI n - 2).toInt = (n : Int) - 2 := pk_sub_toInt (a := n) (b := 2) h (by decide)
  rw [Int32.lt_iff_toInt_lt, h1]
  have h2 : (0 : Int32).toInt = 0 := rfl
  rw [h2]
  omega
theorem pl_ge {n : Nat} (h : n < 2 ^ 30) : 0 ≤ nI n - 2 ↔ 2 ≤ n := by
  have h1 : (nI n - 2).toInt = (n : Int) - 2 := pk_sub_toInt (a := n) (b := 2) h (by decide)
  rw [Int32.le_iff_toInt_le, h1]
  have h2 : (0 : Int32).toInt = 0 := rfl
  rw [h2]
  omega
theorem rem_ten {n : Nat} (h : n < 2 ^ 31) : nI n - nI n / 10 * 10 ≠ -1 := by
  have h1 : nI n - nI n / 10 * 10 = nI (n % 10) := pk_rem (a := n) (d := 10) h (by decide) (by decide)
  rw [h1]
  intro q
  have h2 : (nI (n % 10)).toInt = ((n % 10 : Nat) : Int) := nI_toInt (by omega)
  rw [q] at h2
  have h3 : (-1 : Int32).toInt = -1 := rfl
  rw [h3] at h2
  omega
set_option maxHeartbeats 4000000 in
set_option maxRecDepth 100000 in
theorem met_X5_isInVan (l : Launch) (E : wE) (o : wO) (g : Nat → Nat) (x y : St) (d : Nat) (hd : d < 30) (h8 : y.1 8 d < 42) : Met l yX5_isInVan wsX5_isInVan ({ frames := 0, cells := 0, slots := 0, locals := 0 } : Room) (va_Pc [.ref (g 10), .int (nI d)] (wPre E o g x y)) (va_Qi (fun (r : Int32) (_ : Unit) => (r = 1 ∧ y.1 8 d = 1) ∨ (r = 0 ∧ ¬ y.1 8 d = 1)) (fun (_ : Unit) t => wHS E o g x y t.heap) (wA E)) 0 0 (wA E) := by
  refine Met.ofW (cc := cX5_isInVan) (maxL := 2) (ret := (some .boolean)) (by decide) rfl ?_
  intro p e s m args below meth c s₁ B hml hv
  obtain ⟨rfl, hz, hH, hK⟩ := hv
  have hx := B.exec
  have hb := B.bytes
  have hr := B.returns
  have hts := atoms_spec (ws := wsX5_isInVan) B.pre
  have hown : s.vm.findClass RX5 = some m.cls := findClass_of_methodNamed B.named
  have hlocks := B.notSynchronized
  have hS : va_S (wA E) s.heap s.heap [] := va_S.rf
  have hinX5 : ∀ w ∈ wsX50, w ∈ wsX5_isInVan := fun w h => List.mem_cons_of_mem _ (List.mem_append_left _ (List.mem_append_right _ h))
  have hl := lv_entry ([.ref (g 10), .int (nI d)]) (n := 2) (Nat.le_of_ble_eq_true rfl)
  rw [lg_entry_eq]
  generalize (lg_sl ([.ref (g 10), .int (nI d)]) ++ List.replicate (2 - (lg_sl ([.ref (g 10), .int (nI d)])).length) Slot.unset).toArray = ls at hl ⊢
  have hl : lv_has ls 2 [(0, .ref (g 10)), (1, .int (nI d))] := hl
  obtain ⟨H, eH⟩ : ∃ z, z = s.heap := ⟨_, rfl⟩
  have hH : wHS E o g x y H := by rw [eH]; exact hH
  have hS : va_S (wA E) s.heap H [] := by rw [eH]; exact hS
  refine W.heapTo eH ?_
  refine lv_aload_n hx hb dX5_isInVan_0 rfl (lv_at hl 0 rfl) ?_
  refine wr_get (T := TX5) (N := 30) (ci := 7) (v := .ref (g 15)) hx hb hts hinX5 hown hK hH (lv_md (by decide) (by decide)) (cel_md (by omega) (by omega)) rfl 4 (by decide) (hts (.fieldLink RX5 22 "SelectoRouteModel" "place" "[I") (by decide +kernel)) (fun _ h => h) rfl dX5_isInVan_1 ?_
  refine lv_iload_n hx hb dX5_isInVan_4 rfl (lv_at hl 1 rfl) ?_
  refine wr_iald (v := nI (y.1 8 d) - 2) hx hb hK hH (lv_md (by decide) (by decide)) (cel_md (by decide) (by decide)) 0 rfl (vp_in_nI (n := d) (N := 30) (by omega) (by decide)) (by rw [(nI_clamp (n := d) (by omega))]; try rfl) dX5_isInVan_5 ?_
  refine lv_iconst (v := (-1)) hx hb dX5_isInVan_6 (by decide) ?_
  refine lv_icmp_ne (tgt := 14) hx hb dX5_isInVan_7 (by decide) (fun c1 => ?_) (fun c1 => ?_)
  · have c1 : ¬ ((y.1 8 d) = 1) := fun hq => c1 ((pl_v (n := (y.1 8 d)) (by omega)).mpr hq)
    refine lv_iconst (v := 0) hx hb dX5_isInVan_14 (by decide) ?_
    exact W.zret (v := 0) hx hb hr rfl (fun t ht hW => ⟨⟨0, (), rfl, Or.inr ⟨rfl, c1⟩, wHS_t ht hH⟩, hS.F ht⟩) hS.2.2 dX5_isInVan_15
  · have c1 := (pl_v (n := (y.1 8 d)) (by omega)).mp c1
    refine lv_iconst (v := 1) hx hb dX5_isInVan_10 (by decide) ?_
    refine lv_goto (tgt := 15) hx hb dX5_isInVan_11 (by decide) ?_
    exact W.zret (v := 1) hx hb hr rfl (fun t ht hW => ⟨⟨1, (), rfl, Or.inl ⟨rfl, c1⟩, wHS_t ht hH⟩, hS.F ht⟩) hS.2.2 dX5_isInVan_15
set_option maxHeartbeats 4000000 in
set_option maxRecDepth 100000 in
theorem met_X5_pullAt_v (l : Launch) (E : wE) (o : wO) (g : Nat → Nat) (x y : St) (d : Nat) (hd : d < 30) (h8 : y.1 8 d < 42) (h12 : y.1 12 d < 100) : Met l yX5_pullAt wsX5_pullAt ({ frames := 0, cells := 0, slots := 0, locals := 0 } : Room) (va_Pc [.ref (g 10), .int (-1), .int (nI d)] (wPre E o g x y)) (va_Qi (fun (r : Int32) (_ : Unit) => r = pD y d (-1) (nI (y.1 9 0))) (fun (_ : Unit) t => wHS E o g x y t.heap) (wA E)) 0 0 (wA E) := by
  refine Met.ofW (cc := cX5_pullAt) (maxL := 5) (ret := (some .int)) (by decide) rfl ?_
  intro p e s m args below meth c s₁ B hml hv
  obtain ⟨rfl, hz, hH, hK⟩ := hv
  have hx := B.exec
  have hb := B.bytes
  have hr := B.returns
  have hts := atoms_spec (ws := wsX5_pullAt) B.pre
  have hown : s.vm.findClass RX5 = some m.cls := findClass_of_methodNamed B.named
  have hlocks := B.notSynchronized
  have hS : va_S (wA E) s.heap s.heap [] := va_S.rf
  have hinX5 : ∀ w ∈ wsX50, w ∈ wsX5_pullAt := fun w h => List.mem_cons_of_mem _ (List.mem_append_left _ (List.mem_append_right _ h))
  have hl := lv_entry ([.ref (g 10), .int (-1), .int (nI d)]) (n := 5) (Nat.le_of_ble_eq_true rfl)
  rw [lg_entry_eq]
  generalize (lg_sl ([.ref (g 10), .int (-1), .int (nI d)]) ++ List.replicate (5 - (lg_sl ([.ref (g 10), .int (-1), .int (nI d)])).length) Slot.unset).toArray = ls at hl ⊢
  have hl : lv_has ls 5 [(0, .ref (g 10)), (1, .int (-1)), (2, .int (nI d))] := hl
  obtain ⟨H, eH⟩ : ∃ z, z = s.heap := ⟨_, rfl⟩
  have hH : wHS E o g x y H := by rw [eH]; exact hH
  have hS : va_S (wA E) s.heap H [] := by rw [eH]; exact hS
  refine W.heapTo eH ?_
  refine lv_aload_n hx hb dX5_pullAt_0 rfl (lv_at hl 0 rfl) ?_
  refine wr_get (T := TX5) (N := 30) (ci := 7) (v := .ref (g 15)) hx hb hts hinX5 hown hK hH (lv_md (by decide) (by decide)) (cel_md (by omega) (by omega)) rfl 4 (by decide) (hts (.fieldLink RX5 22 "SelectoRouteModel" "place" "[I") (by decide +kernel)) (fun _ h => h) rfl dX5_pullAt_1 ?_
  refine lv_iload_n hx hb dX5_pullAt_4 rfl (lv_at hl 2 rfl) ?_
  refine wr_iald (v := nI (y.1 8 d) - 2) hx hb hK hH (lv_md (by decide) (by decide)) (cel_md (by decide) (by decide)) 0 rfl (vp_in_nI (n := d) (N := 30) (by omega) (by decide)) (by rw [(nI_clamp (n := d) (by omega))]; try rfl) dX5_pullAt_5 ?_
  refine lv_bipush (v := (-2)) hx hb dX5_pullAt_6 (by decide) ?_
  refine lv_icmp_eq (tgt := 24) hx hb dX5_pullAt_8 (by decide) (fun c1 => ?_) (fun c1 => ?_)
  · have c1 := (pl_b (n := (y.1 8 d)) (by omega)).mp c1
    refine lv_iconst (v := 0) hx hb dX5_pullAt_24 (by decide) ?_
    exact W.iret (v := 0) hx hb hr (fun t ht hW => ⟨⟨0, (), rfl, by simp only [pD, pB, c1, rem_ten (show y.1 12 d < 2 ^ 31 by omega), ↓reduceIte], wHS_t ht hH⟩, hS.F ht⟩) hS.2.2 dX5_pullAt_25
  · have c1 : ¬ ((y.1 8 d) = 0) := fun hq => c1 ((pl_b (n := (y.1 8 d)) (by omega)).mpr hq)
    refine lv_aload_n hx hb dX5_pullAt_11 rfl (lv_at hl 0 rfl) ?_
    refine wr_get (T := TX5) (N := 30) (ci := 7) (v := .int (nI (y.1 9 0))) hx hb hts hinX5 hown hK hH (lv_md (by decide) (by decide)) (cel_md (by omega) (by omega)) rfl 26 (by decide) (hts (.fieldLink RX5 109 "SelectoRouteModel" "week" "I") (by decide +kernel)) (fun _ h => h) rfl dX5_pullAt_12 ?_
    refine lv_aload_n hx hb dX5_pullAt_15 rfl (lv_at hl 0 rfl) ?_
    refine wr_get (T := TX5) (N := 30) (ci := 7) (v := .ref (g 13)) hx hb hts hinX5 hown hK hH (lv_md (by decide) (by decide)) (cel_md (by omega) (by omega)) rfl 2 (by decide) (hts (.fieldLink RX5 16 "SelectoRouteModel" "from" "[I") (by decide +kernel)) (fun _ h => h) rfl dX5_pullAt_16 ?_
    refine lv_iload_n hx hb dX5_pullAt_19 rfl (lv_at hl 2 rfl) ?_
    refine wr_iald (v := (y.2 2 d)) hx hb hK hH (lv_md (by decide) (by decide)) (cel_md (by decide) (by decide)) 0 rfl (vp_in_nI (n := d) (N := 30) (by omega) (by decide)) (by rw [(nI_clamp (n := d) (by omega))]; try rfl) dX5_pullAt_20 ?_
    refine lv_icmp_ge (tgt := 26) hx hb dX5_pullAt_21 (by decide) (fun c2 => ?_) (fun c2 => ?_)
    · skip
      refine lv_aload_n hx hb dX5_pullAt_26 rfl (lv_at hl 0 rfl) ?_
      refine wr_get (T := TX5) (N := 30) (ci := 7) (v := .ref (g 12)) hx hb hts hinX5 hown hK hH (lv_md (by decide) (by decide)) (cel_md (by omega) (by omega)) rfl 1 (by decide) (hts (.fieldLink RX5 13 "SelectoRouteModel" "strength" "[I") (by decide +kernel)) (fun _ h => h) rfl dX5_pullAt_27 ?_
      refine lv_iload_n hx hb dX5_pullAt_30 rfl (lv_at hl 2 rfl) ?_
      refine wr_iald (v := (y.2 1 d)) hx hb hK hH (lv_md (by decide) (by decide)) (cel_md (by decide) (by decide)) 0 rfl (vp_in_nI (n := d) (N := 30) (by omega) (by decide)) (by rw [(nI_clamp (n := d) (by omega))]; try rfl) dX5_pullAt_31 ?_
      refine lv_iconst (v := 5) hx hb dX5_pullAt_32 (by decide) ?_
      refine lv_idiv hx hb dX5_pullAt_33 (by decide) ?_
      refine lv_istore_n (lv' := [(3, .int ((y.2 1 d) / 5)), (0, .ref (g 10)), (1, .int (-1)), (2, .int (nI d))]) hx hb dX5_pullAt_34 rfl hl (by decide) rfl (fun ls hl => ?_)
      refine lv_aload_n hx hb dX5_pullAt_35 rfl (lv_at hl 1 rfl) ?_
      refine wr_get (T := TX5) (N := 30) (ci := 7) (v := .ref (g 12)) hx hb hts hinX5 hown hK hH (lv_md (by decide) (by decide)) (cel_md (by omega) (by omega)) rfl 1 (by decide) (hts (.fieldLink RX5 13 "SelectoRouteModel" "strength" "[I") (by decide +kernel)) (fun _ h => h) rfl dX5_pullAt_36 ?_
      refine lv_iload_n hx hb dX5_pullAt_39 rfl (lv_at hl 3 rfl) ?_
      refine wr_iald (v := (y.2 1 d)) hx hb hK hH (lv_md (by decide) (by decide)) (cel_md (by decide) (by decide)) 0 rfl (vp_in_nI (n := d) (N := 30) (by omega) (by decide)) (by rw [(nI_clamp (n := d) (by omega))]; try rfl) dX5_pullAt_40 ?_
      refine lv_iconst (v := 2) hx hb dX5_pullAt_41 (by decide) ?_
      refine lv_aload_n hx hb dX5_pullAt_42 rfl (lv_at hl 1 rfl) ?_
      refine wr_get (T := TX5) (N := 30) (ci := 7) (v := .int (nI (y.1 9 0))) hx hb hts hinX5 hown hK hH (lv_md (by decide) (by decide)) (cel_md (by omega) (by omega)) rfl 26 (by decide) (hts (.fieldLink RX5 109 "SelectoRouteModel" "week" "I") (by decide +kernel)) (fun _ h => h) rfl dX5_pullAt_43 ?_
      refine lv_aload_n hx hb dX5_pullAt_46 rfl (lv_at hl 1 rfl) ?_
      refine wr_get (T := TX5) (N := 30) (ci := 7) (v := .ref (g 13)) hx hb hts hinX5 hown hK hH (lv_md (by decide) (by decide)) (cel_md (by omega) (by omega)) rfl 2 (by decide) (hts (.fieldLink RX5 16 "SelectoRouteModel" "from" "[I") (by decide +kernel)) (fun _ h => h) rfl dX5_pullAt_47 ?_
      refine lv_iload_n hx hb dX5_pullAt_50 rfl (lv_at hl 3 rfl) ?_
      refine wr_iald (v := (y.2 2 d)) hx hb hK hH (lv_md (by decide) (by decide)) (cel_md (by decide) (by decide)) 0 rfl (vp_in_nI (n := d) (N := 30) (by omega) (by decide)) (by rw [(nI_clamp (n := d) (by omega))]; try rfl) dX5_pullAt_51 ?_
      refine lv_isub hx hb dX5_pullAt_52 ?_
      refine lv_imul hx hb dX5_pullAt_53 ?_
      refine lv_isub hx hb dX5_pullAt_54 ?_
      refine lv_istore (lv' := [(4, .int ((y.2 1 d) - (2 * ((nI (y.1 9 0)) - (y.2 2 d))))), (3, .int ((y.2 1 d) / 5)), (0, .ref (g 10)), (1, .int (-1)), (2, .int (nI d))]) hx hb dX5_pullAt_55 hl (by decide) rfl (fun ls hl => ?_)
      refine lv_iload hx hb dX5_pullAt_57 (lv_at hl 0 rfl) ?_
      refine lv_iload_n hx hb dX5_pullAt_59 rfl (lv_at hl 1 rfl) ?_
      refine lv_icmp_ge (tgt := 67) hx hb dX5_pullAt_60 (by decide) (fun c3 => ?_) (fun c3 => ?_)
      · skip
        refine lv_iload hx hb dX5_pullAt_67 (lv_at hl 0 rfl) ?_
        refine lv_istore (lv' := [(4, .int ((y.2 1 d) - (2 * ((nI (y.1 9 0)) - (y.2 2 d))))), (3, .int ((y.2 1 d) / 5)), (0, .ref (g 10)), (1, .int (-1)), (2, .int (nI d))]) hx hb dX5_pullAt_69 hl (by decide) rfl (fun ls hl => ?_)
        refine lv_iload_n hx hb dX5_pullAt_71 rfl (lv_at hl 3 rfl) ?_
        refine lv_if_lt (tgt := 102) hx hb dX5_pullAt_72 (by decide) (fun _ => ?_) (fun hq => absurd (show ((-1) : Int32) < 0 by decide) hq)
        refine lv_iload hx hb dX5_pullAt_102 (lv_at hl 0 rfl) ?_
        refine lv_aload_n hx hb dX5_pullAt_104 rfl (lv_at hl 2 rfl) ?_
        refine wr_get (T := TX5) (N := 30) (ci := 7) (v := .ref (g 14)) hx hb hts hinX5 hown hK hH (lv_md (by decide) (by decide)) (cel_md (by omega) (by omega)) rfl 3 (by decide) (hts (.fieldLink RX5 19 "SelectoRouteModel" "wear" "[I") (by decide +kernel)) (fun _ h => h) rfl dX5_pullAt_105 ?_
        refine lv_iload_n hx hb dX5_pullAt_108 rfl (lv_at hl 4 rfl) ?_
        refine wr_iald (v := (y.2 3 d)) hx hb hK hH (lv_md (by decide) (by decide)) (cel_md (by decide) (by decide)) 0 rfl (vp_in_nI (n := d) (N := 30) (by omega) (by decide)) (by rw [(nI_clamp (n := d) (by omega))]; try rfl) dX5_pullAt_109 ?_
        refine lv_bipush (v := 10) hx hb dX5_pullAt_110 (by decide) ?_
        refine lv_idiv hx hb dX5_pullAt_112 (by decide) ?_
        refine lv_isub hx hb dX5_pullAt_113 ?_
        refine lv_istore (lv' := [(4, .int (((y.2 1 d) - (2 * ((nI (y.1 9 0)) - (y.2 2 d)))) - ((y.2 3 d) / 10))), (3, .int ((y.2 1 d) / 5)), (0, .ref (g 10)), (1, .int (-1)), (2, .int (nI d))]) hx hb dX5_pullAt_114 hl (by decide) rfl (fun ls hl => ?_)
        refine lv_iload hx hb dX5_pullAt_116 (lv_at hl 0 rfl) ?_
        refine lv_if_ge (tgt := 125) hx hb dX5_pullAt_118 (by decide) (fun c4 => ?_) (fun c4 => ?_)
        · skip
          refine lv_iload hx hb dX5_pullAt_125 (lv_at hl 0 rfl) ?_
          exact W.iret (v := (((y.2 1 d) - (2 * ((nI (y.1 9 0)) - (y.2 2 d)))) - ((y.2 3 d) / 10))) hx hb hr (fun t ht hW => ⟨⟨(((y.2 1 d) - (2 * ((nI (y.1 9 0)) - (y.2 2 d)))) - ((y.2 3 d) / 10)), (), rfl, by simp only [pD, pB, c1, c2, Int32.not_lt.mpr c2, c3, Int32.not_lt.mpr c3, c4, Int32.not_lt.mpr c4, rem_ten (show y.1 12 d < 2 ^ 31 by omega), ↓reduceIte], wHS_t ht hH⟩, hS.F ht⟩) hS.2.2 dX5_pullAt_127
        · skip
          refine lv_iconst (v := 0) hx hb dX5_pullAt_121 (by decide) ?_
          refine lv_goto (tgt := 127) hx hb dX5_pullAt_122 (by decide) ?_
          exact W.iret (v := 0) hx hb hr (fun t ht hW => ⟨⟨0, (), rfl, by simp only [pD, pB, c1, c2, Int32.not_lt.mpr c2, c3, Int32.not_lt.mpr c3, c4, Int32.not_le.mp c4, rem_ten (show y.1 12 d < 2 ^ 31 by omega), ↓reduceIte], wHS_t ht hH⟩, hS.F ht⟩) hS.2.2 dX5_pullAt_127
      · skip
        refine lv_iload_n hx hb dX5_pullAt_63 rfl (lv_at hl 1 rfl) ?_
        refine lv_goto (tgt := 69) hx hb dX5_pullAt_64 (by decide) ?_
        refine lv_istore (lv' := [(4, .int ((y.2 1 d) / 5)), (3, .int ((y.2 1 d) / 5)), (0, .ref (g 10)), (1, .int (-1)), (2, .int (nI d))]) hx hb dX5_pullAt_69 hl (by decide) rfl (fun ls hl => ?_)
        refine lv_iload_n hx hb dX5_pullAt_71 rfl (lv_at hl 3 rfl) ?_
        refine lv_if_lt (tgt := 102) hx hb dX5_pullAt_72 (by decide) (fun _ => ?_) (fun hq => absurd (show ((-1) : Int32) < 0 by decide) hq)
        refine lv_iload hx hb dX5_pullAt_102 (lv_at hl 0 rfl) ?_
        refine lv_aload_n hx hb dX5_pullAt_104 rfl (lv_at hl 2 rfl) ?_
        refine wr_get (T := TX5) (N := 30) (ci := 7) (v := .ref (g 14)) hx hb hts hinX5 hown hK hH (lv_md (by decide) (by decide)) (cel_md (by omega) (by omega)) rfl 3 (by decide) (hts (.fieldLink RX5 19 "SelectoRouteModel" "wear" "[I") (by decide +kernel)) (fun _ h => h) rfl dX5_pullAt_105 ?_
        refine lv_iload_n hx hb dX5_pullAt_108 rfl (lv_at hl 4 rfl) ?_
        refine wr_iald (v := (y.2 3 d)) hx hb hK hH (lv_md (by decide) (by decide)) (cel_md (by decide) (by decide)) 0 rfl (vp_in_nI (n := d) (N := 30) (by omega) (by decide)) (by rw [(nI_clamp (n := d) (by omega))]; try rfl) dX5_pullAt_109 ?_
        refine lv_bipush (v := 10) hx hb dX5_pullAt_110 (by decide) ?_
        refine lv_idiv hx hb dX5_pullAt_112 (by decide) ?_
        refine lv_isub hx hb dX5_pullAt_113 ?_
        refine lv_istore (lv' := [(4, .int (((y.2 1 d) / 5) - ((y.2 3 d) / 10))), (3, .int ((y.2 1 d) / 5)), (0, .ref (g 10)), (1, .int (-1)), (2, .int (nI d))]) hx hb dX5_pullAt_114 hl (by decide) rfl (fun ls hl => ?_)
        refine lv_iload hx hb dX5_pullAt_116 (lv_at hl 0 rfl) ?_
        refine lv_if_ge (tgt := 125) hx hb dX5_pullAt_118 (by decide) (fun c5 => ?_) (fun c5 => ?_)
        · skip
          refine lv_iload hx hb dX5_pullAt_125 (lv_at hl 0 rfl) ?_
          exact W.iret (v := (((y.2 1 d) / 5) - ((y.2 3 d) / 10))) hx hb hr (fun t ht hW => ⟨⟨(((y.2 1 d) / 5) - ((y.2 3 d) / 10)), (), rfl, by simp only [pD, pB, c1, c2, Int32.not_lt.mpr c2, c3, Int32.not_le.mp c3, c5, Int32.not_lt.mpr c5, rem_ten (show y.1 12 d < 2 ^ 31 by omega), ↓reduceIte], wHS_t ht hH⟩, hS.F ht⟩) hS.2.2 dX5_pullAt_127
        · skip
          refine lv_iconst (v := 0) hx hb dX5_pullAt_121 (by decide) ?_
          refine lv_goto (tgt := 127) hx hb dX5_pullAt_122 (by decide) ?_
          exact W.iret (v := 0) hx hb hr (fun t ht hW => ⟨⟨0, (), rfl, by simp only [pD, pB, c1, c2, Int32.not_lt.mpr c2, c3, Int32.not_le.mp c3, c5, Int32.not_le.mp c5, rem_ten (show y.1 12 d < 2 ^ 31 by omega), ↓reduceIte], wHS_t ht hH⟩, hS.F ht⟩) hS.2.2 dX5_pullAt_127
    · skip
      refine lv_iconst (v := 0) hx hb dX5_pullAt_24 (by decide) ?_
      exact W.iret (v := 0) hx hb hr (fun t ht hW => ⟨⟨0, (), rfl, by simp only [pD, pB, c1, c2, Int32.not_le.mp c2, rem_ten (show y.1 12 d < 2 ^ 31 by omega), ↓reduceIte], wHS_t ht hH⟩, hS.F ht⟩) hS.2.2 dX5_pullAt_25
set_option maxHeartbeats 4000000 in
set_option maxRecDepth 100000 in
theorem met_X5_pullAt_b (l : Launch) (E : wE) (o : wO) (g : Nat → Nat) (x y : St) (j d : Nat) (hj : j < 4) (hd : d < 30) (h8 : y.1 8 d < 42) (h12 : y.1 12 d < 100) : Met l yX5_pullAt wsX5_pullAt ({ frames := 0, cells := 0, slots := 0, locals := 0 } : Room) (va_Pc [.ref (g 10), .int (nI j), .int (nI d)] (wPre E o g x y)) (va_Qi (fun (r : Int32) (_ : Unit) => r = pD y d (y.2 5 j) (nI (y.1 9 0))) (fun (_ : Unit) t => wHS E o g x y t.heap) (wA E)) 0 0 (wA E) := by
  refine Met.ofW (cc := cX5_pullAt) (maxL := 5) (ret := (some .int)) (by decide) rfl ?_
  intro p e s m args below meth c s₁ B hml hv
  obtain ⟨rfl, hz, hH, hK⟩ := hv
  have hx := B.exec
  have hb := B.bytes
  have hr := B.returns
  have hts := atoms_spec (ws := wsX5_pullAt) B.pre
  have hown : s.vm.findClass RX5 = some m.cls := findClass_of_methodNamed B.named
  have hlocks := B.notSynchronized
  have hS : va_S (wA E) s.heap s.heap [] := va_S.rf
  have hinX5 : ∀ w ∈ wsX50, w ∈ wsX5_pullAt := fun w h => List.mem_cons_of_mem _ (List.mem_append_left _ (List.mem_append_right _ h))
  have hl := lv_entry ([.ref (g 10), .int (nI j), .int (nI d)]) (n := 5) (Nat.le_of_ble_eq_true rfl)
  rw [lg_entry_eq]
  generalize (lg_sl ([.ref (g 10), .int (nI j), .int (nI d)]) ++ List.replicate (5 - (lg_sl ([.ref (g 10), .int (nI j), .int (nI d)])).length) Slot.unset).toArray = ls at hl ⊢
  have hl : lv_has ls 5 [(0, .ref (g 10)), (1, .int (nI j)), (2, .int (nI d))] := hl
  obtain ⟨H, eH⟩ : ∃ z, z = s.heap := ⟨_, rfl⟩
  have hH : wHS E o g x y H := by rw [eH]; exact hH
  have hS : va_S (wA E) s.heap H [] := by rw [eH]; exact hS
  refine W.heapTo eH ?_
  refine lv_aload_n hx hb dX5_pullAt_0 rfl (lv_at hl 0 rfl) ?_
  refine wr_get (T := TX5) (N := 30) (ci := 7) (v := .ref (g 15)) hx hb hts hinX5 hown hK hH (lv_md (by decide) (by decide)) (cel_md (by omega) (by omega)) rfl 4 (by decide) (hts (.fieldLink RX5 22 "SelectoRouteModel" "place" "[I") (by decide +kernel)) (fun _ h => h) rfl dX5_pullAt_1 ?_
  refine lv_iload_n hx hb dX5_pullAt_4 rfl (lv_at hl 2 rfl) ?_
  refine wr_iald (v := nI (y.1 8 d) - 2) hx hb hK hH (lv_md (by decide) (by decide)) (cel_md (by decide) (by decide)) 0 rfl (vp_in_nI (n := d) (N := 30) (by omega) (by decide)) (by rw [(nI_clamp (n := d) (by omega))]; try rfl) dX5_pullAt_5 ?_
  refine lv_bipush (v := (-2)) hx hb dX5_pullAt_6 (by decide) ?_
  refine lv_icmp_eq (tgt := 24) hx hb dX5_pullAt_8 (by decide) (fun c1 => ?_) (fun c1 => ?_)
  · have c1 := (pl_b (n := (y.1 8 d)) (by omega)).mp c1
    refine lv_iconst (v := 0) hx hb dX5_pullAt_24 (by decide) ?_
    exact W.iret (v := 0) hx hb hr (fun t ht hW => ⟨⟨0, (), rfl, by simp only [pD, pB, c1, eq_self, ↓reduceIte], wHS_t ht hH⟩, hS.F ht⟩) hS.2.2 dX5_pullAt_25
  · have c1 : ¬ ((y.1 8 d) = 0) := fun hq => c1 ((pl_b (n := (y.1 8 d)) (by omega)).mpr hq)
    refine lv_aload_n hx hb dX5_pullAt_11 rfl (lv_at hl 0 rfl) ?_
    refine wr_get (T := TX5) (N := 30) (ci := 7) (v := .int (nI (y.1 9 0))) hx hb hts hinX5 hown hK hH (lv_md (by decide) (by decide)) (cel_md (by omega) (by omega)) rfl 26 (by decide) (hts (.fieldLink RX5 109 "SelectoRouteModel" "week" "I") (by decide +kernel)) (fun _ h => h) rfl dX5_pullAt_12 ?_
    refine lv_aload_n hx hb dX5_pullAt_15 rfl (lv_at hl 0 rfl) ?_
    refine wr_get (T := TX5) (N := 30) (ci := 7) (v := .ref (g 13)) hx hb hts hinX5 hown hK hH (lv_md (by decide) (by decide)) (cel_md (by omega) (by omega)) rfl 2 (by decide) (hts (.fieldLink RX5 16 "SelectoRouteModel" "from" "[I") (by decide +kernel)) (fun _ h => h) rfl dX5_pullAt_16 ?_
    refine lv_iload_n hx hb dX5_pullAt_19 rfl (lv_at hl 2 rfl) ?_
    refine wr_iald (v := (y.2 2 d)) hx hb hK hH (lv_md (by decide) (by decide)) (cel_md (by decide) (by decide)) 0 rfl (vp_in_nI (n := d) (N := 30) (by omega) (by decide)) (by rw [(nI_clamp (n := d) (by omega))]; try rfl) dX5_pullAt_20 ?_
    refine lv_icmp_ge (tgt := 26) hx hb dX5_pullAt_21 (by decide) (fun c2 => ?_) (fun c2 => ?_)
    · skip
      refine lv_aload_n hx hb dX5_pullAt_26 rfl (lv_at hl 0 rfl) ?_
      refine wr_get (T := TX5) (N := 30) (ci := 7) (v := .ref (g 12)) hx hb hts hinX5 hown hK hH (lv_md (by decide) (by decide)) (cel_md (by omega) (by omega)) rfl 1 (by decide) (hts (.fieldLink RX5 13 "SelectoRouteModel" "strength" "[I") (by decide +kernel)) (fun _ h => h) rfl dX5_pullAt_27 ?_
      refine lv_iload_n hx hb dX5_pullAt_30 rfl (lv_at hl 2 rfl) ?_
      refine wr_iald (v := (y.2 1 d)) hx hb hK hH (lv_md (by decide) (by decide)) (cel_md (by decide) (by decide)) 0 rfl (vp_in_nI (n := d) (N := 30) (by omega) (by decide)) (by rw [(nI_clamp (n := d) (by omega))]; try rfl) dX5_pullAt_31 ?_
      refine lv_iconst (v := 5) hx hb dX5_pullAt_32 (by decide) ?_
      refine lv_idiv hx hb dX5_pullAt_33 (by decide) ?_
      refine lv_istore_n (lv' := [(3, .int ((y.2 1 d) / 5)), (0, .ref (g 10)), (1, .int (nI j)), (2, .int (nI d))]) hx hb dX5_pullAt_34 rfl hl (by decide) rfl (fun ls hl => ?_)
      refine lv_aload_n hx hb dX5_pullAt_35 rfl (lv_at hl 1 rfl) ?_
      refine wr_get (T := TX5) (N := 30) (ci := 7) (v := .ref (g 12)) hx hb hts hinX5 hown hK hH (lv_md (by decide) (by decide)) (cel_md (by omega) (by omega)) rfl 1 (by decide) (hts (.fieldLink RX5 13 "SelectoRouteModel" "strength" "[I") (by decide +kernel)) (fun _ h => h) rfl dX5_pullAt_36 ?_
      refine lv_iload_n hx hb dX5_pullAt_39 rfl (lv_at hl 3 rfl) ?_
      refine wr_iald (v := (y.2 1 d)) hx hb hK hH (lv_md (by decide) (by decide)) (cel_md (by decide) (by decide)) 0 rfl (vp_in_nI (n := d) (N := 30) (by omega) (by decide)) (by rw [(nI_clamp (n := d) (by omega))]; try rfl) dX5_pullAt_40 ?_
      refine lv_iconst (v := 2) hx hb dX5_pullAt_41 (by decide) ?_
      refine lv_aload_n hx hb dX5_pullAt_42 rfl (lv_at hl 1 rfl) ?_
      refine wr_get (T := TX5) (N := 30) (ci := 7) (v := .int (nI (y.1 9 0))) hx hb hts hinX5 hown hK hH (lv_md (by decide) (by decide)) (cel_md (by omega) (by omega)) rfl 26 (by decide) (hts (.fieldLink RX5 109 "SelectoRouteModel" "week" "I") (by decide +kernel)) (fun _ h => h) rfl dX5_pullAt_43 ?_
      refine lv_aload_n hx hb dX5_pullAt_46 rfl (lv_at hl 1 rfl) ?_
      refine wr_get (T := TX5) (N := 30) (ci := 7) (v := .ref (g 13)) hx hb hts hinX5 hown hK hH (lv_md (by decide) (by decide)) (cel_md (by omega) (by omega)) rfl 2 (by decide) (hts (.fieldLink RX5 16 "SelectoRouteModel" "from" "[I") (by decide +kernel)) (fun _ h => h) rfl dX5_pullAt_47 ?_
      refine lv_iload_n hx hb dX5_pullAt_50 rfl (lv_at hl 3 rfl) ?_
      refine wr_iald (v := (y.2 2 d)) hx hb hK hH (lv_md (by decide) (by decide)) (cel_md (by decide) (by decide)) 0 rfl (vp_in_nI (n := d) (N := 30) (by omega) (by decide)) (by rw [(nI_clamp (n := d) (by omega))]; try rfl) dX5_pullAt_51 ?_
      refine lv_isub hx hb dX5_pullAt_52 ?_
      refine lv_imul hx hb dX5_pullAt_53 ?_
      refine lv_isub hx hb dX5_pullAt_54 ?_
      refine lv_istore (lv' := [(4, .int ((y.2 1 d) - (2 * ((nI (y.1 9 0)) - (y.2 2 d))))), (3, .int ((y.2 1 d) / 5)), (0, .ref (g 10)), (1, .int (nI j)), (2, .int (nI d))]) hx hb dX5_pullAt_55 hl (by decide) rfl (fun ls hl => ?_)
      refine lv_iload hx hb dX5_pullAt_57 (lv_at hl 0 rfl) ?_
      refine lv_iload_n hx hb dX5_pullAt_59 rfl (lv_at hl 1 rfl) ?_
      refine lv_icmp_ge (tgt := 67) hx hb dX5_pullAt_60 (by decide) (fun c3 => ?_) (fun c3 => ?_)
      · skip
        refine lv_iload hx hb dX5_pullAt_67 (lv_at hl 0 rfl) ?_
        refine lv_istore (lv' := [(4, .int ((y.2 1 d) - (2 * ((nI (y.1 9 0)) - (y.2 2 d))))), (3, .int ((y.2 1 d) / 5)), (0, .ref (g 10)), (1, .int (nI j)), (2, .int (nI d))]) hx hb dX5_pullAt_69 hl (by decide) rfl (fun ls hl => ?_)
        refine lv_iload_n hx hb dX5_pullAt_71 rfl (lv_at hl 3 rfl) ?_
        refine lv_if_lt (tgt := 102) hx hb dX5_pullAt_72 (by decide) (fun hq => absurd ((nI_ltI (a := j) (b := 0) (by omega) (by omega)).mp hq) (Nat.not_lt_zero _)) (fun _ => ?_)
        refine lv_aload_n hx hb dX5_pullAt_75 rfl (lv_at hl 2 rfl) ?_
        refine wr_get (T := TX5) (N := 30) (ci := 7) (v := .ref (g 11)) hx hb hts hinX5 hown hK hH (lv_md (by decide) (by decide)) (cel_md (by omega) (by omega)) rfl 0 (by decide) (hts (.fieldLink RX5 7 "SelectoRouteModel" "song" "[I") (by decide +kernel)) (fun _ h => h) rfl dX5_pullAt_76 ?_
        refine lv_iload_n hx hb dX5_pullAt_79 rfl (lv_at hl 4 rfl) ?_
        refine wr_iald (v := nI (y.1 12 d)) hx hb hK hH (lv_md (by decide) (by decide)) (cel_md (by decide) (by decide)) 0 rfl (vp_in_nI (n := d) (N := 30) (by omega) (by decide)) (by rw [(nI_clamp (n := d) (by omega))]; try rfl) dX5_pullAt_80 ?_
        refine lv_bipush (v := 10) hx hb dX5_pullAt_81 (by decide) ?_
        refine lv_irem hx hb dX5_pullAt_83 (by decide) ?_
        refine lv_aload_n hx hb dX5_pullAt_84 rfl (lv_at hl 2 rfl) ?_
        refine wr_get (T := TX5) (N := 30) (ci := 7) (v := .ref (g 17)) hx hb hts hinX5 hown hK hH (lv_md (by decide) (by decide)) (cel_md (by omega) (by omega)) rfl 7 (by decide) (hts (.fieldLink RX5 28 "SelectoRouteModel" "taste" "[I") (by decide +kernel)) (fun _ h => h) rfl dX5_pullAt_85 ?_
        refine lv_iload_n hx hb dX5_pullAt_88 rfl (lv_at hl 3 rfl) ?_
        refine wr_iald (v := (y.2 5 j)) hx hb hK hH (lv_md (by decide) (by decide)) (cel_md (by decide) (by decide)) 0 rfl (vp_in_nI (n := j) (N := 4) (by omega) (by decide)) (by rw [(nI_clamp (n := j) (by omega))]; try rfl) dX5_pullAt_89 ?_
        refine lv_icmp_ne (tgt := 102) hx hb dX5_pullAt_90 (by decide) (fun c4 => ?_) (fun c4 => ?_)
        · skip
          refine lv_iload hx hb dX5_pullAt_102 (lv_at hl 0 rfl) ?_
          refine lv_aload_n hx hb dX5_pullAt_104 rfl (lv_at hl 2 rfl) ?_
          refine wr_get (T := TX5) (N := 30) (ci := 7) (v := .ref (g 14)) hx hb hts hinX5 hown hK hH (lv_md (by decide) (by decide)) (cel_md (by omega) (by omega)) rfl 3 (by decide) (hts (.fieldLink RX5 19 "SelectoRouteModel" "wear" "[I") (by decide +kernel)) (fun _ h => h) rfl dX5_pullAt_105 ?_
          refine lv_iload_n hx hb dX5_pullAt_108 rfl (lv_at hl 4 rfl) ?_
          refine wr_iald (v := (y.2 3 d)) hx hb hK hH (lv_md (by decide) (by decide)) (cel_md (by decide) (by decide)) 0 rfl (vp_in_nI (n := d) (N := 30) (by omega) (by decide)) (by rw [(nI_clamp (n := d) (by omega))]; try rfl) dX5_pullAt_109 ?_
          refine lv_bipush (v := 10) hx hb dX5_pullAt_110 (by decide) ?_
          refine lv_idiv hx hb dX5_pullAt_112 (by decide) ?_
          refine lv_isub hx hb dX5_pullAt_113 ?_
          refine lv_istore (lv' := [(4, .int (((y.2 1 d) - (2 * ((nI (y.1 9 0)) - (y.2 2 d)))) - ((y.2 3 d) / 10))), (3, .int ((y.2 1 d) / 5)), (0, .ref (g 10)), (1, .int (nI j)), (2, .int (nI d))]) hx hb dX5_pullAt_114 hl (by decide) rfl (fun ls hl => ?_)
          refine lv_iload hx hb dX5_pullAt_116 (lv_at hl 0 rfl) ?_
          refine lv_if_ge (tgt := 125) hx hb dX5_pullAt_118 (by decide) (fun c5 => ?_) (fun c5 => ?_)
          · skip
            refine lv_iload hx hb dX5_pullAt_125 (lv_at hl 0 rfl) ?_
            exact W.iret (v := (((y.2 1 d) - (2 * ((nI (y.1 9 0)) - (y.2 2 d)))) - ((y.2 3 d) / 10))) hx hb hr (fun t ht hW => ⟨⟨(((y.2 1 d) - (2 * ((nI (y.1 9 0)) - (y.2 2 d)))) - ((y.2 3 d) / 10)), (), rfl, by simp only [pD, pB, c1, c2, Int32.not_lt.mpr c2, c3, Int32.not_lt.mpr c3, c4, c5, Int32.not_lt.mpr c5, eq_self, ↓reduceIte], wHS_t ht hH⟩, hS.F ht⟩) hS.2.2 dX5_pullAt_127
          · skip
            refine lv_iconst (v := 0) hx hb dX5_pullAt_121 (by decide) ?_
            refine lv_goto (tgt := 127) hx hb dX5_pullAt_122 (by decide) ?_
            exact W.iret (v := 0) hx hb hr (fun t ht hW => ⟨⟨0, (), rfl, by simp only [pD, pB, c1, c2, Int32.not_lt.mpr c2, c3, Int32.not_lt.mpr c3, c4, c5, Int32.not_le.mp c5, eq_self, ↓reduceIte], wHS_t ht hH⟩, hS.F ht⟩) hS.2.2 dX5_pullAt_127
        · skip
          refine lv_iload hx hb dX5_pullAt_93 (lv_at hl 0 rfl) ?_
          refine lv_iload hx hb dX5_pullAt_95 (lv_at hl 0 rfl) ?_
          refine lv_iconst (v := 2) hx hb dX5_pullAt_97 (by decide) ?_
          refine lv_idiv hx hb dX5_pullAt_98 (by decide) ?_
          refine lv_iadd hx hb dX5_pullAt_99 ?_
          refine lv_istore (lv' := [(4, .int (((y.2 1 d) - (2 * ((nI (y.1 9 0)) - (y.2 2 d)))) + (((y.2 1 d) - (2 * ((nI (y.1 9 0)) - (y.2 2 d)))) / 2))), (3, .int ((y.2 1 d) / 5)), (0, .ref (g 10)), (1, .int (nI j)), (2, .int (nI d))]) hx hb dX5_pullAt_100 hl (by decide) rfl (fun ls hl => ?_)
          refine lv_iload hx hb dX5_pullAt_102 (lv_at hl 0 rfl) ?_
          refine lv_aload_n hx hb dX5_pullAt_104 rfl (lv_at hl 2 rfl) ?_
          refine wr_get (T := TX5) (N := 30) (ci := 7) (v := .ref (g 14)) hx hb hts hinX5 hown hK hH (lv_md (by decide) (by decide)) (cel_md (by omega) (by omega)) rfl 3 (by decide) (hts (.fieldLink RX5 19 "SelectoRouteModel" "wear" "[I") (by decide +kernel)) (fun _ h => h) rfl dX5_pullAt_105 ?_
          refine lv_iload_n hx hb dX5_pullAt_108 rfl (lv_at hl 4 rfl) ?_
          refine wr_iald (v := (y.2 3 d)) hx hb hK hH (lv_md (by decide) (by decide)) (cel_md (by decide) (by decide)) 0 rfl (vp_in_nI (n := d) (N := 30) (by omega) (by decide)) (by rw [(nI_clamp (n := d) (by omega))]; try rfl) dX5_pullAt_109 ?_
          refine lv_bipush (v := 10) hx hb dX5_pullAt_110 (by decide) ?_
          refine lv_idiv hx hb dX5_pullAt_112 (by decide) ?_
          refine lv_isub hx hb dX5_pullAt_113 ?_
          refine lv_istore (lv' := [(4, .int ((((y.2 1 d) - (2 * ((nI (y.1 9 0)) - (y.2 2 d)))) + (((y.2 1 d) - (2 * ((nI (y.1 9 0)) - (y.2 2 d)))) / 2)) - ((y.2 3 d) / 10))), (3, .int ((y.2 1 d) / 5)), (0, .ref (g 10)), (1, .int (nI j)), (2, .int (nI d))]) hx hb dX5_pullAt_114 hl (by decide) rfl (fun ls hl => ?_)
          refine lv_iload hx hb dX5_pullAt_116 (lv_at hl 0 rfl) ?_
          refine lv_if_ge (tgt := 125) hx hb dX5_pullAt_118 (by decide) (fun c6 => ?_) (fun c6 => ?_)
          · skip
            refine lv_iload hx hb dX5_pullAt_125 (lv_at hl 0 rfl) ?_
            exact W.iret (v := ((((y.2 1 d) - (2 * ((nI (y.1 9 0)) - (y.2 2 d)))) + (((y.2 1 d) - (2 * ((nI (y.1 9 0)) - (y.2 2 d)))) / 2)) - ((y.2 3 d) / 10))) hx hb hr (fun t ht hW => ⟨⟨((((y.2 1 d) - (2 * ((nI (y.1 9 0)) - (y.2 2 d)))) + (((y.2 1 d) - (2 * ((nI (y.1 9 0)) - (y.2 2 d)))) / 2)) - ((y.2 3 d) / 10)), (), rfl, by simp only [pD, pB, c1, c2, Int32.not_lt.mpr c2, c3, Int32.not_lt.mpr c3, c4, c6, Int32.not_lt.mpr c6, eq_self, ↓reduceIte], wHS_t ht hH⟩, hS.F ht⟩) hS.2.2 dX5_pullAt_127
          · skip
            refine lv_iconst (v := 0) hx hb dX5_pullAt_121 (by decide) ?_
            refine lv_goto (tgt := 127) hx hb dX5_pullAt_122 (by decide) ?_
            exact W.iret (v := 0) hx hb hr (fun t ht hW => ⟨⟨0, (), rfl, by simp only [pD, pB, c1, c2, Int32.not_lt.mpr c2, c3, Int32.not_lt.mpr c3, c4, c6, Int32.not_le.mp c6, eq_self, ↓reduceIte], wHS_t ht hH⟩, hS.F ht⟩) hS.2.2 dX5_pullAt_127
      · skip
        refine lv_iload_n hx hb dX5_pullAt_63 rfl (lv_at hl 1 rfl) ?_
        refine lv_goto (tgt := 69) hx hb dX5_pullAt_64 (by decide) ?_
        refine lv_istore (lv' := [(4, .int ((y.2 1 d) / 5)), (3, .int ((y.2 1 d) / 5)), (0, .ref (g 10)), (1, .int (nI j)), (2, .int (nI d))]) hx hb dX5_pullAt_69 hl (by decide) rfl (fun ls hl => ?_)
        refine lv_iload_n hx hb dX5_pullAt_71 rfl (lv_at hl 3 rfl) ?_
        refine lv_if_lt (tgt := 102) hx hb dX5_pullAt_72 (by decide) (fun hq => absurd ((nI_ltI (a := j) (b := 0) (by omega) (by omega)).mp hq) (Nat.not_lt_zero _)) (fun _ => ?_)
        refine lv_aload_n hx hb dX5_pullAt_75 rfl (lv_at hl 2 rfl) ?_
        refine wr_get (T := TX5) (N := 30) (ci := 7) (v := .ref (g 11)) hx hb hts hinX5 hown hK hH (lv_md (by decide) (by decide)) (cel_md (by omega) (by omega)) rfl 0 (by decide) (hts (.fieldLink RX5 7 "SelectoRouteModel" "song" "[I") (by decide +kernel)) (fun _ h => h) rfl dX5_pullAt_76 ?_
        refine lv_iload_n hx hb dX5_pullAt_79 rfl (lv_at hl 4 rfl) ?_
        refine wr_iald (v := nI (y.1 12 d)) hx hb hK hH (lv_md (by decide) (by decide)) (cel_md (by decide) (by decide)) 0 rfl (vp_in_nI (n := d) (N := 30) (by omega) (by decide)) (by rw [(nI_clamp (n := d) (by omega))]; try rfl) dX5_pullAt_80 ?_
        refine lv_bipush (v := 10) hx hb dX5_pullAt_81 (by decide) ?_
        refine lv_irem hx hb dX5_pullAt_83 (by decide) ?_
        refine lv_aload_n hx hb dX5_pullAt_84 rfl (lv_at hl 2 rfl) ?_
        refine wr_get (T := TX5) (N := 30) (ci := 7) (v := .ref (g 17)) hx hb hts hinX5 hown hK hH (lv_md (by decide) (by decide)) (cel_md (by omega) (by omega)) rfl 7 (by decide) (hts (.fieldLink RX5 28 "SelectoRouteModel" "taste" "[I") (by decide +kernel)) (fun _ h => h) rfl dX5_pullAt_85 ?_
        refine lv_iload_n hx hb dX5_pullAt_88 rfl (lv_at hl 3 rfl) ?_
        refine wr_iald (v := (y.2 5 j)) hx hb hK hH (lv_md (by decide) (by decide)) (cel_md (by decide) (by decide)) 0 rfl (vp_in_nI (n := j) (N := 4) (by omega) (by decide)) (by rw [(nI_clamp (n := j) (by omega))]; try rfl) dX5_pullAt_89 ?_
        refine lv_icmp_ne (tgt := 102) hx hb dX5_pullAt_90 (by decide) (fun c7 => ?_) (fun c7 => ?_)
        · skip
          refine lv_iload hx hb dX5_pullAt_102 (lv_at hl 0 rfl) ?_
          refine lv_aload_n hx hb dX5_pullAt_104 rfl (lv_at hl 2 rfl) ?_
          refine wr_get (T := TX5) (N := 30) (ci := 7) (v := .ref (g 14)) hx hb hts hinX5 hown hK hH (lv_md (by decide) (by decide)) (cel_md (by omega) (by omega)) rfl 3 (by decide) (hts (.fieldLink RX5 19 "SelectoRouteModel" "wear" "[I") (by decide +kernel)) (fun _ h => h) rfl dX5_pullAt_105 ?_
          refine lv_iload_n hx hb dX5_pullAt_108 rfl (lv_at hl 4 rfl) ?_
          refine wr_iald (v := (y.2 3 d)) hx hb hK hH (lv_md (by decide) (by decide)) (cel_md (by decide) (by decide)) 0 rfl (vp_in_nI (n := d) (N := 30) (by omega) (by decide)) (by rw [(nI_clamp (n := d) (by omega))]; try rfl) dX5_pullAt_109 ?_
          refine lv_bipush (v := 10) hx hb dX5_pullAt_110 (by decide) ?_
          refine lv_idiv hx hb dX5_pullAt_112 (by decide) ?_
          refine lv_isub hx hb dX5_pullAt_113 ?_
          refine lv_istore (lv' := [(4, .int (((y.2 1 d) / 5) - ((y.2 3 d) / 10))), (3, .int ((y.2 1 d) / 5)), (0, .ref (g 10)), (1, .int (nI j)), (2, .int (nI d))]) hx hb dX5_pullAt_114 hl (by decide) rfl (fun ls hl => ?_)
          refine lv_iload hx hb dX5_pullAt_116 (lv_at hl 0 rfl) ?_
          refine lv_if_ge (tgt := 125) hx hb dX5_pullAt_118 (by decide) (fun c8 => ?_) (fun c8 => ?_)
          · skip
            refine lv_iload hx hb dX5_pullAt_125 (lv_at hl 0 rfl) ?_
            exact W.iret (v := (((y.2 1 d) / 5) - ((y.2 3 d) / 10))) hx hb hr (fun t ht hW => ⟨⟨(((y.2 1 d) / 5) - ((y.2 3 d) / 10)), (), rfl, by simp only [pD, pB, c1, c2, Int32.not_lt.mpr c2, c3, Int32.not_le.mp c3, c7, c8, Int32.not_lt.mpr c8, eq_self, ↓reduceIte], wHS_t ht hH⟩, hS.F ht⟩) hS.2.2 dX5_pullAt_127
          · skip
            refine lv_iconst (v := 0) hx hb dX5_pullAt_121 (by decide) ?_
            refine lv_goto (tgt := 127) hx hb dX5_pullAt_122 (by decide) ?_
            exact W.iret (v := 0) hx hb hr (fun t ht hW => ⟨⟨0, (), rfl, by simp only [pD, pB, c1, c2, Int32.not_lt.mpr c2, c3, Int32.not_le.mp c3, c7, c8, Int32.not_le.mp c8, eq_self, ↓reduceIte], wHS_t ht hH⟩, hS.F ht⟩) hS.2.2 dX5_pullAt_127
        · skip
          refine lv_iload hx hb dX5_pullAt_93 (lv_at hl 0 rfl) ?_
          refine lv_iload hx hb dX5_pullAt_95 (lv_at hl 0 rfl) ?_
          refine lv_iconst (v := 2) hx hb dX5_pullAt_97 (by decide) ?_
          refine lv_idiv hx hb dX5_pullAt_98 (by decide) ?_
          refine lv_iadd hx hb dX5_pullAt_99 ?_
          refine lv_istore (lv' := [(4, .int (((y.2 1 d) / 5) + (((y.2 1 d) / 5) / 2))), (3, .int ((y.2 1 d) / 5)), (0, .ref (g 10)), (1, .int (nI j)), (2, .int (nI d))]) hx hb dX5_pullAt_100 hl (by decide) rfl (fun ls hl => ?_)
          refine lv_iload hx hb dX5_pullAt_102 (lv_at hl 0 rfl) ?_
          refine lv_aload_n hx hb dX5_pullAt_104 rfl (lv_at hl 2 rfl) ?_
          refine wr_get (T := TX5) (N := 30) (ci := 7) (v := .ref (g 14)) hx hb hts hinX5 hown hK hH (lv_md (by decide) (by decide)) (cel_md (by omega) (by omega)) rfl 3 (by decide) (hts (.fieldLink RX5 19 "SelectoRouteModel" "wear" "[I") (by decide +kernel)) (fun _ h => h) rfl dX5_pullAt_105 ?_
          refine lv_iload_n hx hb dX5_pullAt_108 rfl (lv_at hl 4 rfl) ?_
          refine wr_iald (v := (y.2 3 d)) hx hb hK hH (lv_md (by decide) (by decide)) (cel_md (by decide) (by decide)) 0 rfl (vp_in_nI (n := d) (N := 30) (by omega) (by decide)) (by rw [(nI_clamp (n := d) (by omega))]; try rfl) dX5_pullAt_109 ?_
          refine lv_bipush (v := 10) hx hb dX5_pullAt_110 (by decide) ?_
          refine lv_idiv hx hb dX5_pullAt_112 (by decide) ?_
          refine lv_isub hx hb dX5_pullAt_113 ?_
          refine lv_istore (lv' := [(4, .int ((((y.2 1 d) / 5) + (((y.2 1 d) / 5) / 2)) - ((y.2 3 d) / 10))), (3, .int ((y.2 1 d) / 5)), (0, .ref (g 10)), (1, .int (nI j)), (2, .int (nI d))]) hx hb dX5_pullAt_114 hl (by decide) rfl (fun ls hl => ?_)
          refine lv_iload hx hb dX5_pullAt_116 (lv_at hl 0 rfl) ?_
          refine lv_if_ge (tgt := 125) hx hb dX5_pullAt_118 (by decide) (fun c9 => ?_) (fun c9 => ?_)
          · skip
            refine lv_iload hx hb dX5_pullAt_125 (lv_at hl 0 rfl) ?_
            exact W.iret (v := ((((y.2 1 d) / 5) + (((y.2 1 d) / 5) / 2)) - ((y.2 3 d) / 10))) hx hb hr (fun t ht hW => ⟨⟨((((y.2 1 d) / 5) + (((y.2 1 d) / 5) / 2)) - ((y.2 3 d) / 10)), (), rfl, by simp only [pD, pB, c1, c2, Int32.not_lt.mpr c2, c3, Int32.not_le.mp c3, c7, c9, Int32.not_lt.mpr c9, eq_self, ↓reduceIte], wHS_t ht hH⟩, hS.F ht⟩) hS.2.2 dX5_pullAt_127
          · skip
            refine lv_iconst (v := 0) hx hb dX5_pullAt_121 (by decide) ?_
            refine lv_goto (tgt := 127) hx hb dX5_pullAt_122 (by decide) ?_
            exact W.iret (v := 0) hx hb hr (fun t ht hW => ⟨⟨0, (), rfl, by simp only [pD, pB, c1, c2, Int32.not_lt.mpr c2, c3, Int32.not_le.mp c3, c7, c9, Int32.not_le.mp c9, eq_self, ↓reduceIte], wHS_t ht hH⟩, hS.F ht⟩) hS.2.2 dX5_pullAt_127
    · skip
      refine lv_iconst (v := 0) hx hb dX5_pullAt_24 (by decide) ?_
      exact W.iret (v := 0) hx hb hr (fun t ht hW => ⟨⟨0, (), rfl, by simp only [pD, pB, c1, c2, Int32.not_le.mp c2, eq_self, ↓reduceIte], wHS_t ht hH⟩, hS.F ht⟩) hS.2.2 dX5_pullAt_25
set_option maxHeartbeats 4000000 in
set_option maxRecDepth 100000 in
theorem met_X5_pullOfSlot (l : Launch) (E : wE) (o : wO) (g : Nat → Nat) (x y : St) (a : Nat) (ha : a < 40) (h7 : y.1 7 a ≤ 30) (h8 : ∀ d, y.1 8 d < 42) (h12 : ∀ d, y.1 12 d < 100) : Met l yX5_pullOfSlot wsX5_pullOfSlot ({ frames := 1, cells := 0, slots := 0, locals := 100 } : Room) (va_Pc [.ref (g 10), .int (nI a)] (wPre E o g x y)) (va_Qi (fun (r : Int32) (_ : Unit) => r = pS y a (y.2 5 (a / 10)) (nI (y.1 9 0))) (fun (_ : Unit) t => wHS E o g x y t.heap) (wA E)) 0 0 (wA E) := by
  refine Met.ofW (cc := cX5_pullOfSlot) (maxL := 2) (ret := (some .int)) (by decide) rfl ?_
  intro p e s m args below meth c s₁ B hml hv
  obtain ⟨rfl, hz, hH, hK⟩ := hv
  have hx := B.exec
  have hb := B.bytes
  have hr := B.returns
  have hts := atoms_spec (ws := wsX5_pullOfSlot) B.pre
  have hown : s.vm.findClass RX5 = some m.cls := findClass_of_methodNamed B.named
  have hlocks := B.notSynchronized
  have hS : va_S (wA E) s.heap s.heap [] := va_S.rf
  have hinX5 : ∀ w ∈ wsX50, w ∈ wsX5_pullOfSlot := fun w h => List.mem_cons_of_mem _ (List.mem_append_left _ (List.mem_append_right _ h))
  have hl := lv_entry ([.ref (g 10), .int (nI a)]) (n := 2) (Nat.le_of_ble_eq_true rfl)
  rw [lg_entry_eq]
  generalize (lg_sl ([.ref (g 10), .int (nI a)]) ++ List.replicate (2 - (lg_sl ([.ref (g 10), .int (nI a)])).length) Slot.unset).toArray = ls at hl ⊢
  have hl : lv_has ls 2 [(0, .ref (g 10)), (1, .int (nI a))] := hl
  obtain ⟨H, eH⟩ : ∃ z, z = s.heap := ⟨_, rfl⟩
  have hH : wHS E o g x y H := by rw [eH]; exact hH
  have hS : va_S (wA E) s.heap H [] := by rw [eH]; exact hS
  refine W.heapTo eH ?_
  refine lv_aload_n hx hb dX5_pullOfSlot_0 rfl (lv_at hl 0 rfl) ?_
  refine wr_get (T := TX5) (N := 30) (ci := 7) (v := .ref (g 29)) hx hb hts hinX5 hown hK hH (lv_md (by decide) (by decide)) (cel_md (by omega) (by omega)) rfl 20 (by decide) (hts (.fieldLink RX5 65 "SelectoRouteModel" "slots" "[I") (by decide +kernel)) (fun _ h => h) rfl dX5_pullOfSlot_1 ?_
  refine lv_iload_n hx hb dX5_pullOfSlot_4 rfl (lv_at hl 1 rfl) ?_
  refine wr_iald (v := nI (y.1 7 a)) hx hb hK hH (lv_md (by decide) (by decide)) (cel_md (by decide) (by decide)) 0 rfl (vp_in_nI (n := a) (N := 40) (by omega) (by decide)) (by rw [(nI_clamp (n := a) (by omega))]; try rfl) dX5_pullOfSlot_5 ?_
  refine lv_if_ne (tgt := 13) hx hb dX5_pullOfSlot_6 (by decide) (fun c1 => ?_) (fun c1 => ?_)
  · have c1 : ¬ ((y.1 7 a) = 0) := fun hq => c1 ((nI_eq (a := (y.1 7 a)) (b := 0) (by omega) (by omega)).mpr hq)
    refine lv_aload_n hx hb dX5_pullOfSlot_13 rfl (lv_at hl 0 rfl) ?_
    refine lv_iload_n hx hb dX5_pullOfSlot_14 rfl (lv_at hl 1 rfl) ?_
    refine lv_bipush (v := 10) hx hb dX5_pullOfSlot_15 (by decide) ?_
    refine lv_idiv hx hb dX5_pullOfSlot_17 (by decide) ?_
    refine lv_tope (pk_div (a := a) (d := 10) (by omega) (by decide) (by decide)) ?_
    refine lv_aload_n hx hb dX5_pullOfSlot_18 rfl (lv_at hl 0 rfl) ?_
    refine wr_get (T := TX5) (N := 30) (ci := 7) (v := .ref (g 29)) hx hb hts hinX5 hown hK hH (lv_md (by decide) (by decide)) (cel_md (by omega) (by omega)) rfl 20 (by decide) (hts (.fieldLink RX5 65 "SelectoRouteModel" "slots" "[I") (by decide +kernel)) (fun _ h => h) rfl dX5_pullOfSlot_19 ?_
    refine lv_iload_n hx hb dX5_pullOfSlot_22 rfl (lv_at hl 1 rfl) ?_
    refine wr_iald (v := nI (y.1 7 a)) hx hb hK hH (lv_md (by decide) (by decide)) (cel_md (by decide) (by decide)) 0 rfl (vp_in_nI (n := a) (N := 40) (by omega) (by decide)) (by rw [(nI_clamp (n := a) (by omega))]; try rfl) dX5_pullOfSlot_23 ?_
    refine lv_iconst (v := 1) hx hb dX5_pullOfSlot_24 (by decide) ?_
    refine lv_isub hx hb dX5_pullOfSlot_25 ?_
    refine lv_tope (pk_sub (a := (y.1 7 a)) (b := 1) (by omega)) ?_
    refine va_calli (va_runV (As := [.int (nI (a / 10)), .int (nI ((y.1 7 a) - 1))]) (rest := []) ⟨hx, hb, hml, hown, hts⟩ (met_X5_pullAt_b l E o g x y (a / 10) ((y.1 7 a) - 1) (by omega) (by omega) (show (y.1 8 ((y.1 7 a) - 1)) < 42 by have q0 := h8 ((y.1 7 a) - 1); omega) (show (y.1 12 ((y.1 7 a) - 1)) < 100 by have q0 := h12 ((y.1 7 a) - 1); omega)) (cwV 2 hts gX5_pullOfSlot_X5_pullAt rfl rfl rfl (by decide +kernel) ⟨Nat.le_of_ble_eq_true rfl, Nat.le_of_ble_eq_true rfl⟩) ⟨fun a U f mk q => ⟨q.1, wPre.calling q.2 a f mk⟩, (va_recv hK (wH_one hH (lv_md (by decide) (by decide)) (cel_md (by omega) (by omega))) (ci := 7) (q0 := 0) rfl rfl), fun U hU hW => ⟨rfl, wPre_at hz hS hH hK U hU hW⟩⟩ rfl rfl hl.1 rfl (lv_room (Nat.le_of_ble_eq_true rfl)) dX5_pullOfSlot_26 ⟨Nat.le_of_ble_eq_true rfl, Nat.le_of_ble_eq_true rfl⟩) hS (fun q _ h => h) (fun q h => h) (fun r u t H locs ht hvm hw hB hz1 hk1 hS => ?_)
    have hB := wHS_h ht hB
    try dsimp only at hw
    obtain rfl := hw
    have hH := hB
    exact W.iret (v := (pD y ((y.1 7 a) - 1) (y.2 5 (a / 10)) (nI (y.1 9 0)))) hx hb hr (fun t ht hW => ⟨⟨(pD y ((y.1 7 a) - 1) (y.2 5 (a / 10)) (nI (y.1 9 0))), (), rfl, by simp only [pS, c1, ↓reduceIte]; try rfl, wHS_t ht hH⟩, hS.F ht⟩) hS.2.2 dX5_pullOfSlot_29
  · have c1 := (nI_eq (a := (y.1 7 a)) (b := 0) (by omega) (by omega)).mp c1
    refine lv_iconst (v := 0) hx hb dX5_pullOfSlot_9 (by decide) ?_
    refine lv_goto (tgt := 29) hx hb dX5_pullOfSlot_10 (by decide) ?_
    exact W.iret (v := 0) hx hb hr (fun t ht hW => ⟨⟨0, (), rfl, by simp only [pS, c1, ↓reduceIte]; try rfl, wHS_t ht hH⟩, hS.F ht⟩) hS.2.2 dX5_pullOfSlot_29
