/-! ===== the class: requireBox, requireDisc, requireSlot and the calls that only read ===== -/
/-- what holds of the class's state throughout -/
def CI (x : St) : Prop := x.1 0 0 ≤ 30 ∧ x.1 1 0 ≤ 4 ∧ x.1 0 0 ≤ x.1 2 0 ∧ x.1 1 0 ≤ x.1 3 0 ∧ x.1 2 0 ≤ 60 ∧ x.1 3 0 ≤ 60 ∧ (∀ a, x.1 7 a ≤ x.1 0 0) ∧ (∀ d, x.1 8 d < 2 + 10 * x.1 1 0) ∧ (∀ j, x.1 5 j ≤ 8) ∧ (∀ j, x.1 5 j ≤ x.1 4 j) ∧ (∀ j, x.1 4 j ≤ 60) ∧ (∀ j i, x.1 (50 + j) i < 10) ∧ x.1 9 0 ≤ 99 ∧ (∀ d, x.1 12 d < 100) ∧ (∀ j, x.1 10 j ≤ x.1 9 0 + 1) ∧ (∀ j, x.2 10 j = 0 ∨ x.2 10 j = 1)
def wNGl (X : String) : List Cond := [.declares (Bundle.initS "java/lang/RuntimeException"), .declares (Bundle.initS "java/lang/Exception"), .declares (Bundle.initS "java/lang/Throwable"), .castable X X]
theorem wNGl_ok {E : wE} {s : State} {args : Array Value} {X : String} (hC : wC E s s.heap) (h : (X, X) ∈ wCas) : ∀ w ∈ wNGl X, w.before args s = true := vx_c (va_Nw.use rfl (hC.2.2.2.2.2.2 _ (by decide +kernel))) (vx_c (va_Nw.use rfl (hC.2.2.2.2.2.2 _ (by decide +kernel))) (vx_c (va_Nw.use rfl (hC.2.2.2.2.2.2 _ (by decide +kernel))) (vx_c (va_Nw.use rfl (hC.2.2.2.1 (X, X) h)) vx_n)))
theorem wNG_xI : (vx_atS RX4 296 "java/lang/IndexOutOfBoundsException" ["java/lang/RuntimeException", "java/lang/Exception"]).filter (fun w => !goodWord w) = wNGl "java/lang/IndexOutOfBoundsException" := by decide +kernel
theorem hat_xI {E : wE} {s : State} {args : Array Value} {Ts : List Cond} (hts : ∀ w ∈ Ts, w.before args s = true) (hseg : ∀ w ∈ (vx_atS RX4 296 "java/lang/IndexOutOfBoundsException" ["java/lang/RuntimeException", "java/lang/Exception"]).filter goodWord, w ∈ Ts) (hC : wC E s s.heap) : ∀ w ∈ vx_atS RX4 296 "java/lang/IndexOutOfBoundsException" ["java/lang/RuntimeException", "java/lang/Exception"], w.before args s = true := vx_hat (fun w h => hts w (hseg w h)) (fun w h => by rw [wNG_xI] at h; exact h) (wNGl_ok hC (by decide +kernel))
theorem wNG_xA : (vx_atS RX4 41 "java/lang/IllegalArgumentException" ["java/lang/RuntimeException", "java/lang/Exception"]).filter (fun w => !goodWord w) = wNGl "java/lang/IllegalArgumentException" := by decide +kernel
theorem hat_xA {E : wE} {s : State} {args : Array Value} {Ts : List Cond} (hts : ∀ w ∈ Ts, w.before args s = true) (hseg : ∀ w ∈ (vx_atS RX4 41 "java/lang/IllegalArgumentException" ["java/lang/RuntimeException", "java/lang/Exception"]).filter goodWord, w ∈ Ts) (hC : wC E s s.heap) : ∀ w ∈ vx_atS RX4 41 "java/lang/IllegalArgumentException" ["java/lang/RuntimeException", "java/lang/Exception"], w.before args s = true := vx_hat (fun w h => hts w (hseg w h)) (fun w h => by rw [wNG_xA] at h; exact h) (wNGl_ok hC (by decide +kernel))
theorem wNG_xS : (vx_atS RX4 52 "java/lang/IllegalStateException" ["java/lang/RuntimeException", "java/lang/Exception"]).filter (fun w => !goodWord w) = wNGl "java/lang/IllegalStateException" := by decide +kernel
theorem hat_xS {E : wE} {s : State} {args : Array Value} {Ts : List Cond} (hts : ∀ w ∈ Ts, w.before args s = true) (hseg : ∀ w ∈ (vx_atS RX4 52 "java/lang/IllegalStateException" ["java/lang/RuntimeException", "java/lang/Exception"]).filter goodWord, w ∈ Ts) (hC : wC E s s.heap) : ∀ w ∈ vx_atS RX4 52 "java/lang/IllegalStateException" ["java/lang/RuntimeException", "java/lang/Exception"], w.before args s = true := vx_hat (fun w h => hts w (hseg w h)) (fun w h => by rw [wNG_xS] at h; exact h) (wNGl_ok hC (by decide +kernel))
theorem wNG_xU : (vx_atS RX4 101 "java/lang/UnsupportedOperationException" ["java/lang/RuntimeException", "java/lang/Exception"]).filter (fun w => !goodWord w) = wNGl "java/lang/UnsupportedOperationException" := by decide +kernel
theorem hat_xU {E : wE} {s : State} {args : Array Value} {Ts : List Cond} (hts : ∀ w ∈ Ts, w.before args s = true) (hseg : ∀ w ∈ (vx_atS RX4 101 "java/lang/UnsupportedOperationException" ["java/lang/RuntimeException", "java/lang/Exception"]).filter goodWord, w ∈ Ts) (hC : wC E s s.heap) : ∀ w ∈ vx_atS RX4 101 "java/lang/UnsupportedOperationException" ["java/lang/RuntimeException", "java/lang/Exception"], w.before args s = true := vx_hat (fun w h => hts w (hseg w h)) (fun w h => by rw [wNG_xU] at h; exact h) (wNGl_ok hC (by decide +kernel))
theorem wNG_xR : (vx_atS RX4 266 "java/lang/ArithmeticException" ["java/lang/RuntimeException", "java/lang/Exception"]).filter (fun w => !goodWord w) = wNGl "java/lang/ArithmeticException" := by decide +kernel
theorem hat_xR {E : wE} {s : State} {args : Array Value} {Ts : List Cond} (hts : ∀ w ∈ Ts, w.before args s = true) (hseg : ∀ w ∈ (vx_atS RX4 266 "java/lang/ArithmeticException" ["java/lang/RuntimeException", "java/lang/Exception"]).filter goodWord, w ∈ Ts) (hC : wC E s s.heap) : ∀ w ∈ vx_atS RX4 266 "java/lang/ArithmeticException" ["java/lang/RuntimeException", "java/lang/Exception"], w.before args s = true := vx_hat (fun w h => hts w (hseg w h)) (fun w h => by rw [wNG_xR] at h; exact h) (wNGl_ok hC (by decide +kernel))
set_option maxHeartbeats 4000000 in
set_option maxRecDepth 100000 in
theorem met_X4_requireBox (l : Launch) (E : wE) (o : wO) (g : Nat → Nat) (x y : St) (b : Int32) (hlt : l.stackTraces = false) (hI : CI x) : vx_Met l yX4_requireBox wsX4_requireBox ({ frames := 8, cells := 1, slots := 6, locals := 900 } : Room) (va_Pc [.ref (g 0), .int b] (wPreX E o g x y)) (va_Qr (fun (_ : Unit) => inB b (x.1 1 0) = true) (fun (_ : Unit) ra t => ra = g (200 + ix b) ∧ wHS E o g x y t.heap) (wA E)) (wXC E o g x y (fun X => X = "java/lang/IndexOutOfBoundsException" ∧ inB b (x.1 1 0) = false)) 1 6 (wA E) := by
  refine vx_ofW (cc := cX4_requireBox) (maxL := 2) (ret := (some (.object "SelectoRoute$Box"))) (by decide) rfl ?_
  intro p e s m args below meth c s₁ B hml hnt hv
  obtain ⟨rfl, ⟨hz, hH, hK⟩, hC⟩ := hv
  have hx := B.exec
  have hb := B.bytes
  have hr := B.returns
  have hts := atoms_spec (ws := wsX4_requireBox) B.pre
  have hown : s.vm.findClass RX4 = some m.cls := findClass_of_methodNamed B.named
  have hlocks := B.notSynchronized
  have hS : va_S (wA E) s.heap s.heap [] := va_S.rf
  have hinX4 : ∀ w ∈ wsX40, w ∈ wsX4_requireBox := fun w h => List.mem_cons_of_mem _ (List.mem_append_left _ (List.mem_append_left _ (List.mem_append_right _ h)))
  have hinJx4a65c : ∀ w ∈ wsJx4a65c0, w ∈ wsX4_requireBox := fun w h => List.mem_cons_of_mem _ (List.mem_append_left _ (List.mem_append_right _ h))
  have hl := lv_entry ([.ref (g 0), .int b]) (n := 2) (Nat.le_of_ble_eq_true rfl)
  rw [lg_entry_eq]
  generalize (lg_sl ([.ref (g 0), .int b]) ++ List.replicate (2 - (lg_sl ([.ref (g 0), .int b])).length) Slot.unset).toArray = ls at hl ⊢
  have hl : lv_has ls 2 [(0, .ref (g 0)), (1, .int b)] := hl
  obtain ⟨H, eH⟩ : ∃ z, z = s.heap := ⟨_, rfl⟩
  have hH : wHS E o g x y H := by rw [eH]; exact hH
  have hS : va_S (wA E) s.heap H [] := by rw [eH]; exact hS
  refine W.heapTo eH ?_
  obtain ⟨hn0, hn1, hn2, hn3, hn4, hn5, hc7, hc8, hc5, hc54, hc4, hc50, hc9, hc12, hc10, hcj⟩ := id hI
  refine lv_iload_n hx hb dX4_requireBox_0 rfl (lv_at hl 1 rfl) ?_
  refine lv_if_lt (tgt := 15) hx hb dX4_requireBox_1 (by decide) (fun c1 => ?_) (fun c1 => ?_)
  · skip
    obtain ⟨sa, hsa⟩ := hC.2.2.1 (294, "no such box") (by decide +kernel)
    exact vx_throwSW (A := wA E) (names := ["java/lang/RuntimeException", "java/lang/Exception"]) hx hb hlt hown (by decide +kernel) (by decide +kernel) (hts (.classLink RX4 292 "java/lang/IndexOutOfBoundsException") (by decide +kernel)) (hts (.initialized "java/lang/IndexOutOfBoundsException") (by decide +kernel)) hsa (hat_xI hts (fun w h => List.mem_cons_of_mem _ (List.mem_append_right _ h)) hC) (by decide +kernel) hC.1 hC.2.1 (by rw [← eH] at *; exact hS) (hl.1.trans hml.symm) dX4_requireBox_15 dX4_requireBox_18 dX4_requireBox_19 dX4_requireBox_22 dX4_requireBox_25 (fun x h => (hnt x h).elim) (Nat.lt_of_lt_of_le (by decide : 2 + 3 < 6) (Nat.le_of_ble_eq_true rfl)) (Nat.le_of_ble_eq_true rfl) (Nat.le_of_ble_eq_true rfl) (Nat.le_of_ble_eq_true rfl) hlocks (wX_of hS hH ⟨rfl, inB_neg c1⟩) hS.2.2 (by omega) (by omega)
  · skip
    obtain ⟨j, hj31, rfl⟩ := nI_of c1
    refine lv_iload_n hx hb dX4_requireBox_4 rfl (lv_at hl 1 rfl) ?_
    refine lv_aload_n hx hb dX4_requireBox_5 rfl (lv_at hl 0 rfl) ?_
    refine wr_get (T := TX4) (N := 9) (ci := 6) (v := .ref (g 3)) hx hb hts hinX4 hown hK hH lv_r0 (cel_rt (by omega)) rfl 1 (by decide) (hts (.fieldLink RX4 16 "SelectoRoute" "boxes" "Ljava/util/ArrayList;") (by decide +kernel)) (fun _ h => h) rfl dX4_requireBox_6 ?_
    refine va_calli (va_runV (As := []) (rest := [.int (nI j)]) ⟨hx, hb, hml, hown, hts⟩ (met_AL_size l E g (liv x.1) (cel E.2.1 g x y o.1 o.2) 3 4 (x.2 21 0) (x.1 3 0) (x.1 1 0) E.2.1.2 lv_r3 (cel_rt (by omega))) (cwV 0 hts gX4_requireBox_Jx4a65c_size_8abf5 rfl rfl rfl (by decide +kernel) ⟨Nat.le_of_ble_eq_true rfl, Nat.le_of_ble_eq_true rfl⟩) ⟨fun a U f mk q => ⟨q.1, wPreG.calling q.2 a f mk⟩, (va_recv hK (wH_one hH lv_r3 (cel_rt (by omega))) (ci := 2) (q0 := 0) rfl rfl), fun U hU hW => ⟨rfl, wPreG_at hz hS hH hK U hU hW⟩⟩ rfl rfl hl.1 rfl (lv_room (Nat.le_of_ble_eq_true rfl)) dX4_requireBox_9 ⟨Nat.le_of_ble_eq_true rfl, Nat.le_of_ble_eq_true rfl⟩) hS (fun q _ h => h) (fun q h => h) (fun r u t H locs ht hvm hw hB hz1 hk1 hS => ?_)
    obtain rfl := hw
    have hH : wHS E o g x y H := wG_h ht hB
    refine lv_icmp_lt (tgt := 26) hx hb dX4_requireBox_12 (by decide) (fun c2 => ?_) (fun c2 => ?_)
    · have c2 := (nI_ltI (a := j) (b := (x.1 1 0)) (by omega) (by omega)).mp c2
      refine lv_aload_n hx hb dX4_requireBox_26 rfl (lv_at hl 0 rfl) ?_
      refine wr_get (T := TX4) (N := 9) (ci := 6) (v := .ref (g 3)) hx hb hts hinX4 hown hK hH lv_r0 (cel_rt (by omega)) rfl 1 (by decide) (hts (.fieldLink RX4 16 "SelectoRoute" "boxes" "Ljava/util/ArrayList;") (by decide +kernel)) (fun _ h => h) rfl dX4_requireBox_27 ?_
      refine lv_iload_n hx hb dX4_requireBox_30 rfl (lv_at hl 1 rfl) ?_
      refine va_callr (va_runV (As := [.int (nI j)]) (rest := []) ⟨hx, hb, hml, hown, hts⟩ (met_AL_get l E g (liv x.1) (cel E.2.1 g x y o.1 o.2) 3 4 (x.2 21 0) (x.1 3 0) (x.1 1 0) E.2.1.2 j lv_r3 (cel_rt (by omega)) (show x.1 3 0 ≠ 0 by have hq := (show j < x.1 1 0 by omega); omega) (lv_r4 (show x.1 3 0 ≠ 0 by have hq := (show j < x.1 1 0 by omega); omega)) (fun i => g (200 + i)) (cel_rt (by omega)) (show x.1 1 0 ≤ x.1 3 0 by omega) (show x.1 3 0 < 2 ^ 31 by omega) (show j < x.1 1 0 by omega)) (cwV 1 hts gX4_requireBox_Jx4a65c_get_915e3 rfl rfl rfl (by decide +kernel) ⟨Nat.le_of_ble_eq_true rfl, Nat.le_of_ble_eq_true rfl⟩) ⟨fun a U f mk q => ⟨q.1, wPreG.calling q.2 a f mk⟩, (va_recv hK (wH_one hH lv_r3 (cel_rt (by omega))) (ci := 2) (q0 := 0) rfl rfl), fun U hU hW => ⟨rfl, wPreG_at hz hS hH hK U hU hW⟩⟩ rfl rfl hl.1 rfl (lv_room (Nat.le_of_ble_eq_true rfl)) dX4_requireBox_31 ⟨Nat.le_of_ble_eq_true rfl, Nat.le_of_ble_eq_true rfl⟩) hS (fun q _ h => h) (fun q h => h) (fun u ra t H locs ht hvm hw hB hz1 hk1 hS => ?_)
      obtain ⟨rfl, hB⟩ := hB
      have hH : wHS E o g x y H := wG_h ht hB
      refine va_castS hx hb hown (hts (.classLink RX4 69 RX0) (by decide +kernel)) (hK.1 3 _ rfl).2 (va_recv hK (wH_one hH (lv_bx (show j < x.1 1 0 by omega) hn1) (cel_bx (by omega))) (ci := 3) (q0 := 0) rfl rfl) dX4_requireBox_34 ?_
      refine vx_ret ?_
      refine W.widen (k := 1) (n := 6) (by omega) (by omega) ?_
      exact W.aret (v := .ref (g (200 + j))) hx hb hr (Or.inl ⟨_, rfl⟩) (Or.inr ⟨_, rfl⟩) (fun t ht hW => ⟨⟨(), g (200 + j), rfl, inB_nI (show j < x.1 1 0 by omega) (by omega), by rw [ix_nI (by omega)], wHS_t ht hH⟩, hS.F ht⟩) hS.2.2 dX4_requireBox_37
    · have c2 : ¬ (j < (x.1 1 0)) := fun hq => c2 ((nI_ltI (a := j) (b := (x.1 1 0)) (by omega) (by omega)).mpr hq)
      obtain ⟨sa, hsa⟩ := hC.2.2.1 (294, "no such box") (by decide +kernel)
      exact vx_throwSW (A := wA E) (names := ["java/lang/RuntimeException", "java/lang/Exception"]) hx hb hlt hown (by decide +kernel) (by decide +kernel) (hts (.classLink RX4 292 "java/lang/IndexOutOfBoundsException") (by decide +kernel)) (hts (.initialized "java/lang/IndexOutOfBoundsException") (by decide +kernel)) hsa (hat_xI hts (fun w h => List.mem_cons_of_mem _ (List.mem_append_right _ h)) hC) (by decide +kernel) hC.1 hC.2.1 (by rw [← eH] at *; exact hS) (hl.1.trans hml.symm) dX4_requireBox_15 dX4_requireBox_18 dX4_requireBox_19 dX4_requireBox_22 dX4_requireBox_25 (fun x h => (hnt x h).elim) (Nat.lt_of_lt_of_le (by decide : 2 + 3 < 6) (Nat.le_of_ble_eq_true rfl)) (Nat.le_of_ble_eq_true rfl) (Nat.le_of_ble_eq_true rfl) (Nat.le_of_ble_eq_true rfl) hlocks (wX_of hS hH ⟨rfl, inB_big (by omega) (by omega)⟩) hS.2.2 (by omega) (by omega)
set_option maxHeartbeats 4000000 in
set_option maxRecDepth 100000 in
theorem met_X4_requireDisc (l : Launch) (E : wE) (o : wO) (g : Nat → Nat) (x y : St) (b : Int32) (hlt : l.stackTraces = false) (hI : CI x) : vx_Met l yX4_requireDisc wsX4_requireDisc ({ frames := 8, cells := 1, slots := 6, locals := 900 } : Room) (va_Pc [.ref (g 0), .int b] (wPreX E o g x y)) (va_Qr (fun (_ : Unit) => inB b (x.1 0 0) = true) (fun (_ : Unit) ra t => ra = g (100 + ix b) ∧ wHS E o g x y t.heap) (wA E)) (wXC E o g x y (fun X => X = "java/lang/IndexOutOfBoundsException" ∧ inB b (x.1 0 0) = false)) 1 6 (wA E) := by
  refine vx_ofW (cc := cX4_requireDisc) (maxL := 2) (ret := (some (.object "SelectoRoute$Disc"))) (by decide) rfl ?_
  intro p e s m args below meth c s₁ B hml hnt hv
  obtain ⟨rfl, ⟨hz, hH, hK⟩, hC⟩ := hv
  have hx := B.exec
  have hb := B.bytes
  have hr := B.returns
  have hts := atoms_spec (ws := wsX4_requireDisc) B.pre
  have hown : s.vm.findClass RX4 = some m.cls := findClass_of_methodNamed B.named
  have hlocks := B.notSynchronized
  have hS : va_S (wA E) s.heap s.heap [] := va_S.rf
  have hinX4 : ∀ w ∈ wsX40, w ∈ wsX4_requireDisc := fun w h => List.mem_cons_of_mem _ (List.mem_append_left _ (List.mem_append_left _ (List.mem_append_right _ h)))
  have hinJx4a65c : ∀ w ∈ wsJx4a65c0, w ∈ wsX4_requireDisc := fun w h => List.mem_cons_of_mem _ (List.mem_append_left _ (List.mem_append_right _ h))
  have hl := lv_entry ([.ref (g 0), .int b]) (n := 2) (Nat.le_of_ble_eq_true rfl)
  rw [lg_entry_eq]
  generalize (lg_sl ([.ref (g 0), .int b]) ++ List.replicate (2 - (lg_sl ([.ref (g 0), .int b])).length) Slot.unset).toArray = ls at hl ⊢
  have hl : lv_has ls 2 [(0, .ref (g 0)), (1, .int b)] := hl
  obtain ⟨H, eH⟩ : ∃ z, z = s.heap := ⟨_, rfl⟩
  have hH : wHS E o g x y H := by rw [eH]; exact hH
  have hS : va_S (wA E) s.heap H [] := by rw [eH]; exact hS
  refine W.heapTo eH ?_
  obtain ⟨hn0, hn1, hn2, hn3, hn4, hn5, hc7, hc8, hc5, hc54, hc4, hc50, hc9, hc12, hc10, hcj⟩ := id hI
  refine lv_iload_n hx hb dX4_requireDisc_0 rfl (lv_at hl 1 rfl) ?_
  refine lv_if_lt (tgt := 15) hx hb dX4_requireDisc_1 (by decide) (fun c1 => ?_) (fun c1 => ?_)
  · skip
    obtain ⟨sa, hsa⟩ := hC.2.2.1 (297, "no such disc") (by decide +kernel)
    exact vx_throwSW (A := wA E) (names := ["java/lang/RuntimeException", "java/lang/Exception"]) hx hb hlt hown (by decide +kernel) (by decide +kernel) (hts (.classLink RX4 292 "java/lang/IndexOutOfBoundsException") (by decide +kernel)) (hts (.initialized "java/lang/IndexOutOfBoundsException") (by decide +kernel)) hsa (hat_xI hts (fun w h => List.mem_cons_of_mem _ (List.mem_append_right _ h)) hC) (by decide +kernel) hC.1 hC.2.1 (by rw [← eH] at *; exact hS) (hl.1.trans hml.symm) dX4_requireDisc_15 dX4_requireDisc_18 dX4_requireDisc_19 dX4_requireDisc_22 dX4_requireDisc_25 (fun x h => (hnt x h).elim) (Nat.lt_of_lt_of_le (by decide : 2 + 3 < 6) (Nat.le_of_ble_eq_true rfl)) (Nat.le_of_ble_eq_true rfl) (Nat.le_of_ble_eq_true rfl) (Nat.le_of_ble_eq_true rfl) hlocks (wX_of hS hH ⟨rfl, inB_neg c1⟩) hS.2.2 (by omega) (by omega)
  · skip
    obtain ⟨j, hj31, rfl⟩ := nI_of c1
    refine lv_iload_n hx hb dX4_requireDisc_4 rfl (lv_at hl 1 rfl) ?_
    refine lv_aload_n hx hb dX4_requireDisc_5 rfl (lv_at hl 0 rfl) ?_
    refine wr_get (T := TX4) (N := 9) (ci := 6) (v := .ref (g 1)) hx hb hts hinX4 hown hK hH lv_r0 (cel_rt (by omega)) rfl 0 (by decide) (hts (.fieldLink RX4 10 "SelectoRoute" "discs" "Ljava/util/ArrayList;") (by decide +kernel)) (fun _ h => h) rfl dX4_requireDisc_6 ?_
    refine va_calli (va_runV (As := []) (rest := [.int (nI j)]) ⟨hx, hb, hml, hown, hts⟩ (met_AL_size l E g (liv x.1) (cel E.2.1 g x y o.1 o.2) 1 2 (x.2 20 0) (x.1 2 0) (x.1 0 0) E.2.1.2 lv_r1 (cel_rt (by omega))) (cwV 0 hts gX4_requireDisc_Jx4a65c_size_8abf5 rfl rfl rfl (by decide +kernel) ⟨Nat.le_of_ble_eq_true rfl, Nat.le_of_ble_eq_true rfl⟩) ⟨fun a U f mk q => ⟨q.1, wPreG.calling q.2 a f mk⟩, (va_recv hK (wH_one hH lv_r1 (cel_rt (by omega))) (ci := 2) (q0 := 0) rfl rfl), fun U hU hW => ⟨rfl, wPreG_at hz hS hH hK U hU hW⟩⟩ rfl rfl hl.1 rfl (lv_room (Nat.le_of_ble_eq_true rfl)) dX4_requireDisc_9 ⟨Nat.le_of_ble_eq_true rfl, Nat.le_of_ble_eq_true rfl⟩) hS (fun q _ h => h) (fun q h => h) (fun r u t H locs ht hvm hw hB hz1 hk1 hS => ?_)
    obtain rfl := hw
    have hH : wHS E o g x y H := wG_h ht hB
    refine lv_icmp_lt (tgt := 26) hx hb dX4_requireDisc_12 (by decide) (fun c2 => ?_) (fun c2 => ?_)
    · have c2 := (nI_ltI (a := j) (b := (x.1 0 0)) (by omega) (by omega)).mp c2
      refine lv_aload_n hx hb dX4_requireDisc_26 rfl (lv_at hl 0 rfl) ?_
      refine wr_get (T := TX4) (N := 9) (ci := 6) (v := .ref (g 1)) hx hb hts hinX4 hown hK hH lv_r0 (cel_rt (by omega)) rfl 0 (by decide) (hts (.fieldLink RX4 10 "SelectoRoute" "discs" "Ljava/util/ArrayList;") (by decide +kernel)) (fun _ h => h) rfl dX4_requireDisc_27 ?_
      refine lv_iload_n hx hb dX4_requireDisc_30 rfl (lv_at hl 1 rfl) ?_
      refine va_callr (va_runV (As := [.int (nI j)]) (rest := []) ⟨hx, hb, hml, hown, hts⟩ (met_AL_get l E g (liv x.1) (cel E.2.1 g x y o.1 o.2) 1 2 (x.2 20 0) (x.1 2 0) (x.1 0 0) E.2.1.2 j lv_r1 (cel_rt (by omega)) (show x.1 2 0 ≠ 0 by have hq := (show j < x.1 0 0 by omega); omega) (lv_r2 (show x.1 2 0 ≠ 0 by have hq := (show j < x.1 0 0 by omega); omega)) (fun i => g (100 + i)) (cel_rt (by omega)) (show x.1 0 0 ≤ x.1 2 0 by omega) (show x.1 2 0 < 2 ^ 31 by omega) (show j < x.1 0 0 by omega)) (cwV 1 hts gX4_requireDisc_Jx4a65c_get_915e3 rfl rfl rfl (by decide +kernel) ⟨Nat.le_of_ble_eq_true rfl, Nat.le_of_ble_eq_true rfl⟩) ⟨fun a U f mk q => ⟨q.1, wPreG.calling q.2 a f mk⟩, (va_recv hK (wH_one hH lv_r1 (cel_rt (by omega))) (ci := 2) (q0 := 0) rfl rfl), fun U hU hW => ⟨rfl, wPreG_at hz hS hH hK U hU hW⟩⟩ rfl rfl hl.1 rfl (lv_room (Nat.le_of_ble_eq_true rfl)) dX4_requireDisc_31 ⟨Nat.le_of_ble_eq_true rfl, Nat.le_of_ble_eq_true rfl⟩) hS (fun q _ h => h) (fun q h => h) (fun u ra t H locs ht hvm hw hB hz1 hk1 hS => ?_)
      obtain ⟨rfl, hB⟩ := hB
      have hH : wHS E o g x y H := wG_h ht hB
      refine va_castS hx hb hown (hts (.classLink RX4 53 RX2) (by decide +kernel)) (hK.1 4 _ rfl).2 (va_recv hK (wH_one hH (lv_di (show j < x.1 0 0 by omega) hn0) (cel_di (by omega))) (ci := 4) (q0 := 0) rfl rfl) dX4_requireDisc_34 ?_
      refine vx_ret ?_
      refine W.widen (k := 1) (n := 6) (by omega) (by omega) ?_
      exact W.aret (v := .ref (g (100 + j))) hx hb hr (Or.inl ⟨_, rfl⟩) (Or.inr ⟨_, rfl⟩) (fun t ht hW => ⟨⟨(), g (100 + j), rfl, inB_nI (show j < x.1 0 0 by omega) (by omega), by rw [ix_nI (by omega)], wHS_t ht hH⟩, hS.F ht⟩) hS.2.2 dX4_requireDisc_37
    · have c2 : ¬ (j < (x.1 0 0)) := fun hq => c2 ((nI_ltI (a := j) (b := (x.1 0 0)) (by omega) (by omega)).mpr hq)
      obtain ⟨sa, hsa⟩ := hC.2.2.1 (297, "no such disc") (by decide +kernel)
      exact vx_throwSW (A := wA E) (names := ["java/lang/RuntimeException", "java/lang/Exception"]) hx hb hlt hown (by decide +kernel) (by decide +kernel) (hts (.classLink RX4 292 "java/lang/IndexOutOfBoundsException") (by decide +kernel)) (hts (.initialized "java/lang/IndexOutOfBoundsException") (by decide +kernel)) hsa (hat_xI hts (fun w h => List.mem_cons_of_mem _ (List.mem_append_right _ h)) hC) (by decide +kernel) hC.1 hC.2.1 (by rw [← eH] at *; exact hS) (hl.1.trans hml.symm) dX4_requireDisc_15 dX4_requireDisc_18 dX4_requireDisc_19 dX4_requireDisc_22 dX4_requireDisc_25 (fun x h => (hnt x h).elim) (Nat.lt_of_lt_of_le (by decide : 2 + 3 < 6) (Nat.le_of_ble_eq_true rfl)) (Nat.le_of_ble_eq_true rfl) (Nat.le_of_ble_eq_true rfl) (Nat.le_of_ble_eq_true rfl) hlocks (wX_of hS hH ⟨rfl, inB_big (by omega) (by omega)⟩) hS.2.2 (by omega) (by omega)
