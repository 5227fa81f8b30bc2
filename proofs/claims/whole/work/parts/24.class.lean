/-! ===== the class: further public methods without lists ===== -/
theorem vw_eq {a b : Nat} (ha : a < 2 ^ 30) (hb : b < 2 ^ 30) : nI a - 1 = nI b ↔ a = b + 1 := by
  have h1 : (nI a - 1).toInt = (a : Int) - 1 := pk_sub_toInt (a := a) (b := 1) ha (by decide)
  have h2 : (nI b).toInt = (b : Int) := nI_toInt (by omega)
  rw [← Int32.toInt_inj, h1, h2]
  omega
theorem vw_put (b : Nat) : nI b = nI (b + 1) - 1 := by rw [show (1 : Int32) = nI 1 from rfl, pk_sub (by omega), Nat.add_sub_cancel]
theorem upd_up (f : Nat → Int32) (i : Nat) (v : Int32) : upd f i v = va_up f i v := by
  funext z
  simp only [upd, va_up]
theorem pa_as1 {E : wE} {o : wO} {g : Nat → Nat} {x y : St} {H : Heap} {j i : Nat} {ix : Int32} {v : Int32} (hi : ix.toNatClampNeg = i) (hj : j < 10) (h : wH E.1 E.2.2 g (liv x.1) (va_up (cel E.2.1 g x y o.1 o.2) (240 + j) (.inl (E.2.1.1 0, 100, .inl (upd (x.2 (100 + j)) ix.toNatClampNeg v)))) H) : wHS E o g (uI x (100 + j) i v) y H := by
  subst hi
  have h2 := pa_as hj h
  rw [upd_up] at h2
  exact h2
/-- the invariant speaks of the first sort and of what is jammed -/
theorem CI_I {x z : St} (hI : CI x) (h1 : z.1 = x.1 := by rfl) (h2 : z.2 10 = x.2 10 := by rfl) : CI z := by unfold CI at *; rw [h1, h2]; exact hI
set_option maxHeartbeats 4000000 in
set_option maxRecDepth 100000 in
theorem met_X4_isWithin (l : Launch) (E : wE) (o : wO) (g : Nat → Nat) (x y : St) (v lo hi : Int32) : Met l yX4_isWithin wsX4_isWithin ({ frames := 0, cells := 0, slots := 0, locals := 0 } : Room) (va_Pc [.int v, .int lo, .int hi] (wPre E o g x y)) (va_Qi (fun (r : Int32) (_ : Unit) => (r = 1 ∧ lo ≤ v ∧ v ≤ hi) ∨ (r = 0 ∧ ¬ (lo ≤ v ∧ v ≤ hi))) (fun (_ : Unit) t => wHS E o g x y t.heap) (wA E)) 0 0 (wA E) := by
  refine Met.ofW (cc := cX4_isWithin) (maxL := 3) (ret := (some .boolean)) (by decide) rfl ?_
  intro p e s m args below meth c s₁ B hml hv
  obtain ⟨rfl, hz, hH, hK⟩ := hv
  have hx := B.exec
  have hb := B.bytes
  have hr := B.returns
  have hts := atoms_spec (ws := wsX4_isWithin) B.pre
  have hown : s.vm.findClass RX4 = some m.cls := findClass_of_methodNamed B.named
  have hlocks := B.notSynchronized
  have hS : va_S (wA E) s.heap s.heap [] := va_S.rf
  have hl := lv_entry ([.int v, .int lo, .int hi]) (n := 3) (Nat.le_of_ble_eq_true rfl)
  rw [lg_entry_eq]
  generalize (lg_sl ([.int v, .int lo, .int hi]) ++ List.replicate (3 - (lg_sl ([.int v, .int lo, .int hi])).length) Slot.unset).toArray = ls at hl ⊢
  have hl : lv_has ls 3 [(0, .int v), (1, .int lo), (2, .int hi)] := hl
  obtain ⟨H, eH⟩ : ∃ z, z = s.heap := ⟨_, rfl⟩
  have hH : wHS E o g x y H := by rw [eH]; exact hH
  have hS : va_S (wA E) s.heap H [] := by rw [eH]; exact hS
  refine W.heapTo eH ?_
  refine lv_iload_n hx hb dX4_isWithin_0 rfl (lv_at hl 0 rfl) ?_
  refine lv_iload_n hx hb dX4_isWithin_1 rfl (lv_at hl 1 rfl) ?_
  refine lv_icmp_lt (tgt := 14) hx hb dX4_isWithin_2 (by decide) (fun c1 => ?_) (fun c1 => ?_)
  · skip
    refine lv_iconst (v := 0) hx hb dX4_isWithin_14 (by decide) ?_
    exact W.zret (v := 0) hx hb hr rfl (fun t ht hW => ⟨⟨0, (), rfl, Or.inr ⟨rfl, fun q => Int32.not_lt.mpr q.1 c1⟩, wHS_t ht hH⟩, hS.F ht⟩) hS.2.2 dX4_isWithin_15
  · skip
    refine lv_iload_n hx hb dX4_isWithin_5 rfl (lv_at hl 0 rfl) ?_
    refine lv_iload_n hx hb dX4_isWithin_6 rfl (lv_at hl 2 rfl) ?_
    refine lv_icmp_gt (tgt := 14) hx hb dX4_isWithin_7 (by decide) (fun c2 => ?_) (fun c2 => ?_)
    · skip
      refine lv_iconst (v := 0) hx hb dX4_isWithin_14 (by decide) ?_
      exact W.zret (v := 0) hx hb hr rfl (fun t ht hW => ⟨⟨0, (), rfl, Or.inr ⟨rfl, fun q => Int32.not_lt.mpr q.2 c2⟩, wHS_t ht hH⟩, hS.F ht⟩) hS.2.2 dX4_isWithin_15
    · skip
      refine lv_iconst (v := 1) hx hb dX4_isWithin_10 (by decide) ?_
      refine lv_goto (tgt := 15) hx hb dX4_isWithin_11 (by decide) ?_
      exact W.zret (v := 1) hx hb hr rfl (fun t ht hW => ⟨⟨1, (), rfl, Or.inl ⟨rfl, Int32.not_lt.mp c1, Int32.not_lt.mp c2⟩, wHS_t ht hH⟩, hS.F ht⟩) hS.2.2 dX4_isWithin_15
set_option maxHeartbeats 4000000 in
set_option maxRecDepth 100000 in
theorem met_X4_gainBy (l : Launch) (E : wE) (o : wO) (g : Nat → Nat) (x y : St) (j a d : Nat) (hI : CI x) (hj : j < x.1 1 0) (ha : a < 10 * x.1 1 0) (hd : d < x.1 0 0) : Met l yX4_gainBy wsX4_gainBy ({ frames := 3, cells := 0, slots := 0, locals := 400 } : Room) (va_Pc [.ref (g 0), .ref (g (200 + j)), .ref (g (300 + a)), .ref (g (100 + d))] (wPre E o g x y)) (va_Qi (fun (r : Int32) (_ : Unit) => r = pD x d (x.2 5 j) (nI (x.1 9 0)) - pS x a (x.2 5 j) (nI (x.1 9 0))) (fun (_ : Unit) t => wHS E o g x y t.heap) (wA E)) 0 0 (wA E) := by
  refine Met.ofW (cc := cX4_gainBy) (maxL := 4) (ret := (some .int)) (by decide) rfl ?_
  intro p e s m args below meth c s₁ B hml hv
  obtain ⟨rfl, hz, hH, hK⟩ := hv
  have hx := B.exec
  have hb := B.bytes
  have hr := B.returns
  have hts := atoms_spec (ws := wsX4_gainBy) B.pre
  have hown : s.vm.findClass RX4 = some m.cls := findClass_of_methodNamed B.named
  have hlocks := B.notSynchronized
  have hS : va_S (wA E) s.heap s.heap [] := va_S.rf
  have hinX0 : ∀ w ∈ wsX00, w ∈ wsX4_gainBy := fun w h => List.mem_cons_of_mem _ (List.mem_append_left _ (List.mem_append_left _ (List.mem_append_left _ (List.mem_append_right _ h))))
  have hinX4 : ∀ w ∈ wsX40, w ∈ wsX4_gainBy := fun w h => List.mem_cons_of_mem _ (List.mem_append_left _ (List.mem_append_left _ (List.mem_append_right _ h)))
  have hinX2 : ∀ w ∈ wsX20, w ∈ wsX4_gainBy := fun w h => List.mem_cons_of_mem _ (List.mem_append_left _ (List.mem_append_right _ h))
  have hinX3 : ∀ w ∈ wsX30, w ∈ wsX4_gainBy := fun w h => List.mem_cons_of_mem _ (List.mem_append_right _ h)
  have hl := lv_entry ([.ref (g 0), .ref (g (200 + j)), .ref (g (300 + a)), .ref (g (100 + d))]) (n := 4) (Nat.le_of_ble_eq_true rfl)
  rw [lg_entry_eq]
  generalize (lg_sl ([.ref (g 0), .ref (g (200 + j)), .ref (g (300 + a)), .ref (g (100 + d))]) ++ List.replicate (4 - (lg_sl ([.ref (g 0), .ref (g (200 + j)), .ref (g (300 + a)), .ref (g (100 + d))])).length) Slot.unset).toArray = ls at hl ⊢
  have hl : lv_has ls 4 [(0, .ref (g 0)), (1, .ref (g (200 + j))), (2, .ref (g (300 + a))), (3, .ref (g (100 + d)))] := hl
  obtain ⟨H, eH⟩ : ∃ z, z = s.heap := ⟨_, rfl⟩
  have hH : wHS E o g x y H := by rw [eH]; exact hH
  have hS : va_S (wA E) s.heap H [] := by rw [eH]; exact hS
  refine W.heapTo eH ?_
  obtain ⟨hn0, hn1, hn2, hn3, hn4, hn5, hc7, hc8, hc5, hc54, hc4, hc50, hc9, hc12, hc10, hcj⟩ := id hI
  refine lv_aload_n hx hb dX4_gainBy_0 rfl (lv_at hl 3 rfl) ?_
  refine lv_aload_n hx hb dX4_gainBy_1 rfl (lv_at hl 1 rfl) ?_
  refine wr_get (T := TX0) (N := 15) (ci := 3) (v := .int (x.2 5 j)) hx hb hts hinX0 hown hK hH (lv_bx (show j < x.1 1 0 by omega) hn1) (cel_bx (by omega)) rfl 2 (by decide) (hts (.fieldLink RX4 179 "SelectoRoute$Box" "taste" "I") (by decide +kernel)) (fun _ h => h) rfl dX4_gainBy_2 ?_
  refine lv_aload_n hx hb dX4_gainBy_5 rfl (lv_at hl 0 rfl) ?_
  refine wr_get (T := TX4) (N := 9) (ci := 6) (v := .int (nI (x.1 9 0))) hx hb hts hinX4 hown hK hH lv_r0 (cel_rt (by omega)) rfl 5 (by decide) (hts (.fieldLink RX4 172 "SelectoRoute" "week" "I") (by decide +kernel)) (fun _ h => h) rfl dX4_gainBy_6 ?_
  refine va_calli (va_runV (As := [.int (x.2 5 j), .int (nI (x.1 9 0))]) (rest := []) ⟨hx, hb, hml, hown, hts⟩ (met_X2_pullFor l E o g x y d (x.2 5 j) (nI (x.1 9 0)) (show d < x.1 0 0 by omega) hn0) (cwV 2 hts gX4_gainBy_X2_pullFor rfl rfl rfl (by decide +kernel) ⟨Nat.le_of_ble_eq_true rfl, Nat.le_of_ble_eq_true rfl⟩) ⟨fun a U f mk q => ⟨q.1, wPre.calling q.2 a f mk⟩, (va_recv hK (wH_one hH (lv_di (show d < x.1 0 0 by omega) hn0) (cel_di (by omega))) (ci := 4) (q0 := 0) rfl rfl), fun U hU hW => ⟨rfl, wPre_at hz hS hH hK U hU hW⟩⟩ rfl rfl hl.1 rfl (lv_room (Nat.le_of_ble_eq_true rfl)) dX4_gainBy_9 ⟨Nat.le_of_ble_eq_true rfl, Nat.le_of_ble_eq_true rfl⟩) hS (fun q _ h => h) (fun q h => h) (fun r u t H locs ht hvm hw hB hz1 hk1 hS => ?_)
  have hB := wHS_h ht hB
  try dsimp only at hw
  obtain rfl := hw
  have hH := hB
  refine lv_aload_n hx hb dX4_gainBy_12 rfl (lv_at hl 2 rfl) ?_
  refine lv_aload_n hx hb dX4_gainBy_13 rfl (lv_at hl 1 rfl) ?_
  refine wr_get (T := TX0) (N := 15) (ci := 3) (v := .int (x.2 5 j)) hx hb hts hinX0 hown hK hH (lv_bx (show j < x.1 1 0 by omega) hn1) (cel_bx (by omega)) rfl 2 (by decide) (hts (.fieldLink RX4 179 "SelectoRoute$Box" "taste" "I") (by decide +kernel)) (fun _ h => h) rfl dX4_gainBy_14 ?_
  refine lv_aload_n hx hb dX4_gainBy_17 rfl (lv_at hl 0 rfl) ?_
  refine wr_get (T := TX4) (N := 9) (ci := 6) (v := .int (nI (x.1 9 0))) hx hb hts hinX4 hown hK hH lv_r0 (cel_rt (by omega)) rfl 5 (by decide) (hts (.fieldLink RX4 172 "SelectoRoute" "week" "I") (by decide +kernel)) (fun _ h => h) rfl dX4_gainBy_18 ?_
  refine va_calli (va_runV (As := [.int (x.2 5 j), .int (nI (x.1 9 0))]) (rest := [.int (pD x d (x.2 5 j) (nI (x.1 9 0)))]) ⟨hx, hb, hml, hown, hts⟩ (met_X3_pullFor l E o g x y a (x.2 5 j) (nI (x.1 9 0)) (show a < 10 * x.1 1 0 by omega) hn1 hn0 (hc7 a)) (cwV 2 hts gX4_gainBy_X3_pullFor rfl rfl rfl (by decide +kernel) ⟨Nat.le_of_ble_eq_true rfl, Nat.le_of_ble_eq_true rfl⟩) ⟨fun a U f mk q => ⟨q.1, wPre.calling q.2 a f mk⟩, (va_recv hK (wH_one hH (lv_sl (show a < 10 * x.1 1 0 by omega) hn1) cel_sl) (ci := 5) (q0 := 0) rfl rfl), fun U hU hW => ⟨rfl, wPre_at hz hS hH hK U hU hW⟩⟩ rfl rfl hl.1 rfl (lv_room (Nat.le_of_ble_eq_true rfl)) dX4_gainBy_21 ⟨Nat.le_of_ble_eq_true rfl, Nat.le_of_ble_eq_true rfl⟩) hS (fun q _ h => h) (fun q h => h) (fun r u t H locs ht hvm hw hB hz1 hk1 hS => ?_)
  have hB := wHS_h ht hB
  try dsimp only at hw
  obtain rfl := hw
  have hH := hB
  refine lv_isub hx hb dX4_gainBy_24 ?_
  exact W.iret (v := ((pD x d (x.2 5 j) (nI (x.1 9 0))) - (pS x a (x.2 5 j) (nI (x.1 9 0))))) hx hb hr (fun t ht hW => ⟨⟨((pD x d (x.2 5 j) (nI (x.1 9 0))) - (pS x a (x.2 5 j) (nI (x.1 9 0)))), (), rfl, rfl, wHS_t ht hH⟩, hS.F ht⟩) hS.2.2 dX4_gainBy_25
set_option maxHeartbeats 4000000 in
set_option maxRecDepth 100000 in
theorem met_X0_settle (l : Launch) (E : wE) (o : wO) (g : Nat → Nat) (x y : St) (j n : Nat) (f : Int32) (hI : CI x) (hj : j < x.1 1 0) : Met l yX0_settle wsX0_settle ({ frames := 0, cells := 0, slots := 0, locals := 0 } : Room) (va_Pc [.ref (g (200 + j)), .int f, .int (nI n)] (wPre E o g x y)) (va_Qv (fun (_ : Unit) => True) (fun (_ : Unit) t => wHS E o g (uN (uI (uI (uI (uI (uI x 12 j (5 * x.2 11 j - x.2 8 j)) 13 j (x.2 13 j + f)) 8 j 0) 11 j 0) 10 j 0) 10 j (n + 1)) y t.heap) (wA E)) 0 0 (wA E) := by
  refine Met.ofW (cc := cX0_settle) (maxL := 3) (ret := none) (by decide) rfl ?_
  intro p e s m args below meth c s₁ B hml hv
  obtain ⟨rfl, hz, hH, hK⟩ := hv
  have hx := B.exec
  have hb := B.bytes
  have hr := B.returns
  have hts := atoms_spec (ws := wsX0_settle) B.pre
  have hown : s.vm.findClass RX0 = some m.cls := findClass_of_methodNamed B.named
  have hlocks := B.notSynchronized
  have hS : va_S (wA E) s.heap s.heap [] := va_S.rf
  have hinX0 : ∀ w ∈ wsX00, w ∈ wsX0_settle := fun w h => List.mem_cons_of_mem _ (List.mem_append_right _ h)
  have hl := lv_entry ([.ref (g (200 + j)), .int f, .int (nI n)]) (n := 3) (Nat.le_of_ble_eq_true rfl)
  rw [lg_entry_eq]
  generalize (lg_sl ([.ref (g (200 + j)), .int f, .int (nI n)]) ++ List.replicate (3 - (lg_sl ([.ref (g (200 + j)), .int f, .int (nI n)])).length) Slot.unset).toArray = ls at hl ⊢
  have hl : lv_has ls 3 [(0, .ref (g (200 + j))), (1, .int f), (2, .int (nI n))] := hl
  obtain ⟨H, eH⟩ : ∃ z, z = s.heap := ⟨_, rfl⟩
  have hH : wHS E o g x y H := by rw [eH]; exact hH
  have hS : va_S (wA E) s.heap H [] := by rw [eH]; exact hS
  refine W.heapTo eH ?_
  obtain ⟨hn0, hn1, hn2, hn3, hn4, hn5, hc7, hc8, hc5, hc54, hc4, hc50, hc9, hc12, hc10, hcj⟩ := id hI
  refine lv_aload_n hx hb dX0_settle_0 rfl (lv_at hl 0 rfl) ?_
  refine lv_iconst (v := 5) hx hb dX0_settle_1 (by decide) ?_
  refine lv_aload_n hx hb dX0_settle_2 rfl (lv_at hl 0 rfl) ?_
  refine wr_get (T := TX0) (N := 15) (ci := 3) (v := .int (x.2 11 j)) hx hb hts hinX0 hown hK hH (lv_bx (show j < x.1 1 0 by omega) hn1) (cel_bx (by omega)) rfl 12 (by decide) (hts (.fieldLink RX0 84 "SelectoRoute$Box" "playsSinceVisit" "I") (by decide +kernel)) (fun _ h => h) rfl dX0_settle_3 ?_
  refine lv_imul hx hb dX0_settle_6 ?_
  refine lv_aload_n hx hb dX0_settle_7 rfl (lv_at hl 0 rfl) ?_
  refine wr_get (T := TX0) (N := 15) (ci := 3) (v := .int (x.2 8 j)) hx hb hts hinX0 hown hK hH (lv_bx (show j < x.1 1 0 by omega) hn1) (cel_bx (by omega)) rfl 8 (by decide) (hts (.fieldLink RX0 72 "SelectoRoute$Box" "cents" "I") (by decide +kernel)) (fun _ h => h) rfl dX0_settle_8 ?_
  refine lv_isub hx hb dX0_settle_11 ?_
  refine lv_topi (fun v1 ev1 => ?_)
  refine wr_put (T := TX0) (N := 15) (ci := 3) (v := .int v1) hx hb hts hinX0 tyX0 tyX0_ok nmX0 hown hK hH hS (lv_bx (show j < x.1 1 0 by omega) hn1) (cel_bx (by omega)) rfl 13 (by decide) (hts (.fieldLink RX0 87 "SelectoRoute$Box" "lacking" "I") (by decide +kernel)) (fun _ h => h) rfl (ty := .int) (by decide +kernel) rfl rfl (Nat.le_of_ble_eq_true rfl) dX0_settle_12 (fun H locs hH hS => ?_)
  have hH : wHS E o g (uI x 12 j v1) y H := pb_13 (by omega) hH
  refine lv_aload_n hx hb dX0_settle_15 rfl (lv_at hl 0 rfl) ?_
  refine lv_dup hx hb dX0_settle_16 rfl ?_
  refine wr_get (T := TX0) (N := 15) (ci := 3) (v := .int (x.2 13 j)) hx hb hts hinX0 hown hK hH (lv_bx (show j < x.1 1 0 by omega) hn1) (cel_bx (by omega)) rfl 14 (by decide) (hts (.fieldLink RX0 90 "SelectoRoute$Box" "landlordGot" "I") (by decide +kernel)) (fun _ h => h) rfl dX0_settle_17 ?_
  refine lv_iload_n hx hb dX0_settle_20 rfl (lv_at hl 1 rfl) ?_
  refine lv_iadd hx hb dX0_settle_21 ?_
  refine lv_topi (fun v2 ev2 => ?_)
  refine wr_put (T := TX0) (N := 15) (ci := 3) (v := .int v2) hx hb hts hinX0 tyX0 tyX0_ok nmX0 hown hK hH hS (lv_bx (show j < x.1 1 0 by omega) hn1) (cel_bx (by omega)) rfl 14 (by decide) (hts (.fieldLink RX0 90 "SelectoRoute$Box" "landlordGot" "I") (by decide +kernel)) (fun _ h => h) rfl (ty := .int) (by decide +kernel) rfl rfl (Nat.le_of_ble_eq_true rfl) dX0_settle_22 (fun H locs hH hS => ?_)
  have hH : wHS E o g (uI (uI x 12 j v1) 13 j v2) y H := pb_14 (by omega) hH
  refine lv_aload_n hx hb dX0_settle_25 rfl (lv_at hl 0 rfl) ?_
  refine lv_iconst (v := 0) hx hb dX0_settle_26 (by decide) ?_
  refine wr_put (T := TX0) (N := 15) (ci := 3) (v := .int 0) hx hb hts hinX0 tyX0 tyX0_ok nmX0 hown hK hH hS (lv_bx (show j < x.1 1 0 by omega) hn1) (cel_bx (by omega)) rfl 8 (by decide) (hts (.fieldLink RX0 72 "SelectoRoute$Box" "cents" "I") (by decide +kernel)) (fun _ h => h) rfl (ty := .int) (by decide +kernel) rfl rfl (Nat.le_of_ble_eq_true rfl) dX0_settle_27 (fun H locs hH hS => ?_)
  have hH : wHS E o g (uI (uI (uI x 12 j v1) 13 j v2) 8 j 0) y H := pb_8 (by omega) hH
  refine lv_aload_n hx hb dX0_settle_30 rfl (lv_at hl 0 rfl) ?_
  refine lv_iconst (v := 0) hx hb dX0_settle_31 (by decide) ?_
  refine wr_put (T := TX0) (N := 15) (ci := 3) (v := .int 0) hx hb hts hinX0 tyX0 tyX0_ok nmX0 hown hK hH hS (lv_bx (show j < x.1 1 0 by omega) hn1) (cel_bx (by omega)) rfl 12 (by decide) (hts (.fieldLink RX0 84 "SelectoRoute$Box" "playsSinceVisit" "I") (by decide +kernel)) (fun _ h => h) rfl (ty := .int) (by decide +kernel) rfl rfl (Nat.le_of_ble_eq_true rfl) dX0_settle_32 (fun H locs hH hS => ?_)
  have hH : wHS E o g (uI (uI (uI (uI x 12 j v1) 13 j v2) 8 j 0) 11 j 0) y H := pb_12 (by omega) hH
  refine lv_aload_n hx hb dX0_settle_35 rfl (lv_at hl 0 rfl) ?_
  refine lv_iconst (v := 0) hx hb dX0_settle_36 (by decide) ?_
  refine wr_put (T := TX0) (N := 15) (ci := 3) (v := .int 0) hx hb hts hinX0 tyX0 tyX0_ok nmX0 hown hK hH hS (lv_bx (show j < x.1 1 0 by omega) hn1) (cel_bx (by omega)) rfl 10 (by decide) (hts (.fieldLink RX0 93 "SelectoRoute$Box" "jammed" "Z") (by decide +kernel)) (fun _ h => h) rfl (ty := .boolean) (by decide +kernel) rfl rfl (Nat.le_of_ble_eq_true rfl) dX0_settle_37 (fun H locs hH hS => ?_)
  have hH : wHS E o g (uI (uI (uI (uI (uI x 12 j v1) 13 j v2) 8 j 0) 11 j 0) 10 j 0) y H := pb_10 (by omega) hH
  refine lv_aload_n hx hb dX0_settle_40 rfl (lv_at hl 0 rfl) ?_
  refine lv_iload_n hx hb dX0_settle_41 rfl (lv_at hl 2 rfl) ?_
  refine wr_put (T := TX0) (N := 15) (ci := 3) (v := .int (nI n)) hx hb hts hinX0 tyX0 tyX0_ok nmX0 hown hK hH hS (lv_bx (show j < x.1 1 0 by omega) hn1) (cel_bx (by omega)) rfl 11 (by decide) (hts (.fieldLink RX0 28 "SelectoRoute$Box" "visitWeek" "I") (by decide +kernel)) (fun _ h => h) rfl (ty := .int) (by decide +kernel) rfl rfl (Nat.le_of_ble_eq_true rfl) dX0_settle_42 (fun H locs hH hS => ?_)
  rw [vw_put n] at hH
  have hH : wHS E o g (uN (uI (uI (uI (uI (uI x 12 j v1) 13 j v2) 8 j 0) 11 j 0) 10 j 0) 10 j (n + 1)) y H := pb_11 (v := n + 1) (by omega) hH
  subst ev2
  subst ev1
  exact W.vret hx hb hr (fun t ht hW => ⟨⟨(), rfl, trivial, wHS_t ht hH⟩, hS.F ht⟩) hS.2.2 dX0_settle_45
def cp_getPlace (x : St) (b : Int32) : Option String × Int32 × St := if inB b (x.1 0 0) = true then (if (x.1 8 (ix b)) = 0 then (none, (-2), x) else (if (x.1 8 (ix b)) < 2 then (none, (-1), x) else (none, (nI (((((x.1 8 (ix b)) - 2) / 10) * 10) + (((x.1 8 (ix b)) - 2) % 10))), x))) else (some "java/lang/IndexOutOfBoundsException", 0, x)
set_option maxHeartbeats 4000000 in
set_option maxRecDepth 100000 in
theorem met_X4_getPlace (l : Launch) (E : wE) (o : wO) (g : Nat → Nat) (x y : St) (b : Int32) (hlt : l.stackTraces = false) (hI : CI x) : vx_Met l yX4_getPlace wsX4_getPlace ({ frames := 10, cells := 4, slots := 24, locals := 1100 } : Room) (va_Pc [.ref (g 0), .int b] (wPreX E o g x y)) (va_Qi (fun (r : Int32) (_ : Unit) => (cp_getPlace x b).1 = none ∧ r = (cp_getPlace x b).2.1) (fun (_ : Unit) t => wHS E o g (cp_getPlace x b).2.2 y t.heap) (wA E)) (wXC E o g x y (fun X => (cp_getPlace x b).1 = some X)) 4 24 (wA E) := by
  refine vx_ofW (cc := cX4_getPlace) (maxL := 3) (ret := (some .int)) (by decide) rfl ?_
  intro p e s m args below meth c s₁ B hml hnt hv
  obtain ⟨rfl, ⟨hz, hH, hK⟩, hC⟩ := hv
  have hx := B.exec
  have hb := B.bytes
  have hr := B.returns
  have hts := atoms_spec (ws := wsX4_getPlace) B.pre
  have hown : s.vm.findClass RX4 = some m.cls := findClass_of_methodNamed B.named
  have hlocks := B.notSynchronized
  have hS : va_S (wA E) s.heap s.heap [] := va_S.rf
  have hinX2 : ∀ w ∈ wsX20, w ∈ wsX4_getPlace := fun w h => List.mem_cons_of_mem _ (List.mem_append_left _ (List.mem_append_left _ (List.mem_append_left _ (List.mem_append_left _ (List.mem_append_right _ h)))))
  have hinX0 : ∀ w ∈ wsX00, w ∈ wsX4_getPlace := fun w h => List.mem_cons_of_mem _ (List.mem_append_left _ (List.mem_append_left _ (List.mem_append_left _ (List.mem_append_right _ h))))
  have hinX4 : ∀ w ∈ wsX40, w ∈ wsX4_getPlace := fun w h => List.mem_cons_of_mem _ (List.mem_append_left _ (List.mem_append_left _ (List.mem_append_right _ h)))
  have hinJx4a65c : ∀ w ∈ wsJx4a65c0, w ∈ wsX4_getPlace := fun w h => List.mem_cons_of_mem _ (List.mem_append_left _ (List.mem_append_right _ h))
  have hl := lv_entry ([.ref (g 0), .int b]) (n := 3) (Nat.le_of_ble_eq_true rfl)
  rw [lg_entry_eq]
  generalize (lg_sl ([.ref (g 0), .int b]) ++ List.replicate (3 - (lg_sl ([.ref (g 0), .int b])).length) Slot.unset).toArray = ls at hl ⊢
  have hl : lv_has ls 3 [(0, .ref (g 0)), (1, .int b)] := hl
  obtain ⟨H, eH⟩ : ∃ z, z = s.heap := ⟨_, rfl⟩
  have hH : wHS E o g x y H := by rw [eH]; exact hH
  have hS : va_S (wA E) s.heap H [] := by rw [eH]; exact hS
  refine W.heapTo eH ?_
  obtain ⟨hn0, hn1, hn2, hn3, hn4, hn5, hc7, hc8, hc5, hc54, hc4, hc50, hc9, hc12, hc10, hcj⟩ := id hI
  refine lv_aload_n hx hb dX4_getPlace_0 rfl (lv_at hl 0 rfl) ?_
  refine lv_iload_n hx hb dX4_getPlace_1 rfl (lv_at hl 1 rfl) ?_
  refine wx_callr (vx_runV (As := [.int b]) (rest := []) ⟨hx, hb, hml, hown, hts⟩ (met_X4_requireDisc l E o g x y b hlt hI) (cwV 1 hts gX4_getPlace_X4_requireDisc rfl rfl rfl (by decide +kernel) ⟨Nat.le_of_ble_eq_true rfl, Nat.le_of_ble_eq_true rfl⟩) ⟨fun a U f mk q => ⟨q.1, wPreX.calling q.2 a f mk⟩, (va_recv hK (wH_one hH lv_r0 (cel_rt (by omega))) (ci := 6) (q0 := 0) rfl rfl), fun U hU hW => ⟨rfl, wPreX_at hz hS hH hK hC U hU hW⟩⟩ rfl rfl hl.1 rfl (lv_room (Nat.le_of_ble_eq_true rfl)) dX4_getPlace_2 ⟨Nat.le_of_ble_eq_true rfl, Nat.le_of_ble_eq_true rfl⟩) hS (fun q _ h => h) (fun q h => h) (fun q _ h => h) (fun E9 ce q9 u t H locs ht hvm hw hB hz1 hk1 hS hce hcv hcl => ?_) (fun u ra t H locs ht hvm hw hB hz1 hk1 hS => ?_)
  · obtain ⟨⟨rfl, c1⟩, hB⟩ := hB
    have hH := wHS_h ht hB
    have hsp : cp_getPlace x b = (some "java/lang/IndexOutOfBoundsException", 0, x) := by
      unfold cp_getPlace
      first | (simp only [(Bool.eq_false_iff.mp c1), ↓reduceIte, and_self, and_true, true_and, Bool.false_eq_true, reduceCtorEq, eq_self, false_and, and_false]; done) | (simp [(Bool.eq_false_iff.mp c1), ↓reduceIte, and_self, and_true, true_and, Bool.false_eq_true, reduceCtorEq, eq_self, false_and, and_false]; done) | simp only [(Bool.eq_false_iff.mp c1), ↓reduceIte, and_self, and_true, true_and, Bool.false_eq_true, reduceCtorEq, eq_self, false_and, and_false]
    exact vx_out (fun x h => (hnt x h).elim) hlocks hce hcv hcl (wX_on hS hH (by rw [hsp])) hS.2.2 (by omega) (by omega)
  · have c1 : inB b (x.1 0 0) = true := hw
    obtain ⟨jb, hjb, rfl⟩ := inB_t c1 (by omega)
    obtain ⟨rfl, hB⟩ := hB
    have hH := wHS_h ht hB
    rw [ix_nI (show jb < 2 ^ 31 by omega)]
    refine lv_astore_n (lv' := [(2, .ref (g (100 + jb))), (0, .ref (g 0)), (1, .int (nI jb))]) hx hb dX4_getPlace_5 rfl hl (by decide) rfl (fun ls hl => ?_)
    refine lv_aload_n hx hb dX4_getPlace_6 rfl (lv_at hl 0 rfl) ?_
    by_cases c2 : (x.1 8 jb) = 0
    · skip
      refine wr_get (T := TX2) (N := 8) (ci := 4) (v := .int 1) hx hb hts hinX2 hown hK hH (lv_di (show jb < x.1 0 0 by omega) hn0) (cel_di (by omega)) rfl 5 (by decide) (hts (.fieldLink RX4 160 "SelectoRoute$Disc" "burnt" "Z") (by decide +kernel)) (fun _ h => h) (congrArg (fun z => some (Value.int z)) (if_pos c2)) dX4_getPlace_7 ?_
      refine lv_if_eq (tgt := 16) hx hb dX4_getPlace_10 (by decide) (fun hq => absurd hq (show ¬ (1 : Int32) = 0 by decide)) (fun _ => ?_)
      refine lv_bipush (v := (-2)) hx hb dX4_getPlace_13 (by decide) ?_
      have hsp : cp_getPlace x (nI jb) = (none, (-2), x) := by
        unfold cp_getPlace
        first | (simp only [c1, c2, inB_nI hjb (by omega), ix_nI (show jb < 2 ^ 31 by omega), ↓reduceIte, and_self, and_true, true_and, Bool.false_eq_true, reduceCtorEq, eq_self, false_and, and_false]; done) | (simp [c1, c2, inB_nI hjb (by omega), ix_nI (show jb < 2 ^ 31 by omega), ↓reduceIte, and_self, and_true, true_and, Bool.false_eq_true, reduceCtorEq, eq_self, false_and, and_false]; done) | simp only [c1, c2, inB_nI hjb (by omega), ix_nI (show jb < 2 ^ 31 by omega), ↓reduceIte, and_self, and_true, true_and, Bool.false_eq_true, reduceCtorEq, eq_self, false_and, and_false]
      refine vx_ret ?_
      refine W.widen (k := 4) (n := 24) (by omega) (by omega) ?_
      exact W.iret (v := (-2)) hx hb hr (fun t ht hW => ⟨⟨(-2), (), rfl, (by rw [hsp]; exact ⟨rfl, rfl⟩), wHS_t ht (by rw [hsp]; exact hH)⟩, hS.F ht⟩) hS.2.2 dX4_getPlace_15
    · skip
      refine wr_get (T := TX2) (N := 8) (ci := 4) (v := .int 0) hx hb hts hinX2 hown hK hH (lv_di (show jb < x.1 0 0 by omega) hn0) (cel_di (by omega)) rfl 5 (by decide) (hts (.fieldLink RX4 160 "SelectoRoute$Disc" "burnt" "Z") (by decide +kernel)) (fun _ h => h) (congrArg (fun z => some (Value.int z)) (if_neg c2)) dX4_getPlace_7 ?_
      refine lv_if_eq (tgt := 16) hx hb dX4_getPlace_10 (by decide) (fun _ => ?_) (fun hq => absurd (show (0 : Int32) = 0 by decide) hq)
      refine lv_aload_n hx hb dX4_getPlace_16 rfl (lv_at hl 0 rfl) ?_
      have q8 := hc8 jb
      by_cases c3 : (x.1 8 jb) < 2
      · skip
        refine wr_get (T := TX2) (N := 8) (ci := 4) (v := .null) hx hb hts hinX2 hown hK hH (lv_di (show jb < x.1 0 0 by omega) hn0) (cel_di (by omega)) rfl 6 (by decide) (hts (.fieldLink RX4 163 "SelectoRoute$Disc" "box" "LSelectoRoute$Box;") (by decide +kernel)) (fun _ h => h) (congrArg some (if_pos c3)) dX4_getPlace_17 ?_
        refine lv_ifnonnullN hx hb dX4_getPlace_20 ?_
        refine lv_iconst (v := (-1)) hx hb dX4_getPlace_23 (by decide) ?_
        refine lv_goto (tgt := 42) hx hb dX4_getPlace_24 (by decide) ?_
        have hsp : cp_getPlace x (nI jb) = (none, (-1), x) := by
          unfold cp_getPlace
          first | (simp only [c1, c2, c3, inB_nI hjb (by omega), ix_nI (show jb < 2 ^ 31 by omega), ↓reduceIte, and_self, and_true, true_and, Bool.false_eq_true, reduceCtorEq, eq_self, false_and, and_false]; done) | (simp [c1, c2, c3, inB_nI hjb (by omega), ix_nI (show jb < 2 ^ 31 by omega), ↓reduceIte, and_self, and_true, true_and, Bool.false_eq_true, reduceCtorEq, eq_self, false_and, and_false]; done) | simp only [c1, c2, c3, inB_nI hjb (by omega), ix_nI (show jb < 2 ^ 31 by omega), ↓reduceIte, and_self, and_true, true_and, Bool.false_eq_true, reduceCtorEq, eq_self, false_and, and_false]
        refine vx_ret ?_
        refine W.widen (k := 4) (n := 24) (by omega) (by omega) ?_
        exact W.iret (v := (-1)) hx hb hr (fun t ht hW => ⟨⟨(-1), (), rfl, (by rw [hsp]; exact ⟨rfl, rfl⟩), wHS_t ht (by rw [hsp]; exact hH)⟩, hS.F ht⟩) hS.2.2 dX4_getPlace_42
      · skip
        refine wr_get (T := TX2) (N := 8) (ci := 4) (v := .ref (g (200 + ((x.1 8 jb) - 2) / 10))) hx hb hts hinX2 hown hK hH (lv_di (show jb < x.1 0 0 by omega) hn0) (cel_di (by omega)) rfl 6 (by decide) (hts (.fieldLink RX4 163 "SelectoRoute$Disc" "box" "LSelectoRoute$Box;") (by decide +kernel)) (fun _ h => h) (congrArg some (if_neg c3)) dX4_getPlace_17 ?_
        refine lv_ifnonnull (tgt := 27) hx hb dX4_getPlace_20 (by decide) ?_
        refine lv_aload_n hx hb dX4_getPlace_27 rfl (lv_at hl 0 rfl) ?_
        have q8 := hc8 jb
        refine wr_get (T := TX2) (N := 8) (ci := 4) (v := .ref (g (200 + ((x.1 8 jb) - 2) / 10))) hx hb hts hinX2 hown hK hH (lv_di (show jb < x.1 0 0 by omega) hn0) (cel_di (by omega)) rfl 6 (by decide) (hts (.fieldLink RX4 163 "SelectoRoute$Disc" "box" "LSelectoRoute$Box;") (by decide +kernel)) (fun _ h => h) (congrArg some (if_neg c3)) dX4_getPlace_28 ?_
        refine wr_get (T := TX0) (N := 15) (ci := 3) (v := .int (nI (((x.1 8 jb) - 2) / 10))) hx hb hts hinX0 hown hK hH (lv_bx (show (((x.1 8 jb) - 2) / 10) < x.1 1 0 by omega) hn1) (cel_bx (by omega)) rfl 0 (by decide) (hts (.fieldLink RX4 74 "SelectoRoute$Box" "number" "I") (by decide +kernel)) (fun _ h => h) rfl dX4_getPlace_31 ?_
        refine lv_bipush (v := 10) hx hb dX4_getPlace_34 (by decide) ?_
        refine lv_imul hx hb dX4_getPlace_36 ?_
        refine lv_tope (pk_mul (((x.1 8 jb) - 2) / 10) 10) ?_
        refine lv_aload_n hx hb dX4_getPlace_37 rfl (lv_at hl 0 rfl) ?_
        refine wr_get (T := TX2) (N := 8) (ci := 4) (v := .int (nI (((x.1 8 jb) - 2) % 10))) hx hb hts hinX2 hown hK hH (lv_di (show jb < x.1 0 0 by omega) hn0) (cel_di (by omega)) rfl 7 (by decide) (hts (.fieldLink RX4 167 "SelectoRoute$Disc" "slot" "I") (by decide +kernel)) (fun _ h => h) (congrArg (fun z => some (Value.int z)) (if_neg c3)) dX4_getPlace_38 ?_
        refine lv_iadd hx hb dX4_getPlace_41 ?_
        refine lv_tope (nI_add ((((x.1 8 jb) - 2) / 10) * 10) (((x.1 8 jb) - 2) % 10)) ?_
        have hsp : cp_getPlace x (nI jb) = (none, (nI (((((x.1 8 jb) - 2) / 10) * 10) + (((x.1 8 jb) - 2) % 10))), x) := by
          unfold cp_getPlace
          first | (simp only [c1, c2, c3, inB_nI hjb (by omega), ix_nI (show jb < 2 ^ 31 by omega), ↓reduceIte, and_self, and_true, true_and, Bool.false_eq_true, reduceCtorEq, eq_self, false_and, and_false]; done) | (simp [c1, c2, c3, inB_nI hjb (by omega), ix_nI (show jb < 2 ^ 31 by omega), ↓reduceIte, and_self, and_true, true_and, Bool.false_eq_true, reduceCtorEq, eq_self, false_and, and_false]; done) | simp only [c1, c2, c3, inB_nI hjb (by omega), ix_nI (show jb < 2 ^ 31 by omega), ↓reduceIte, and_self, and_true, true_and, Bool.false_eq_true, reduceCtorEq, eq_self, false_and, and_false]
        refine vx_ret ?_
        refine W.widen (k := 4) (n := 24) (by omega) (by omega) ?_
        exact W.iret (v := (nI (((((x.1 8 jb) - 2) / 10) * 10) + (((x.1 8 jb) - 2) % 10)))) hx hb hr (fun t ht hW => ⟨⟨(nI (((((x.1 8 jb) - 2) / 10) * 10) + (((x.1 8 jb) - 2) % 10))), (), rfl, (by rw [hsp]; exact ⟨rfl, rfl⟩), wHS_t ht (by rw [hsp]; exact hH)⟩, hS.F ht⟩) hS.2.2 dX4_getPlace_42
def cp_setRisk (x : St) (b : Int32) (v : Int32) : Option String × Int32 × St := if inB b (x.1 1 0) = true then (if 0 ≤ v ∧ v ≤ 20 then (none, (x.2 6 (ix b)), (uI x 6 (ix b) v)) else (some "java/lang/IllegalArgumentException", 0, x)) else (some "java/lang/IndexOutOfBoundsException", 0, x)
set_option maxHeartbeats 4000000 in
set_option maxRecDepth 100000 in
theorem met_X4_setRisk (l : Launch) (E : wE) (o : wO) (g : Nat → Nat) (x y : St) (b : Int32) (v : Int32) (hlt : l.stackTraces = false) (hI : CI x) : vx_Met l yX4_setRisk wsX4_setRisk ({ frames := 10, cells := 4, slots := 24, locals := 1100 } : Room) (va_Pc [.ref (g 0), .int b, .int v] (wPreX E o g x y)) (va_Qi (fun (r : Int32) (_ : Unit) => (cp_setRisk x b v).1 = none ∧ r = (cp_setRisk x b v).2.1) (fun (_ : Unit) t => wHS E o g (cp_setRisk x b v).2.2 y t.heap) (wA E)) (wXC E o g x y (fun X => (cp_setRisk x b v).1 = some X)) 4 24 (wA E) := by
  refine vx_ofW (cc := cX4_setRisk) (maxL := 5) (ret := (some .int)) (by decide) rfl ?_
  intro p e s m args below meth c s₁ B hml hnt hv
  obtain ⟨rfl, ⟨hz, hH, hK⟩, hC⟩ := hv
  have hx := B.exec
  have hb := B.bytes
  have hr := B.returns
  have hts := atoms_spec (ws := wsX4_setRisk) B.pre
  have hown : s.vm.findClass RX4 = some m.cls := findClass_of_methodNamed B.named
  have hlocks := B.notSynchronized
  have hS : va_S (wA E) s.heap s.heap [] := va_S.rf
  have hinX0 : ∀ w ∈ wsX00, w ∈ wsX4_setRisk := fun w h => List.mem_cons_of_mem _ (List.mem_append_left _ (List.mem_append_left _ (List.mem_append_left _ (List.mem_append_left _ (List.mem_append_right _ h)))))
  have hinX4 : ∀ w ∈ wsX40, w ∈ wsX4_setRisk := fun w h => List.mem_cons_of_mem _ (List.mem_append_left _ (List.mem_append_left _ (List.mem_append_left _ (List.mem_append_right _ h))))
  have hinJx4a65c : ∀ w ∈ wsJx4a65c0, w ∈ wsX4_setRisk := fun w h => List.mem_cons_of_mem _ (List.mem_append_left _ (List.mem_append_left _ (List.mem_append_right _ h)))
  have hl := lv_entry ([.ref (g 0), .int b, .int v]) (n := 5) (Nat.le_of_ble_eq_true rfl)
  rw [lg_entry_eq]
  generalize (lg_sl ([.ref (g 0), .int b, .int v]) ++ List.replicate (5 - (lg_sl ([.ref (g 0), .int b, .int v])).length) Slot.unset).toArray = ls at hl ⊢
  have hl : lv_has ls 5 [(0, .ref (g 0)), (1, .int b), (2, .int v)] := hl
  obtain ⟨H, eH⟩ : ∃ z, z = s.heap := ⟨_, rfl⟩
  have hH : wHS E o g x y H := by rw [eH]; exact hH
  have hS : va_S (wA E) s.heap H [] := by rw [eH]; exact hS
  refine W.heapTo eH ?_
  obtain ⟨hn0, hn1, hn2, hn3, hn4, hn5, hc7, hc8, hc5, hc54, hc4, hc50, hc9, hc12, hc10, hcj⟩ := id hI
  refine lv_aload_n hx hb dX4_setRisk_0 rfl (lv_at hl 0 rfl) ?_
  refine lv_iload_n hx hb dX4_setRisk_1 rfl (lv_at hl 1 rfl) ?_
  refine wx_callr (vx_runV (As := [.int b]) (rest := []) ⟨hx, hb, hml, hown, hts⟩ (met_X4_requireBox l E o g x y b hlt hI) (cwV 1 hts gX4_setRisk_X4_requireBox rfl rfl rfl (by decide +kernel) ⟨Nat.le_of_ble_eq_true rfl, Nat.le_of_ble_eq_true rfl⟩) ⟨fun a U f mk q => ⟨q.1, wPreX.calling q.2 a f mk⟩, (va_recv hK (wH_one hH lv_r0 (cel_rt (by omega))) (ci := 6) (q0 := 0) rfl rfl), fun U hU hW => ⟨rfl, wPreX_at hz hS hH hK hC U hU hW⟩⟩ rfl rfl hl.1 rfl (lv_room (Nat.le_of_ble_eq_true rfl)) dX4_setRisk_2 ⟨Nat.le_of_ble_eq_true rfl, Nat.le_of_ble_eq_true rfl⟩) hS (fun q _ h => h) (fun q h => h) (fun q _ h => h) (fun E9 ce q9 u t H locs ht hvm hw hB hz1 hk1 hS hce hcv hcl => ?_) (fun u ra t H locs ht hvm hw hB hz1 hk1 hS => ?_)
  · obtain ⟨⟨rfl, c1⟩, hB⟩ := hB
    have hH := wHS_h ht hB
    have hsp : cp_setRisk x b v = (some "java/lang/IndexOutOfBoundsException", 0, x) := by
      unfold cp_setRisk
      first | (simp only [(Bool.eq_false_iff.mp c1), ↓reduceIte, and_self, and_true, true_and, Bool.false_eq_true, reduceCtorEq, eq_self, false_and, and_false]; done) | (simp [(Bool.eq_false_iff.mp c1), ↓reduceIte, and_self, and_true, true_and, Bool.false_eq_true, reduceCtorEq, eq_self, false_and, and_false]; done) | simp only [(Bool.eq_false_iff.mp c1), ↓reduceIte, and_self, and_true, true_and, Bool.false_eq_true, reduceCtorEq, eq_self, false_and, and_false]
    exact vx_out (fun x h => (hnt x h).elim) hlocks hce hcv hcl (wX_on hS hH (by rw [hsp])) hS.2.2 (by omega) (by omega)
  · have c1 : inB b (x.1 1 0) = true := hw
    obtain ⟨jb, hjb, rfl⟩ := inB_t c1 (by omega)
    obtain ⟨rfl, hB⟩ := hB
    have hH := wHS_h ht hB
    rw [ix_nI (show jb < 2 ^ 31 by omega)]
    refine lv_astore_n (lv' := [(3, .ref (g (200 + jb))), (0, .ref (g 0)), (1, .int (nI jb)), (2, .int v)]) hx hb dX4_setRisk_5 rfl hl (by decide) rfl (fun ls hl => ?_)
    refine lv_iload_n hx hb dX4_setRisk_6 rfl (lv_at hl 3 rfl) ?_
    refine lv_iconst (v := 0) hx hb dX4_setRisk_7 (by decide) ?_
    refine lv_bipush (v := 20) hx hb dX4_setRisk_8 (by decide) ?_
    refine va_calli (va_runS (As := [.int v, .int 0, .int 20]) (rest := []) ⟨hx, hb, hml, hown, hts⟩ (met_X4_isWithin l E o g x y v 0 20) (va_cwS 3 hts gX4_setRisk_X4_isWithin rfl rfl rfl (by decide +kernel) ⟨Nat.le_of_ble_eq_true rfl, Nat.le_of_ble_eq_true rfl⟩) ⟨fun a U f mk q => ⟨q.1, wPre.calling q.2 a f mk⟩, fun U hU hW => ⟨rfl, wPre_at hz hS hH hK U hU hW⟩⟩ rfl rfl hl.1 rfl (lv_room (Nat.le_of_ble_eq_true rfl)) dX4_setRisk_10 ⟨Nat.le_of_ble_eq_true rfl, Nat.le_of_ble_eq_true rfl⟩) hS (fun q _ h => h) (fun q h => h) (fun r u t H locs ht hvm hw hB hz1 hk1 hS => ?_)
    have hB := wHS_h ht hB
    try dsimp only at hw
    have hH := hB
    rcases hw with ⟨rfl, c2⟩ | ⟨rfl, c2⟩
    · skip
      refine lv_if_ne (tgt := 26) hx hb dX4_setRisk_13 (by decide) (fun _ => ?_) (fun hq => absurd hq (show ¬ (1 : Int32) = 0 by decide))
      refine lv_aload_n hx hb dX4_setRisk_26 rfl (lv_at hl 0 rfl) ?_
      refine wr_get (T := TX0) (N := 15) (ci := 3) (v := .int (x.2 6 jb)) hx hb hts hinX0 hown hK hH (lv_bx (show jb < x.1 1 0 by omega) hn1) (cel_bx (by omega)) rfl 6 (by decide) (hts (.fieldLink RX4 81 "SelectoRoute$Box" "risk" "I") (by decide +kernel)) (fun _ h => h) rfl dX4_setRisk_27 ?_
      refine lv_istore (lv' := [(4, .int (x.2 6 jb)), (3, .ref (g (200 + jb))), (0, .ref (g 0)), (1, .int (nI jb)), (2, .int v)]) hx hb dX4_setRisk_30 hl (by decide) rfl (fun ls hl => ?_)
      refine lv_aload_n hx hb dX4_setRisk_32 rfl (lv_at hl 1 rfl) ?_
      refine lv_iload_n hx hb dX4_setRisk_33 rfl (lv_at hl 4 rfl) ?_
      refine wr_put (T := TX0) (N := 15) (ci := 3) (v := .int v) hx hb hts hinX0 tyX0 tyX0_ok nmX0 hown hK hH hS (lv_bx (show jb < x.1 1 0 by omega) hn1) (cel_bx (by omega)) rfl 6 (by decide) (hts (.fieldLink RX4 81 "SelectoRoute$Box" "risk" "I") (by decide +kernel)) (fun _ h => h) rfl (ty := .int) (by decide +kernel) rfl rfl (Nat.le_of_ble_eq_true rfl) dX4_setRisk_34 (fun H locs hH hS => ?_)
      have hH : wHS E o g (uI x 6 jb v) y H := pb_6 (by omega) hH
      refine lv_iload hx hb dX4_setRisk_37 (lv_at hl 0 rfl) ?_
      have hsp : cp_setRisk x (nI jb) v = (none, (x.2 6 jb), (uI x 6 jb v)) := by
        unfold cp_setRisk
        first | (simp only [c1, c2, inB_nI hjb (by omega), ix_nI (show jb < 2 ^ 31 by omega), ↓reduceIte, and_self, and_true, true_and, Bool.false_eq_true, reduceCtorEq, eq_self, false_and, and_false]; done) | (simp [c1, c2, inB_nI hjb (by omega), ix_nI (show jb < 2 ^ 31 by omega), ↓reduceIte, and_self, and_true, true_and, Bool.false_eq_true, reduceCtorEq, eq_self, false_and, and_false]; done) | simp only [c1, c2, inB_nI hjb (by omega), ix_nI (show jb < 2 ^ 31 by omega), ↓reduceIte, and_self, and_true, true_and, Bool.false_eq_true, reduceCtorEq, eq_self, false_and, and_false]
      refine vx_ret ?_
      refine W.widen (k := 4) (n := 24) (by omega) (by omega) ?_
      exact W.iret (v := (x.2 6 jb)) hx hb hr (fun t ht hW => ⟨⟨(x.2 6 jb), (), rfl, (by rw [hsp]; exact ⟨rfl, rfl⟩), wHS_t ht (by rw [hsp]; exact hH)⟩, hS.F ht⟩) hS.2.2 dX4_setRisk_39
    · skip
      refine lv_if_ne (tgt := 26) hx hb dX4_setRisk_13 (by decide) (fun hq => absurd (show (0 : Int32) = 0 by decide) hq) (fun _ => ?_)
      have hsp : cp_setRisk x (nI jb) v = (some "java/lang/IllegalArgumentException", 0, x) := by
        unfold cp_setRisk
        first | (simp only [c1, c2, inB_nI hjb (by omega), ix_nI (show jb < 2 ^ 31 by omega), ↓reduceIte, and_self, and_true, true_and, Bool.false_eq_true, reduceCtorEq, eq_self, false_and, and_false]; done) | (simp [c1, c2, inB_nI hjb (by omega), ix_nI (show jb < 2 ^ 31 by omega), ↓reduceIte, and_self, and_true, true_and, Bool.false_eq_true, reduceCtorEq, eq_self, false_and, and_false]; done) | simp only [c1, c2, inB_nI hjb (by omega), ix_nI (show jb < 2 ^ 31 by omega), ↓reduceIte, and_self, and_true, true_and, Bool.false_eq_true, reduceCtorEq, eq_self, false_and, and_false]
      obtain ⟨sa, hsa⟩ := hC.2.2.1 (79, "risk out of range") (by decide +kernel)
      exact vx_throwS (A := wA E) (names := ["java/lang/RuntimeException", "java/lang/Exception"]) hx hb hlt hown (by decide +kernel) (by decide +kernel) (hts (.classLink RX4 37 "java/lang/IllegalArgumentException") (by decide +kernel)) (hts (.initialized "java/lang/IllegalArgumentException") (by decide +kernel)) hsa (hat_xA hts (fun w h => List.mem_cons_of_mem _ (List.mem_append_left _ (List.mem_append_right _ h))) hC) (by decide +kernel) hC.1 hC.2.1 (by rw [← eH] at *; exact hS) (hl.1.trans hml.symm) dX4_setRisk_16 dX4_setRisk_19 dX4_setRisk_20 dX4_setRisk_22 dX4_setRisk_25 (fun x h => (hnt x h).elim) (Nat.lt_of_lt_of_le (by decide : 2 + 3 < 6) (Nat.le_of_ble_eq_true rfl)) (Nat.le_of_ble_eq_true rfl) (Nat.le_of_ble_eq_true rfl) (Nat.le_of_ble_eq_true rfl) hlocks (wX_of hS hH (by rw [hsp])) hS.2.2 (by omega) (by omega)
def cp_setSeed (x : St) (v : Int32) : Option String × Int32 × St := if 1 ≤ v ∧ v ≤ 2147483646 then (none, (x.2 16 0), (uI x 16 0 v)) else (some "java/lang/IllegalArgumentException", 0, x)
set_option maxHeartbeats 4000000 in
set_option maxRecDepth 100000 in
theorem met_X4_setSeed (l : Launch) (E : wE) (o : wO) (g : Nat → Nat) (x y : St) (v : Int32) (hlt : l.stackTraces = false) (hI : CI x) : vx_Met l yX4_setSeed wsX4_setSeed ({ frames := 10, cells := 4, slots := 24, locals := 1100 } : Room) (va_Pc [.ref (g 0), .int v] (wPreX E o g x y)) (va_Qi (fun (r : Int32) (_ : Unit) => (cp_setSeed x v).1 = none ∧ r = (cp_setSeed x v).2.1) (fun (_ : Unit) t => wHS E o g (cp_setSeed x v).2.2 y t.heap) (wA E)) (wXC E o g x y (fun X => (cp_setSeed x v).1 = some X)) 4 24 (wA E) := by
  refine vx_ofW (cc := cX4_setSeed) (maxL := 3) (ret := (some .int)) (by decide) rfl ?_
  intro p e s m args below meth c s₁ B hml hnt hv
  obtain ⟨rfl, ⟨hz, hH, hK⟩, hC⟩ := hv
  have hx := B.exec
  have hb := B.bytes
  have hr := B.returns
  have hts := atoms_spec (ws := wsX4_setSeed) B.pre
  have hown : s.vm.findClass RX4 = some m.cls := findClass_of_methodNamed B.named
  have hlocks := B.notSynchronized
  have hS : va_S (wA E) s.heap s.heap [] := va_S.rf
  have hinX4 : ∀ w ∈ wsX40, w ∈ wsX4_setSeed := fun w h => List.mem_cons_of_mem _ (List.mem_append_left _ (List.mem_append_right _ h))
  have hl := lv_entry ([.ref (g 0), .int v]) (n := 3) (Nat.le_of_ble_eq_true rfl)
  rw [lg_entry_eq]
  generalize (lg_sl ([.ref (g 0), .int v]) ++ List.replicate (3 - (lg_sl ([.ref (g 0), .int v])).length) Slot.unset).toArray = ls at hl ⊢
  have hl : lv_has ls 3 [(0, .ref (g 0)), (1, .int v)] := hl
  obtain ⟨H, eH⟩ : ∃ z, z = s.heap := ⟨_, rfl⟩
  have hH : wHS E o g x y H := by rw [eH]; exact hH
  have hS : va_S (wA E) s.heap H [] := by rw [eH]; exact hS
  refine W.heapTo eH ?_
  obtain ⟨hn0, hn1, hn2, hn3, hn4, hn5, hc7, hc8, hc5, hc54, hc4, hc50, hc9, hc12, hc10, hcj⟩ := id hI
  refine lv_iload_n hx hb dX4_setSeed_0 rfl (lv_at hl 1 rfl) ?_
  refine lv_iconst (v := 1) hx hb dX4_setSeed_1 (by decide) ?_
  refine lv_ldc hx hb hown (hts (.constant RX4 84 (2147483646)) (by decide +kernel)) dX4_setSeed_2 ?_
  refine va_calli (va_runS (As := [.int v, .int 1, .int 2147483646]) (rest := []) ⟨hx, hb, hml, hown, hts⟩ (met_X4_isWithin l E o g x y v 1 2147483646) (va_cwS 3 hts gX4_setSeed_X4_isWithin rfl rfl rfl (by decide +kernel) ⟨Nat.le_of_ble_eq_true rfl, Nat.le_of_ble_eq_true rfl⟩) ⟨fun a U f mk q => ⟨q.1, wPre.calling q.2 a f mk⟩, fun U hU hW => ⟨rfl, wPre_at hz hS hH hK U hU hW⟩⟩ rfl rfl hl.1 rfl (lv_room (Nat.le_of_ble_eq_true rfl)) dX4_setSeed_4 ⟨Nat.le_of_ble_eq_true rfl, Nat.le_of_ble_eq_true rfl⟩) hS (fun q _ h => h) (fun q h => h) (fun r u t H locs ht hvm hw hB hz1 hk1 hS => ?_)
  have hB := wHS_h ht hB
  try dsimp only at hw
  have hH := hB
  rcases hw with ⟨rfl, c1⟩ | ⟨rfl, c1⟩
  · skip
    refine lv_if_ne (tgt := 20) hx hb dX4_setSeed_7 (by decide) (fun _ => ?_) (fun hq => absurd hq (show ¬ (1 : Int32) = 0 by decide))
    refine lv_aload_n hx hb dX4_setSeed_20 rfl (lv_at hl 0 rfl) ?_
    refine wr_get (T := TX4) (N := 9) (ci := 6) (v := .int (x.2 16 0)) hx hb hts hinX4 hown hK hH lv_r0 (cel_rt (by omega)) rfl 4 (by decide) (hts (.fieldLink RX4 26 "SelectoRoute" "z" "I") (by decide +kernel)) (fun _ h => h) rfl dX4_setSeed_21 ?_
    refine lv_istore_n (lv' := [(2, .int (x.2 16 0)), (0, .ref (g 0)), (1, .int v)]) hx hb dX4_setSeed_24 rfl hl (by decide) rfl (fun ls hl => ?_)
    refine lv_aload_n hx hb dX4_setSeed_25 rfl (lv_at hl 1 rfl) ?_
    refine lv_iload_n hx hb dX4_setSeed_26 rfl (lv_at hl 2 rfl) ?_
    refine wr_put (T := TX4) (N := 9) (ci := 6) (v := .int v) hx hb hts hinX4 tyX4 tyX4_ok nmX4 hown hK hH hS lv_r0 (cel_rt (by omega)) rfl 4 (by decide) (hts (.fieldLink RX4 26 "SelectoRoute" "z" "I") (by decide +kernel)) (fun _ h => h) rfl (ty := .int) (by decide +kernel) rfl rfl (Nat.le_of_ble_eq_true rfl) dX4_setSeed_27 (fun H locs hH hS => ?_)
    have hH : wHS E o g (uI x 16 0 v) y H := pr_4 hH
    refine lv_iload_n hx hb dX4_setSeed_30 rfl (lv_at hl 0 rfl) ?_
    have hsp : cp_setSeed x v = (none, (x.2 16 0), (uI x 16 0 v)) := by
      unfold cp_setSeed
      first | (simp only [c1, ↓reduceIte, and_self, and_true, true_and, Bool.false_eq_true, reduceCtorEq, eq_self, false_and, and_false]; done) | (simp [c1, ↓reduceIte, and_self, and_true, true_and, Bool.false_eq_true, reduceCtorEq, eq_self, false_and, and_false]; done) | simp only [c1, ↓reduceIte, and_self, and_true, true_and, Bool.false_eq_true, reduceCtorEq, eq_self, false_and, and_false]
    refine vx_ret ?_
    refine W.widen (k := 4) (n := 24) (by omega) (by omega) ?_
    exact W.iret (v := (x.2 16 0)) hx hb hr (fun t ht hW => ⟨⟨(x.2 16 0), (), rfl, (by rw [hsp]; exact ⟨rfl, rfl⟩), wHS_t ht (by rw [hsp]; exact hH)⟩, hS.F ht⟩) hS.2.2 dX4_setSeed_31
  · skip
    refine lv_if_ne (tgt := 20) hx hb dX4_setSeed_7 (by decide) (fun hq => absurd (show (0 : Int32) = 0 by decide) hq) (fun _ => ?_)
    have hsp : cp_setSeed x v = (some "java/lang/IllegalArgumentException", 0, x) := by
      unfold cp_setSeed
      first | (simp only [c1, ↓reduceIte, and_self, and_true, true_and, Bool.false_eq_true, reduceCtorEq, eq_self, false_and, and_false]; done) | (simp [c1, ↓reduceIte, and_self, and_true, true_and, Bool.false_eq_true, reduceCtorEq, eq_self, false_and, and_false]; done) | simp only [c1, ↓reduceIte, and_self, and_true, true_and, Bool.false_eq_true, reduceCtorEq, eq_self, false_and, and_false]
    obtain ⟨sa, hsa⟩ := hC.2.2.1 (85, "seed out of range") (by decide +kernel)
    exact vx_throwS (A := wA E) (names := ["java/lang/RuntimeException", "java/lang/Exception"]) hx hb hlt hown (by decide +kernel) (by decide +kernel) (hts (.classLink RX4 37 "java/lang/IllegalArgumentException") (by decide +kernel)) (hts (.initialized "java/lang/IllegalArgumentException") (by decide +kernel)) hsa (hat_xA hts (fun w h => List.mem_cons_of_mem _ (List.mem_append_right _ h)) hC) (by decide +kernel) hC.1 hC.2.1 (by rw [← eH] at *; exact hS) (hl.1.trans hml.symm) dX4_setSeed_10 dX4_setSeed_13 dX4_setSeed_14 dX4_setSeed_16 dX4_setSeed_19 (fun x h => (hnt x h).elim) (Nat.lt_of_lt_of_le (by decide : 2 + 3 < 6) (Nat.le_of_ble_eq_true rfl)) (Nat.le_of_ble_eq_true rfl) (Nat.le_of_ble_eq_true rfl) (Nat.le_of_ble_eq_true rfl) hlocks (wX_of hS hH (by rw [hsp])) hS.2.2 (by omega) (by omega)
def cp_pull (x : St) (b : Int32) : Option String × Int32 × St := if inB b (x.1 0 0) = true then (none, (pW x (ix b) (nI (x.1 9 0))), x) else (some "java/lang/IndexOutOfBoundsException", 0, x)
set_option maxHeartbeats 4000000 in
set_option maxRecDepth 100000 in
theorem met_X4_pull (l : Launch) (E : wE) (o : wO) (g : Nat → Nat) (x y : St) (b : Int32) (hlt : l.stackTraces = false) (hI : CI x) : vx_Met l yX4_pull wsX4_pull ({ frames := 10, cells := 4, slots := 24, locals := 1100 } : Room) (va_Pc [.ref (g 0), .int b] (wPreX E o g x y)) (va_Qi (fun (r : Int32) (_ : Unit) => (cp_pull x b).1 = none ∧ r = (cp_pull x b).2.1) (fun (_ : Unit) t => wHS E o g (cp_pull x b).2.2 y t.heap) (wA E)) (wXC E o g x y (fun X => (cp_pull x b).1 = some X)) 4 24 (wA E) := by
  refine vx_ofW (cc := cX4_pull) (maxL := 2) (ret := (some .int)) (by decide) rfl ?_
  intro p e s m args below meth c s₁ B hml hnt hv
  obtain ⟨rfl, ⟨hz, hH, hK⟩, hC⟩ := hv
  have hx := B.exec
  have hb := B.bytes
  have hr := B.returns
  have hts := atoms_spec (ws := wsX4_pull) B.pre
  have hown : s.vm.findClass RX4 = some m.cls := findClass_of_methodNamed B.named
  have hlocks := B.notSynchronized
  have hS : va_S (wA E) s.heap s.heap [] := va_S.rf
  have hinX4 : ∀ w ∈ wsX40, w ∈ wsX4_pull := fun w h => List.mem_cons_of_mem _ (List.mem_append_left _ (List.mem_append_left _ (List.mem_append_left _ (List.mem_append_left _ (List.mem_append_right _ h)))))
  have hinJx4a65c : ∀ w ∈ wsJx4a65c0, w ∈ wsX4_pull := fun w h => List.mem_cons_of_mem _ (List.mem_append_left _ (List.mem_append_left _ (List.mem_append_left _ (List.mem_append_right _ h))))
  have hinX2 : ∀ w ∈ wsX20, w ∈ wsX4_pull := fun w h => List.mem_cons_of_mem _ (List.mem_append_left _ (List.mem_append_left _ (List.mem_append_right _ h)))
  have hinX0 : ∀ w ∈ wsX00, w ∈ wsX4_pull := fun w h => List.mem_cons_of_mem _ (List.mem_append_left _ (List.mem_append_right _ h))
  have hl := lv_entry ([.ref (g 0), .int b]) (n := 2) (Nat.le_of_ble_eq_true rfl)
  rw [lg_entry_eq]
  generalize (lg_sl ([.ref (g 0), .int b]) ++ List.replicate (2 - (lg_sl ([.ref (g 0), .int b])).length) Slot.unset).toArray = ls at hl ⊢
  have hl : lv_has ls 2 [(0, .ref (g 0)), (1, .int b)] := hl
  obtain ⟨H, eH⟩ : ∃ z, z = s.heap := ⟨_, rfl⟩
  have hH : wHS E o g x y H := by rw [eH]; exact hH
  have hS : va_S (wA E) s.heap H [] := by rw [eH]; exact hS
  refine W.heapTo eH ?_
  obtain ⟨hn0, hn1, hn2, hn3, hn4, hn5, hc7, hc8, hc5, hc54, hc4, hc50, hc9, hc12, hc10, hcj⟩ := id hI
  refine lv_aload_n hx hb dX4_pull_0 rfl (lv_at hl 0 rfl) ?_
  refine lv_iload_n hx hb dX4_pull_1 rfl (lv_at hl 1 rfl) ?_
  refine wx_callr (vx_runV (As := [.int b]) (rest := []) ⟨hx, hb, hml, hown, hts⟩ (met_X4_requireDisc l E o g x y b hlt hI) (cwV 1 hts gX4_pull_X4_requireDisc rfl rfl rfl (by decide +kernel) ⟨Nat.le_of_ble_eq_true rfl, Nat.le_of_ble_eq_true rfl⟩) ⟨fun a U f mk q => ⟨q.1, wPreX.calling q.2 a f mk⟩, (va_recv hK (wH_one hH lv_r0 (cel_rt (by omega))) (ci := 6) (q0 := 0) rfl rfl), fun U hU hW => ⟨rfl, wPreX_at hz hS hH hK hC U hU hW⟩⟩ rfl rfl hl.1 rfl (lv_room (Nat.le_of_ble_eq_true rfl)) dX4_pull_2 ⟨Nat.le_of_ble_eq_true rfl, Nat.le_of_ble_eq_true rfl⟩) hS (fun q _ h => h) (fun q h => h) (fun q _ h => h) (fun E9 ce q9 u t H locs ht hvm hw hB hz1 hk1 hS hce hcv hcl => ?_) (fun u ra t H locs ht hvm hw hB hz1 hk1 hS => ?_)
  · obtain ⟨⟨rfl, c1⟩, hB⟩ := hB
    have hH := wHS_h ht hB
    have hsp : cp_pull x b = (some "java/lang/IndexOutOfBoundsException", 0, x) := by
      unfold cp_pull
      first | (simp only [(Bool.eq_false_iff.mp c1), ↓reduceIte, and_self, and_true, true_and, Bool.false_eq_true, reduceCtorEq, eq_self, false_and, and_false]; done) | (simp [(Bool.eq_false_iff.mp c1), ↓reduceIte, and_self, and_true, true_and, Bool.false_eq_true, reduceCtorEq, eq_self, false_and, and_false]; done) | simp only [(Bool.eq_false_iff.mp c1), ↓reduceIte, and_self, and_true, true_and, Bool.false_eq_true, reduceCtorEq, eq_self, false_and, and_false]
    exact vx_out (fun x h => (hnt x h).elim) hlocks hce hcv hcl (wX_on hS hH (by rw [hsp])) hS.2.2 (by omega) (by omega)
  · have c1 : inB b (x.1 0 0) = true := hw
    obtain ⟨jb, hjb, rfl⟩ := inB_t c1 (by omega)
    obtain ⟨rfl, hB⟩ := hB
    have hH := wHS_h ht hB
    rw [ix_nI (show jb < 2 ^ 31 by omega)]
    refine lv_aload_n hx hb dX4_pull_5 rfl (lv_at hl 0 rfl) ?_
    refine wr_get (T := TX4) (N := 9) (ci := 6) (v := .int (nI (x.1 9 0))) hx hb hts hinX4 hown hK hH lv_r0 (cel_rt (by omega)) rfl 5 (by decide) (hts (.fieldLink RX4 172 "SelectoRoute" "week" "I") (by decide +kernel)) (fun _ h => h) rfl dX4_pull_6 ?_
    refine va_calli (va_runV (As := [.int (nI (x.1 9 0))]) (rest := []) ⟨hx, hb, hml, hown, hts⟩ (met_X2_pullWhereItIs l E o g x y jb (nI (x.1 9 0)) (show jb < x.1 0 0 by omega) hn0 (hc8 jb) hn1) (cwV 1 hts gX4_pull_X2_pullWhereItIs rfl rfl rfl (by decide +kernel) ⟨Nat.le_of_ble_eq_true rfl, Nat.le_of_ble_eq_true rfl⟩) ⟨fun a U f mk q => ⟨q.1, wPre.calling q.2 a f mk⟩, (va_recv hK (wH_one hH (lv_di (show jb < x.1 0 0 by omega) hn0) (cel_di (by omega))) (ci := 4) (q0 := 0) rfl rfl), fun U hU hW => ⟨rfl, wPre_at hz hS hH hK U hU hW⟩⟩ rfl rfl hl.1 rfl (lv_room (Nat.le_of_ble_eq_true rfl)) dX4_pull_9 ⟨Nat.le_of_ble_eq_true rfl, Nat.le_of_ble_eq_true rfl⟩) hS (fun q _ h => h) (fun q h => h) (fun r u t H locs ht hvm hw hB hz1 hk1 hS => ?_)
    have hB := wHS_h ht hB
    try dsimp only at hw
    obtain rfl := hw
    have hH := hB
    have hsp : cp_pull x (nI jb) = (none, (pW x jb (nI (x.1 9 0))), x) := by
      unfold cp_pull
      first | (simp only [c1, inB_nI hjb (by omega), ix_nI (show jb < 2 ^ 31 by omega), ↓reduceIte, and_self, and_true, true_and, Bool.false_eq_true, reduceCtorEq, eq_self, false_and, and_false]; done) | (simp [c1, inB_nI hjb (by omega), ix_nI (show jb < 2 ^ 31 by omega), ↓reduceIte, and_self, and_true, true_and, Bool.false_eq_true, reduceCtorEq, eq_self, false_and, and_false]; done) | simp only [c1, inB_nI hjb (by omega), ix_nI (show jb < 2 ^ 31 by omega), ↓reduceIte, and_self, and_true, true_and, Bool.false_eq_true, reduceCtorEq, eq_self, false_and, and_false]
    refine vx_ret ?_
    refine W.widen (k := 4) (n := 24) (by omega) (by omega) ?_
    exact W.iret (v := (pW x jb (nI (x.1 9 0)))) hx hb hr (fun t ht hW => ⟨⟨(pW x jb (nI (x.1 9 0))), (), rfl, (by rw [hsp]; exact ⟨rfl, rfl⟩), wHS_t ht (by rw [hsp]; exact hH)⟩, hS.F ht⟩) hS.2.2 dX4_pull_12
def cp_pullIn (x : St) (b : Int32) (v : Int32) : Option String × Int32 × St := if inB b (x.1 1 0) = true then (if inB v (x.1 0 0) = true then (none, (pD x (ix v) (x.2 5 (ix b)) (nI (x.1 9 0))), x) else (some "java/lang/IndexOutOfBoundsException", 0, x)) else (some "java/lang/IndexOutOfBoundsException", 0, x)
set_option maxHeartbeats 4000000 in
set_option maxRecDepth 100000 in
theorem met_X4_pullIn (l : Launch) (E : wE) (o : wO) (g : Nat → Nat) (x y : St) (b : Int32) (v : Int32) (hlt : l.stackTraces = false) (hI : CI x) : vx_Met l yX4_pullIn wsX4_pullIn ({ frames := 10, cells := 4, slots := 24, locals := 1100 } : Room) (va_Pc [.ref (g 0), .int b, .int v] (wPreX E o g x y)) (va_Qi (fun (r : Int32) (_ : Unit) => (cp_pullIn x b v).1 = none ∧ r = (cp_pullIn x b v).2.1) (fun (_ : Unit) t => wHS E o g (cp_pullIn x b v).2.2 y t.heap) (wA E)) (wXC E o g x y (fun X => (cp_pullIn x b v).1 = some X)) 4 24 (wA E) := by
  refine vx_ofW (cc := cX4_pullIn) (maxL := 4) (ret := (some .int)) (by decide) rfl ?_
  intro p e s m args below meth c s₁ B hml hnt hv
  obtain ⟨rfl, ⟨hz, hH, hK⟩, hC⟩ := hv
  have hx := B.exec
  have hb := B.bytes
  have hr := B.returns
  have hts := atoms_spec (ws := wsX4_pullIn) B.pre
  have hown : s.vm.findClass RX4 = some m.cls := findClass_of_methodNamed B.named
  have hlocks := B.notSynchronized
  have hS : va_S (wA E) s.heap s.heap [] := va_S.rf
  have hinX0 : ∀ w ∈ wsX00, w ∈ wsX4_pullIn := fun w h => List.mem_cons_of_mem _ (List.mem_append_left _ (List.mem_append_left _ (List.mem_append_left _ (List.mem_append_left _ (List.mem_append_right _ h)))))
  have hinX4 : ∀ w ∈ wsX40, w ∈ wsX4_pullIn := fun w h => List.mem_cons_of_mem _ (List.mem_append_left _ (List.mem_append_left _ (List.mem_append_left _ (List.mem_append_right _ h))))
  have hinJx4a65c : ∀ w ∈ wsJx4a65c0, w ∈ wsX4_pullIn := fun w h => List.mem_cons_of_mem _ (List.mem_append_left _ (List.mem_append_left _ (List.mem_append_right _ h)))
  have hinX2 : ∀ w ∈ wsX20, w ∈ wsX4_pullIn := fun w h => List.mem_cons_of_mem _ (List.mem_append_left _ (List.mem_append_right _ h))
  have hl := lv_entry ([.ref (g 0), .int b, .int v]) (n := 4) (Nat.le_of_ble_eq_true rfl)
  rw [lg_entry_eq]
  generalize (lg_sl ([.ref (g 0), .int b, .int v]) ++ List.replicate (4 - (lg_sl ([.ref (g 0), .int b, .int v])).length) Slot.unset).toArray = ls at hl ⊢
  have hl : lv_has ls 4 [(0, .ref (g 0)), (1, .int b), (2, .int v)] := hl
  obtain ⟨H, eH⟩ : ∃ z, z = s.heap := ⟨_, rfl⟩
  have hH : wHS E o g x y H := by rw [eH]; exact hH
  have hS : va_S (wA E) s.heap H [] := by rw [eH]; exact hS
  refine W.heapTo eH ?_
  obtain ⟨hn0, hn1, hn2, hn3, hn4, hn5, hc7, hc8, hc5, hc54, hc4, hc50, hc9, hc12, hc10, hcj⟩ := id hI
  refine lv_aload_n hx hb dX4_pullIn_0 rfl (lv_at hl 0 rfl) ?_
  refine lv_iload_n hx hb dX4_pullIn_1 rfl (lv_at hl 1 rfl) ?_
  refine wx_callr (vx_runV (As := [.int b]) (rest := []) ⟨hx, hb, hml, hown, hts⟩ (met_X4_requireBox l E o g x y b hlt hI) (cwV 1 hts gX4_pullIn_X4_requireBox rfl rfl rfl (by decide +kernel) ⟨Nat.le_of_ble_eq_true rfl, Nat.le_of_ble_eq_true rfl⟩) ⟨fun a U f mk q => ⟨q.1, wPreX.calling q.2 a f mk⟩, (va_recv hK (wH_one hH lv_r0 (cel_rt (by omega))) (ci := 6) (q0 := 0) rfl rfl), fun U hU hW => ⟨rfl, wPreX_at hz hS hH hK hC U hU hW⟩⟩ rfl rfl hl.1 rfl (lv_room (Nat.le_of_ble_eq_true rfl)) dX4_pullIn_2 ⟨Nat.le_of_ble_eq_true rfl, Nat.le_of_ble_eq_true rfl⟩) hS (fun q _ h => h) (fun q h => h) (fun q _ h => h) (fun E9 ce q9 u t H locs ht hvm hw hB hz1 hk1 hS hce hcv hcl => ?_) (fun u ra t H locs ht hvm hw hB hz1 hk1 hS => ?_)
  · obtain ⟨⟨rfl, c1⟩, hB⟩ := hB
    have hH := wHS_h ht hB
    have hsp : cp_pullIn x b v = (some "java/lang/IndexOutOfBoundsException", 0, x) := by
      unfold cp_pullIn
      first | (simp only [(Bool.eq_false_iff.mp c1), ↓reduceIte, and_self, and_true, true_and, Bool.false_eq_true, reduceCtorEq, eq_self, false_and, and_false]; done) | (simp [(Bool.eq_false_iff.mp c1), ↓reduceIte, and_self, and_true, true_and, Bool.false_eq_true, reduceCtorEq, eq_self, false_and, and_false]; done) | simp only [(Bool.eq_false_iff.mp c1), ↓reduceIte, and_self, and_true, true_and, Bool.false_eq_true, reduceCtorEq, eq_self, false_and, and_false]
    exact vx_out (fun x h => (hnt x h).elim) hlocks hce hcv hcl (wX_on hS hH (by rw [hsp])) hS.2.2 (by omega) (by omega)
  · have c1 : inB b (x.1 1 0) = true := hw
    obtain ⟨jb, hjb, rfl⟩ := inB_t c1 (by omega)
    obtain ⟨rfl, hB⟩ := hB
    have hH := wHS_h ht hB
    rw [ix_nI (show jb < 2 ^ 31 by omega)]
    refine lv_astore_n (lv' := [(3, .ref (g (200 + jb))), (0, .ref (g 0)), (1, .int (nI jb)), (2, .int v)]) hx hb dX4_pullIn_5 rfl hl (by decide) rfl (fun ls hl => ?_)
    refine lv_aload_n hx hb dX4_pullIn_6 rfl (lv_at hl 1 rfl) ?_
    refine lv_iload_n hx hb dX4_pullIn_7 rfl (lv_at hl 3 rfl) ?_
    refine wx_callr (vx_runV (As := [.int v]) (rest := []) ⟨hx, hb, hml, hown, hts⟩ (met_X4_requireDisc l E o g x y v hlt hI) (cwV 1 hts gX4_pullIn_X4_requireDisc rfl rfl rfl (by decide +kernel) ⟨Nat.le_of_ble_eq_true rfl, Nat.le_of_ble_eq_true rfl⟩) ⟨fun a U f mk q => ⟨q.1, wPreX.calling q.2 a f mk⟩, (va_recv hK (wH_one hH lv_r0 (cel_rt (by omega))) (ci := 6) (q0 := 0) rfl rfl), fun U hU hW => ⟨rfl, wPreX_at hz hS hH hK hC U hU hW⟩⟩ rfl rfl hl.1 rfl (lv_room (Nat.le_of_ble_eq_true rfl)) dX4_pullIn_8 ⟨Nat.le_of_ble_eq_true rfl, Nat.le_of_ble_eq_true rfl⟩) hS (fun q _ h => h) (fun q h => h) (fun q _ h => h) (fun E9 ce q9 u t H locs ht hvm hw hB hz1 hk1 hS hce hcv hcl => ?_) (fun u ra t H locs ht hvm hw hB hz1 hk1 hS => ?_)
    · obtain ⟨⟨rfl, c2⟩, hB⟩ := hB
      have hH := wHS_h ht hB
      have hsp : cp_pullIn x (nI jb) v = (some "java/lang/IndexOutOfBoundsException", 0, x) := by
        unfold cp_pullIn
        first | (simp only [c1, (Bool.eq_false_iff.mp c2), inB_nI hjb (by omega), ix_nI (show jb < 2 ^ 31 by omega), ↓reduceIte, and_self, and_true, true_and, Bool.false_eq_true, reduceCtorEq, eq_self, false_and, and_false]; done) | (simp [c1, (Bool.eq_false_iff.mp c2), inB_nI hjb (by omega), ix_nI (show jb < 2 ^ 31 by omega), ↓reduceIte, and_self, and_true, true_and, Bool.false_eq_true, reduceCtorEq, eq_self, false_and, and_false]; done) | simp only [c1, (Bool.eq_false_iff.mp c2), inB_nI hjb (by omega), ix_nI (show jb < 2 ^ 31 by omega), ↓reduceIte, and_self, and_true, true_and, Bool.false_eq_true, reduceCtorEq, eq_self, false_and, and_false]
      exact vx_out (fun x h => (hnt x h).elim) hlocks hce hcv hcl (wX_on hS hH (by rw [hsp])) hS.2.2 (by omega) (by omega)
    · have c2 : inB v (x.1 0 0) = true := hw
      obtain ⟨jv, hjv, rfl⟩ := inB_t c2 (by omega)
      obtain ⟨rfl, hB⟩ := hB
      have hH := wHS_h ht hB
      rw [ix_nI (show jv < 2 ^ 31 by omega)]
      refine lv_aload_n hx hb dX4_pullIn_11 rfl (lv_at hl 0 rfl) ?_
      refine wr_get (T := TX0) (N := 15) (ci := 3) (v := .int (x.2 5 jb)) hx hb hts hinX0 hown hK hH (lv_bx (show jb < x.1 1 0 by omega) hn1) (cel_bx (by omega)) rfl 2 (by decide) (hts (.fieldLink RX4 179 "SelectoRoute$Box" "taste" "I") (by decide +kernel)) (fun _ h => h) rfl dX4_pullIn_12 ?_
      refine lv_aload_n hx hb dX4_pullIn_15 rfl (lv_at hl 1 rfl) ?_
      refine wr_get (T := TX4) (N := 9) (ci := 6) (v := .int (nI (x.1 9 0))) hx hb hts hinX4 hown hK hH lv_r0 (cel_rt (by omega)) rfl 5 (by decide) (hts (.fieldLink RX4 172 "SelectoRoute" "week" "I") (by decide +kernel)) (fun _ h => h) rfl dX4_pullIn_16 ?_
      refine va_calli (va_runV (As := [.int (x.2 5 jb), .int (nI (x.1 9 0))]) (rest := []) ⟨hx, hb, hml, hown, hts⟩ (met_X2_pullFor l E o g x y jv (x.2 5 jb) (nI (x.1 9 0)) (show jv < x.1 0 0 by omega) hn0) (cwV 2 hts gX4_pullIn_X2_pullFor rfl rfl rfl (by decide +kernel) ⟨Nat.le_of_ble_eq_true rfl, Nat.le_of_ble_eq_true rfl⟩) ⟨fun a U f mk q => ⟨q.1, wPre.calling q.2 a f mk⟩, (va_recv hK (wH_one hH (lv_di (show jv < x.1 0 0 by omega) hn0) (cel_di (by omega))) (ci := 4) (q0 := 0) rfl rfl), fun U hU hW => ⟨rfl, wPre_at hz hS hH hK U hU hW⟩⟩ rfl rfl hl.1 rfl (lv_room (Nat.le_of_ble_eq_true rfl)) dX4_pullIn_19 ⟨Nat.le_of_ble_eq_true rfl, Nat.le_of_ble_eq_true rfl⟩) hS (fun q _ h => h) (fun q h => h) (fun r u t H locs ht hvm hw hB hz1 hk1 hS => ?_)
      have hB := wHS_h ht hB
      try dsimp only at hw
      obtain rfl := hw
      have hH := hB
      have hsp : cp_pullIn x (nI jb) (nI jv) = (none, (pD x jv (x.2 5 jb) (nI (x.1 9 0))), x) := by
        unfold cp_pullIn
        first | (simp only [c1, c2, inB_nI hjb (by omega), ix_nI (show jb < 2 ^ 31 by omega), inB_nI hjv (by omega), ix_nI (show jv < 2 ^ 31 by omega), ↓reduceIte, and_self, and_true, true_and, Bool.false_eq_true, reduceCtorEq, eq_self, false_and, and_false]; done) | (simp [c1, c2, inB_nI hjb (by omega), ix_nI (show jb < 2 ^ 31 by omega), inB_nI hjv (by omega), ix_nI (show jv < 2 ^ 31 by omega), ↓reduceIte, and_self, and_true, true_and, Bool.false_eq_true, reduceCtorEq, eq_self, false_and, and_false]; done) | simp only [c1, c2, inB_nI hjb (by omega), ix_nI (show jb < 2 ^ 31 by omega), inB_nI hjv (by omega), ix_nI (show jv < 2 ^ 31 by omega), ↓reduceIte, and_self, and_true, true_and, Bool.false_eq_true, reduceCtorEq, eq_self, false_and, and_false]
      refine vx_ret ?_
      refine W.widen (k := 4) (n := 24) (by omega) (by omega) ?_
      exact W.iret (v := (pD x jv (x.2 5 jb) (nI (x.1 9 0)))) hx hb hr (fun t ht hW => ⟨⟨(pD x jv (x.2 5 jb) (nI (x.1 9 0))), (), rfl, (by rw [hsp]; exact ⟨rfl, rfl⟩), wHS_t ht (by rw [hsp]; exact hH)⟩, hS.F ht⟩) hS.2.2 dX4_pullIn_22
def cp_visit (x : St) (b : Int32) : Option String × Int32 × St := if inB b (x.1 1 0) = true then (if (x.1 10 (ix b)) = (x.1 9 0) + 1 then (some "java/lang/UnsupportedOperationException", 0, x) else (if 40 ≤ (x.2 17 0) then (none, (x.2 8 (ix b)), (uI (uI (uN (uI (uI (uI (uI (uI (uI x 17 0 ((x.2 17 0) - 40)) 12 (ix b) (5 * ((uI x 17 0 ((x.2 17 0) - 40)).2 11 (ix b)) - ((uI x 17 0 ((x.2 17 0) - 40)).2 8 (ix b)))) 13 (ix b) (((uI x 17 0 ((x.2 17 0) - 40)).2 13 (ix b)) + (((x.2 8 (ix b)) * (x.2 4 (ix b))) / 100))) 8 (ix b) 0) 11 (ix b) 0) 10 (ix b) 0) 10 (ix b) ((x.1 9 0) + 1)) 19 0 ((x.2 19 0) + (x.2 8 (ix b)))) 18 0 ((x.2 18 0) + ((x.2 8 (ix b)) - (((x.2 8 (ix b)) * (x.2 4 (ix b))) / 100))))) else (some "java/lang/UnsupportedOperationException", 0, x))) else (some "java/lang/IndexOutOfBoundsException", 0, x)
set_option maxHeartbeats 4000000 in
set_option maxRecDepth 100000 in
theorem met_X4_visit (l : Launch) (E : wE) (o : wO) (g : Nat → Nat) (x y : St) (b : Int32) (hlt : l.stackTraces = false) (hI : CI x) : vx_Met l yX4_visit wsX4_visit ({ frames := 10, cells := 4, slots := 24, locals := 1100 } : Room) (va_Pc [.ref (g 0), .int b] (wPreX E o g x y)) (va_Qi (fun (r : Int32) (_ : Unit) => (cp_visit x b).1 = none ∧ r = (cp_visit x b).2.1) (fun (_ : Unit) t => wHS E o g (cp_visit x b).2.2 y t.heap) (wA E)) (wXC E o g x y (fun X => (cp_visit x b).1 = some X)) 4 24 (wA E) := by
  refine vx_ofW (cc := cX4_visit) (maxL := 5) (ret := (some .int)) (by decide) rfl ?_
  intro p e s m args below meth c s₁ B hml hnt hv
  obtain ⟨rfl, ⟨hz, hH, hK⟩, hC⟩ := hv
  have hx := B.exec
  have hb := B.bytes
  have hr := B.returns
  have hts := atoms_spec (ws := wsX4_visit) B.pre
  have hown : s.vm.findClass RX4 = some m.cls := findClass_of_methodNamed B.named
  have hlocks := B.notSynchronized
  have hS : va_S (wA E) s.heap s.heap [] := va_S.rf
  have hinX0 : ∀ w ∈ wsX00, w ∈ wsX4_visit := fun w h => List.mem_cons_of_mem _ (List.mem_append_left _ (List.mem_append_left _ (List.mem_append_left _ (List.mem_append_left _ (List.mem_append_right _ h)))))
  have hinX4 : ∀ w ∈ wsX40, w ∈ wsX4_visit := fun w h => List.mem_cons_of_mem _ (List.mem_append_left _ (List.mem_append_left _ (List.mem_append_left _ (List.mem_append_right _ h))))
  have hinJx4a65c : ∀ w ∈ wsJx4a65c0, w ∈ wsX4_visit := fun w h => List.mem_cons_of_mem _ (List.mem_append_left _ (List.mem_append_left _ (List.mem_append_right _ h)))
  have hl := lv_entry ([.ref (g 0), .int b]) (n := 5) (Nat.le_of_ble_eq_true rfl)
  rw [lg_entry_eq]
  generalize (lg_sl ([.ref (g 0), .int b]) ++ List.replicate (5 - (lg_sl ([.ref (g 0), .int b])).length) Slot.unset).toArray = ls at hl ⊢
  have hl : lv_has ls 5 [(0, .ref (g 0)), (1, .int b)] := hl
  obtain ⟨H, eH⟩ : ∃ z, z = s.heap := ⟨_, rfl⟩
  have hH : wHS E o g x y H := by rw [eH]; exact hH
  have hS : va_S (wA E) s.heap H [] := by rw [eH]; exact hS
  refine W.heapTo eH ?_
  obtain ⟨hn0, hn1, hn2, hn3, hn4, hn5, hc7, hc8, hc5, hc54, hc4, hc50, hc9, hc12, hc10, hcj⟩ := id hI
  refine lv_aload_n hx hb dX4_visit_0 rfl (lv_at hl 0 rfl) ?_
  refine lv_iload_n hx hb dX4_visit_1 rfl (lv_at hl 1 rfl) ?_
  refine wx_callr (vx_runV (As := [.int b]) (rest := []) ⟨hx, hb, hml, hown, hts⟩ (met_X4_requireBox l E o g x y b hlt hI) (cwV 1 hts gX4_visit_X4_requireBox rfl rfl rfl (by decide +kernel) ⟨Nat.le_of_ble_eq_true rfl, Nat.le_of_ble_eq_true rfl⟩) ⟨fun a U f mk q => ⟨q.1, wPreX.calling q.2 a f mk⟩, (va_recv hK (wH_one hH lv_r0 (cel_rt (by omega))) (ci := 6) (q0 := 0) rfl rfl), fun U hU hW => ⟨rfl, wPreX_at hz hS hH hK hC U hU hW⟩⟩ rfl rfl hl.1 rfl (lv_room (Nat.le_of_ble_eq_true rfl)) dX4_visit_2 ⟨Nat.le_of_ble_eq_true rfl, Nat.le_of_ble_eq_true rfl⟩) hS (fun q _ h => h) (fun q h => h) (fun q _ h => h) (fun E9 ce q9 u t H locs ht hvm hw hB hz1 hk1 hS hce hcv hcl => ?_) (fun u ra t H locs ht hvm hw hB hz1 hk1 hS => ?_)
  · obtain ⟨⟨rfl, c1⟩, hB⟩ := hB
    have hH := wHS_h ht hB
    have hsp : cp_visit x b = (some "java/lang/IndexOutOfBoundsException", 0, x) := by
      unfold cp_visit
      first | (simp only [(Bool.eq_false_iff.mp c1), ↓reduceIte, and_self, and_true, true_and, Bool.false_eq_true, reduceCtorEq, eq_self, false_and, and_false]; done) | (simp [(Bool.eq_false_iff.mp c1), ↓reduceIte, and_self, and_true, true_and, Bool.false_eq_true, reduceCtorEq, eq_self, false_and, and_false]; done) | simp only [(Bool.eq_false_iff.mp c1), ↓reduceIte, and_self, and_true, true_and, Bool.false_eq_true, reduceCtorEq, eq_self, false_and, and_false]
    exact vx_out (fun x h => (hnt x h).elim) hlocks hce hcv hcl (wX_on hS hH (by rw [hsp])) hS.2.2 (by omega) (by omega)
  · have c1 : inB b (x.1 1 0) = true := hw
    obtain ⟨jb, hjb, rfl⟩ := inB_t c1 (by omega)
    obtain ⟨rfl, hB⟩ := hB
    have hH := wHS_h ht hB
    rw [ix_nI (show jb < 2 ^ 31 by omega)]
    refine lv_astore_n (lv' := [(2, .ref (g (200 + jb))), (0, .ref (g 0)), (1, .int (nI jb))]) hx hb dX4_visit_5 rfl hl (by decide) rfl (fun ls hl => ?_)
    refine lv_aload_n hx hb dX4_visit_6 rfl (lv_at hl 0 rfl) ?_
    refine wr_get (T := TX0) (N := 15) (ci := 3) (v := .int (nI (x.1 10 jb) - 1)) hx hb hts hinX0 hown hK hH (lv_bx (show jb < x.1 1 0 by omega) hn1) (cel_bx (by omega)) rfl 11 (by decide) (hts (.fieldLink RX4 196 "SelectoRoute$Box" "visitWeek" "I") (by decide +kernel)) (fun _ h => h) rfl dX4_visit_7 ?_
    refine lv_aload_n hx hb dX4_visit_10 rfl (lv_at hl 1 rfl) ?_
    refine wr_get (T := TX4) (N := 9) (ci := 6) (v := .int (nI (x.1 9 0))) hx hb hts hinX4 hown hK hH lv_r0 (cel_rt (by omega)) rfl 5 (by decide) (hts (.fieldLink RX4 172 "SelectoRoute" "week" "I") (by decide +kernel)) (fun _ h => h) rfl dX4_visit_11 ?_
    refine lv_icmp_eq (tgt := 26) hx hb dX4_visit_14 (by decide) (fun c2 => ?_) (fun c2 => ?_)
    · have c2 := (vw_eq (by have q0 := hc10 jb; omega) (by omega)).mp c2
      have hsp : cp_visit x (nI jb) = (some "java/lang/UnsupportedOperationException", 0, x) := by
        unfold cp_visit
        first | (simp only [c1, c2, inB_nI hjb (by omega), ix_nI (show jb < 2 ^ 31 by omega), ↓reduceIte, and_self, and_true, true_and, Bool.false_eq_true, reduceCtorEq, eq_self, false_and, and_false]; done) | (simp [c1, c2, inB_nI hjb (by omega), ix_nI (show jb < 2 ^ 31 by omega), ↓reduceIte, and_self, and_true, true_and, Bool.false_eq_true, reduceCtorEq, eq_self, false_and, and_false]; done) | simp only [c1, c2, inB_nI hjb (by omega), ix_nI (show jb < 2 ^ 31 by omega), ↓reduceIte, and_self, and_true, true_and, Bool.false_eq_true, reduceCtorEq, eq_self, false_and, and_false]
      obtain ⟨sa, hsa⟩ := hC.2.2.1 (199, "already visited, or too few minutes") (by decide +kernel)
      exact vx_throwS (A := wA E) (names := ["java/lang/RuntimeException", "java/lang/Exception"]) hx hb hlt hown (by decide +kernel) (by decide +kernel) (hts (.classLink RX4 97 "java/lang/UnsupportedOperationException") (by decide +kernel)) (hts (.initialized "java/lang/UnsupportedOperationException") (by decide +kernel)) hsa (hat_xU hts (fun w h => List.mem_cons_of_mem _ (List.mem_append_left _ (List.mem_append_right _ h))) hC) (by decide +kernel) hC.1 hC.2.1 (by rw [← eH] at *; exact hS) (hl.1.trans hml.symm) dX4_visit_26 dX4_visit_29 dX4_visit_30 dX4_visit_32 dX4_visit_35 (fun x h => (hnt x h).elim) (Nat.lt_of_lt_of_le (by decide : 2 + 3 < 6) (Nat.le_of_ble_eq_true rfl)) (Nat.le_of_ble_eq_true rfl) (Nat.le_of_ble_eq_true rfl) (Nat.le_of_ble_eq_true rfl) hlocks (wX_of hS hH (by rw [hsp])) hS.2.2 (by omega) (by omega)
    · have c2 : ¬ ((x.1 10 jb) = (x.1 9 0) + 1) := fun hq => c2 ((vw_eq (by have q0 := hc10 jb; omega) (by omega)).mpr hq)
      refine lv_aload_n hx hb dX4_visit_17 rfl (lv_at hl 1 rfl) ?_
      refine wr_get (T := TX4) (N := 9) (ci := 6) (v := .int (x.2 17 0)) hx hb hts hinX4 hown hK hH lv_r0 (cel_rt (by omega)) rfl 6 (by decide) (hts (.fieldLink RX4 30 "SelectoRoute" "minutes" "I") (by decide +kernel)) (fun _ h => h) rfl dX4_visit_18 ?_
      refine lv_bipush (v := 40) hx hb dX4_visit_21 (by decide) ?_
      refine lv_icmp_ge (tgt := 36) hx hb dX4_visit_23 (by decide) (fun c3 => ?_) (fun c3 => ?_)
      · skip
        refine lv_aload_n hx hb dX4_visit_36 rfl (lv_at hl 1 rfl) ?_
        refine lv_dup hx hb dX4_visit_37 rfl ?_
        refine wr_get (T := TX4) (N := 9) (ci := 6) (v := .int (x.2 17 0)) hx hb hts hinX4 hown hK hH lv_r0 (cel_rt (by omega)) rfl 6 (by decide) (hts (.fieldLink RX4 30 "SelectoRoute" "minutes" "I") (by decide +kernel)) (fun _ h => h) rfl dX4_visit_38 ?_
        refine lv_bipush (v := 40) hx hb dX4_visit_41 (by decide) ?_
        refine lv_isub hx hb dX4_visit_43 ?_
        refine lv_topi (fun v4 ev4 => ?_)
        refine wr_put (T := TX4) (N := 9) (ci := 6) (v := .int v4) hx hb hts hinX4 tyX4 tyX4_ok nmX4 hown hK hH hS lv_r0 (cel_rt (by omega)) rfl 6 (by decide) (hts (.fieldLink RX4 30 "SelectoRoute" "minutes" "I") (by decide +kernel)) (fun _ h => h) rfl (ty := .int) (by decide +kernel) rfl rfl (Nat.le_of_ble_eq_true rfl) dX4_visit_44 (fun H locs hH hS => ?_)
        have hH : wHS E o g (uI x 17 0 v4) y H := pr_6 hH
        refine lv_aload_n hx hb dX4_visit_47 rfl (lv_at hl 0 rfl) ?_
        refine wr_get (T := TX0) (N := 15) (ci := 3) (v := .int (x.2 8 jb)) hx hb hts hinX0 hown hK hH (lv_bx (show jb < x.1 1 0 by omega) hn1) (cel_bx (by omega)) rfl 8 (by decide) (hts (.fieldLink RX4 110 "SelectoRoute$Box" "cents" "I") (by decide +kernel)) (fun _ h => h) rfl dX4_visit_48 ?_
        refine lv_istore_n (lv' := [(3, .int (x.2 8 jb)), (2, .ref (g (200 + jb))), (0, .ref (g 0)), (1, .int (nI jb))]) hx hb dX4_visit_51 rfl hl (by decide) rfl (fun ls hl => ?_)
        refine lv_iload_n hx hb dX4_visit_52 rfl (lv_at hl 0 rfl) ?_
        refine lv_aload_n hx hb dX4_visit_53 rfl (lv_at hl 1 rfl) ?_
        refine wr_get (T := TX0) (N := 15) (ci := 3) (v := .int (x.2 4 jb)) hx hb hts hinX0 hown hK hH (lv_bx (show jb < x.1 1 0 by omega) hn1) (cel_bx (by omega)) rfl 1 (by decide) (hts (.fieldLink RX4 201 "SelectoRoute$Box" "share" "I") (by decide +kernel)) (fun _ h => h) rfl dX4_visit_54 ?_
        refine lv_imul hx hb dX4_visit_57 ?_
        refine lv_bipush (v := 100) hx hb dX4_visit_58 (by decide) ?_
        refine lv_idiv hx hb dX4_visit_60 (by decide) ?_
        refine lv_istore (lv' := [(4, .int (((x.2 8 jb) * (x.2 4 jb)) / 100)), (3, .int (x.2 8 jb)), (2, .ref (g (200 + jb))), (0, .ref (g 0)), (1, .int (nI jb))]) hx hb dX4_visit_61 hl (by decide) rfl (fun ls hl => ?_)
        refine lv_aload_n hx hb dX4_visit_63 rfl (lv_at hl 2 rfl) ?_
        refine lv_iload hx hb dX4_visit_64 (lv_at hl 0 rfl) ?_
        refine lv_aload_n hx hb dX4_visit_66 rfl (lv_at hl 3 rfl) ?_
        refine wr_get (T := TX4) (N := 9) (ci := 6) (v := .int (nI (x.1 9 0))) hx hb hts hinX4 hown hK hH lv_r0 (cel_rt (by omega)) rfl 5 (by decide) (hts (.fieldLink RX4 172 "SelectoRoute" "week" "I") (by decide +kernel)) (fun _ h => h) rfl dX4_visit_67 ?_
        refine va_callv (va_runV (As := [.int (((x.2 8 jb) * (x.2 4 jb)) / 100), .int (nI (x.1 9 0))]) (rest := []) ⟨hx, hb, hml, hown, hts⟩ (met_X0_settle l E o g (uI x 17 0 v4) y jb (x.1 9 0) (((x.2 8 jb) * (x.2 4 jb)) / 100) (CI_I hI) (show jb < x.1 1 0 by omega)) (cwV 2 hts gX4_visit_X0_settle rfl rfl rfl (by decide +kernel) ⟨Nat.le_of_ble_eq_true rfl, Nat.le_of_ble_eq_true rfl⟩) ⟨fun a U f mk q => ⟨q.1, wPre.calling q.2 a f mk⟩, (va_recv hK (wH_one hH (lv_bx (show jb < x.1 1 0 by omega) hn1) (cel_bx (by omega))) (ci := 3) (q0 := 0) rfl rfl), fun U hU hW => ⟨rfl, wPre_at hz hS hH hK U hU hW⟩⟩ rfl rfl hl.1 rfl (lv_room (Nat.le_of_ble_eq_true rfl)) dX4_visit_70 ⟨Nat.le_of_ble_eq_true rfl, Nat.le_of_ble_eq_true rfl⟩) hS (fun q _ h => h) (fun q h => h) (fun u t H locs ht hvm hw hB hz1 hk1 hS => ?_)
        have hB := wHS_h ht hB
        try dsimp only at hw
        have hH := hB
        refine lv_aload_n hx hb dX4_visit_73 rfl (lv_at hl 3 rfl) ?_
        refine lv_dup hx hb dX4_visit_74 rfl ?_
        refine wr_get (T := TX4) (N := 9) (ci := 6) (v := .int (x.2 19 0)) hx hb hts hinX4 hown hK hH lv_r0 (cel_rt (by omega)) rfl 7 (by decide) (hts (.fieldLink RX4 208 "SelectoRoute" "taken" "I") (by decide +kernel)) (fun _ h => h) rfl dX4_visit_75 ?_
        refine lv_iload_n hx hb dX4_visit_78 rfl (lv_at hl 1 rfl) ?_
        refine lv_iadd hx hb dX4_visit_79 ?_
        refine lv_topi (fun v5 ev5 => ?_)
        refine wr_put (T := TX4) (N := 9) (ci := 6) (v := .int v5) hx hb hts hinX4 tyX4 tyX4_ok nmX4 hown hK hH hS lv_r0 (cel_rt (by omega)) rfl 7 (by decide) (hts (.fieldLink RX4 208 "SelectoRoute" "taken" "I") (by decide +kernel)) (fun _ h => h) rfl (ty := .int) (by decide +kernel) rfl rfl (Nat.le_of_ble_eq_true rfl) dX4_visit_80 (fun H locs hH hS => ?_)
        have hH : wHS E o g (uI (uN (uI (uI (uI (uI (uI (uI x 17 0 v4) 12 jb (5 * ((uI x 17 0 v4).2 11 jb) - ((uI x 17 0 v4).2 8 jb))) 13 jb (((uI x 17 0 v4).2 13 jb) + (((x.2 8 jb) * (x.2 4 jb)) / 100))) 8 jb 0) 11 jb 0) 10 jb 0) 10 jb ((x.1 9 0) + 1)) 19 0 v5) y H := pr_7 hH
        refine lv_aload_n hx hb dX4_visit_83 rfl (lv_at hl 3 rfl) ?_
        refine lv_dup hx hb dX4_visit_84 rfl ?_
        refine wr_get (T := TX4) (N := 9) (ci := 6) (v := .int (x.2 18 0)) hx hb hts hinX4 hown hK hH lv_r0 (cel_rt (by omega)) rfl 8 (by decide) (hts (.fieldLink RX4 211 "SelectoRoute" "earned" "I") (by decide +kernel)) (fun _ h => h) rfl dX4_visit_85 ?_
        refine lv_iload_n hx hb dX4_visit_88 rfl (lv_at hl 1 rfl) ?_
        refine lv_iload hx hb dX4_visit_89 (lv_at hl 0 rfl) ?_
        refine lv_isub hx hb dX4_visit_91 ?_
        refine lv_iadd hx hb dX4_visit_92 ?_
        refine lv_topi (fun v6 ev6 => ?_)
        refine wr_put (T := TX4) (N := 9) (ci := 6) (v := .int v6) hx hb hts hinX4 tyX4 tyX4_ok nmX4 hown hK hH hS lv_r0 (cel_rt (by omega)) rfl 8 (by decide) (hts (.fieldLink RX4 211 "SelectoRoute" "earned" "I") (by decide +kernel)) (fun _ h => h) rfl (ty := .int) (by decide +kernel) rfl rfl (Nat.le_of_ble_eq_true rfl) dX4_visit_93 (fun H locs hH hS => ?_)
        have hH : wHS E o g (uI (uI (uN (uI (uI (uI (uI (uI (uI x 17 0 v4) 12 jb (5 * ((uI x 17 0 v4).2 11 jb) - ((uI x 17 0 v4).2 8 jb))) 13 jb (((uI x 17 0 v4).2 13 jb) + (((x.2 8 jb) * (x.2 4 jb)) / 100))) 8 jb 0) 11 jb 0) 10 jb 0) 10 jb ((x.1 9 0) + 1)) 19 0 v5) 18 0 v6) y H := pr_8 hH
        refine lv_iload_n hx hb dX4_visit_96 rfl (lv_at hl 1 rfl) ?_
        subst ev6
        subst ev5
        subst ev4
        have hsp : cp_visit x (nI jb) = (none, (x.2 8 jb), (uI (uI (uN (uI (uI (uI (uI (uI (uI x 17 0 ((x.2 17 0) - 40)) 12 jb (5 * ((uI x 17 0 ((x.2 17 0) - 40)).2 11 jb) - ((uI x 17 0 ((x.2 17 0) - 40)).2 8 jb))) 13 jb (((uI x 17 0 ((x.2 17 0) - 40)).2 13 jb) + (((x.2 8 jb) * (x.2 4 jb)) / 100))) 8 jb 0) 11 jb 0) 10 jb 0) 10 jb ((x.1 9 0) + 1)) 19 0 ((x.2 19 0) + (x.2 8 jb))) 18 0 ((x.2 18 0) + ((x.2 8 jb) - (((x.2 8 jb) * (x.2 4 jb)) / 100))))) := by
          unfold cp_visit
          first | (simp only [c1, c2, c3, inB_nI hjb (by omega), ix_nI (show jb < 2 ^ 31 by omega), ↓reduceIte, and_self, and_true, true_and, Bool.false_eq_true, reduceCtorEq, eq_self, false_and, and_false]; done) | (simp [c1, c2, c3, inB_nI hjb (by omega), ix_nI (show jb < 2 ^ 31 by omega), ↓reduceIte, and_self, and_true, true_and, Bool.false_eq_true, reduceCtorEq, eq_self, false_and, and_false]; done) | simp only [c1, c2, c3, inB_nI hjb (by omega), ix_nI (show jb < 2 ^ 31 by omega), ↓reduceIte, and_self, and_true, true_and, Bool.false_eq_true, reduceCtorEq, eq_self, false_and, and_false]
        refine vx_ret ?_
        refine W.widen (k := 4) (n := 24) (by omega) (by omega) ?_
        exact W.iret (v := (x.2 8 jb)) hx hb hr (fun t ht hW => ⟨⟨(x.2 8 jb), (), rfl, (by rw [hsp]; exact ⟨rfl, rfl⟩), wHS_t ht (by rw [hsp]; exact hH)⟩, hS.F ht⟩) hS.2.2 dX4_visit_97
      · skip
        have hsp : cp_visit x (nI jb) = (some "java/lang/UnsupportedOperationException", 0, x) := by
          unfold cp_visit
          first | (simp only [c1, c2, c3, inB_nI hjb (by omega), ix_nI (show jb < 2 ^ 31 by omega), ↓reduceIte, and_self, and_true, true_and, Bool.false_eq_true, reduceCtorEq, eq_self, false_and, and_false]; done) | (simp [c1, c2, c3, inB_nI hjb (by omega), ix_nI (show jb < 2 ^ 31 by omega), ↓reduceIte, and_self, and_true, true_and, Bool.false_eq_true, reduceCtorEq, eq_self, false_and, and_false]; done) | simp only [c1, c2, c3, inB_nI hjb (by omega), ix_nI (show jb < 2 ^ 31 by omega), ↓reduceIte, and_self, and_true, true_and, Bool.false_eq_true, reduceCtorEq, eq_self, false_and, and_false]
        obtain ⟨sa, hsa⟩ := hC.2.2.1 (199, "already visited, or too few minutes") (by decide +kernel)
        exact vx_throwS (A := wA E) (names := ["java/lang/RuntimeException", "java/lang/Exception"]) hx hb hlt hown (by decide +kernel) (by decide +kernel) (hts (.classLink RX4 97 "java/lang/UnsupportedOperationException") (by decide +kernel)) (hts (.initialized "java/lang/UnsupportedOperationException") (by decide +kernel)) hsa (hat_xU hts (fun w h => List.mem_cons_of_mem _ (List.mem_append_left _ (List.mem_append_right _ h))) hC) (by decide +kernel) hC.1 hC.2.1 (by rw [← eH] at *; exact hS) (hl.1.trans hml.symm) dX4_visit_26 dX4_visit_29 dX4_visit_30 dX4_visit_32 dX4_visit_35 (fun x h => (hnt x h).elim) (Nat.lt_of_lt_of_le (by decide : 2 + 3 < 6) (Nat.le_of_ble_eq_true rfl)) (Nat.le_of_ble_eq_true rfl) (Nat.le_of_ble_eq_true rfl) (Nat.le_of_ble_eq_true rfl) hlocks (wX_of hS hH (by rw [hsp])) hS.2.2 (by omega) (by omega)
def cp_changeNeedle (x : St) (b : Int32) : Option String × Int32 × St := if inB b (x.1 1 0) = true then (if (x.1 10 (ix b)) = (x.1 9 0) + 1 then (if 5 ≤ (x.2 17 0) then (none, (x.2 9 (ix b)), (uI (uI x 17 0 ((x.2 17 0) - 5)) 9 (ix b) 0)) else (some "java/lang/UnsupportedOperationException", 0, x)) else (some "java/lang/UnsupportedOperationException", 0, x)) else (some "java/lang/IndexOutOfBoundsException", 0, x)
set_option maxHeartbeats 4000000 in
set_option maxRecDepth 100000 in
theorem met_X4_changeNeedle (l : Launch) (E : wE) (o : wO) (g : Nat → Nat) (x y : St) (b : Int32) (hlt : l.stackTraces = false) (hI : CI x) : vx_Met l yX4_changeNeedle wsX4_changeNeedle ({ frames := 10, cells := 4, slots := 24, locals := 1100 } : Room) (va_Pc [.ref (g 0), .int b] (wPreX E o g x y)) (va_Qi (fun (r : Int32) (_ : Unit) => (cp_changeNeedle x b).1 = none ∧ r = (cp_changeNeedle x b).2.1) (fun (_ : Unit) t => wHS E o g (cp_changeNeedle x b).2.2 y t.heap) (wA E)) (wXC E o g x y (fun X => (cp_changeNeedle x b).1 = some X)) 4 24 (wA E) := by
  refine vx_ofW (cc := cX4_changeNeedle) (maxL := 4) (ret := (some .int)) (by decide) rfl ?_
  intro p e s m args below meth c s₁ B hml hnt hv
  obtain ⟨rfl, ⟨hz, hH, hK⟩, hC⟩ := hv
  have hx := B.exec
  have hb := B.bytes
  have hr := B.returns
  have hts := atoms_spec (ws := wsX4_changeNeedle) B.pre
  have hown : s.vm.findClass RX4 = some m.cls := findClass_of_methodNamed B.named
  have hlocks := B.notSynchronized
  have hS : va_S (wA E) s.heap s.heap [] := va_S.rf
  have hinX0 : ∀ w ∈ wsX00, w ∈ wsX4_changeNeedle := fun w h => List.mem_cons_of_mem _ (List.mem_append_left _ (List.mem_append_left _ (List.mem_append_left _ (List.mem_append_left _ (List.mem_append_right _ h)))))
  have hinX4 : ∀ w ∈ wsX40, w ∈ wsX4_changeNeedle := fun w h => List.mem_cons_of_mem _ (List.mem_append_left _ (List.mem_append_left _ (List.mem_append_left _ (List.mem_append_right _ h))))
  have hinJx4a65c : ∀ w ∈ wsJx4a65c0, w ∈ wsX4_changeNeedle := fun w h => List.mem_cons_of_mem _ (List.mem_append_left _ (List.mem_append_left _ (List.mem_append_right _ h)))
  have hl := lv_entry ([.ref (g 0), .int b]) (n := 4) (Nat.le_of_ble_eq_true rfl)
  rw [lg_entry_eq]
  generalize (lg_sl ([.ref (g 0), .int b]) ++ List.replicate (4 - (lg_sl ([.ref (g 0), .int b])).length) Slot.unset).toArray = ls at hl ⊢
  have hl : lv_has ls 4 [(0, .ref (g 0)), (1, .int b)] := hl
  obtain ⟨H, eH⟩ : ∃ z, z = s.heap := ⟨_, rfl⟩
  have hH : wHS E o g x y H := by rw [eH]; exact hH
  have hS : va_S (wA E) s.heap H [] := by rw [eH]; exact hS
  refine W.heapTo eH ?_
  obtain ⟨hn0, hn1, hn2, hn3, hn4, hn5, hc7, hc8, hc5, hc54, hc4, hc50, hc9, hc12, hc10, hcj⟩ := id hI
  refine lv_aload_n hx hb dX4_changeNeedle_0 rfl (lv_at hl 0 rfl) ?_
  refine lv_iload_n hx hb dX4_changeNeedle_1 rfl (lv_at hl 1 rfl) ?_
  refine wx_callr (vx_runV (As := [.int b]) (rest := []) ⟨hx, hb, hml, hown, hts⟩ (met_X4_requireBox l E o g x y b hlt hI) (cwV 1 hts gX4_changeNeedle_X4_requireBox rfl rfl rfl (by decide +kernel) ⟨Nat.le_of_ble_eq_true rfl, Nat.le_of_ble_eq_true rfl⟩) ⟨fun a U f mk q => ⟨q.1, wPreX.calling q.2 a f mk⟩, (va_recv hK (wH_one hH lv_r0 (cel_rt (by omega))) (ci := 6) (q0 := 0) rfl rfl), fun U hU hW => ⟨rfl, wPreX_at hz hS hH hK hC U hU hW⟩⟩ rfl rfl hl.1 rfl (lv_room (Nat.le_of_ble_eq_true rfl)) dX4_changeNeedle_2 ⟨Nat.le_of_ble_eq_true rfl, Nat.le_of_ble_eq_true rfl⟩) hS (fun q _ h => h) (fun q h => h) (fun q _ h => h) (fun E9 ce q9 u t H locs ht hvm hw hB hz1 hk1 hS hce hcv hcl => ?_) (fun u ra t H locs ht hvm hw hB hz1 hk1 hS => ?_)
  · obtain ⟨⟨rfl, c1⟩, hB⟩ := hB
    have hH := wHS_h ht hB
    have hsp : cp_changeNeedle x b = (some "java/lang/IndexOutOfBoundsException", 0, x) := by
      unfold cp_changeNeedle
      first | (simp only [(Bool.eq_false_iff.mp c1), ↓reduceIte, and_self, and_true, true_and, Bool.false_eq_true, reduceCtorEq, eq_self, false_and, and_false]; done) | (simp [(Bool.eq_false_iff.mp c1), ↓reduceIte, and_self, and_true, true_and, Bool.false_eq_true, reduceCtorEq, eq_self, false_and, and_false]; done) | simp only [(Bool.eq_false_iff.mp c1), ↓reduceIte, and_self, and_true, true_and, Bool.false_eq_true, reduceCtorEq, eq_self, false_and, and_false]
    exact vx_out (fun x h => (hnt x h).elim) hlocks hce hcv hcl (wX_on hS hH (by rw [hsp])) hS.2.2 (by omega) (by omega)
  · have c1 : inB b (x.1 1 0) = true := hw
    obtain ⟨jb, hjb, rfl⟩ := inB_t c1 (by omega)
    obtain ⟨rfl, hB⟩ := hB
    have hH := wHS_h ht hB
    rw [ix_nI (show jb < 2 ^ 31 by omega)]
    refine lv_astore_n (lv' := [(2, .ref (g (200 + jb))), (0, .ref (g 0)), (1, .int (nI jb))]) hx hb dX4_changeNeedle_5 rfl hl (by decide) rfl (fun ls hl => ?_)
    refine lv_aload_n hx hb dX4_changeNeedle_6 rfl (lv_at hl 0 rfl) ?_
    refine wr_get (T := TX0) (N := 15) (ci := 3) (v := .int (nI (x.1 10 jb) - 1)) hx hb hts hinX0 hown hK hH (lv_bx (show jb < x.1 1 0 by omega) hn1) (cel_bx (by omega)) rfl 11 (by decide) (hts (.fieldLink RX4 196 "SelectoRoute$Box" "visitWeek" "I") (by decide +kernel)) (fun _ h => h) rfl dX4_changeNeedle_7 ?_
    refine lv_aload_n hx hb dX4_changeNeedle_10 rfl (lv_at hl 1 rfl) ?_
    refine wr_get (T := TX4) (N := 9) (ci := 6) (v := .int (nI (x.1 9 0))) hx hb hts hinX4 hown hK hH lv_r0 (cel_rt (by omega)) rfl 5 (by decide) (hts (.fieldLink RX4 172 "SelectoRoute" "week" "I") (by decide +kernel)) (fun _ h => h) rfl dX4_changeNeedle_11 ?_
    refine lv_icmp_ne (tgt := 25) hx hb dX4_changeNeedle_14 (by decide) (fun c2 => ?_) (fun c2 => ?_)
    · have c2 : ¬ ((x.1 10 jb) = (x.1 9 0) + 1) := fun hq => c2 ((vw_eq (by have q0 := hc10 jb; omega) (by omega)).mpr hq)
      have hsp : cp_changeNeedle x (nI jb) = (some "java/lang/UnsupportedOperationException", 0, x) := by
        unfold cp_changeNeedle
        first | (simp only [c1, c2, inB_nI hjb (by omega), ix_nI (show jb < 2 ^ 31 by omega), ↓reduceIte, and_self, and_true, true_and, Bool.false_eq_true, reduceCtorEq, eq_self, false_and, and_false]; done) | (simp [c1, c2, inB_nI hjb (by omega), ix_nI (show jb < 2 ^ 31 by omega), ↓reduceIte, and_self, and_true, true_and, Bool.false_eq_true, reduceCtorEq, eq_self, false_and, and_false]; done) | simp only [c1, c2, inB_nI hjb (by omega), ix_nI (show jb < 2 ^ 31 by omega), ↓reduceIte, and_self, and_true, true_and, Bool.false_eq_true, reduceCtorEq, eq_self, false_and, and_false]
      obtain ⟨sa, hsa⟩ := hC.2.2.1 (229, "not visited, or too few minutes") (by decide +kernel)
      exact vx_throwS (A := wA E) (names := ["java/lang/RuntimeException", "java/lang/Exception"]) hx hb hlt hown (by decide +kernel) (by decide +kernel) (hts (.classLink RX4 97 "java/lang/UnsupportedOperationException") (by decide +kernel)) (hts (.initialized "java/lang/UnsupportedOperationException") (by decide +kernel)) hsa (hat_xU hts (fun w h => List.mem_cons_of_mem _ (List.mem_append_left _ (List.mem_append_right _ h))) hC) (by decide +kernel) hC.1 hC.2.1 (by rw [← eH] at *; exact hS) (hl.1.trans hml.symm) dX4_changeNeedle_25 dX4_changeNeedle_28 dX4_changeNeedle_29 dX4_changeNeedle_31 dX4_changeNeedle_34 (fun x h => (hnt x h).elim) (Nat.lt_of_lt_of_le (by decide : 2 + 3 < 6) (Nat.le_of_ble_eq_true rfl)) (Nat.le_of_ble_eq_true rfl) (Nat.le_of_ble_eq_true rfl) (Nat.le_of_ble_eq_true rfl) hlocks (wX_of hS hH (by rw [hsp])) hS.2.2 (by omega) (by omega)
    · have c2 := (vw_eq (by have q0 := hc10 jb; omega) (by omega)).mp c2
      refine lv_aload_n hx hb dX4_changeNeedle_17 rfl (lv_at hl 1 rfl) ?_
      refine wr_get (T := TX4) (N := 9) (ci := 6) (v := .int (x.2 17 0)) hx hb hts hinX4 hown hK hH lv_r0 (cel_rt (by omega)) rfl 6 (by decide) (hts (.fieldLink RX4 30 "SelectoRoute" "minutes" "I") (by decide +kernel)) (fun _ h => h) rfl dX4_changeNeedle_18 ?_
      refine lv_iconst (v := 5) hx hb dX4_changeNeedle_21 (by decide) ?_
      refine lv_icmp_ge (tgt := 35) hx hb dX4_changeNeedle_22 (by decide) (fun c3 => ?_) (fun c3 => ?_)
      · skip
        refine lv_aload_n hx hb dX4_changeNeedle_35 rfl (lv_at hl 1 rfl) ?_
        refine lv_dup hx hb dX4_changeNeedle_36 rfl ?_
        refine wr_get (T := TX4) (N := 9) (ci := 6) (v := .int (x.2 17 0)) hx hb hts hinX4 hown hK hH lv_r0 (cel_rt (by omega)) rfl 6 (by decide) (hts (.fieldLink RX4 30 "SelectoRoute" "minutes" "I") (by decide +kernel)) (fun _ h => h) rfl dX4_changeNeedle_37 ?_
        refine lv_iconst (v := 5) hx hb dX4_changeNeedle_40 (by decide) ?_
        refine lv_isub hx hb dX4_changeNeedle_41 ?_
        refine lv_topi (fun v4 ev4 => ?_)
        refine wr_put (T := TX4) (N := 9) (ci := 6) (v := .int v4) hx hb hts hinX4 tyX4 tyX4_ok nmX4 hown hK hH hS lv_r0 (cel_rt (by omega)) rfl 6 (by decide) (hts (.fieldLink RX4 30 "SelectoRoute" "minutes" "I") (by decide +kernel)) (fun _ h => h) rfl (ty := .int) (by decide +kernel) rfl rfl (Nat.le_of_ble_eq_true rfl) dX4_changeNeedle_42 (fun H locs hH hS => ?_)
        have hH : wHS E o g (uI x 17 0 v4) y H := pr_6 hH
        refine lv_aload_n hx hb dX4_changeNeedle_45 rfl (lv_at hl 0 rfl) ?_
        refine wr_get (T := TX0) (N := 15) (ci := 3) (v := .int (x.2 9 jb)) hx hb hts hinX0 hown hK hH (lv_bx (show jb < x.1 1 0 by omega) hn1) (cel_bx (by omega)) rfl 9 (by decide) (hts (.fieldLink RX4 150 "SelectoRoute$Box" "needle" "I") (by decide +kernel)) (fun _ h => h) rfl dX4_changeNeedle_46 ?_
        refine lv_istore_n (lv' := [(3, .int (x.2 9 jb)), (2, .ref (g (200 + jb))), (0, .ref (g 0)), (1, .int (nI jb))]) hx hb dX4_changeNeedle_49 rfl hl (by decide) rfl (fun ls hl => ?_)
        refine lv_aload_n hx hb dX4_changeNeedle_50 rfl (lv_at hl 1 rfl) ?_
        refine lv_iconst (v := 0) hx hb dX4_changeNeedle_51 (by decide) ?_
        refine wr_put (T := TX0) (N := 15) (ci := 3) (v := .int 0) hx hb hts hinX0 tyX0 tyX0_ok nmX0 hown hK hH hS (lv_bx (show jb < x.1 1 0 by omega) hn1) (cel_bx (by omega)) rfl 9 (by decide) (hts (.fieldLink RX4 150 "SelectoRoute$Box" "needle" "I") (by decide +kernel)) (fun _ h => h) rfl (ty := .int) (by decide +kernel) rfl rfl (Nat.le_of_ble_eq_true rfl) dX4_changeNeedle_52 (fun H locs hH hS => ?_)
        have hH : wHS E o g (uI (uI x 17 0 v4) 9 jb 0) y H := pb_9 (by omega) hH
        refine lv_iload_n hx hb dX4_changeNeedle_55 rfl (lv_at hl 0 rfl) ?_
        subst ev4
        have hsp : cp_changeNeedle x (nI jb) = (none, (x.2 9 jb), (uI (uI x 17 0 ((x.2 17 0) - 5)) 9 jb 0)) := by
          unfold cp_changeNeedle
          first | (simp only [c1, c2, c3, inB_nI hjb (by omega), ix_nI (show jb < 2 ^ 31 by omega), ↓reduceIte, and_self, and_true, true_and, Bool.false_eq_true, reduceCtorEq, eq_self, false_and, and_false]; done) | (simp [c1, c2, c3, inB_nI hjb (by omega), ix_nI (show jb < 2 ^ 31 by omega), ↓reduceIte, and_self, and_true, true_and, Bool.false_eq_true, reduceCtorEq, eq_self, false_and, and_false]; done) | simp only [c1, c2, c3, inB_nI hjb (by omega), ix_nI (show jb < 2 ^ 31 by omega), ↓reduceIte, and_self, and_true, true_and, Bool.false_eq_true, reduceCtorEq, eq_self, false_and, and_false]
        refine vx_ret ?_
        refine W.widen (k := 4) (n := 24) (by omega) (by omega) ?_
        exact W.iret (v := (x.2 9 jb)) hx hb hr (fun t ht hW => ⟨⟨(x.2 9 jb), (), rfl, (by rw [hsp]; exact ⟨rfl, rfl⟩), wHS_t ht (by rw [hsp]; exact hH)⟩, hS.F ht⟩) hS.2.2 dX4_changeNeedle_56
      · skip
        have hsp : cp_changeNeedle x (nI jb) = (some "java/lang/UnsupportedOperationException", 0, x) := by
          unfold cp_changeNeedle
          first | (simp only [c1, c2, c3, inB_nI hjb (by omega), ix_nI (show jb < 2 ^ 31 by omega), ↓reduceIte, and_self, and_true, true_and, Bool.false_eq_true, reduceCtorEq, eq_self, false_and, and_false]; done) | (simp [c1, c2, c3, inB_nI hjb (by omega), ix_nI (show jb < 2 ^ 31 by omega), ↓reduceIte, and_self, and_true, true_and, Bool.false_eq_true, reduceCtorEq, eq_self, false_and, and_false]; done) | simp only [c1, c2, c3, inB_nI hjb (by omega), ix_nI (show jb < 2 ^ 31 by omega), ↓reduceIte, and_self, and_true, true_and, Bool.false_eq_true, reduceCtorEq, eq_self, false_and, and_false]
        obtain ⟨sa, hsa⟩ := hC.2.2.1 (229, "not visited, or too few minutes") (by decide +kernel)
        exact vx_throwS (A := wA E) (names := ["java/lang/RuntimeException", "java/lang/Exception"]) hx hb hlt hown (by decide +kernel) (by decide +kernel) (hts (.classLink RX4 97 "java/lang/UnsupportedOperationException") (by decide +kernel)) (hts (.initialized "java/lang/UnsupportedOperationException") (by decide +kernel)) hsa (hat_xU hts (fun w h => List.mem_cons_of_mem _ (List.mem_append_left _ (List.mem_append_right _ h))) hC) (by decide +kernel) hC.1 hC.2.1 (by rw [← eH] at *; exact hS) (hl.1.trans hml.symm) dX4_changeNeedle_25 dX4_changeNeedle_28 dX4_changeNeedle_29 dX4_changeNeedle_31 dX4_changeNeedle_34 (fun x h => (hnt x h).elim) (Nat.lt_of_lt_of_le (by decide : 2 + 3 < 6) (Nat.le_of_ble_eq_true rfl)) (Nat.le_of_ble_eq_true rfl) (Nat.le_of_ble_eq_true rfl) (Nat.le_of_ble_eq_true rfl) hlocks (wX_of hS hH (by rw [hsp])) hS.2.2 (by omega) (by omega)
def cp_burn (x : St) (b : Int32) : Option String × Int32 × St := if inB b (x.1 0 0) = true then (if (x.1 8 (ix b)) = 1 then (none, (x.2 3 (ix b)), (uN x 8 (ix b) 0)) else (some "java/lang/UnsupportedOperationException", 0, x)) else (some "java/lang/IndexOutOfBoundsException", 0, x)
set_option maxHeartbeats 4000000 in
set_option maxRecDepth 100000 in
theorem met_X4_burn (l : Launch) (E : wE) (o : wO) (g : Nat → Nat) (x y : St) (b : Int32) (hlt : l.stackTraces = false) (hI : CI x) : vx_Met l yX4_burn wsX4_burn ({ frames := 10, cells := 4, slots := 24, locals := 1100 } : Room) (va_Pc [.ref (g 0), .int b] (wPreX E o g x y)) (va_Qi (fun (r : Int32) (_ : Unit) => (cp_burn x b).1 = none ∧ r = (cp_burn x b).2.1) (fun (_ : Unit) t => wHS E o g (cp_burn x b).2.2 y t.heap) (wA E)) (wXC E o g x y (fun X => (cp_burn x b).1 = some X)) 4 24 (wA E) := by
  refine vx_ofW (cc := cX4_burn) (maxL := 3) (ret := (some .int)) (by decide) rfl ?_
  intro p e s m args below meth c s₁ B hml hnt hv
  obtain ⟨rfl, ⟨hz, hH, hK⟩, hC⟩ := hv
  have hx := B.exec
  have hb := B.bytes
  have hr := B.returns
  have hts := atoms_spec (ws := wsX4_burn) B.pre
  have hown : s.vm.findClass RX4 = some m.cls := findClass_of_methodNamed B.named
  have hlocks := B.notSynchronized
  have hS : va_S (wA E) s.heap s.heap [] := va_S.rf
  have hinX2 : ∀ w ∈ wsX20, w ∈ wsX4_burn := fun w h => List.mem_cons_of_mem _ (List.mem_append_left _ (List.mem_append_left _ (List.mem_append_left _ (List.mem_append_left _ (List.mem_append_right _ h)))))
  have hinX4 : ∀ w ∈ wsX40, w ∈ wsX4_burn := fun w h => List.mem_cons_of_mem _ (List.mem_append_left _ (List.mem_append_left _ (List.mem_append_left _ (List.mem_append_right _ h))))
  have hinJx4a65c : ∀ w ∈ wsJx4a65c0, w ∈ wsX4_burn := fun w h => List.mem_cons_of_mem _ (List.mem_append_left _ (List.mem_append_left _ (List.mem_append_right _ h)))
  have hl := lv_entry ([.ref (g 0), .int b]) (n := 3) (Nat.le_of_ble_eq_true rfl)
  rw [lg_entry_eq]
  generalize (lg_sl ([.ref (g 0), .int b]) ++ List.replicate (3 - (lg_sl ([.ref (g 0), .int b])).length) Slot.unset).toArray = ls at hl ⊢
  have hl : lv_has ls 3 [(0, .ref (g 0)), (1, .int b)] := hl
  obtain ⟨H, eH⟩ : ∃ z, z = s.heap := ⟨_, rfl⟩
  have hH : wHS E o g x y H := by rw [eH]; exact hH
  have hS : va_S (wA E) s.heap H [] := by rw [eH]; exact hS
  refine W.heapTo eH ?_
  obtain ⟨hn0, hn1, hn2, hn3, hn4, hn5, hc7, hc8, hc5, hc54, hc4, hc50, hc9, hc12, hc10, hcj⟩ := id hI
  refine lv_aload_n hx hb dX4_burn_0 rfl (lv_at hl 0 rfl) ?_
  refine lv_iload_n hx hb dX4_burn_1 rfl (lv_at hl 1 rfl) ?_
  refine wx_callr (vx_runV (As := [.int b]) (rest := []) ⟨hx, hb, hml, hown, hts⟩ (met_X4_requireDisc l E o g x y b hlt hI) (cwV 1 hts gX4_burn_X4_requireDisc rfl rfl rfl (by decide +kernel) ⟨Nat.le_of_ble_eq_true rfl, Nat.le_of_ble_eq_true rfl⟩) ⟨fun a U f mk q => ⟨q.1, wPreX.calling q.2 a f mk⟩, (va_recv hK (wH_one hH lv_r0 (cel_rt (by omega))) (ci := 6) (q0 := 0) rfl rfl), fun U hU hW => ⟨rfl, wPreX_at hz hS hH hK hC U hU hW⟩⟩ rfl rfl hl.1 rfl (lv_room (Nat.le_of_ble_eq_true rfl)) dX4_burn_2 ⟨Nat.le_of_ble_eq_true rfl, Nat.le_of_ble_eq_true rfl⟩) hS (fun q _ h => h) (fun q h => h) (fun q _ h => h) (fun E9 ce q9 u t H locs ht hvm hw hB hz1 hk1 hS hce hcv hcl => ?_) (fun u ra t H locs ht hvm hw hB hz1 hk1 hS => ?_)
  · obtain ⟨⟨rfl, c1⟩, hB⟩ := hB
    have hH := wHS_h ht hB
    have hsp : cp_burn x b = (some "java/lang/IndexOutOfBoundsException", 0, x) := by
      unfold cp_burn
      first | (simp only [(Bool.eq_false_iff.mp c1), ↓reduceIte, and_self, and_true, true_and, Bool.false_eq_true, reduceCtorEq, eq_self, false_and, and_false]; done) | (simp [(Bool.eq_false_iff.mp c1), ↓reduceIte, and_self, and_true, true_and, Bool.false_eq_true, reduceCtorEq, eq_self, false_and, and_false]; done) | simp only [(Bool.eq_false_iff.mp c1), ↓reduceIte, and_self, and_true, true_and, Bool.false_eq_true, reduceCtorEq, eq_self, false_and, and_false]
    exact vx_out (fun x h => (hnt x h).elim) hlocks hce hcv hcl (wX_on hS hH (by rw [hsp])) hS.2.2 (by omega) (by omega)
  · have c1 : inB b (x.1 0 0) = true := hw
    obtain ⟨jb, hjb, rfl⟩ := inB_t c1 (by omega)
    obtain ⟨rfl, hB⟩ := hB
    have hH := wHS_h ht hB
    rw [ix_nI (show jb < 2 ^ 31 by omega)]
    refine lv_astore_n (lv' := [(2, .ref (g (100 + jb))), (0, .ref (g 0)), (1, .int (nI jb))]) hx hb dX4_burn_5 rfl hl (by decide) rfl (fun ls hl => ?_)
    refine lv_aload_n hx hb dX4_burn_6 rfl (lv_at hl 0 rfl) ?_
    refine va_calli (va_runV (As := []) (rest := []) ⟨hx, hb, hml, hown, hts⟩ (met_X2_isInVan l E o g x y jb (show jb < x.1 0 0 by omega) hn0) (cwV 0 hts gX4_burn_X2_isInVan rfl rfl rfl (by decide +kernel) ⟨Nat.le_of_ble_eq_true rfl, Nat.le_of_ble_eq_true rfl⟩) ⟨fun a U f mk q => ⟨q.1, wPre.calling q.2 a f mk⟩, (va_recv hK (wH_one hH (lv_di (show jb < x.1 0 0 by omega) hn0) (cel_di (by omega))) (ci := 4) (q0 := 0) rfl rfl), fun U hU hW => ⟨rfl, wPre_at hz hS hH hK U hU hW⟩⟩ rfl rfl hl.1 rfl (lv_room (Nat.le_of_ble_eq_true rfl)) dX4_burn_7 ⟨Nat.le_of_ble_eq_true rfl, Nat.le_of_ble_eq_true rfl⟩) hS (fun q _ h => h) (fun q h => h) (fun r u t H locs ht hvm hw hB hz1 hk1 hS => ?_)
    have hB := wHS_h ht hB
    try dsimp only at hw
    have hH := hB
    rcases hw with ⟨rfl, c2⟩ | ⟨rfl, c2⟩
    · have c2 : (x.1 8 jb) = 1 := c2
      refine lv_if_ne (tgt := 23) hx hb dX4_burn_10 (by decide) (fun _ => ?_) (fun hq => absurd hq (show ¬ (1 : Int32) = 0 by decide))
      refine lv_aload_n hx hb dX4_burn_23 rfl (lv_at hl 0 rfl) ?_
      refine lv_iconst (v := 1) hx hb dX4_burn_24 (by decide) ?_
      refine wr_put (T := TX2) (N := 8) (ci := 4) (v := .int 1) hx hb hts hinX2 tyX2 tyX2_ok nmX2 hown hK hH hS (lv_di (show jb < x.1 0 0 by omega) hn0) (cel_di (by omega)) rfl 5 (by decide) (hts (.fieldLink RX4 160 "SelectoRoute$Disc" "burnt" "Z") (by decide +kernel)) (fun _ h => h) rfl (ty := .boolean) (by decide +kernel) rfl rfl (Nat.le_of_ble_eq_true rfl) dX4_burn_25 (fun H locs hH hS => ?_)
      have hH : wHS E o g (uN x 8 jb 0) y H := pd_5 (by omega) c2 hH
      refine lv_aload_n hx hb dX4_burn_28 rfl (lv_at hl 0 rfl) ?_
      refine wr_get (T := TX2) (N := 8) (ci := 4) (v := .int (x.2 3 jb)) hx hb hts hinX2 hown hK hH (lv_di (show jb < x.1 0 0 by omega) hn0) (cel_di (by omega)) rfl 4 (by decide) (hts (.fieldLink RX4 157 "SelectoRoute$Disc" "wear" "I") (by decide +kernel)) (fun _ h => h) rfl dX4_burn_29 ?_
      have hsp : cp_burn x (nI jb) = (none, (x.2 3 jb), (uN x 8 jb 0)) := by
        unfold cp_burn
        first | (simp only [c1, c2, inB_nI hjb (by omega), ix_nI (show jb < 2 ^ 31 by omega), ↓reduceIte, and_self, and_true, true_and, Bool.false_eq_true, reduceCtorEq, eq_self, false_and, and_false]; done) | (simp [c1, c2, inB_nI hjb (by omega), ix_nI (show jb < 2 ^ 31 by omega), ↓reduceIte, and_self, and_true, true_and, Bool.false_eq_true, reduceCtorEq, eq_self, false_and, and_false]; done) | simp only [c1, c2, inB_nI hjb (by omega), ix_nI (show jb < 2 ^ 31 by omega), ↓reduceIte, and_self, and_true, true_and, Bool.false_eq_true, reduceCtorEq, eq_self, false_and, and_false]
      refine vx_ret ?_
      refine W.widen (k := 4) (n := 24) (by omega) (by omega) ?_
      exact W.iret (v := (x.2 3 jb)) hx hb hr (fun t ht hW => ⟨⟨(x.2 3 jb), (), rfl, (by rw [hsp]; exact ⟨rfl, rfl⟩), wHS_t ht (by rw [hsp]; exact hH)⟩, hS.F ht⟩) hS.2.2 dX4_burn_32
    · have c2 : ¬ ((x.1 8 jb) = 1) := c2
      refine lv_if_ne (tgt := 23) hx hb dX4_burn_10 (by decide) (fun hq => absurd (show (0 : Int32) = 0 by decide) hq) (fun _ => ?_)
      have hsp : cp_burn x (nI jb) = (some "java/lang/UnsupportedOperationException", 0, x) := by
        unfold cp_burn
        first | (simp only [c1, c2, inB_nI hjb (by omega), ix_nI (show jb < 2 ^ 31 by omega), ↓reduceIte, and_self, and_true, true_and, Bool.false_eq_true, reduceCtorEq, eq_self, false_and, and_false]; done) | (simp [c1, c2, inB_nI hjb (by omega), ix_nI (show jb < 2 ^ 31 by omega), ↓reduceIte, and_self, and_true, true_and, Bool.false_eq_true, reduceCtorEq, eq_self, false_and, and_false]; done) | simp only [c1, c2, inB_nI hjb (by omega), ix_nI (show jb < 2 ^ 31 by omega), ↓reduceIte, and_self, and_true, true_and, Bool.false_eq_true, reduceCtorEq, eq_self, false_and, and_false]
      obtain ⟨sa, hsa⟩ := hC.2.2.1 (231, "the disc is not in the van") (by decide +kernel)
      exact vx_throwS (A := wA E) (names := ["java/lang/RuntimeException", "java/lang/Exception"]) hx hb hlt hown (by decide +kernel) (by decide +kernel) (hts (.classLink RX4 97 "java/lang/UnsupportedOperationException") (by decide +kernel)) (hts (.initialized "java/lang/UnsupportedOperationException") (by decide +kernel)) hsa (hat_xU hts (fun w h => List.mem_cons_of_mem _ (List.mem_append_left _ (List.mem_append_right _ h))) hC) (by decide +kernel) hC.1 hC.2.1 (by rw [← eH] at *; exact hS) (hl.1.trans hml.symm) dX4_burn_13 dX4_burn_16 dX4_burn_17 dX4_burn_19 dX4_burn_22 (fun x h => (hnt x h).elim) (Nat.lt_of_lt_of_le (by decide : 2 + 3 < 6) (Nat.le_of_ble_eq_true rfl)) (Nat.le_of_ble_eq_true rfl) (Nat.le_of_ble_eq_true rfl) (Nat.le_of_ble_eq_true rfl) hlocks (wX_of hS hH (by rw [hsp])) hS.2.2 (by omega) (by omega)
def cp_worth (x : St) (b : Int32) (k : Int32) (v : Int32) : Option String × Int32 × St := if inB b (x.1 1 0) = true then (if inB k 10 = true then (if inB v (x.1 0 0) = true then (if (x.1 8 (ix v)) = 1 then (none, (pD x (ix v) (x.2 5 (ix b)) (nI (x.1 9 0)) - pS x (10 * (ix b) + (ix k)) (x.2 5 (ix b)) (nI (x.1 9 0))), x) else (some "java/lang/UnsupportedOperationException", 0, x)) else (some "java/lang/IndexOutOfBoundsException", 0, x)) else (some "java/lang/IndexOutOfBoundsException", 0, x)) else (some "java/lang/IndexOutOfBoundsException", 0, x)
set_option maxHeartbeats 4000000 in
set_option maxRecDepth 100000 in
theorem met_X4_worth (l : Launch) (E : wE) (o : wO) (g : Nat → Nat) (x y : St) (b : Int32) (k : Int32) (v : Int32) (hlt : l.stackTraces = false) (hI : CI x) : vx_Met l yX4_worth wsX4_worth ({ frames := 10, cells := 4, slots := 24, locals := 1100 } : Room) (va_Pc [.ref (g 0), .int b, .int k, .int v] (wPreX E o g x y)) (va_Qi (fun (r : Int32) (_ : Unit) => (cp_worth x b k v).1 = none ∧ r = (cp_worth x b k v).2.1) (fun (_ : Unit) t => wHS E o g (cp_worth x b k v).2.2 y t.heap) (wA E)) (wXC E o g x y (fun X => (cp_worth x b k v).1 = some X)) 4 24 (wA E) := by
  refine vx_ofW (cc := cX4_worth) (maxL := 7) (ret := (some .int)) (by decide) rfl ?_
  intro p e s m args below meth c s₁ B hml hnt hv
  obtain ⟨rfl, ⟨hz, hH, hK⟩, hC⟩ := hv
  have hx := B.exec
  have hb := B.bytes
  have hr := B.returns
  have hts := atoms_spec (ws := wsX4_worth) B.pre
  have hown : s.vm.findClass RX4 = some m.cls := findClass_of_methodNamed B.named
  have hlocks := B.notSynchronized
  have hS : va_S (wA E) s.heap s.heap [] := va_S.rf
  have hinX4 : ∀ w ∈ wsX40, w ∈ wsX4_worth := fun w h => List.mem_cons_of_mem _ (List.mem_append_left _ (List.mem_append_left _ (List.mem_append_left _ (List.mem_append_left _ (List.mem_append_left _ (List.mem_append_left _ (List.mem_append_right _ h)))))))
  have hinJx4a65c : ∀ w ∈ wsJx4a65c0, w ∈ wsX4_worth := fun w h => List.mem_cons_of_mem _ (List.mem_append_left _ (List.mem_append_left _ (List.mem_append_left _ (List.mem_append_left _ (List.mem_append_left _ (List.mem_append_right _ h))))))
  have hinX0 : ∀ w ∈ wsX00, w ∈ wsX4_worth := fun w h => List.mem_cons_of_mem _ (List.mem_append_left _ (List.mem_append_left _ (List.mem_append_left _ (List.mem_append_left _ (List.mem_append_right _ h)))))
  have hinX2 : ∀ w ∈ wsX20, w ∈ wsX4_worth := fun w h => List.mem_cons_of_mem _ (List.mem_append_left _ (List.mem_append_left _ (List.mem_append_left _ (List.mem_append_right _ h))))
  have hinX3 : ∀ w ∈ wsX30, w ∈ wsX4_worth := fun w h => List.mem_cons_of_mem _ (List.mem_append_left _ (List.mem_append_left _ (List.mem_append_right _ h)))
  have hl := lv_entry ([.ref (g 0), .int b, .int k, .int v]) (n := 7) (Nat.le_of_ble_eq_true rfl)
  rw [lg_entry_eq]
  generalize (lg_sl ([.ref (g 0), .int b, .int k, .int v]) ++ List.replicate (7 - (lg_sl ([.ref (g 0), .int b, .int k, .int v])).length) Slot.unset).toArray = ls at hl ⊢
  have hl : lv_has ls 7 [(0, .ref (g 0)), (1, .int b), (2, .int k), (3, .int v)] := hl
  obtain ⟨H, eH⟩ : ∃ z, z = s.heap := ⟨_, rfl⟩
  have hH : wHS E o g x y H := by rw [eH]; exact hH
  have hS : va_S (wA E) s.heap H [] := by rw [eH]; exact hS
  refine W.heapTo eH ?_
  obtain ⟨hn0, hn1, hn2, hn3, hn4, hn5, hc7, hc8, hc5, hc54, hc4, hc50, hc9, hc12, hc10, hcj⟩ := id hI
  refine lv_aload_n hx hb dX4_worth_0 rfl (lv_at hl 0 rfl) ?_
  refine lv_iload_n hx hb dX4_worth_1 rfl (lv_at hl 1 rfl) ?_
  refine wx_callr (vx_runV (As := [.int b]) (rest := []) ⟨hx, hb, hml, hown, hts⟩ (met_X4_requireBox l E o g x y b hlt hI) (cwV 1 hts gX4_worth_X4_requireBox rfl rfl rfl (by decide +kernel) ⟨Nat.le_of_ble_eq_true rfl, Nat.le_of_ble_eq_true rfl⟩) ⟨fun a U f mk q => ⟨q.1, wPreX.calling q.2 a f mk⟩, (va_recv hK (wH_one hH lv_r0 (cel_rt (by omega))) (ci := 6) (q0 := 0) rfl rfl), fun U hU hW => ⟨rfl, wPreX_at hz hS hH hK hC U hU hW⟩⟩ rfl rfl hl.1 rfl (lv_room (Nat.le_of_ble_eq_true rfl)) dX4_worth_2 ⟨Nat.le_of_ble_eq_true rfl, Nat.le_of_ble_eq_true rfl⟩) hS (fun q _ h => h) (fun q h => h) (fun q _ h => h) (fun E9 ce q9 u t H locs ht hvm hw hB hz1 hk1 hS hce hcv hcl => ?_) (fun u ra t H locs ht hvm hw hB hz1 hk1 hS => ?_)
  · obtain ⟨⟨rfl, c1⟩, hB⟩ := hB
    have hH := wHS_h ht hB
    have hsp : cp_worth x b k v = (some "java/lang/IndexOutOfBoundsException", 0, x) := by
      unfold cp_worth
      first | (simp only [(Bool.eq_false_iff.mp c1), ↓reduceIte, and_self, and_true, true_and, Bool.false_eq_true, reduceCtorEq, eq_self, false_and, and_false]; done) | (simp [(Bool.eq_false_iff.mp c1), ↓reduceIte, and_self, and_true, true_and, Bool.false_eq_true, reduceCtorEq, eq_self, false_and, and_false]; done) | simp only [(Bool.eq_false_iff.mp c1), ↓reduceIte, and_self, and_true, true_and, Bool.false_eq_true, reduceCtorEq, eq_self, false_and, and_false]
    exact vx_out (fun x h => (hnt x h).elim) hlocks hce hcv hcl (wX_on hS hH (by rw [hsp])) hS.2.2 (by omega) (by omega)
  · have c1 : inB b (x.1 1 0) = true := hw
    obtain ⟨jb, hjb, rfl⟩ := inB_t c1 (by omega)
    obtain ⟨rfl, hB⟩ := hB
    have hH := wHS_h ht hB
    rw [ix_nI (show jb < 2 ^ 31 by omega)]
    refine lv_astore (lv' := [(4, .ref (g (200 + jb))), (0, .ref (g 0)), (1, .int (nI jb)), (2, .int k), (3, .int v)]) hx hb dX4_worth_5 hl (by decide) rfl (fun ls hl => ?_)
    refine lv_aload hx hb dX4_worth_7 (lv_at hl 0 rfl) ?_
    refine lv_iload_n hx hb dX4_worth_9 rfl (lv_at hl 3 rfl) ?_
    refine wx_callr (vx_runS (As := [.ref (g (200 + jb)), .int k]) (rest := []) ⟨hx, hb, hml, hown, hts⟩ (met_X4_requireSlot l E o g x y jb k hlt hI (show jb < x.1 1 0 by omega)) (va_cwS 2 hts gX4_worth_X4_requireSlot rfl rfl rfl (by decide +kernel) ⟨Nat.le_of_ble_eq_true rfl, Nat.le_of_ble_eq_true rfl⟩) ⟨fun a U f mk q => ⟨q.1, wPreX.calling q.2 a f mk⟩, fun U hU hW => ⟨rfl, wPreX_at hz hS hH hK hC U hU hW⟩⟩ rfl rfl hl.1 rfl (lv_room (Nat.le_of_ble_eq_true rfl)) dX4_worth_10 ⟨Nat.le_of_ble_eq_true rfl, Nat.le_of_ble_eq_true rfl⟩) hS (fun q _ h => h) (fun q h => h) (fun q _ h => h) (fun E9 ce q9 u t H locs ht hvm hw hB hz1 hk1 hS hce hcv hcl => ?_) (fun u ra t H locs ht hvm hw hB hz1 hk1 hS => ?_)
    · obtain ⟨⟨rfl, c2⟩, hB⟩ := hB
      have hH := wHS_h ht hB
      have hsp : cp_worth x (nI jb) k v = (some "java/lang/IndexOutOfBoundsException", 0, x) := by
        unfold cp_worth
        first | (simp only [c1, (Bool.eq_false_iff.mp c2), inB_nI hjb (by omega), ix_nI (show jb < 2 ^ 31 by omega), ↓reduceIte, and_self, and_true, true_and, Bool.false_eq_true, reduceCtorEq, eq_self, false_and, and_false]; done) | (simp [c1, (Bool.eq_false_iff.mp c2), inB_nI hjb (by omega), ix_nI (show jb < 2 ^ 31 by omega), ↓reduceIte, and_self, and_true, true_and, Bool.false_eq_true, reduceCtorEq, eq_self, false_and, and_false]; done) | simp only [c1, (Bool.eq_false_iff.mp c2), inB_nI hjb (by omega), ix_nI (show jb < 2 ^ 31 by omega), ↓reduceIte, and_self, and_true, true_and, Bool.false_eq_true, reduceCtorEq, eq_self, false_and, and_false]
      exact vx_out (fun x h => (hnt x h).elim) hlocks hce hcv hcl (wX_on hS hH (by rw [hsp])) hS.2.2 (by omega) (by omega)
    · have c2 : inB k 10 = true := hw
      obtain ⟨jk, hjk, rfl⟩ := inB_t c2 (by omega)
      obtain ⟨rfl, hB⟩ := hB
      have hH := wHS_h ht hB
      rw [ix_nI (show jk < 2 ^ 31 by omega)]
      refine lv_astore (lv' := [(5, .ref (g (300 + (10 * jb + jk)))), (4, .ref (g (200 + jb))), (0, .ref (g 0)), (1, .int (nI jb)), (2, .int (nI jk)), (3, .int v)]) hx hb dX4_worth_13 hl (by decide) rfl (fun ls hl => ?_)
      refine lv_aload_n hx hb dX4_worth_15 rfl (lv_at hl 2 rfl) ?_
      refine lv_iload_n hx hb dX4_worth_16 rfl (lv_at hl 5 rfl) ?_
      refine wx_callr (vx_runV (As := [.int v]) (rest := []) ⟨hx, hb, hml, hown, hts⟩ (met_X4_requireDisc l E o g x y v hlt hI) (cwV 1 hts gX4_worth_X4_requireDisc rfl rfl rfl (by decide +kernel) ⟨Nat.le_of_ble_eq_true rfl, Nat.le_of_ble_eq_true rfl⟩) ⟨fun a U f mk q => ⟨q.1, wPreX.calling q.2 a f mk⟩, (va_recv hK (wH_one hH lv_r0 (cel_rt (by omega))) (ci := 6) (q0 := 0) rfl rfl), fun U hU hW => ⟨rfl, wPreX_at hz hS hH hK hC U hU hW⟩⟩ rfl rfl hl.1 rfl (lv_room (Nat.le_of_ble_eq_true rfl)) dX4_worth_17 ⟨Nat.le_of_ble_eq_true rfl, Nat.le_of_ble_eq_true rfl⟩) hS (fun q _ h => h) (fun q h => h) (fun q _ h => h) (fun E9 ce q9 u t H locs ht hvm hw hB hz1 hk1 hS hce hcv hcl => ?_) (fun u ra t H locs ht hvm hw hB hz1 hk1 hS => ?_)
      · obtain ⟨⟨rfl, c3⟩, hB⟩ := hB
        have hH := wHS_h ht hB
        have hsp : cp_worth x (nI jb) (nI jk) v = (some "java/lang/IndexOutOfBoundsException", 0, x) := by
          unfold cp_worth
          first | (simp only [c1, c2, (Bool.eq_false_iff.mp c3), inB_nI hjb (by omega), ix_nI (show jb < 2 ^ 31 by omega), inB_nI hjk (by omega), ix_nI (show jk < 2 ^ 31 by omega), ↓reduceIte, and_self, and_true, true_and, Bool.false_eq_true, reduceCtorEq, eq_self, false_and, and_false]; done) | (simp [c1, c2, (Bool.eq_false_iff.mp c3), inB_nI hjb (by omega), ix_nI (show jb < 2 ^ 31 by omega), inB_nI hjk (by omega), ix_nI (show jk < 2 ^ 31 by omega), ↓reduceIte, and_self, and_true, true_and, Bool.false_eq_true, reduceCtorEq, eq_self, false_and, and_false]; done) | simp only [c1, c2, (Bool.eq_false_iff.mp c3), inB_nI hjb (by omega), ix_nI (show jb < 2 ^ 31 by omega), inB_nI hjk (by omega), ix_nI (show jk < 2 ^ 31 by omega), ↓reduceIte, and_self, and_true, true_and, Bool.false_eq_true, reduceCtorEq, eq_self, false_and, and_false]
        exact vx_out (fun x h => (hnt x h).elim) hlocks hce hcv hcl (wX_on hS hH (by rw [hsp])) hS.2.2 (by omega) (by omega)
      · have c3 : inB v (x.1 0 0) = true := hw
        obtain ⟨jv, hjv, rfl⟩ := inB_t c3 (by omega)
        obtain ⟨rfl, hB⟩ := hB
        have hH := wHS_h ht hB
        rw [ix_nI (show jv < 2 ^ 31 by omega)]
        refine lv_astore (lv' := [(6, .ref (g (100 + jv))), (5, .ref (g (300 + (10 * jb + jk)))), (4, .ref (g (200 + jb))), (0, .ref (g 0)), (1, .int (nI jb)), (2, .int (nI jk)), (3, .int (nI jv))]) hx hb dX4_worth_20 hl (by decide) rfl (fun ls hl => ?_)
        refine lv_aload hx hb dX4_worth_22 (lv_at hl 0 rfl) ?_
        refine va_calli (va_runV (As := []) (rest := []) ⟨hx, hb, hml, hown, hts⟩ (met_X2_isInVan l E o g x y jv (show jv < x.1 0 0 by omega) hn0) (cwV 0 hts gX4_worth_X2_isInVan rfl rfl rfl (by decide +kernel) ⟨Nat.le_of_ble_eq_true rfl, Nat.le_of_ble_eq_true rfl⟩) ⟨fun a U f mk q => ⟨q.1, wPre.calling q.2 a f mk⟩, (va_recv hK (wH_one hH (lv_di (show jv < x.1 0 0 by omega) hn0) (cel_di (by omega))) (ci := 4) (q0 := 0) rfl rfl), fun U hU hW => ⟨rfl, wPre_at hz hS hH hK U hU hW⟩⟩ rfl rfl hl.1 rfl (lv_room (Nat.le_of_ble_eq_true rfl)) dX4_worth_24 ⟨Nat.le_of_ble_eq_true rfl, Nat.le_of_ble_eq_true rfl⟩) hS (fun q _ h => h) (fun q h => h) (fun r u t H locs ht hvm hw hB hz1 hk1 hS => ?_)
        have hB := wHS_h ht hB
        try dsimp only at hw
        have hH := hB
        rcases hw with ⟨rfl, c4⟩ | ⟨rfl, c4⟩
        · have c4 : (x.1 8 jv) = 1 := c4
          refine lv_if_ne (tgt := 40) hx hb dX4_worth_27 (by decide) (fun _ => ?_) (fun hq => absurd hq (show ¬ (1 : Int32) = 0 by decide))
          refine lv_aload_n hx hb dX4_worth_40 rfl (lv_at hl 3 rfl) ?_
          refine lv_aload hx hb dX4_worth_41 (lv_at hl 2 rfl) ?_
          refine lv_aload hx hb dX4_worth_43 (lv_at hl 1 rfl) ?_
          refine lv_aload hx hb dX4_worth_45 (lv_at hl 0 rfl) ?_
          refine va_calli (va_runV (As := [.ref (g (200 + jb)), .ref (g (300 + (10 * jb + jk))), .ref (g (100 + jv))]) (rest := []) ⟨hx, hb, hml, hown, hts⟩ (met_X4_gainBy l E o g x y jb (10 * jb + jk) jv hI (show jb < x.1 1 0 by omega) (show (10 * jb + jk) < 10 * x.1 1 0 by omega) (show jv < x.1 0 0 by omega)) (cwV 3 hts gX4_worth_X4_gainBy rfl rfl rfl (by decide +kernel) ⟨Nat.le_of_ble_eq_true rfl, Nat.le_of_ble_eq_true rfl⟩) ⟨fun a U f mk q => ⟨q.1, wPre.calling q.2 a f mk⟩, (va_recv hK (wH_one hH lv_r0 (cel_rt (by omega))) (ci := 6) (q0 := 0) rfl rfl), fun U hU hW => ⟨rfl, wPre_at hz hS hH hK U hU hW⟩⟩ rfl rfl hl.1 rfl (lv_room (Nat.le_of_ble_eq_true rfl)) dX4_worth_47 ⟨Nat.le_of_ble_eq_true rfl, Nat.le_of_ble_eq_true rfl⟩) hS (fun q _ h => h) (fun q h => h) (fun r u t H locs ht hvm hw hB hz1 hk1 hS => ?_)
          have hB := wHS_h ht hB
          try dsimp only at hw
          obtain rfl := hw
          have hH := hB
          have hsp : cp_worth x (nI jb) (nI jk) (nI jv) = (none, (pD x jv (x.2 5 jb) (nI (x.1 9 0)) - pS x (10 * jb + jk) (x.2 5 jb) (nI (x.1 9 0))), x) := by
            unfold cp_worth
            first | (simp only [c1, c2, c3, c4, inB_nI hjb (by omega), ix_nI (show jb < 2 ^ 31 by omega), inB_nI hjk (by omega), ix_nI (show jk < 2 ^ 31 by omega), inB_nI hjv (by omega), ix_nI (show jv < 2 ^ 31 by omega), ↓reduceIte, and_self, and_true, true_and, Bool.false_eq_true, reduceCtorEq, eq_self, false_and, and_false]; done) | (simp [c1, c2, c3, c4, inB_nI hjb (by omega), ix_nI (show jb < 2 ^ 31 by omega), inB_nI hjk (by omega), ix_nI (show jk < 2 ^ 31 by omega), inB_nI hjv (by omega), ix_nI (show jv < 2 ^ 31 by omega), ↓reduceIte, and_self, and_true, true_and, Bool.false_eq_true, reduceCtorEq, eq_self, false_and, and_false]; done) | simp only [c1, c2, c3, c4, inB_nI hjb (by omega), ix_nI (show jb < 2 ^ 31 by omega), inB_nI hjk (by omega), ix_nI (show jk < 2 ^ 31 by omega), inB_nI hjv (by omega), ix_nI (show jv < 2 ^ 31 by omega), ↓reduceIte, and_self, and_true, true_and, Bool.false_eq_true, reduceCtorEq, eq_self, false_and, and_false]
          refine vx_ret ?_
          refine W.widen (k := 4) (n := 24) (by omega) (by omega) ?_
          exact W.iret (v := (pD x jv (x.2 5 jb) (nI (x.1 9 0)) - pS x (10 * jb + jk) (x.2 5 jb) (nI (x.1 9 0)))) hx hb hr (fun t ht hW => ⟨⟨(pD x jv (x.2 5 jb) (nI (x.1 9 0)) - pS x (10 * jb + jk) (x.2 5 jb) (nI (x.1 9 0))), (), rfl, (by rw [hsp]; exact ⟨rfl, rfl⟩), wHS_t ht (by rw [hsp]; exact hH)⟩, hS.F ht⟩) hS.2.2 dX4_worth_50
        · have c4 : ¬ ((x.1 8 jv) = 1) := c4
          refine lv_if_ne (tgt := 40) hx hb dX4_worth_27 (by decide) (fun hq => absurd (show (0 : Int32) = 0 by decide) hq) (fun _ => ?_)
          have hsp : cp_worth x (nI jb) (nI jk) (nI jv) = (some "java/lang/UnsupportedOperationException", 0, x) := by
            unfold cp_worth
            first | (simp only [c1, c2, c3, c4, inB_nI hjb (by omega), ix_nI (show jb < 2 ^ 31 by omega), inB_nI hjk (by omega), ix_nI (show jk < 2 ^ 31 by omega), inB_nI hjv (by omega), ix_nI (show jv < 2 ^ 31 by omega), ↓reduceIte, and_self, and_true, true_and, Bool.false_eq_true, reduceCtorEq, eq_self, false_and, and_false]; done) | (simp [c1, c2, c3, c4, inB_nI hjb (by omega), ix_nI (show jb < 2 ^ 31 by omega), inB_nI hjk (by omega), ix_nI (show jk < 2 ^ 31 by omega), inB_nI hjv (by omega), ix_nI (show jv < 2 ^ 31 by omega), ↓reduceIte, and_self, and_true, true_and, Bool.false_eq_true, reduceCtorEq, eq_self, false_and, and_false]; done) | simp only [c1, c2, c3, c4, inB_nI hjb (by omega), ix_nI (show jb < 2 ^ 31 by omega), inB_nI hjk (by omega), ix_nI (show jk < 2 ^ 31 by omega), inB_nI hjv (by omega), ix_nI (show jv < 2 ^ 31 by omega), ↓reduceIte, and_self, and_true, true_and, Bool.false_eq_true, reduceCtorEq, eq_self, false_and, and_false]
          obtain ⟨sa, hsa⟩ := hC.2.2.1 (231, "the disc is not in the van") (by decide +kernel)
          exact vx_throwS (A := wA E) (names := ["java/lang/RuntimeException", "java/lang/Exception"]) hx hb hlt hown (by decide +kernel) (by decide +kernel) (hts (.classLink RX4 97 "java/lang/UnsupportedOperationException") (by decide +kernel)) (hts (.initialized "java/lang/UnsupportedOperationException") (by decide +kernel)) hsa (hat_xU hts (fun w h => List.mem_cons_of_mem _ (List.mem_append_left _ (List.mem_append_right _ h))) hC) (by decide +kernel) hC.1 hC.2.1 (by rw [← eH] at *; exact hS) (hl.1.trans hml.symm) dX4_worth_30 dX4_worth_33 dX4_worth_34 dX4_worth_36 dX4_worth_39 (fun x h => (hnt x h).elim) (Nat.lt_of_lt_of_le (by decide : 2 + 3 < 6) (Nat.le_of_ble_eq_true rfl)) (Nat.le_of_ble_eq_true rfl) (Nat.le_of_ble_eq_true rfl) (Nat.le_of_ble_eq_true rfl) hlocks (wX_of hS hH (by rw [hsp])) hS.2.2 (by omega) (by omega)
def cp_getWeek (x : St)  : Option String × Int32 × St := (none, (nI (x.1 9 0)), x)
set_option maxHeartbeats 4000000 in
set_option maxRecDepth 100000 in
theorem met_X4_getWeek (l : Launch) (E : wE) (o : wO) (g : Nat → Nat) (x y : St) (hlt : l.stackTraces = false) (hI : CI x) : vx_Met l yX4_getWeek wsX4_getWeek ({ frames := 10, cells := 4, slots := 24, locals := 1100 } : Room) (va_Pc [.ref (g 0)] (wPreX E o g x y)) (va_Qi (fun (r : Int32) (_ : Unit) => (cp_getWeek x ).1 = none ∧ r = (cp_getWeek x ).2.1) (fun (_ : Unit) t => wHS E o g (cp_getWeek x ).2.2 y t.heap) (wA E)) (wXC E o g x y (fun X => (cp_getWeek x ).1 = some X)) 4 24 (wA E) := by
  refine vx_ofW (cc := cX4_getWeek) (maxL := 1) (ret := (some .int)) (by decide) rfl ?_
  intro p e s m args below meth c s₁ B hml hnt hv
  obtain ⟨rfl, ⟨hz, hH, hK⟩, hC⟩ := hv
  have hx := B.exec
  have hb := B.bytes
  have hr := B.returns
  have hts := atoms_spec (ws := wsX4_getWeek) B.pre
  have hown : s.vm.findClass RX4 = some m.cls := findClass_of_methodNamed B.named
  have hlocks := B.notSynchronized
  have hS : va_S (wA E) s.heap s.heap [] := va_S.rf
  have hinX4 : ∀ w ∈ wsX40, w ∈ wsX4_getWeek := fun w h => List.mem_cons_of_mem _ (List.mem_append_right _ h)
  have hl := lv_entry ([.ref (g 0)]) (n := 1) (Nat.le_of_ble_eq_true rfl)
  rw [lg_entry_eq]
  generalize (lg_sl ([.ref (g 0)]) ++ List.replicate (1 - (lg_sl ([.ref (g 0)])).length) Slot.unset).toArray = ls at hl ⊢
  have hl : lv_has ls 1 [(0, .ref (g 0))] := hl
  obtain ⟨H, eH⟩ : ∃ z, z = s.heap := ⟨_, rfl⟩
  have hH : wHS E o g x y H := by rw [eH]; exact hH
  have hS : va_S (wA E) s.heap H [] := by rw [eH]; exact hS
  refine W.heapTo eH ?_
  obtain ⟨hn0, hn1, hn2, hn3, hn4, hn5, hc7, hc8, hc5, hc54, hc4, hc50, hc9, hc12, hc10, hcj⟩ := id hI
  refine lv_aload_n hx hb dX4_getWeek_0 rfl (lv_at hl 0 rfl) ?_
  refine wr_get (T := TX4) (N := 9) (ci := 6) (v := .int (nI (x.1 9 0))) hx hb hts hinX4 hown hK hH lv_r0 (cel_rt (by omega)) rfl 5 (by decide) (hts (.fieldLink RX4 172 "SelectoRoute" "week" "I") (by decide +kernel)) (fun _ h => h) rfl dX4_getWeek_1 ?_
  have hsp : cp_getWeek x = (none, (nI (x.1 9 0)), x) := by
    unfold cp_getWeek
    first | (simp only [↓reduceIte, and_self, and_true, true_and, Bool.false_eq_true, reduceCtorEq, eq_self, false_and, and_false]; done) | (simp [↓reduceIte, and_self, and_true, true_and, Bool.false_eq_true, reduceCtorEq, eq_self, false_and, and_false]; done) | simp only [↓reduceIte, and_self, and_true, true_and, Bool.false_eq_true, reduceCtorEq, eq_self, false_and, and_false]
  refine vx_ret ?_
  refine W.widen (k := 4) (n := 24) (by omega) (by omega) ?_
  exact W.iret (v := (nI (x.1 9 0))) hx hb hr (fun t ht hW => ⟨⟨(nI (x.1 9 0)), (), rfl, (by rw [hsp]; exact ⟨rfl, rfl⟩), wHS_t ht (by rw [hsp]; exact hH)⟩, hS.F ht⟩) hS.2.2 dX4_getWeek_4
def cp_getMinutes (x : St)  : Option String × Int32 × St := (none, (x.2 17 0), x)
set_option maxHeartbeats 4000000 in
set_option maxRecDepth 100000 in
theorem met_X4_getMinutes (l : Launch) (E : wE) (o : wO) (g : Nat → Nat) (x y : St) (hlt : l.stackTraces = false) (hI : CI x) : vx_Met l yX4_getMinutes wsX4_getMinutes ({ frames := 10, cells := 4, slots := 24, locals := 1100 } : Room) (va_Pc [.ref (g 0)] (wPreX E o g x y)) (va_Qi (fun (r : Int32) (_ : Unit) => (cp_getMinutes x ).1 = none ∧ r = (cp_getMinutes x ).2.1) (fun (_ : Unit) t => wHS E o g (cp_getMinutes x ).2.2 y t.heap) (wA E)) (wXC E o g x y (fun X => (cp_getMinutes x ).1 = some X)) 4 24 (wA E) := by
  refine vx_ofW (cc := cX4_getMinutes) (maxL := 1) (ret := (some .int)) (by decide) rfl ?_
  intro p e s m args below meth c s₁ B hml hnt hv
  obtain ⟨rfl, ⟨hz, hH, hK⟩, hC⟩ := hv
  have hx := B.exec
  have hb := B.bytes
  have hr := B.returns
  have hts := atoms_spec (ws := wsX4_getMinutes) B.pre
  have hown : s.vm.findClass RX4 = some m.cls := findClass_of_methodNamed B.named
  have hlocks := B.notSynchronized
  have hS : va_S (wA E) s.heap s.heap [] := va_S.rf
  have hinX4 : ∀ w ∈ wsX40, w ∈ wsX4_getMinutes := fun w h => List.mem_cons_of_mem _ (List.mem_append_right _ h)
  have hl := lv_entry ([.ref (g 0)]) (n := 1) (Nat.le_of_ble_eq_true rfl)
  rw [lg_entry_eq]
  generalize (lg_sl ([.ref (g 0)]) ++ List.replicate (1 - (lg_sl ([.ref (g 0)])).length) Slot.unset).toArray = ls at hl ⊢
  have hl : lv_has ls 1 [(0, .ref (g 0))] := hl
  obtain ⟨H, eH⟩ : ∃ z, z = s.heap := ⟨_, rfl⟩
  have hH : wHS E o g x y H := by rw [eH]; exact hH
  have hS : va_S (wA E) s.heap H [] := by rw [eH]; exact hS
  refine W.heapTo eH ?_
  obtain ⟨hn0, hn1, hn2, hn3, hn4, hn5, hc7, hc8, hc5, hc54, hc4, hc50, hc9, hc12, hc10, hcj⟩ := id hI
  refine lv_aload_n hx hb dX4_getMinutes_0 rfl (lv_at hl 0 rfl) ?_
  refine wr_get (T := TX4) (N := 9) (ci := 6) (v := .int (x.2 17 0)) hx hb hts hinX4 hown hK hH lv_r0 (cel_rt (by omega)) rfl 6 (by decide) (hts (.fieldLink RX4 30 "SelectoRoute" "minutes" "I") (by decide +kernel)) (fun _ h => h) rfl dX4_getMinutes_1 ?_
  have hsp : cp_getMinutes x = (none, (x.2 17 0), x) := by
    unfold cp_getMinutes
    first | (simp only [↓reduceIte, and_self, and_true, true_and, Bool.false_eq_true, reduceCtorEq, eq_self, false_and, and_false]; done) | (simp [↓reduceIte, and_self, and_true, true_and, Bool.false_eq_true, reduceCtorEq, eq_self, false_and, and_false]; done) | simp only [↓reduceIte, and_self, and_true, true_and, Bool.false_eq_true, reduceCtorEq, eq_self, false_and, and_false]
  refine vx_ret ?_
  refine W.widen (k := 4) (n := 24) (by omega) (by omega) ?_
  exact W.iret (v := (x.2 17 0)) hx hb hr (fun t ht hW => ⟨⟨(x.2 17 0), (), rfl, (by rw [hsp]; exact ⟨rfl, rfl⟩), wHS_t ht (by rw [hsp]; exact hH)⟩, hS.F ht⟩) hS.2.2 dX4_getMinutes_4
def cp_getEarned (x : St)  : Option String × Int32 × St := (none, (x.2 18 0), x)
set_option maxHeartbeats 4000000 in
set_option maxRecDepth 100000 in
theorem met_X4_getEarned (l : Launch) (E : wE) (o : wO) (g : Nat → Nat) (x y : St) (hlt : l.stackTraces = false) (hI : CI x) : vx_Met l yX4_getEarned wsX4_getEarned ({ frames := 10, cells := 4, slots := 24, locals := 1100 } : Room) (va_Pc [.ref (g 0)] (wPreX E o g x y)) (va_Qi (fun (r : Int32) (_ : Unit) => (cp_getEarned x ).1 = none ∧ r = (cp_getEarned x ).2.1) (fun (_ : Unit) t => wHS E o g (cp_getEarned x ).2.2 y t.heap) (wA E)) (wXC E o g x y (fun X => (cp_getEarned x ).1 = some X)) 4 24 (wA E) := by
  refine vx_ofW (cc := cX4_getEarned) (maxL := 1) (ret := (some .int)) (by decide) rfl ?_
  intro p e s m args below meth c s₁ B hml hnt hv
  obtain ⟨rfl, ⟨hz, hH, hK⟩, hC⟩ := hv
  have hx := B.exec
  have hb := B.bytes
  have hr := B.returns
  have hts := atoms_spec (ws := wsX4_getEarned) B.pre
  have hown : s.vm.findClass RX4 = some m.cls := findClass_of_methodNamed B.named
  have hlocks := B.notSynchronized
  have hS : va_S (wA E) s.heap s.heap [] := va_S.rf
  have hinX4 : ∀ w ∈ wsX40, w ∈ wsX4_getEarned := fun w h => List.mem_cons_of_mem _ (List.mem_append_right _ h)
  have hl := lv_entry ([.ref (g 0)]) (n := 1) (Nat.le_of_ble_eq_true rfl)
  rw [lg_entry_eq]
  generalize (lg_sl ([.ref (g 0)]) ++ List.replicate (1 - (lg_sl ([.ref (g 0)])).length) Slot.unset).toArray = ls at hl ⊢
  have hl : lv_has ls 1 [(0, .ref (g 0))] := hl
  obtain ⟨H, eH⟩ : ∃ z, z = s.heap := ⟨_, rfl⟩
  have hH : wHS E o g x y H := by rw [eH]; exact hH
  have hS : va_S (wA E) s.heap H [] := by rw [eH]; exact hS
  refine W.heapTo eH ?_
  obtain ⟨hn0, hn1, hn2, hn3, hn4, hn5, hc7, hc8, hc5, hc54, hc4, hc50, hc9, hc12, hc10, hcj⟩ := id hI
  refine lv_aload_n hx hb dX4_getEarned_0 rfl (lv_at hl 0 rfl) ?_
  refine wr_get (T := TX4) (N := 9) (ci := 6) (v := .int (x.2 18 0)) hx hb hts hinX4 hown hK hH lv_r0 (cel_rt (by omega)) rfl 8 (by decide) (hts (.fieldLink RX4 211 "SelectoRoute" "earned" "I") (by decide +kernel)) (fun _ h => h) rfl dX4_getEarned_1 ?_
  have hsp : cp_getEarned x = (none, (x.2 18 0), x) := by
    unfold cp_getEarned
    first | (simp only [↓reduceIte, and_self, and_true, true_and, Bool.false_eq_true, reduceCtorEq, eq_self, false_and, and_false]; done) | (simp [↓reduceIte, and_self, and_true, true_and, Bool.false_eq_true, reduceCtorEq, eq_self, false_and, and_false]; done) | simp only [↓reduceIte, and_self, and_true, true_and, Bool.false_eq_true, reduceCtorEq, eq_self, false_and, and_false]
  refine vx_ret ?_
  refine W.widen (k := 4) (n := 24) (by omega) (by omega) ?_
  exact W.iret (v := (x.2 18 0)) hx hb hr (fun t ht hW => ⟨⟨(x.2 18 0), (), rfl, (by rw [hsp]; exact ⟨rfl, rfl⟩), wHS_t ht (by rw [hsp]; exact hH)⟩, hS.F ht⟩) hS.2.2 dX4_getEarned_4
