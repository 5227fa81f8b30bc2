/-! ===== the route and the model, made ===== -/
def s0 : Nat → Nat → Int32 := fun k _ => if k = 16 then 1 else if k = 17 then 600 else 0
def x0 : St := (fun k _ => if k = 8 then 1 else 0, s0)
def y0 : St := (fun k _ => if k = 8 then 2 else 0, s0)
set_option maxHeartbeats 4000000 in
set_option maxRecDepth 100000 in
theorem met_X4_init (l : Launch) (E : wE) (g : Nat → Nat) (live : Nat → Prop) (F : Nat → va_E) (hnl : ∀ t, 0 < t → ¬ live t) (hlv : live 0) (hF : F 0 = .inr (6, [.null, .null, .null, .null, .int 0, .int 0, .int 0, .int 0, .int 0])) (hl0 : ∀ t, live t → t = 0) : Met l yX4_init wsX4_init ({ frames := 6, cells := 4, slots := 12, locals := 600 } : Room) (va_Pc [.ref (g 0)] (wPreY E g live F)) (va_Qv (fun (_ : Unit) => True) (fun (_ : Unit) t => ∃ g9 : Nat → Nat, (∀ t9, t9 < 1 ∨ 6 < t9 → g9 t9 = g t9) ∧ wH E.1 E.2.2 g9 (fun t9 => live t9 ∨ (t9 = 1 ∨ t9 = 3 ∨ t9 = 5 ∨ t9 = 6)) (fun t9 => if t9 < 10 then cRt E.2.1 g9 x0 t9 else F t9) t.heap) (wA E)) 4 12 (wA E) := by
  refine Met.ofW (cc := cX4_init) (maxL := 1) (ret := none) (by decide) rfl ?_
  intro p e s m args below meth c s₁ B hml hv
  obtain ⟨rfl, ⟨hz, hH, hK⟩, hC, hDD⟩ := hv
  have hx := B.exec
  have hb := B.bytes
  have hr := B.returns
  have hts := atoms_spec (ws := wsX4_init) B.pre
  have hown : s.vm.findClass RX4 = some m.cls := findClass_of_methodNamed B.named
  have hnm : meth.name = yX4_init.name := (name_of_methodNamed B.named B.method).1
  have hS : va_S (wA E) s.heap s.heap [] := va_S.rf
  have hinJx4a65c : ∀ w ∈ wsJx4a65c0, w ∈ wsX4_init := fun w h => List.mem_cons_of_mem _ (List.mem_append_left _ (List.mem_append_right _ h))
  have hinX4 : ∀ w ∈ wsX40, w ∈ wsX4_init := fun w h => List.mem_cons_of_mem _ (List.mem_append_right _ h)
  have hl := lv_entry ([.ref (g 0)]) (n := 1) (Nat.le_of_ble_eq_true rfl)
  rw [lg_entry_eq]
  generalize (lg_sl ([.ref (g 0)]) ++ List.replicate (1 - (lg_sl ([.ref (g 0)])).length) Slot.unset).toArray = ls at hl ⊢
  have hl : lv_has ls 1 [(0, .ref (g 0))] := hl
  obtain ⟨H, eH⟩ : ∃ z, z = s.heap := ⟨_, rfl⟩
  have hH : wH E.1 E.2.2 g live F H := by rw [eH]; exact hH
  have hS : va_S (wA E) s.heap H [] := by rw [eH]; exact hS
  refine W.heapTo eH ?_
  refine lv_aload_n hx hb dX4_init_0 rfl (lv_at hl 0 rfl) ?_
  refine W.objInit hx hb hown (hts (.methodLink RX4 1 objectInit) (by decide +kernel)) (hts (.instanceMethod objectInit) (by decide +kernel)) (hts (.code objectInit ⟨#[0xb1]⟩ 1 none) (by decide +kernel)) rfl (hl.1.trans hml.symm) rfl dX4_init_1 (Nat.le_of_ble_eq_true rfl) (Nat.le_of_ble_eq_true rfl) ?_
  refine W.eq (g2 := F0 m 4 ls []) rfl ?_
  refine lv_aload_n hx hb dX4_init_4 rfl (lv_at hl 0 rfl) ?_
  refine wr_new (C := RJx4a65c) (T := TJx4a65c) (N := 3) (ci := 2) (fs := [.int 0, .null, .int 0]) hx hb hts hinJx4a65c tyJx4a65c tyJx4a65c_ok hown (hts (.classLink RX4 7 RJx4a65c) (by decide +kernel)) (hts (.instantiable RJx4a65c 3) (by decide +kernel)) (hts (.initialized RJx4a65c) (by decide +kernel)) hK hH hS hz rfl (by decide) 1 (hnl 1 (by decide)) (by omega) (by first | exact Nat.le_of_ble_eq_true rfl | omega) (by first | exact Nat.le_of_ble_eq_true rfl | omega) dX4_init_5 (fun q1 H hH hS => ?_)
  refine lv_dup hx hb dX4_init_8 rfl ?_
  refine va_callv (va_runI (As := []) (rest := [.ref q1, .ref (g 0)]) ⟨hx, hb, hml, hown, hts⟩ (met_AL_init l E _ _ _ 1 (Or.inr rfl) rfl) (cwI 0 hts gX4_init_Jx4a65c_init_da8c8 rfl rfl rfl (hts (.initialized RJx4a65c) (by decide +kernel)) (hts (.methodLink RX4 9 yJx4a65c_init_da8c8) (by decide +kernel)) (hts (.instanceMethod yJx4a65c_init_da8c8) (by decide +kernel)) rfl (by decide +kernel) ⟨Nat.le_of_ble_eq_true rfl, Nat.le_of_ble_eq_true rfl⟩) ⟨fun a U f mk q => ⟨q.1, wPreY.calling q.2 a f mk⟩, fun U hU hW => ⟨rfl, wPreY_at hz hS hH hK hC hDD U hU hW⟩⟩ rfl rfl hl.1 rfl (lv_room (Nat.le_of_ble_eq_true rfl)) dX4_init_9 ⟨by first | exact Nat.le_of_ble_eq_true rfl | omega, by first | exact Nat.le_of_ble_eq_true rfl | omega⟩) hS (fun q _ h => h) (fun q h => h) (fun u t H locs ht hvm hw hB hz1 hk1 hS => ?_)
  have hH := wG_h ht hB
  refine wr_putF (T := TX4) (N := 9) (ci := 6) (v := .ref q1) (t := 0) hx hb hts hinX4 tyX4 tyX4_ok nmX4 hown hK hH hS (Or.inl hlv) (fs := [.null, .null, .null, .null, .int 0, .int 0, .int 0, .int 0, .int 0]) hF rfl 0 (by decide) (hts (.fieldLink RX4 10 "SelectoRoute" "discs" "Ljava/util/ArrayList;") (by decide +kernel)) (fun _ h => h) rfl (hnm.trans rfl) rfl (ty := (.object "java/util/ArrayList")) (by decide +kernel) rfl rfl (Nat.le_of_ble_eq_true rfl) dX4_init_12 (fun H locs hH hS => ?_)
  refine lv_aload_n hx hb dX4_init_15 rfl (lv_at hl 0 rfl) ?_
  refine wr_new (C := RJx4a65c) (T := TJx4a65c) (N := 3) (ci := 2) (fs := [.int 0, .null, .int 0]) hx hb hts hinJx4a65c tyJx4a65c tyJx4a65c_ok hown (hts (.classLink RX4 7 RJx4a65c) (by decide +kernel)) (hts (.instantiable RJx4a65c 3) (by decide +kernel)) (hts (.initialized RJx4a65c) (by decide +kernel)) hK hH hS hz rfl (by decide) 3 (by rintro (h | h) <;> first | exact absurd h (hnl 3 (by decide)) | (exact absurd h (by decide)) | omega) (by omega) (by first | exact Nat.le_of_ble_eq_true rfl | omega) (by first | exact Nat.le_of_ble_eq_true rfl | omega) dX4_init_16 (fun q2 H hH hS => ?_)
  refine lv_dup hx hb dX4_init_19 rfl ?_
  refine va_callv (va_runI (As := []) (rest := [.ref q2, .ref (g 0)]) ⟨hx, hb, hml, hown, hts⟩ (met_AL_init l E _ _ _ 3 (Or.inr rfl) rfl) (cwI 0 hts gX4_init_Jx4a65c_init_da8c8 rfl rfl rfl (hts (.initialized RJx4a65c) (by decide +kernel)) (hts (.methodLink RX4 9 yJx4a65c_init_da8c8) (by decide +kernel)) (hts (.instanceMethod yJx4a65c_init_da8c8) (by decide +kernel)) rfl (by decide +kernel) ⟨Nat.le_of_ble_eq_true rfl, Nat.le_of_ble_eq_true rfl⟩) ⟨fun a U f mk q => ⟨q.1, wPreY.calling q.2 a f mk⟩, fun U hU hW => ⟨rfl, wPreY_at hz hS hH hK hC hDD U hU hW⟩⟩ rfl rfl hl.1 rfl (lv_room (Nat.le_of_ble_eq_true rfl)) dX4_init_20 ⟨by first | exact Nat.le_of_ble_eq_true rfl | omega, by first | exact Nat.le_of_ble_eq_true rfl | omega⟩) hS (fun q _ h => h) (fun q h => h) (fun u t H locs ht hvm hw hB hz1 hk1 hS => ?_)
  have hH := wG_h ht hB
  refine wr_putF (T := TX4) (N := 9) (ci := 6) (v := .ref q2) (t := 0) hx hb hts hinX4 tyX4 tyX4_ok nmX4 hown hK hH hS (Or.inl (Or.inl hlv)) (fs := [.ref q1, .null, .null, .null, .int 0, .int 0, .int 0, .int 0, .int 0]) rfl rfl 1 (by decide) (hts (.fieldLink RX4 16 "SelectoRoute" "boxes" "Ljava/util/ArrayList;") (by decide +kernel)) (fun _ h => h) rfl (hnm.trans rfl) rfl (ty := (.object "java/util/ArrayList")) (by decide +kernel) rfl rfl (Nat.le_of_ble_eq_true rfl) dX4_init_23 (fun H locs hH hS => ?_)
  refine lv_aload_n hx hb dX4_init_26 rfl (lv_at hl 0 rfl) ?_
  refine lv_iconst (v := 3) hx hb dX4_init_27 (by decide) ?_
  refine wr_newa (atype := .int) (N' := 3) (a0 := (3, .inl (fun _ => 0))) hx hb (hts (.arrayClass .int) (by decide +kernel)) (ty := .int) rfl hK hH hS hz (fun _ => rfl) (by decide) (by decide) (by decide) 5 (by rintro ((h | h) | h) <;> first | exact absurd h (hnl 5 (by decide)) | (exact absurd h (by decide)) | omega) (by omega) (by first | exact Nat.le_of_ble_eq_true rfl | omega) (by first | exact Nat.le_of_ble_eq_true rfl | omega) dX4_init_28 (fun q3 ca4 H hk5 hH hS => ?_)
  obtain rfl : ca4 = E.2.1.1 0 := va_K_one hk5 0 rfl
  refine wr_putF (T := TX4) (N := 9) (ci := 6) (v := .ref q3) (t := 0) hx hb hts hinX4 tyX4 tyX4_ok nmX4 hown hK hH hS (Or.inl (Or.inl (Or.inl hlv))) (fs := [.ref q1, .ref q2, .null, .null, .int 0, .int 0, .int 0, .int 0, .int 0]) rfl rfl 2 (by decide) (hts (.fieldLink RX4 19 "SelectoRoute" "mostGained" "[I") (by decide +kernel)) (fun _ h => h) rfl (hnm.trans rfl) rfl (ty := (.array .int)) (by decide +kernel) rfl rfl (Nat.le_of_ble_eq_true rfl) dX4_init_30 (fun H locs hH hS => ?_)
  refine lv_aload_n hx hb dX4_init_33 rfl (lv_at hl 0 rfl) ?_
  refine lv_iconst (v := 3) hx hb dX4_init_34 (by decide) ?_
  refine wr_newa (atype := .int) (N' := 3) (a0 := (3, .inl (fun _ => 0))) hx hb (hts (.arrayClass .int) (by decide +kernel)) (ty := .int) rfl hK hH hS hz (fun _ => rfl) (by decide) (by decide) (by decide) 6 (by rintro (((h | h) | h) | h) <;> first | exact absurd h (hnl 6 (by decide)) | (exact absurd h (by decide)) | omega) (by omega) (by first | exact Nat.le_of_ble_eq_true rfl | omega) (by first | exact Nat.le_of_ble_eq_true rfl | omega) dX4_init_35 (fun q6 ca7 H hk8 hH hS => ?_)
  obtain rfl : ca7 = E.2.1.1 0 := va_K_one hk8 0 rfl
  refine wr_putF (T := TX4) (N := 9) (ci := 6) (v := .ref q6) (t := 0) hx hb hts hinX4 tyX4 tyX4_ok nmX4 hown hK hH hS (Or.inl (Or.inl (Or.inl (Or.inl hlv)))) (fs := [.ref q1, .ref q2, .ref q3, .null, .int 0, .int 0, .int 0, .int 0, .int 0]) rfl rfl 3 (by decide) (hts (.fieldLink RX4 23 "SelectoRoute" "leastLost" "[I") (by decide +kernel)) (fun _ h => h) rfl (hnm.trans rfl) rfl (ty := (.array .int)) (by decide +kernel) rfl rfl (Nat.le_of_ble_eq_true rfl) dX4_init_37 (fun H locs hH hS => ?_)
  refine lv_aload_n hx hb dX4_init_40 rfl (lv_at hl 0 rfl) ?_
  refine lv_iconst (v := 1) hx hb dX4_init_41 (by decide) ?_
  refine wr_put (T := TX4) (N := 9) (ci := 6) (v := .int 1) (t := 0) hx hb hts hinX4 tyX4 tyX4_ok nmX4 hown hK hH hS (Or.inl (Or.inl (Or.inl (Or.inl hlv)))) (fs := [.ref q1, .ref q2, .ref q3, .ref q6, .int 0, .int 0, .int 0, .int 0, .int 0]) rfl rfl 4 (by decide) (hts (.fieldLink RX4 26 "SelectoRoute" "z" "I") (by decide +kernel)) (fun _ h => h) rfl (ty := .int) (by decide +kernel) rfl rfl (Nat.le_of_ble_eq_true rfl) dX4_init_42 (fun H locs hH hS => ?_)
  refine lv_aload_n hx hb dX4_init_45 rfl (lv_at hl 0 rfl) ?_
  refine lv_sipush (v := 600) hx hb dX4_init_46 (by decide) ?_
  refine wr_put (T := TX4) (N := 9) (ci := 6) (v := .int 600) (t := 0) hx hb hts hinX4 tyX4 tyX4_ok nmX4 hown hK hH hS (Or.inl (Or.inl (Or.inl (Or.inl hlv)))) (fs := [.ref q1, .ref q2, .ref q3, .ref q6, .int 1, .int 0, .int 0, .int 0, .int 0]) rfl rfl 6 (by decide) (hts (.fieldLink RX4 30 "SelectoRoute" "minutes" "I") (by decide +kernel)) (fun _ h => h) rfl (ty := .int) (by decide +kernel) rfl rfl (Nat.le_of_ble_eq_true rfl) dX4_init_49 (fun H locs hH hS => ?_)
  refine W.widen (k := 4) (n := 12) (by omega) (by omega) ?_
  have hfin : ∃ g9 : Nat → Nat, (∀ t9, t9 < 1 ∨ 6 < t9 → g9 t9 = g t9) ∧ wH E.1 E.2.2 g9 (fun t9 => live t9 ∨ (t9 = 1 ∨ t9 = 3 ∨ t9 = 5 ∨ t9 = 6)) (fun t9 => if t9 < 10 then cRt E.2.1 g9 x0 t9 else F t9) H := by
    refine ⟨_, ?_, wH_fin hH ?_⟩
    · intro t9 h9
      have n1 : ¬ t9 = 1 := by omega
      have n3 : ¬ t9 = 3 := by omega
      have n5 : ¬ t9 = 5 := by omega
      have n6 : ¬ t9 = 6 := by omega
      simp only [va_up, n1, n3, n5, n6, ↓reduceIte]
    · intro t9 h9
      rcases h9 with h9 | h9
      · have hu : t9 ≤ 0 := Nat.not_lt.mp (fun q => hnl t9 q h9)
        by_cases e9 : t9 = 0
        · subst e9
          exact ⟨(Or.inl (Or.inl (Or.inl (Or.inl h9)))), Or.inl rfl⟩
        · refine ⟨(Or.inl (Or.inl (Or.inl (Or.inl h9)))), Or.inl ?_⟩
          have n0 : ¬ t9 = 0 := by omega
          have n1 : ¬ t9 = 1 := by omega
          have n3 : ¬ t9 = 3 := by omega
          have n5 : ¬ t9 = 5 := by omega
          have n6 : ¬ t9 = 6 := by omega
          have nr : ¬ (t9 < 10) := by omega
          simp only [va_up, nr, n0, n1, n3, n5, n6, ↓reduceIte]
      · have c9 : t9 = 1 ∨ t9 = 3 ∨ t9 = 5 ∨ t9 = 6 := by omega
        rcases c9 with rfl | rfl | rfl | rfl
        · exact ⟨(Or.inl (Or.inl (Or.inl (Or.inr rfl)))), Or.inl rfl⟩
        · exact ⟨(Or.inl (Or.inl (Or.inr rfl))), Or.inl rfl⟩
        · exact ⟨(Or.inl (Or.inr rfl)), Or.inl rfl⟩
        · exact ⟨(Or.inr rfl), Or.inl rfl⟩
  exact W.vret hx hb hr (fun t ht hW => ⟨⟨(), rfl, trivial, by obtain ⟨g9, a9, b9⟩ := hfin; exact ⟨g9, a9, wG_t ht b9⟩⟩, hS.F ht⟩) hS.2.2 dX4_init_52
set_option maxHeartbeats 4000000 in
set_option maxRecDepth 100000 in
theorem met_X5_init (l : Launch) (E : wE) (g : Nat → Nat) (live : Nat → Prop) (F : Nat → va_E) (hnl : ∀ t, 10 < t → ¬ live t) (hlv : live 10) (hF : F 10 = .inr (7, [.null, .null, .null, .null, .null, .int 0, .null, .null, .null, .null, .null, .null, .null, .null, .null, .null, .null, .null, .null, .int 0, .null, .null, .null, .null, .null, .int 0, .int 0, .int 0, .int 0, .int 0])) : Met l yX5_init wsX5_init ({ frames := 4, cells := 23, slots := 800, locals := 300 } : Room) (va_Pc [.ref (g 10)] (wPreY E g live F)) (va_Qv (fun (_ : Unit) => True) (fun (_ : Unit) t => ∃ g9 : Nat → Nat, (∀ t9, t9 < 11 ∨ 33 < t9 → g9 t9 = g t9) ∧ wH E.1 E.2.2 g9 (fun t9 => live t9 ∨ (11 ≤ t9 ∧ t9 < 34)) (fun t9 => if 10 ≤ t9 ∧ t9 < 40 then cMd E.2.1 g9 y0 t9 else F t9) t.heap) (wA E)) 23 800 (wA E) := by
  refine Met.ofW (cc := cX5_init) (maxL := 1) (ret := none) (by decide) rfl ?_
  intro p e s m args below meth c s₁ B hml hv
  obtain ⟨rfl, ⟨hz, hH, hK⟩, hC, hDD⟩ := hv
  have hx := B.exec
  have hb := B.bytes
  have hr := B.returns
  have hts := atoms_spec (ws := wsX5_init) B.pre
  have hown : s.vm.findClass RX5 = some m.cls := findClass_of_methodNamed B.named
  have hnm : meth.name = yX5_init.name := (name_of_methodNamed B.named B.method).1
  have hS : va_S (wA E) s.heap s.heap [] := va_S.rf
  have hinX5 : ∀ w ∈ wsX50, w ∈ wsX5_init := fun w h => List.mem_cons_of_mem _ (List.mem_append_right _ h)
  have hl := lv_entry ([.ref (g 10)]) (n := 1) (Nat.le_of_ble_eq_true rfl)
  rw [lg_entry_eq]
  generalize (lg_sl ([.ref (g 10)]) ++ List.replicate (1 - (lg_sl ([.ref (g 10)])).length) Slot.unset).toArray = ls at hl ⊢
  have hl : lv_has ls 1 [(0, .ref (g 10))] := hl
  obtain ⟨H, eH⟩ : ∃ z, z = s.heap := ⟨_, rfl⟩
  have hH : wH E.1 E.2.2 g live F H := by rw [eH]; exact hH
  have hS : va_S (wA E) s.heap H [] := by rw [eH]; exact hS
  refine W.heapTo eH ?_
  refine lv_aload_n hx hb dX5_init_0 rfl (lv_at hl 0 rfl) ?_
  refine W.objInit hx hb hown (hts (.methodLink RX5 1 objectInit) (by decide +kernel)) (hts (.instanceMethod objectInit) (by decide +kernel)) (hts (.code objectInit ⟨#[0xb1]⟩ 1 none) (by decide +kernel)) rfl (hl.1.trans hml.symm) rfl dX5_init_1 (Nat.le_of_ble_eq_true rfl) (Nat.le_of_ble_eq_true rfl) ?_
  refine W.eq (g2 := F0 m 4 ls []) rfl ?_
  refine lv_aload_n hx hb dX5_init_4 rfl (lv_at hl 0 rfl) ?_
  refine lv_bipush (v := 30) hx hb dX5_init_5 (by decide) ?_
  refine wr_newa (atype := .int) (N' := 30) (a0 := (30, .inl (fun _ => 0))) hx hb (hts (.arrayClass .int) (by decide +kernel)) (ty := .int) rfl hK hH hS hz (fun _ => rfl) (by decide) (by decide) (by decide) 11 (hnl 11 (by decide)) (by omega) (by first | exact Nat.le_of_ble_eq_true rfl | omega) (by first | exact Nat.le_of_ble_eq_true rfl | omega) dX5_init_7 (fun q1 ca2 H hk3 hH hS => ?_)
  obtain rfl : ca2 = E.2.1.1 0 := va_K_one hk3 0 rfl
  refine wr_putF (T := TX5) (N := 30) (ci := 7) (v := .ref q1) (t := 10) hx hb hts hinX5 tyX5 tyX5_ok nmX5 hown hK hH hS (Or.inl hlv) (fs := [.null, .null, .null, .null, .null, .int 0, .null, .null, .null, .null, .null, .null, .null, .null, .null, .null, .null, .null, .null, .int 0, .null, .null, .null, .null, .null, .int 0, .int 0, .int 0, .int 0, .int 0]) hF rfl 0 (by decide) (hts (.fieldLink RX5 7 "SelectoRouteModel" "song" "[I") (by decide +kernel)) (fun _ h => h) rfl (hnm.trans rfl) rfl (ty := (.array .int)) (by decide +kernel) rfl rfl (Nat.le_of_ble_eq_true rfl) dX5_init_9 (fun H locs hH hS => ?_)
  refine lv_aload_n hx hb dX5_init_12 rfl (lv_at hl 0 rfl) ?_
  refine lv_bipush (v := 30) hx hb dX5_init_13 (by decide) ?_
  refine wr_newa (atype := .int) (N' := 30) (a0 := (30, .inl (fun _ => 0))) hx hb (hts (.arrayClass .int) (by decide +kernel)) (ty := .int) rfl hK hH hS hz (fun _ => rfl) (by decide) (by decide) (by decide) 12 (by rintro (h | h) <;> first | exact absurd h (hnl 12 (by decide)) | (exact absurd h (by decide)) | omega) (by omega) (by first | exact Nat.le_of_ble_eq_true rfl | omega) (by first | exact Nat.le_of_ble_eq_true rfl | omega) dX5_init_15 (fun q4 ca5 H hk6 hH hS => ?_)
  obtain rfl : ca5 = E.2.1.1 0 := va_K_one hk6 0 rfl
  refine wr_putF (T := TX5) (N := 30) (ci := 7) (v := .ref q4) (t := 10) hx hb hts hinX5 tyX5 tyX5_ok nmX5 hown hK hH hS (Or.inl (Or.inl hlv)) (fs := [.ref q1, .null, .null, .null, .null, .int 0, .null, .null, .null, .null, .null, .null, .null, .null, .null, .null, .null, .null, .null, .int 0, .null, .null, .null, .null, .null, .int 0, .int 0, .int 0, .int 0, .int 0]) rfl rfl 1 (by decide) (hts (.fieldLink RX5 13 "SelectoRouteModel" "strength" "[I") (by decide +kernel)) (fun _ h => h) rfl (hnm.trans rfl) rfl (ty := (.array .int)) (by decide +kernel) rfl rfl (Nat.le_of_ble_eq_true rfl) dX5_init_17 (fun H locs hH hS => ?_)
  refine lv_aload_n hx hb dX5_init_20 rfl (lv_at hl 0 rfl) ?_
  refine lv_bipush (v := 30) hx hb dX5_init_21 (by decide) ?_
  refine wr_newa (atype := .int) (N' := 30) (a0 := (30, .inl (fun _ => 0))) hx hb (hts (.arrayClass .int) (by decide +kernel)) (ty := .int) rfl hK hH hS hz (fun _ => rfl) (by decide) (by decide) (by decide) 13 (by rintro ((h | h) | h) <;> first | exact absurd h (hnl 13 (by decide)) | (exact absurd h (by decide)) | omega) (by omega) (by first | exact Nat.le_of_ble_eq_true rfl | omega) (by first | exact Nat.le_of_ble_eq_true rfl | omega) dX5_init_23 (fun q7 ca8 H hk9 hH hS => ?_)
  obtain rfl : ca8 = E.2.1.1 0 := va_K_one hk9 0 rfl
  refine wr_putF (T := TX5) (N := 30) (ci := 7) (v := .ref q7) (t := 10) hx hb hts hinX5 tyX5 tyX5_ok nmX5 hown hK hH hS (Or.inl (Or.inl (Or.inl hlv))) (fs := [.ref q1, .ref q4, .null, .null, .null, .int 0, .null, .null, .null, .null, .null, .null, .null, .null, .null, .null, .null, .null, .null, .int 0, .null, .null, .null, .null, .null, .int 0, .int 0, .int 0, .int 0, .int 0]) rfl rfl 2 (by decide) (hts (.fieldLink RX5 16 "SelectoRouteModel" "from" "[I") (by decide +kernel)) (fun _ h => h) rfl (hnm.trans rfl) rfl (ty := (.array .int)) (by decide +kernel) rfl rfl (Nat.le_of_ble_eq_true rfl) dX5_init_25 (fun H locs hH hS => ?_)
  refine lv_aload_n hx hb dX5_init_28 rfl (lv_at hl 0 rfl) ?_
  refine lv_bipush (v := 30) hx hb dX5_init_29 (by decide) ?_
  refine wr_newa (atype := .int) (N' := 30) (a0 := (30, .inl (fun _ => 0))) hx hb (hts (.arrayClass .int) (by decide +kernel)) (ty := .int) rfl hK hH hS hz (fun _ => rfl) (by decide) (by decide) (by decide) 14 (by rintro (((h | h) | h) | h) <;> first | exact absurd h (hnl 14 (by decide)) | (exact absurd h (by decide)) | omega) (by omega) (by first | exact Nat.le_of_ble_eq_true rfl | omega) (by first | exact Nat.le_of_ble_eq_true rfl | omega) dX5_init_31 (fun q10 ca11 H hk12 hH hS => ?_)
  obtain rfl : ca11 = E.2.1.1 0 := va_K_one hk12 0 rfl
  refine wr_putF (T := TX5) (N := 30) (ci := 7) (v := .ref q10) (t := 10) hx hb hts hinX5 tyX5 tyX5_ok nmX5 hown hK hH hS (Or.inl (Or.inl (Or.inl (Or.inl hlv)))) (fs := [.ref q1, .ref q4, .ref q7, .null, .null, .int 0, .null, .null, .null, .null, .null, .null, .null, .null, .null, .null, .null, .null, .null, .int 0, .null, .null, .null, .null, .null, .int 0, .int 0, .int 0, .int 0, .int 0]) rfl rfl 3 (by decide) (hts (.fieldLink RX5 19 "SelectoRouteModel" "wear" "[I") (by decide +kernel)) (fun _ h => h) rfl (hnm.trans rfl) rfl (ty := (.array .int)) (by decide +kernel) rfl rfl (Nat.le_of_ble_eq_true rfl) dX5_init_33 (fun H locs hH hS => ?_)
  refine lv_aload_n hx hb dX5_init_36 rfl (lv_at hl 0 rfl) ?_
  refine lv_bipush (v := 30) hx hb dX5_init_37 (by decide) ?_
  refine wr_newa (atype := .int) (N' := 30) (a0 := (30, .inl (fun _ => 0))) hx hb (hts (.arrayClass .int) (by decide +kernel)) (ty := .int) rfl hK hH hS hz (fun _ => rfl) (by decide) (by decide) (by decide) 15 (by rintro ((((h | h) | h) | h) | h) <;> first | exact absurd h (hnl 15 (by decide)) | (exact absurd h (by decide)) | omega) (by omega) (by first | exact Nat.le_of_ble_eq_true rfl | omega) (by first | exact Nat.le_of_ble_eq_true rfl | omega) dX5_init_39 (fun q13 ca14 H hk15 hH hS => ?_)
  obtain rfl : ca14 = E.2.1.1 0 := va_K_one hk15 0 rfl
  refine wr_putF (T := TX5) (N := 30) (ci := 7) (v := .ref q13) (t := 10) hx hb hts hinX5 tyX5 tyX5_ok nmX5 hown hK hH hS (Or.inl (Or.inl (Or.inl (Or.inl (Or.inl hlv))))) (fs := [.ref q1, .ref q4, .ref q7, .ref q10, .null, .int 0, .null, .null, .null, .null, .null, .null, .null, .null, .null, .null, .null, .null, .null, .int 0, .null, .null, .null, .null, .null, .int 0, .int 0, .int 0, .int 0, .int 0]) rfl rfl 4 (by decide) (hts (.fieldLink RX5 22 "SelectoRouteModel" "place" "[I") (by decide +kernel)) (fun _ h => h) rfl (hnm.trans rfl) rfl (ty := (.array .int)) (by decide +kernel) rfl rfl (Nat.le_of_ble_eq_true rfl) dX5_init_41 (fun H locs hH hS => ?_)
  refine lv_aload_n hx hb dX5_init_44 rfl (lv_at hl 0 rfl) ?_
  refine lv_iconst (v := 4) hx hb dX5_init_45 (by decide) ?_
  refine wr_newa (atype := .int) (N' := 4) (a0 := (4, .inl (fun _ => 0))) hx hb (hts (.arrayClass .int) (by decide +kernel)) (ty := .int) rfl hK hH hS hz (fun _ => rfl) (by decide) (by decide) (by decide) 16 (by rintro (((((h | h) | h) | h) | h) | h) <;> first | exact absurd h (hnl 16 (by decide)) | (exact absurd h (by decide)) | omega) (by omega) (by first | exact Nat.le_of_ble_eq_true rfl | omega) (by first | exact Nat.le_of_ble_eq_true rfl | omega) dX5_init_46 (fun q16 ca17 H hk18 hH hS => ?_)
  obtain rfl : ca17 = E.2.1.1 0 := va_K_one hk18 0 rfl
  refine wr_putF (T := TX5) (N := 30) (ci := 7) (v := .ref q16) (t := 10) hx hb hts hinX5 tyX5 tyX5_ok nmX5 hown hK hH hS (Or.inl (Or.inl (Or.inl (Or.inl (Or.inl (Or.inl hlv)))))) (fs := [.ref q1, .ref q4, .ref q7, .ref q10, .ref q13, .int 0, .null, .null, .null, .null, .null, .null, .null, .null, .null, .null, .null, .null, .null, .int 0, .null, .null, .null, .null, .null, .int 0, .int 0, .int 0, .int 0, .int 0]) rfl rfl 6 (by decide) (hts (.fieldLink RX5 25 "SelectoRouteModel" "share" "[I") (by decide +kernel)) (fun _ h => h) rfl (hnm.trans rfl) rfl (ty := (.array .int)) (by decide +kernel) rfl rfl (Nat.le_of_ble_eq_true rfl) dX5_init_48 (fun H locs hH hS => ?_)
  refine lv_aload_n hx hb dX5_init_51 rfl (lv_at hl 0 rfl) ?_
  refine lv_iconst (v := 4) hx hb dX5_init_52 (by decide) ?_
  refine wr_newa (atype := .int) (N' := 4) (a0 := (4, .inl (fun _ => 0))) hx hb (hts (.arrayClass .int) (by decide +kernel)) (ty := .int) rfl hK hH hS hz (fun _ => rfl) (by decide) (by decide) (by decide) 17 (by rintro ((((((h | h) | h) | h) | h) | h) | h) <;> first | exact absurd h (hnl 17 (by decide)) | (exact absurd h (by decide)) | omega) (by omega) (by first | exact Nat.le_of_ble_eq_true rfl | omega) (by first | exact Nat.le_of_ble_eq_true rfl | omega) dX5_init_53 (fun q19 ca20 H hk21 hH hS => ?_)
  obtain rfl : ca20 = E.2.1.1 0 := va_K_one hk21 0 rfl
  refine wr_putF (T := TX5) (N := 30) (ci := 7) (v := .ref q19) (t := 10) hx hb hts hinX5 tyX5 tyX5_ok nmX5 hown hK hH hS (Or.inl (Or.inl (Or.inl (Or.inl (Or.inl (Or.inl (Or.inl hlv))))))) (fs := [.ref q1, .ref q4, .ref q7, .ref q10, .ref q13, .int 0, .ref q16, .null, .null, .null, .null, .null, .null, .null, .null, .null, .null, .null, .null, .int 0, .null, .null, .null, .null, .null, .int 0, .int 0, .int 0, .int 0, .int 0]) rfl rfl 7 (by decide) (hts (.fieldLink RX5 28 "SelectoRouteModel" "taste" "[I") (by decide +kernel)) (fun _ h => h) rfl (hnm.trans rfl) rfl (ty := (.array .int)) (by decide +kernel) rfl rfl (Nat.le_of_ble_eq_true rfl) dX5_init_55 (fun H locs hH hS => ?_)
  refine lv_aload_n hx hb dX5_init_58 rfl (lv_at hl 0 rfl) ?_
  refine lv_iconst (v := 4) hx hb dX5_init_59 (by decide) ?_
  refine wr_newa (atype := .int) (N' := 4) (a0 := (4, .inl (fun _ => 0))) hx hb (hts (.arrayClass .int) (by decide +kernel)) (ty := .int) rfl hK hH hS hz (fun _ => rfl) (by decide) (by decide) (by decide) 18 (by rintro (((((((h | h) | h) | h) | h) | h) | h) | h) <;> first | exact absurd h (hnl 18 (by decide)) | (exact absurd h (by decide)) | omega) (by omega) (by first | exact Nat.le_of_ble_eq_true rfl | omega) (by first | exact Nat.le_of_ble_eq_true rfl | omega) dX5_init_60 (fun q22 ca23 H hk24 hH hS => ?_)
  obtain rfl : ca23 = E.2.1.1 0 := va_K_one hk24 0 rfl
  refine wr_putF (T := TX5) (N := 30) (ci := 7) (v := .ref q22) (t := 10) hx hb hts hinX5 tyX5 tyX5_ok nmX5 hown hK hH hS (Or.inl (Or.inl (Or.inl (Or.inl (Or.inl (Or.inl (Or.inl (Or.inl hlv)))))))) (fs := [.ref q1, .ref q4, .ref q7, .ref q10, .ref q13, .int 0, .ref q16, .ref q19, .null, .null, .null, .null, .null, .null, .null, .null, .null, .null, .null, .int 0, .null, .null, .null, .null, .null, .int 0, .int 0, .int 0, .int 0, .int 0]) rfl rfl 8 (by decide) (hts (.fieldLink RX5 31 "SelectoRouteModel" "risk" "[I") (by decide +kernel)) (fun _ h => h) rfl (hnm.trans rfl) rfl (ty := (.array .int)) (by decide +kernel) rfl rfl (Nat.le_of_ble_eq_true rfl) dX5_init_62 (fun H locs hH hS => ?_)
  refine lv_aload_n hx hb dX5_init_65 rfl (lv_at hl 0 rfl) ?_
  refine lv_iconst (v := 4) hx hb dX5_init_66 (by decide) ?_
  refine wr_newa (atype := .int) (N' := 4) (a0 := (4, .inl (fun _ => 0))) hx hb (hts (.arrayClass .int) (by decide +kernel)) (ty := .int) rfl hK hH hS hz (fun _ => rfl) (by decide) (by decide) (by decide) 19 (by rintro ((((((((h | h) | h) | h) | h) | h) | h) | h) | h) <;> first | exact absurd h (hnl 19 (by decide)) | (exact absurd h (by decide)) | omega) (by omega) (by first | exact Nat.le_of_ble_eq_true rfl | omega) (by first | exact Nat.le_of_ble_eq_true rfl | omega) dX5_init_67 (fun q25 ca26 H hk27 hH hS => ?_)
  obtain rfl : ca26 = E.2.1.1 0 := va_K_one hk27 0 rfl
  refine wr_putF (T := TX5) (N := 30) (ci := 7) (v := .ref q25) (t := 10) hx hb hts hinX5 tyX5 tyX5_ok nmX5 hown hK hH hS (Or.inl (Or.inl (Or.inl (Or.inl (Or.inl (Or.inl (Or.inl (Or.inl (Or.inl hlv))))))))) (fs := [.ref q1, .ref q4, .ref q7, .ref q10, .ref q13, .int 0, .ref q16, .ref q19, .ref q22, .null, .null, .null, .null, .null, .null, .null, .null, .null, .null, .int 0, .null, .null, .null, .null, .null, .int 0, .int 0, .int 0, .int 0, .int 0]) rfl rfl 9 (by decide) (hts (.fieldLink RX5 34 "SelectoRouteModel" "credits" "[I") (by decide +kernel)) (fun _ h => h) rfl (hnm.trans rfl) rfl (ty := (.array .int)) (by decide +kernel) rfl rfl (Nat.le_of_ble_eq_true rfl) dX5_init_69 (fun H locs hH hS => ?_)
  refine lv_aload_n hx hb dX5_init_72 rfl (lv_at hl 0 rfl) ?_
  refine lv_iconst (v := 4) hx hb dX5_init_73 (by decide) ?_
  refine wr_newa (atype := .int) (N' := 4) (a0 := (4, .inl (fun _ => 0))) hx hb (hts (.arrayClass .int) (by decide +kernel)) (ty := .int) rfl hK hH hS hz (fun _ => rfl) (by decide) (by decide) (by decide) 20 (by rintro (((((((((h | h) | h) | h) | h) | h) | h) | h) | h) | h) <;> first | exact absurd h (hnl 20 (by decide)) | (exact absurd h (by decide)) | omega) (by omega) (by first | exact Nat.le_of_ble_eq_true rfl | omega) (by first | exact Nat.le_of_ble_eq_true rfl | omega) dX5_init_74 (fun q28 ca29 H hk30 hH hS => ?_)
  obtain rfl : ca29 = E.2.1.1 0 := va_K_one hk30 0 rfl
  refine wr_putF (T := TX5) (N := 30) (ci := 7) (v := .ref q28) (t := 10) hx hb hts hinX5 tyX5 tyX5_ok nmX5 hown hK hH hS (Or.inl (Or.inl (Or.inl (Or.inl (Or.inl (Or.inl (Or.inl (Or.inl (Or.inl (Or.inl hlv)))))))))) (fs := [.ref q1, .ref q4, .ref q7, .ref q10, .ref q13, .int 0, .ref q16, .ref q19, .ref q22, .ref q25, .null, .null, .null, .null, .null, .null, .null, .null, .null, .int 0, .null, .null, .null, .null, .null, .int 0, .int 0, .int 0, .int 0, .int 0]) rfl rfl 10 (by decide) (hts (.fieldLink RX5 37 "SelectoRouteModel" "cents" "[I") (by decide +kernel)) (fun _ h => h) rfl (hnm.trans rfl) rfl (ty := (.array .int)) (by decide +kernel) rfl rfl (Nat.le_of_ble_eq_true rfl) dX5_init_76 (fun H locs hH hS => ?_)
  refine lv_aload_n hx hb dX5_init_79 rfl (lv_at hl 0 rfl) ?_
  refine lv_iconst (v := 4) hx hb dX5_init_80 (by decide) ?_
  refine wr_newa (atype := .int) (N' := 4) (a0 := (4, .inl (fun _ => 0))) hx hb (hts (.arrayClass .int) (by decide +kernel)) (ty := .int) rfl hK hH hS hz (fun _ => rfl) (by decide) (by decide) (by decide) 21 (by rintro ((((((((((h | h) | h) | h) | h) | h) | h) | h) | h) | h) | h) <;> first | exact absurd h (hnl 21 (by decide)) | (exact absurd h (by decide)) | omega) (by omega) (by first | exact Nat.le_of_ble_eq_true rfl | omega) (by first | exact Nat.le_of_ble_eq_true rfl | omega) dX5_init_81 (fun q31 ca32 H hk33 hH hS => ?_)
  obtain rfl : ca32 = E.2.1.1 0 := va_K_one hk33 0 rfl
  refine wr_putF (T := TX5) (N := 30) (ci := 7) (v := .ref q31) (t := 10) hx hb hts hinX5 tyX5 tyX5_ok nmX5 hown hK hH hS (Or.inl (Or.inl (Or.inl (Or.inl (Or.inl (Or.inl (Or.inl (Or.inl (Or.inl (Or.inl (Or.inl hlv))))))))))) (fs := [.ref q1, .ref q4, .ref q7, .ref q10, .ref q13, .int 0, .ref q16, .ref q19, .ref q22, .ref q25, .ref q28, .null, .null, .null, .null, .null, .null, .null, .null, .int 0, .null, .null, .null, .null, .null, .int 0, .int 0, .int 0, .int 0, .int 0]) rfl rfl 11 (by decide) (hts (.fieldLink RX5 40 "SelectoRouteModel" "needle" "[I") (by decide +kernel)) (fun _ h => h) rfl (hnm.trans rfl) rfl (ty := (.array .int)) (by decide +kernel) rfl rfl (Nat.le_of_ble_eq_true rfl) dX5_init_83 (fun H locs hH hS => ?_)
  refine lv_aload_n hx hb dX5_init_86 rfl (lv_at hl 0 rfl) ?_
  refine lv_iconst (v := 4) hx hb dX5_init_87 (by decide) ?_
  refine wr_newa (atype := .int) (N' := 4) (a0 := (4, .inl (fun _ => 0))) hx hb (hts (.arrayClass .int) (by decide +kernel)) (ty := .int) rfl hK hH hS hz (fun _ => rfl) (by decide) (by decide) (by decide) 22 (by rintro (((((((((((h | h) | h) | h) | h) | h) | h) | h) | h) | h) | h) | h) <;> first | exact absurd h (hnl 22 (by decide)) | (exact absurd h (by decide)) | omega) (by omega) (by first | exact Nat.le_of_ble_eq_true rfl | omega) (by first | exact Nat.le_of_ble_eq_true rfl | omega) dX5_init_88 (fun q34 ca35 H hk36 hH hS => ?_)
  obtain rfl : ca35 = E.2.1.1 0 := va_K_one hk36 0 rfl
  refine wr_putF (T := TX5) (N := 30) (ci := 7) (v := .ref q34) (t := 10) hx hb hts hinX5 tyX5 tyX5_ok nmX5 hown hK hH hS (Or.inl (Or.inl (Or.inl (Or.inl (Or.inl (Or.inl (Or.inl (Or.inl (Or.inl (Or.inl (Or.inl (Or.inl hlv)))))))))))) (fs := [.ref q1, .ref q4, .ref q7, .ref q10, .ref q13, .int 0, .ref q16, .ref q19, .ref q22, .ref q25, .ref q28, .ref q31, .null, .null, .null, .null, .null, .null, .null, .int 0, .null, .null, .null, .null, .null, .int 0, .int 0, .int 0, .int 0, .int 0]) rfl rfl 12 (by decide) (hts (.fieldLink RX5 43 "SelectoRouteModel" "queued" "[I") (by decide +kernel)) (fun _ h => h) rfl (hnm.trans rfl) rfl (ty := (.array .int)) (by decide +kernel) rfl rfl (Nat.le_of_ble_eq_true rfl) dX5_init_90 (fun H locs hH hS => ?_)
  refine lv_aload_n hx hb dX5_init_93 rfl (lv_at hl 0 rfl) ?_
  refine lv_bipush (v := 32) hx hb dX5_init_94 (by decide) ?_
  refine wr_newa (atype := .int) (N' := 32) (a0 := (32, .inl (fun _ => 0))) hx hb (hts (.arrayClass .int) (by decide +kernel)) (ty := .int) rfl hK hH hS hz (fun _ => rfl) (by decide) (by decide) (by decide) 23 (by rintro ((((((((((((h | h) | h) | h) | h) | h) | h) | h) | h) | h) | h) | h) | h) <;> first | exact absurd h (hnl 23 (by decide)) | (exact absurd h (by decide)) | omega) (by omega) (by first | exact Nat.le_of_ble_eq_true rfl | omega) (by first | exact Nat.le_of_ble_eq_true rfl | omega) dX5_init_96 (fun q37 ca38 H hk39 hH hS => ?_)
  obtain rfl : ca38 = E.2.1.1 0 := va_K_one hk39 0 rfl
  refine wr_putF (T := TX5) (N := 30) (ci := 7) (v := .ref q37) (t := 10) hx hb hts hinX5 tyX5 tyX5_ok nmX5 hown hK hH hS (Or.inl (Or.inl (Or.inl (Or.inl (Or.inl (Or.inl (Or.inl (Or.inl (Or.inl (Or.inl (Or.inl (Or.inl (Or.inl hlv))))))))))))) (fs := [.ref q1, .ref q4, .ref q7, .ref q10, .ref q13, .int 0, .ref q16, .ref q19, .ref q22, .ref q25, .ref q28, .ref q31, .ref q34, .null, .null, .null, .null, .null, .null, .int 0, .null, .null, .null, .null, .null, .int 0, .int 0, .int 0, .int 0, .int 0]) rfl rfl 13 (by decide) (hts (.fieldLink RX5 46 "SelectoRouteModel" "queue" "[I") (by decide +kernel)) (fun _ h => h) rfl (hnm.trans rfl) rfl (ty := (.array .int)) (by decide +kernel) rfl rfl (Nat.le_of_ble_eq_true rfl) dX5_init_98 (fun H locs hH hS => ?_)
  refine lv_aload_n hx hb dX5_init_101 rfl (lv_at hl 0 rfl) ?_
  refine lv_iconst (v := 4) hx hb dX5_init_102 (by decide) ?_
  refine wr_newa (atype := .int) (N' := 4) (a0 := (4, .inl (fun _ => 0))) hx hb (hts (.arrayClass .int) (by decide +kernel)) (ty := .int) rfl hK hH hS hz (fun _ => rfl) (by decide) (by decide) (by decide) 24 (by rintro (((((((((((((h | h) | h) | h) | h) | h) | h) | h) | h) | h) | h) | h) | h) | h) <;> first | exact absurd h (hnl 24 (by decide)) | (exact absurd h (by decide)) | omega) (by omega) (by first | exact Nat.le_of_ble_eq_true rfl | omega) (by first | exact Nat.le_of_ble_eq_true rfl | omega) dX5_init_103 (fun q40 ca41 H hk42 hH hS => ?_)
  obtain rfl : ca41 = E.2.1.1 0 := va_K_one hk42 0 rfl
  refine wr_putF (T := TX5) (N := 30) (ci := 7) (v := .ref q40) (t := 10) hx hb hts hinX5 tyX5 tyX5_ok nmX5 hown hK hH hS (Or.inl (Or.inl (Or.inl (Or.inl (Or.inl (Or.inl (Or.inl (Or.inl (Or.inl (Or.inl (Or.inl (Or.inl (Or.inl (Or.inl hlv)))))))))))))) (fs := [.ref q1, .ref q4, .ref q7, .ref q10, .ref q13, .int 0, .ref q16, .ref q19, .ref q22, .ref q25, .ref q28, .ref q31, .ref q34, .ref q37, .null, .null, .null, .null, .null, .int 0, .null, .null, .null, .null, .null, .int 0, .int 0, .int 0, .int 0, .int 0]) rfl rfl 14 (by decide) (hts (.fieldLink RX5 49 "SelectoRouteModel" "plays" "[I") (by decide +kernel)) (fun _ h => h) rfl (hnm.trans rfl) rfl (ty := (.array .int)) (by decide +kernel) rfl rfl (Nat.le_of_ble_eq_true rfl) dX5_init_105 (fun H locs hH hS => ?_)
  refine lv_aload_n hx hb dX5_init_108 rfl (lv_at hl 0 rfl) ?_
  refine lv_iconst (v := 4) hx hb dX5_init_109 (by decide) ?_
  refine wr_newa (atype := .int) (N' := 4) (a0 := (4, .inl (fun _ => 0))) hx hb (hts (.arrayClass .int) (by decide +kernel)) (ty := .int) rfl hK hH hS hz (fun _ => rfl) (by decide) (by decide) (by decide) 25 (by rintro ((((((((((((((h | h) | h) | h) | h) | h) | h) | h) | h) | h) | h) | h) | h) | h) | h) <;> first | exact absurd h (hnl 25 (by decide)) | (exact absurd h (by decide)) | omega) (by omega) (by first | exact Nat.le_of_ble_eq_true rfl | omega) (by first | exact Nat.le_of_ble_eq_true rfl | omega) dX5_init_110 (fun q43 ca44 H hk45 hH hS => ?_)
  obtain rfl : ca44 = E.2.1.1 0 := va_K_one hk45 0 rfl
  refine wr_putF (T := TX5) (N := 30) (ci := 7) (v := .ref q43) (t := 10) hx hb hts hinX5 tyX5 tyX5_ok nmX5 hown hK hH hS (Or.inl (Or.inl (Or.inl (Or.inl (Or.inl (Or.inl (Or.inl (Or.inl (Or.inl (Or.inl (Or.inl (Or.inl (Or.inl (Or.inl (Or.inl hlv))))))))))))))) (fs := [.ref q1, .ref q4, .ref q7, .ref q10, .ref q13, .int 0, .ref q16, .ref q19, .ref q22, .ref q25, .ref q28, .ref q31, .ref q34, .ref q37, .ref q40, .null, .null, .null, .null, .int 0, .null, .null, .null, .null, .null, .int 0, .int 0, .int 0, .int 0, .int 0]) rfl rfl 15 (by decide) (hts (.fieldLink RX5 52 "SelectoRouteModel" "missing" "[I") (by decide +kernel)) (fun _ h => h) rfl (hnm.trans rfl) rfl (ty := (.array .int)) (by decide +kernel) rfl rfl (Nat.le_of_ble_eq_true rfl) dX5_init_112 (fun H locs hH hS => ?_)
  refine lv_aload_n hx hb dX5_init_115 rfl (lv_at hl 0 rfl) ?_
  refine lv_iconst (v := 4) hx hb dX5_init_116 (by decide) ?_
  refine wr_newa (atype := .int) (N' := 4) (a0 := (4, .inl (fun _ => 0))) hx hb (hts (.arrayClass .int) (by decide +kernel)) (ty := .int) rfl hK hH hS hz (fun _ => rfl) (by decide) (by decide) (by decide) 26 (by rintro (((((((((((((((h | h) | h) | h) | h) | h) | h) | h) | h) | h) | h) | h) | h) | h) | h) | h) <;> first | exact absurd h (hnl 26 (by decide)) | (exact absurd h (by decide)) | omega) (by omega) (by first | exact Nat.le_of_ble_eq_true rfl | omega) (by first | exact Nat.le_of_ble_eq_true rfl | omega) dX5_init_117 (fun q46 ca47 H hk48 hH hS => ?_)
  obtain rfl : ca47 = E.2.1.1 0 := va_K_one hk48 0 rfl
  refine wr_putF (T := TX5) (N := 30) (ci := 7) (v := .ref q46) (t := 10) hx hb hts hinX5 tyX5 tyX5_ok nmX5 hown hK hH hS (Or.inl (Or.inl (Or.inl (Or.inl (Or.inl (Or.inl (Or.inl (Or.inl (Or.inl (Or.inl (Or.inl (Or.inl (Or.inl (Or.inl (Or.inl (Or.inl hlv)))))))))))))))) (fs := [.ref q1, .ref q4, .ref q7, .ref q10, .ref q13, .int 0, .ref q16, .ref q19, .ref q22, .ref q25, .ref q28, .ref q31, .ref q34, .ref q37, .ref q40, .ref q43, .null, .null, .null, .int 0, .null, .null, .null, .null, .null, .int 0, .int 0, .int 0, .int 0, .int 0]) rfl rfl 16 (by decide) (hts (.fieldLink RX5 55 "SelectoRouteModel" "landlord" "[I") (by decide +kernel)) (fun _ h => h) rfl (hnm.trans rfl) rfl (ty := (.array .int)) (by decide +kernel) rfl rfl (Nat.le_of_ble_eq_true rfl) dX5_init_119 (fun H locs hH hS => ?_)
  refine lv_aload_n hx hb dX5_init_122 rfl (lv_at hl 0 rfl) ?_
  refine lv_iconst (v := 4) hx hb dX5_init_123 (by decide) ?_
  refine wr_newa (atype := .boolean) (N' := 4) (a0 := (4, .inl (fun _ => 0))) hx hb (hts (.arrayClass .boolean) (by decide +kernel)) (ty := .boolean) rfl hK hH hS hz (fun _ => rfl) (by decide) (by decide) (by decide) 27 (by rintro ((((((((((((((((h | h) | h) | h) | h) | h) | h) | h) | h) | h) | h) | h) | h) | h) | h) | h) | h) <;> first | exact absurd h (hnl 27 (by decide)) | (exact absurd h (by decide)) | omega) (by omega) (by first | exact Nat.le_of_ble_eq_true rfl | omega) (by first | exact Nat.le_of_ble_eq_true rfl | omega) dX5_init_124 (fun q49 ca50 H hk51 hH hS => ?_)
  obtain rfl : ca50 = E.2.1.1 1 := va_K_one hk51 1 rfl
  refine wr_putF (T := TX5) (N := 30) (ci := 7) (v := .ref q49) (t := 10) hx hb hts hinX5 tyX5 tyX5_ok nmX5 hown hK hH hS (Or.inl (Or.inl (Or.inl (Or.inl (Or.inl (Or.inl (Or.inl (Or.inl (Or.inl (Or.inl (Or.inl (Or.inl (Or.inl (Or.inl (Or.inl (Or.inl (Or.inl hlv))))))))))))))))) (fs := [.ref q1, .ref q4, .ref q7, .ref q10, .ref q13, .int 0, .ref q16, .ref q19, .ref q22, .ref q25, .ref q28, .ref q31, .ref q34, .ref q37, .ref q40, .ref q43, .ref q46, .null, .null, .int 0, .null, .null, .null, .null, .null, .int 0, .int 0, .int 0, .int 0, .int 0]) rfl rfl 17 (by decide) (hts (.fieldLink RX5 58 "SelectoRouteModel" "jammed" "[Z") (by decide +kernel)) (fun _ h => h) rfl (hnm.trans rfl) rfl (ty := (.array .boolean)) (by decide +kernel) rfl rfl (Nat.le_of_ble_eq_true rfl) dX5_init_126 (fun H locs hH hS => ?_)
  refine lv_aload_n hx hb dX5_init_129 rfl (lv_at hl 0 rfl) ?_
  refine lv_iconst (v := 4) hx hb dX5_init_130 (by decide) ?_
  refine wr_newa (atype := .boolean) (N' := 4) (a0 := (4, .inl (fun _ => 0))) hx hb (hts (.arrayClass .boolean) (by decide +kernel)) (ty := .boolean) rfl hK hH hS hz (fun _ => rfl) (by decide) (by decide) (by decide) 28 (by rintro (((((((((((((((((h | h) | h) | h) | h) | h) | h) | h) | h) | h) | h) | h) | h) | h) | h) | h) | h) | h) <;> first | exact absurd h (hnl 28 (by decide)) | (exact absurd h (by decide)) | omega) (by omega) (by first | exact Nat.le_of_ble_eq_true rfl | omega) (by first | exact Nat.le_of_ble_eq_true rfl | omega) dX5_init_131 (fun q52 ca53 H hk54 hH hS => ?_)
  obtain rfl : ca53 = E.2.1.1 1 := va_K_one hk54 1 rfl
  refine wr_putF (T := TX5) (N := 30) (ci := 7) (v := .ref q52) (t := 10) hx hb hts hinX5 tyX5 tyX5_ok nmX5 hown hK hH hS (Or.inl (Or.inl (Or.inl (Or.inl (Or.inl (Or.inl (Or.inl (Or.inl (Or.inl (Or.inl (Or.inl (Or.inl (Or.inl (Or.inl (Or.inl (Or.inl (Or.inl (Or.inl hlv)))))))))))))))))) (fs := [.ref q1, .ref q4, .ref q7, .ref q10, .ref q13, .int 0, .ref q16, .ref q19, .ref q22, .ref q25, .ref q28, .ref q31, .ref q34, .ref q37, .ref q40, .ref q43, .ref q46, .ref q49, .null, .int 0, .null, .null, .null, .null, .null, .int 0, .int 0, .int 0, .int 0, .int 0]) rfl rfl 18 (by decide) (hts (.fieldLink RX5 62 "SelectoRouteModel" "visited" "[Z") (by decide +kernel)) (fun _ h => h) rfl (hnm.trans rfl) rfl (ty := (.array .boolean)) (by decide +kernel) rfl rfl (Nat.le_of_ble_eq_true rfl) dX5_init_133 (fun H locs hH hS => ?_)
  refine lv_aload_n hx hb dX5_init_136 rfl (lv_at hl 0 rfl) ?_
  refine lv_bipush (v := 40) hx hb dX5_init_137 (by decide) ?_
  refine wr_newa (atype := .int) (N' := 40) (a0 := (40, .inl (fun _ => 0))) hx hb (hts (.arrayClass .int) (by decide +kernel)) (ty := .int) rfl hK hH hS hz (fun _ => rfl) (by decide) (by decide) (by decide) 29 (by rintro ((((((((((((((((((h | h) | h) | h) | h) | h) | h) | h) | h) | h) | h) | h) | h) | h) | h) | h) | h) | h) | h) <;> first | exact absurd h (hnl 29 (by decide)) | (exact absurd h (by decide)) | omega) (by omega) (by first | exact Nat.le_of_ble_eq_true rfl | omega) (by first | exact Nat.le_of_ble_eq_true rfl | omega) dX5_init_139 (fun q55 ca56 H hk57 hH hS => ?_)
  obtain rfl : ca56 = E.2.1.1 0 := va_K_one hk57 0 rfl
  refine wr_putF (T := TX5) (N := 30) (ci := 7) (v := .ref q55) (t := 10) hx hb hts hinX5 tyX5 tyX5_ok nmX5 hown hK hH hS (Or.inl (Or.inl (Or.inl (Or.inl (Or.inl (Or.inl (Or.inl (Or.inl (Or.inl (Or.inl (Or.inl (Or.inl (Or.inl (Or.inl (Or.inl (Or.inl (Or.inl (Or.inl (Or.inl hlv))))))))))))))))))) (fs := [.ref q1, .ref q4, .ref q7, .ref q10, .ref q13, .int 0, .ref q16, .ref q19, .ref q22, .ref q25, .ref q28, .ref q31, .ref q34, .ref q37, .ref q40, .ref q43, .ref q46, .ref q49, .ref q52, .int 0, .null, .null, .null, .null, .null, .int 0, .int 0, .int 0, .int 0, .int 0]) rfl rfl 20 (by decide) (hts (.fieldLink RX5 65 "SelectoRouteModel" "slots" "[I") (by decide +kernel)) (fun _ h => h) rfl (hnm.trans rfl) rfl (ty := (.array .int)) (by decide +kernel) rfl rfl (Nat.le_of_ble_eq_true rfl) dX5_init_141 (fun H locs hH hS => ?_)
  refine lv_aload_n hx hb dX5_init_144 rfl (lv_at hl 0 rfl) ?_
  refine lv_bipush (v := 40) hx hb dX5_init_145 (by decide) ?_
  refine wr_newa (atype := .int) (N' := 40) (a0 := (40, .inl (fun _ => 0))) hx hb (hts (.arrayClass .int) (by decide +kernel)) (ty := .int) rfl hK hH hS hz (fun _ => rfl) (by decide) (by decide) (by decide) 30 (by rintro (((((((((((((((((((h | h) | h) | h) | h) | h) | h) | h) | h) | h) | h) | h) | h) | h) | h) | h) | h) | h) | h) | h) <;> first | exact absurd h (hnl 30 (by decide)) | (exact absurd h (by decide)) | omega) (by omega) (by first | exact Nat.le_of_ble_eq_true rfl | omega) (by first | exact Nat.le_of_ble_eq_true rfl | omega) dX5_init_147 (fun q58 ca59 H hk60 hH hS => ?_)
  obtain rfl : ca59 = E.2.1.1 0 := va_K_one hk60 0 rfl
  refine wr_putF (T := TX5) (N := 30) (ci := 7) (v := .ref q58) (t := 10) hx hb hts hinX5 tyX5 tyX5_ok nmX5 hown hK hH hS (Or.inl (Or.inl (Or.inl (Or.inl (Or.inl (Or.inl (Or.inl (Or.inl (Or.inl (Or.inl (Or.inl (Or.inl (Or.inl (Or.inl (Or.inl (Or.inl (Or.inl (Or.inl (Or.inl (Or.inl hlv)))))))))))))))))))) (fs := [.ref q1, .ref q4, .ref q7, .ref q10, .ref q13, .int 0, .ref q16, .ref q19, .ref q22, .ref q25, .ref q28, .ref q31, .ref q34, .ref q37, .ref q40, .ref q43, .ref q46, .ref q49, .ref q52, .int 0, .ref q55, .null, .null, .null, .null, .int 0, .int 0, .int 0, .int 0, .int 0]) rfl rfl 21 (by decide) (hts (.fieldLink RX5 68 "SelectoRouteModel" "wheel" "[I") (by decide +kernel)) (fun _ h => h) rfl (hnm.trans rfl) rfl (ty := (.array .int)) (by decide +kernel) rfl rfl (Nat.le_of_ble_eq_true rfl) dX5_init_149 (fun H locs hH hS => ?_)
  refine lv_aload_n hx hb dX5_init_152 rfl (lv_at hl 0 rfl) ?_
  refine lv_sipush (v := 400) hx hb dX5_init_153 (by decide) ?_
  refine wr_newa (atype := .int) (N' := 400) (a0 := (400, .inl (fun _ => 0))) hx hb (hts (.arrayClass .int) (by decide +kernel)) (ty := .int) rfl hK hH hS hz (fun _ => rfl) (by decide) (by decide) (by decide) 31 (by rintro ((((((((((((((((((((h | h) | h) | h) | h) | h) | h) | h) | h) | h) | h) | h) | h) | h) | h) | h) | h) | h) | h) | h) | h) <;> first | exact absurd h (hnl 31 (by decide)) | (exact absurd h (by decide)) | omega) (by omega) (by first | exact Nat.le_of_ble_eq_true rfl | omega) (by first | exact Nat.le_of_ble_eq_true rfl | omega) dX5_init_156 (fun q61 ca62 H hk63 hH hS => ?_)
  obtain rfl : ca62 = E.2.1.1 0 := va_K_one hk63 0 rfl
  refine wr_putF (T := TX5) (N := 30) (ci := 7) (v := .ref q61) (t := 10) hx hb hts hinX5 tyX5 tyX5_ok nmX5 hown hK hH hS (Or.inl (Or.inl (Or.inl (Or.inl (Or.inl (Or.inl (Or.inl (Or.inl (Or.inl (Or.inl (Or.inl (Or.inl (Or.inl (Or.inl (Or.inl (Or.inl (Or.inl (Or.inl (Or.inl (Or.inl (Or.inl hlv))))))))))))))))))))) (fs := [.ref q1, .ref q4, .ref q7, .ref q10, .ref q13, .int 0, .ref q16, .ref q19, .ref q22, .ref q25, .ref q28, .ref q31, .ref q34, .ref q37, .ref q40, .ref q43, .ref q46, .ref q49, .ref q52, .int 0, .ref q55, .ref q58, .null, .null, .null, .int 0, .int 0, .int 0, .int 0, .int 0]) rfl rfl 22 (by decide) (hts (.fieldLink RX5 71 "SelectoRouteModel" "asked" "[I") (by decide +kernel)) (fun _ h => h) rfl (hnm.trans rfl) rfl (ty := (.array .int)) (by decide +kernel) rfl rfl (Nat.le_of_ble_eq_true rfl) dX5_init_158 (fun H locs hH hS => ?_)
  refine lv_aload_n hx hb dX5_init_161 rfl (lv_at hl 0 rfl) ?_
  refine lv_bipush (v := 30) hx hb dX5_init_162 (by decide) ?_
  refine wr_newa (atype := .boolean) (N' := 30) (a0 := (30, .inl (fun _ => 0))) hx hb (hts (.arrayClass .boolean) (by decide +kernel)) (ty := .boolean) rfl hK hH hS hz (fun _ => rfl) (by decide) (by decide) (by decide) 32 (by rintro (((((((((((((((((((((h | h) | h) | h) | h) | h) | h) | h) | h) | h) | h) | h) | h) | h) | h) | h) | h) | h) | h) | h) | h) | h) <;> first | exact absurd h (hnl 32 (by decide)) | (exact absurd h (by decide)) | omega) (by omega) (by first | exact Nat.le_of_ble_eq_true rfl | omega) (by first | exact Nat.le_of_ble_eq_true rfl | omega) dX5_init_164 (fun q64 ca65 H hk66 hH hS => ?_)
  obtain rfl : ca65 = E.2.1.1 1 := va_K_one hk66 1 rfl
  refine wr_putF (T := TX5) (N := 30) (ci := 7) (v := .ref q64) (t := 10) hx hb hts hinX5 tyX5 tyX5_ok nmX5 hown hK hH hS (Or.inl (Or.inl (Or.inl (Or.inl (Or.inl (Or.inl (Or.inl (Or.inl (Or.inl (Or.inl (Or.inl (Or.inl (Or.inl (Or.inl (Or.inl (Or.inl (Or.inl (Or.inl (Or.inl (Or.inl (Or.inl (Or.inl hlv)))))))))))))))))))))) (fs := [.ref q1, .ref q4, .ref q7, .ref q10, .ref q13, .int 0, .ref q16, .ref q19, .ref q22, .ref q25, .ref q28, .ref q31, .ref q34, .ref q37, .ref q40, .ref q43, .ref q46, .ref q49, .ref q52, .int 0, .ref q55, .ref q58, .ref q61, .null, .null, .int 0, .int 0, .int 0, .int 0, .int 0]) rfl rfl 23 (by decide) (hts (.fieldLink RX5 74 "SelectoRouteModel" "used" "[Z") (by decide +kernel)) (fun _ h => h) rfl (hnm.trans rfl) rfl (ty := (.array .boolean)) (by decide +kernel) rfl rfl (Nat.le_of_ble_eq_true rfl) dX5_init_166 (fun H locs hH hS => ?_)
  refine lv_aload_n hx hb dX5_init_169 rfl (lv_at hl 0 rfl) ?_
  refine lv_bipush (v := 10) hx hb dX5_init_170 (by decide) ?_
  refine wr_newa (atype := .boolean) (N' := 10) (a0 := (10, .inl (fun _ => 0))) hx hb (hts (.arrayClass .boolean) (by decide +kernel)) (ty := .boolean) rfl hK hH hS hz (fun _ => rfl) (by decide) (by decide) (by decide) 33 (by rintro ((((((((((((((((((((((h | h) | h) | h) | h) | h) | h) | h) | h) | h) | h) | h) | h) | h) | h) | h) | h) | h) | h) | h) | h) | h) | h) <;> first | exact absurd h (hnl 33 (by decide)) | (exact absurd h (by decide)) | omega) (by omega) (by first | exact Nat.le_of_ble_eq_true rfl | omega) (by first | exact Nat.le_of_ble_eq_true rfl | omega) dX5_init_172 (fun q67 ca68 H hk69 hH hS => ?_)
  obtain rfl : ca68 = E.2.1.1 1 := va_K_one hk69 1 rfl
  refine wr_putF (T := TX5) (N := 30) (ci := 7) (v := .ref q67) (t := 10) hx hb hts hinX5 tyX5 tyX5_ok nmX5 hown hK hH hS (Or.inl (Or.inl (Or.inl (Or.inl (Or.inl (Or.inl (Or.inl (Or.inl (Or.inl (Or.inl (Or.inl (Or.inl (Or.inl (Or.inl (Or.inl (Or.inl (Or.inl (Or.inl (Or.inl (Or.inl (Or.inl (Or.inl (Or.inl hlv))))))))))))))))))))))) (fs := [.ref q1, .ref q4, .ref q7, .ref q10, .ref q13, .int 0, .ref q16, .ref q19, .ref q22, .ref q25, .ref q28, .ref q31, .ref q34, .ref q37, .ref q40, .ref q43, .ref q46, .ref q49, .ref q52, .int 0, .ref q55, .ref q58, .ref q61, .ref q64, .null, .int 0, .int 0, .int 0, .int 0, .int 0]) rfl rfl 24 (by decide) (hts (.fieldLink RX5 77 "SelectoRouteModel" "taken" "[Z") (by decide +kernel)) (fun _ h => h) rfl (hnm.trans rfl) rfl (ty := (.array .boolean)) (by decide +kernel) rfl rfl (Nat.le_of_ble_eq_true rfl) dX5_init_174 (fun H locs hH hS => ?_)
  refine lv_aload_n hx hb dX5_init_177 rfl (lv_at hl 0 rfl) ?_
  refine lv_iconst (v := 1) hx hb dX5_init_178 (by decide) ?_
  refine wr_put (T := TX5) (N := 30) (ci := 7) (v := .int 1) (t := 10) hx hb hts hinX5 tyX5 tyX5_ok nmX5 hown hK hH hS (Or.inl (Or.inl (Or.inl (Or.inl (Or.inl (Or.inl (Or.inl (Or.inl (Or.inl (Or.inl (Or.inl (Or.inl (Or.inl (Or.inl (Or.inl (Or.inl (Or.inl (Or.inl (Or.inl (Or.inl (Or.inl (Or.inl (Or.inl hlv))))))))))))))))))))))) (fs := [.ref q1, .ref q4, .ref q7, .ref q10, .ref q13, .int 0, .ref q16, .ref q19, .ref q22, .ref q25, .ref q28, .ref q31, .ref q34, .ref q37, .ref q40, .ref q43, .ref q46, .ref q49, .ref q52, .int 0, .ref q55, .ref q58, .ref q61, .ref q64, .ref q67, .int 0, .int 0, .int 0, .int 0, .int 0]) rfl rfl 25 (by decide) (hts (.fieldLink RX5 80 "SelectoRouteModel" "z" "I") (by decide +kernel)) (fun _ h => h) rfl (ty := .int) (by decide +kernel) rfl rfl (Nat.le_of_ble_eq_true rfl) dX5_init_179 (fun H locs hH hS => ?_)
  refine lv_aload_n hx hb dX5_init_182 rfl (lv_at hl 0 rfl) ?_
  refine lv_sipush (v := 600) hx hb dX5_init_183 (by decide) ?_
  refine wr_put (T := TX5) (N := 30) (ci := 7) (v := .int 600) (t := 10) hx hb hts hinX5 tyX5 tyX5_ok nmX5 hown hK hH hS (Or.inl (Or.inl (Or.inl (Or.inl (Or.inl (Or.inl (Or.inl (Or.inl (Or.inl (Or.inl (Or.inl (Or.inl (Or.inl (Or.inl (Or.inl (Or.inl (Or.inl (Or.inl (Or.inl (Or.inl (Or.inl (Or.inl (Or.inl hlv))))))))))))))))))))))) (fs := [.ref q1, .ref q4, .ref q7, .ref q10, .ref q13, .int 0, .ref q16, .ref q19, .ref q22, .ref q25, .ref q28, .ref q31, .ref q34, .ref q37, .ref q40, .ref q43, .ref q46, .ref q49, .ref q52, .int 0, .ref q55, .ref q58, .ref q61, .ref q64, .ref q67, .int 1, .int 0, .int 0, .int 0, .int 0]) rfl rfl 27 (by decide) (hts (.fieldLink RX5 84 "SelectoRouteModel" "minutes" "I") (by decide +kernel)) (fun _ h => h) rfl (ty := .int) (by decide +kernel) rfl rfl (Nat.le_of_ble_eq_true rfl) dX5_init_186 (fun H locs hH hS => ?_)
  refine W.widen (k := 23) (n := 800) (by omega) (by omega) ?_
  have hfin : ∃ g9 : Nat → Nat, (∀ t9, t9 < 11 ∨ 33 < t9 → g9 t9 = g t9) ∧ wH E.1 E.2.2 g9 (fun t9 => live t9 ∨ (11 ≤ t9 ∧ t9 < 34)) (fun t9 => if 10 ≤ t9 ∧ t9 < 40 then cMd E.2.1 g9 y0 t9 else F t9) H := by
    refine ⟨_, ?_, wH_fin hH ?_⟩
    · intro t9 h9
      have n11 : ¬ t9 = 11 := by omega
      have n12 : ¬ t9 = 12 := by omega
      have n13 : ¬ t9 = 13 := by omega
      have n14 : ¬ t9 = 14 := by omega
      have n15 : ¬ t9 = 15 := by omega
      have n16 : ¬ t9 = 16 := by omega
      have n17 : ¬ t9 = 17 := by omega
      have n18 : ¬ t9 = 18 := by omega
      have n19 : ¬ t9 = 19 := by omega
      have n20 : ¬ t9 = 20 := by omega
      have n21 : ¬ t9 = 21 := by omega
      have n22 : ¬ t9 = 22 := by omega
      have n23 : ¬ t9 = 23 := by omega
      have n24 : ¬ t9 = 24 := by omega
      have n25 : ¬ t9 = 25 := by omega
      have n26 : ¬ t9 = 26 := by omega
      have n27 : ¬ t9 = 27 := by omega
      have n28 : ¬ t9 = 28 := by omega
      have n29 : ¬ t9 = 29 := by omega
      have n30 : ¬ t9 = 30 := by omega
      have n31 : ¬ t9 = 31 := by omega
      have n32 : ¬ t9 = 32 := by omega
      have n33 : ¬ t9 = 33 := by omega
      simp only [va_up, n11, n12, n13, n14, n15, n16, n17, n18, n19, n20, n21, n22, n23, n24, n25, n26, n27, n28, n29, n30, n31, n32, n33, ↓reduceIte]
    · intro t9 h9
      rcases h9 with h9 | h9
      · have hu : t9 ≤ 10 := Nat.not_lt.mp (fun q => hnl t9 q h9)
        by_cases e9 : t9 = 10
        · subst e9
          exact ⟨(Or.inl (Or.inl (Or.inl (Or.inl (Or.inl (Or.inl (Or.inl (Or.inl (Or.inl (Or.inl (Or.inl (Or.inl (Or.inl (Or.inl (Or.inl (Or.inl (Or.inl (Or.inl (Or.inl (Or.inl (Or.inl (Or.inl (Or.inl h9))))))))))))))))))))))), Or.inl rfl⟩
        · refine ⟨(Or.inl (Or.inl (Or.inl (Or.inl (Or.inl (Or.inl (Or.inl (Or.inl (Or.inl (Or.inl (Or.inl (Or.inl (Or.inl (Or.inl (Or.inl (Or.inl (Or.inl (Or.inl (Or.inl (Or.inl (Or.inl (Or.inl (Or.inl h9))))))))))))))))))))))), Or.inl ?_⟩
          have n10 : ¬ t9 = 10 := by omega
          have n11 : ¬ t9 = 11 := by omega
          have n12 : ¬ t9 = 12 := by omega
          have n13 : ¬ t9 = 13 := by omega
          have n14 : ¬ t9 = 14 := by omega
          have n15 : ¬ t9 = 15 := by omega
          have n16 : ¬ t9 = 16 := by omega
          have n17 : ¬ t9 = 17 := by omega
          have n18 : ¬ t9 = 18 := by omega
          have n19 : ¬ t9 = 19 := by omega
          have n20 : ¬ t9 = 20 := by omega
          have n21 : ¬ t9 = 21 := by omega
          have n22 : ¬ t9 = 22 := by omega
          have n23 : ¬ t9 = 23 := by omega
          have n24 : ¬ t9 = 24 := by omega
          have n25 : ¬ t9 = 25 := by omega
          have n26 : ¬ t9 = 26 := by omega
          have n27 : ¬ t9 = 27 := by omega
          have n28 : ¬ t9 = 28 := by omega
          have n29 : ¬ t9 = 29 := by omega
          have n30 : ¬ t9 = 30 := by omega
          have n31 : ¬ t9 = 31 := by omega
          have n32 : ¬ t9 = 32 := by omega
          have n33 : ¬ t9 = 33 := by omega
          have nr : ¬ (10 ≤ t9 ∧ t9 < 40) := by omega
          simp only [va_up, nr, n10, n11, n12, n13, n14, n15, n16, n17, n18, n19, n20, n21, n22, n23, n24, n25, n26, n27, n28, n29, n30, n31, n32, n33, ↓reduceIte]
      · have c9 : t9 = 11 ∨ t9 = 12 ∨ t9 = 13 ∨ t9 = 14 ∨ t9 = 15 ∨ t9 = 16 ∨ t9 = 17 ∨ t9 = 18 ∨ t9 = 19 ∨ t9 = 20 ∨ t9 = 21 ∨ t9 = 22 ∨ t9 = 23 ∨ t9 = 24 ∨ t9 = 25 ∨ t9 = 26 ∨ t9 = 27 ∨ t9 = 28 ∨ t9 = 29 ∨ t9 = 30 ∨ t9 = 31 ∨ t9 = 32 ∨ t9 = 33 := by omega
        rcases c9 with rfl | rfl | rfl | rfl | rfl | rfl | rfl | rfl | rfl | rfl | rfl | rfl | rfl | rfl | rfl | rfl | rfl | rfl | rfl | rfl | rfl | rfl | rfl
        · exact ⟨(Or.inl (Or.inl (Or.inl (Or.inl (Or.inl (Or.inl (Or.inl (Or.inl (Or.inl (Or.inl (Or.inl (Or.inl (Or.inl (Or.inl (Or.inl (Or.inl (Or.inl (Or.inl (Or.inl (Or.inl (Or.inl (Or.inl (Or.inr rfl))))))))))))))))))))))), Or.inl rfl⟩
        · exact ⟨(Or.inl (Or.inl (Or.inl (Or.inl (Or.inl (Or.inl (Or.inl (Or.inl (Or.inl (Or.inl (Or.inl (Or.inl (Or.inl (Or.inl (Or.inl (Or.inl (Or.inl (Or.inl (Or.inl (Or.inl (Or.inl (Or.inr rfl)))))))))))))))))))))), Or.inl rfl⟩
        · exact ⟨(Or.inl (Or.inl (Or.inl (Or.inl (Or.inl (Or.inl (Or.inl (Or.inl (Or.inl (Or.inl (Or.inl (Or.inl (Or.inl (Or.inl (Or.inl (Or.inl (Or.inl (Or.inl (Or.inl (Or.inl (Or.inr rfl))))))))))))))))))))), Or.inl rfl⟩
        · exact ⟨(Or.inl (Or.inl (Or.inl (Or.inl (Or.inl (Or.inl (Or.inl (Or.inl (Or.inl (Or.inl (Or.inl (Or.inl (Or.inl (Or.inl (Or.inl (Or.inl (Or.inl (Or.inl (Or.inl (Or.inr rfl)))))))))))))))))))), Or.inl rfl⟩
        · exact ⟨(Or.inl (Or.inl (Or.inl (Or.inl (Or.inl (Or.inl (Or.inl (Or.inl (Or.inl (Or.inl (Or.inl (Or.inl (Or.inl (Or.inl (Or.inl (Or.inl (Or.inl (Or.inl (Or.inr rfl))))))))))))))))))), Or.inl (by show (Sum.inl (E.2.1.1 0, 30, Sum.inl (fun i => nI (y0.1 8 i) - 2)) : va_E) = Sum.inl (E.2.1.1 0, 30, Sum.inl (fun _ => 0)); rw [show (fun i => nI (y0.1 8 i) - 2) = (fun _ => (0 : Int32)) from funext (fun i => by show nI 2 - 2 = (0 : Int32); decide)])⟩
        · exact ⟨(Or.inl (Or.inl (Or.inl (Or.inl (Or.inl (Or.inl (Or.inl (Or.inl (Or.inl (Or.inl (Or.inl (Or.inl (Or.inl (Or.inl (Or.inl (Or.inl (Or.inl (Or.inr rfl)))))))))))))))))), Or.inl rfl⟩
        · exact ⟨(Or.inl (Or.inl (Or.inl (Or.inl (Or.inl (Or.inl (Or.inl (Or.inl (Or.inl (Or.inl (Or.inl (Or.inl (Or.inl (Or.inl (Or.inl (Or.inl (Or.inr rfl))))))))))))))))), Or.inl rfl⟩
        · exact ⟨(Or.inl (Or.inl (Or.inl (Or.inl (Or.inl (Or.inl (Or.inl (Or.inl (Or.inl (Or.inl (Or.inl (Or.inl (Or.inl (Or.inl (Or.inl (Or.inr rfl)))))))))))))))), Or.inl rfl⟩
        · exact ⟨(Or.inl (Or.inl (Or.inl (Or.inl (Or.inl (Or.inl (Or.inl (Or.inl (Or.inl (Or.inl (Or.inl (Or.inl (Or.inl (Or.inl (Or.inr rfl))))))))))))))), Or.inl rfl⟩
        · exact ⟨(Or.inl (Or.inl (Or.inl (Or.inl (Or.inl (Or.inl (Or.inl (Or.inl (Or.inl (Or.inl (Or.inl (Or.inl (Or.inl (Or.inr rfl)))))))))))))), Or.inl rfl⟩
        · exact ⟨(Or.inl (Or.inl (Or.inl (Or.inl (Or.inl (Or.inl (Or.inl (Or.inl (Or.inl (Or.inl (Or.inl (Or.inl (Or.inr rfl))))))))))))), Or.inl rfl⟩
        · exact ⟨(Or.inl (Or.inl (Or.inl (Or.inl (Or.inl (Or.inl (Or.inl (Or.inl (Or.inl (Or.inl (Or.inl (Or.inr rfl)))))))))))), Or.inl rfl⟩
        · exact ⟨(Or.inl (Or.inl (Or.inl (Or.inl (Or.inl (Or.inl (Or.inl (Or.inl (Or.inl (Or.inl (Or.inr rfl))))))))))), Or.inl rfl⟩
        · exact ⟨(Or.inl (Or.inl (Or.inl (Or.inl (Or.inl (Or.inl (Or.inl (Or.inl (Or.inl (Or.inr rfl)))))))))), Or.inl rfl⟩
        · exact ⟨(Or.inl (Or.inl (Or.inl (Or.inl (Or.inl (Or.inl (Or.inl (Or.inl (Or.inr rfl))))))))), Or.inl rfl⟩
        · exact ⟨(Or.inl (Or.inl (Or.inl (Or.inl (Or.inl (Or.inl (Or.inl (Or.inr rfl)))))))), Or.inl rfl⟩
        · exact ⟨(Or.inl (Or.inl (Or.inl (Or.inl (Or.inl (Or.inl (Or.inr rfl))))))), Or.inl rfl⟩
        · exact ⟨(Or.inl (Or.inl (Or.inl (Or.inl (Or.inl (Or.inr rfl)))))), Or.inl rfl⟩
        · exact ⟨(Or.inl (Or.inl (Or.inl (Or.inl (Or.inr rfl))))), Or.inl rfl⟩
        · exact ⟨(Or.inl (Or.inl (Or.inl (Or.inr rfl)))), Or.inl rfl⟩
        · exact ⟨(Or.inl (Or.inl (Or.inr rfl))), Or.inl rfl⟩
        · exact ⟨(Or.inl (Or.inr rfl)), Or.inl rfl⟩
        · exact ⟨(Or.inr rfl), Or.inl rfl⟩
  exact W.vret hx hb hr (fun t ht hW => ⟨⟨(), rfl, trivial, by obtain ⟨g9, a9, b9⟩ := hfin; exact ⟨g9, a9, wG_t ht b9⟩⟩, hS.F ht⟩) hS.2.2 dX5_init_189
