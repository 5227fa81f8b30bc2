set_option maxHeartbeats 4000000 in
theorem cpt_getQueued (x : St) (b : Int32) (X : String) : (cp_getQueued x b).1 = some X → (X = "java/lang/IndexOutOfBoundsException") ∧ (cp_getQueued x b).2.2 = x := by
  unfold cp_getQueued
  repeat' split
  all_goals intro h
  all_goals first | (exfalso; revert h; simp; done) | (have h2 := Option.some.inj h; subst h2; exact ⟨by decide, rfl⟩)
set_option maxHeartbeats 4000000 in
set_option maxRecDepth 100000 in
theorem met_L_getQueued (l : Launch) (E : wE) (o : wO) (g : Nat → Nat) (x y : St) (b : Int32) (hlt : l.stackTraces = false) (hI : CI x) : Met l yL_getQueued wsL_getQueued ({ frames := 11, cells := 4, slots := 24, locals := 1200 } : Room) (va_Pc [.ref (g 0), .int b, .ref (g 40)] (wPreL E o g x y)) (va_Qi (fun (r : Int32) (u : wO × (Nat → Nat)) => lRes ["java/lang/IndexOutOfBoundsException"] r (u.1.1 0) (cp_getQueued x b)) (fun (u : wO × (Nat → Nat)) t => gE g u.2 ∧ wHS E u.1 u.2 (cp_getQueued x b).2.2 y t.heap) (wA E)) 4 24 (wA E) := by
  refine va_MetW (cc := cL_getQueued) (maxL := 4) (ret := (some .int)) (by decide) rfl ?_
  intro p e s m args below meth c s₁ B hml hv
  obtain ⟨rfl, ⟨⟨⟨hz, hH, hK⟩, hC⟩, hDD⟩, hNc⟩ := hv
  have hx := B.exec
  have hb := B.bytes
  have hr := B.returns
  have hts := atoms_spec (ws := wsL_getQueued) B.pre
  have hown : s.vm.findClass RL = some m.cls := findClass_of_methodNamed B.named
  have hlocks := B.notSynchronized
  have htab : c.exceptionTable.toList = tableOf [(0, 9, 12, 24)] := vx_table (x := yL_getQueued) B (hts _ List.mem_cons_self)
  have hS : va_S (wA E) s.heap s.heap [] := va_S.rf
  have hl := lv_entry ([.ref (g 0), .int b, .ref (g 40)]) (n := 4) (Nat.le_of_ble_eq_true rfl)
  rw [lg_entry_eq]
  generalize (lg_sl ([.ref (g 0), .int b, .ref (g 40)]) ++ List.replicate (4 - (lg_sl ([.ref (g 0), .int b, .ref (g 40)])).length) Slot.unset).toArray = ls at hl ⊢
  have hl : lv_has ls 4 [(0, .ref (g 0)), (1, .int b), (2, .ref (g 40))] := hl
  obtain ⟨H, eH⟩ : ∃ z, z = s.heap := ⟨_, rfl⟩
  have hH : wHS E o g x y H := by rw [eH]; exact hH
  have hS : va_S (wA E) s.heap H [] := by rw [eH]; exact hS
  refine W.heapTo eH ?_
  refine lv_aload_n hx hb dL_getQueued_0 rfl (lv_at hl 2 rfl) ?_
  refine lv_iconst (v := 0) hx hb dL_getQueued_1 (by decide) ?_
  refine lv_aload_n hx hb dL_getQueued_2 rfl (lv_at hl 0 rfl) ?_
  refine lv_iload_n hx hb dL_getQueued_3 rfl (lv_at hl 1 rfl) ?_
  refine vx_calli (vx_runV (As := [.int b]) (rest := [.int 0, .ref (g 40)]) ⟨hx, hb, hml, hown, hts⟩ (met_X4_getQueued l E o g x y b hlt hI) (cwV 1 hts gL_getQueued_X4_getQueued rfl rfl rfl (by decide +kernel) ⟨Nat.le_of_ble_eq_true rfl, Nat.le_of_ble_eq_true rfl⟩) ⟨fun a U f mk q => ⟨q.1, wPreX.calling q.2 a f mk⟩, (va_recv hK (wH_one hH lv_r0 (cel_rt (by omega))) (ci := 6) (q0 := 0) rfl rfl), fun U hU hW => ⟨rfl, wPreX_at hz hS hH hK hC U hU hW⟩⟩ rfl rfl hl.1 rfl (lv_room (Nat.le_of_ble_eq_true rfl)) dL_getQueued_4 ⟨by exact Nat.le_of_ble_eq_true rfl, by exact Nat.le_of_ble_eq_true rfl⟩) hS (fun q _ h => h) (fun q h => h) (fun q _ h => h) (fun E9 ce q9 u t H locs ht hvm hw hB hz1 hk1 hS hce hcv hcl => ?_) (fun r u t H locs ht hvm hw hB hz1 hk1 hS => ?_)
  · obtain ⟨hK9, hB⟩ := hB
    have hH := wHS_h ht hB
    have hm := cpt_getQueued x b E9 hK9
    obtain ⟨hm1, hm2⟩ := hm
    subst hm1
    · refine vx_catch (name := "java/lang/IndexOutOfBoundsException") hown (tableOf []) ⟨0, 9, 12, 24⟩ (tableOf []) htab (fun z hz => nomatch hz) rfl (by decide) (hts (.classLink RL 24 "java/lang/IndexOutOfBoundsException") (by decide +kernel)) (va_Nw.use rfl (hC.2.2.2.1 ("java/lang/IndexOutOfBoundsException", "java/lang/IndexOutOfBoundsException") (by decide +kernel))) hce hcv hcl ?_
      refine lv_astore_n (lv' := [(3, .ref q9), (0, .ref (g 0)), (1, .int b), (2, .ref (g 40))]) hx hb dL_getQueued_12 rfl hl (by decide) rfl (fun ls hl => ?_)
      refine lv_iconst (v := 1) hx hb dL_getQueued_13 (by decide) ?_
      refine W.widen (k := 4) (n := 24) (by omega) (by omega) ?_
      exact W.iret (v := 1) hx hb hr (fun t ht hW => ⟨⟨1, (o, g), rfl, ⟨fun h => absurd (h.symm.trans hK9) (by simp), fun X hX => by rw [← Option.some.inj (hK9.symm.trans hX)]; decide +kernel⟩, gE.rf g, by rw [hm2]; exact wHS_t ht hH⟩, hS.F ht⟩) hS.2.2 dL_getQueued_14
  · obtain ⟨hnone, rfl⟩ := hw
    have hH := wHS_h ht hB
    refine lv_i2l hx hb dL_getQueued_7 rfl ?_
    refine wr_last (t := 40) hx hb hK hH hS lv_o1 rfl 4 rfl (by unfold vp_in; decide) dL_getQueued_8 (fun H locs hH hS => ?_)
    have hH := po_l hH
    refine lv_goto (tgt := 15) hx hb dL_getQueued_9 (by decide) ?_
    refine lv_iconst (v := 0) hx hb dL_getQueued_15 (by decide) ?_
    refine W.widen (k := 4) (n := 24) (by omega) (by omega) ?_
    exact W.iret (v := 0) hx hb hr (fun t ht hW => ⟨⟨0, ((vp_updL o.1 (0 : Int32).toNatClampNeg (((cp_getQueued x b).2.1).toInt64), o.2), g), rfl, ⟨fun _ => ⟨rfl, by show vp_updL o.1 (0 : Int32).toNatClampNeg (((cp_getQueued x b).2.1).toInt64) 0 = _; rw [show (0 : Int32).toNatClampNeg = 0 from rfl]; simp [vp_updL]⟩, fun X hX => by rw [hnone] at hX; cases hX⟩, (gE.rf g), wHS_t ht hH⟩, hS.F ht⟩) hS.2.2 dL_getQueued_16
set_option maxHeartbeats 4000000 in
theorem cpt_getCents (x : St) (b : Int32) (X : String) : (cp_getCents x b).1 = some X → (X = "java/lang/IndexOutOfBoundsException") ∧ (cp_getCents x b).2.2 = x := by
  unfold cp_getCents
  repeat' split
  all_goals intro h
  all_goals first | (exfalso; revert h; simp; done) | (have h2 := Option.some.inj h; subst h2; exact ⟨by decide, rfl⟩)
set_option maxHeartbeats 4000000 in
set_option maxRecDepth 100000 in
theorem met_L_getCents (l : Launch) (E : wE) (o : wO) (g : Nat → Nat) (x y : St) (b : Int32) (hlt : l.stackTraces = false) (hI : CI x) : Met l yL_getCents wsL_getCents ({ frames := 11, cells := 4, slots := 24, locals := 1200 } : Room) (va_Pc [.ref (g 0), .int b, .ref (g 40)] (wPreL E o g x y)) (va_Qi (fun (r : Int32) (u : wO × (Nat → Nat)) => lRes ["java/lang/IndexOutOfBoundsException"] r (u.1.1 0) (cp_getCents x b)) (fun (u : wO × (Nat → Nat)) t => gE g u.2 ∧ wHS E u.1 u.2 (cp_getCents x b).2.2 y t.heap) (wA E)) 4 24 (wA E) := by
  refine va_MetW (cc := cL_getCents) (maxL := 4) (ret := (some .int)) (by decide) rfl ?_
  intro p e s m args below meth c s₁ B hml hv
  obtain ⟨rfl, ⟨⟨⟨hz, hH, hK⟩, hC⟩, hDD⟩, hNc⟩ := hv
  have hx := B.exec
  have hb := B.bytes
  have hr := B.returns
  have hts := atoms_spec (ws := wsL_getCents) B.pre
  have hown : s.vm.findClass RL = some m.cls := findClass_of_methodNamed B.named
  have hlocks := B.notSynchronized
  have htab : c.exceptionTable.toList = tableOf [(0, 9, 12, 24)] := vx_table (x := yL_getCents) B (hts _ List.mem_cons_self)
  have hS : va_S (wA E) s.heap s.heap [] := va_S.rf
  have hl := lv_entry ([.ref (g 0), .int b, .ref (g 40)]) (n := 4) (Nat.le_of_ble_eq_true rfl)
  rw [lg_entry_eq]
  generalize (lg_sl ([.ref (g 0), .int b, .ref (g 40)]) ++ List.replicate (4 - (lg_sl ([.ref (g 0), .int b, .ref (g 40)])).length) Slot.unset).toArray = ls at hl ⊢
  have hl : lv_has ls 4 [(0, .ref (g 0)), (1, .int b), (2, .ref (g 40))] := hl
  obtain ⟨H, eH⟩ : ∃ z, z = s.heap := ⟨_, rfl⟩
  have hH : wHS E o g x y H := by rw [eH]; exact hH
  have hS : va_S (wA E) s.heap H [] := by rw [eH]; exact hS
  refine W.heapTo eH ?_
  refine lv_aload_n hx hb dL_getCents_0 rfl (lv_at hl 2 rfl) ?_
  refine lv_iconst (v := 0) hx hb dL_getCents_1 (by decide) ?_
  refine lv_aload_n hx hb dL_getCents_2 rfl (lv_at hl 0 rfl) ?_
  refine lv_iload_n hx hb dL_getCents_3 rfl (lv_at hl 1 rfl) ?_
  refine vx_calli (vx_runV (As := [.int b]) (rest := [.int 0, .ref (g 40)]) ⟨hx, hb, hml, hown, hts⟩ (met_X4_getCents l E o g x y b hlt hI) (cwV 1 hts gL_getCents_X4_getCents rfl rfl rfl (by decide +kernel) ⟨Nat.le_of_ble_eq_true rfl, Nat.le_of_ble_eq_true rfl⟩) ⟨fun a U f mk q => ⟨q.1, wPreX.calling q.2 a f mk⟩, (va_recv hK (wH_one hH lv_r0 (cel_rt (by omega))) (ci := 6) (q0 := 0) rfl rfl), fun U hU hW => ⟨rfl, wPreX_at hz hS hH hK hC U hU hW⟩⟩ rfl rfl hl.1 rfl (lv_room (Nat.le_of_ble_eq_true rfl)) dL_getCents_4 ⟨by exact Nat.le_of_ble_eq_true rfl, by exact Nat.le_of_ble_eq_true rfl⟩) hS (fun q _ h => h) (fun q h => h) (fun q _ h => h) (fun E9 ce q9 u t H locs ht hvm hw hB hz1 hk1 hS hce hcv hcl => ?_) (fun r u t H locs ht hvm hw hB hz1 hk1 hS => ?_)
  · obtain ⟨hK9, hB⟩ := hB
    have hH := wHS_h ht hB
    have hm := cpt_getCents x b E9 hK9
    obtain ⟨hm1, hm2⟩ := hm
    subst hm1
    · refine vx_catch (name := "java/lang/IndexOutOfBoundsException") hown (tableOf []) ⟨0, 9, 12, 24⟩ (tableOf []) htab (fun z hz => nomatch hz) rfl (by decide) (hts (.classLink RL 24 "java/lang/IndexOutOfBoundsException") (by decide +kernel)) (va_Nw.use rfl (hC.2.2.2.1 ("java/lang/IndexOutOfBoundsException", "java/lang/IndexOutOfBoundsException") (by decide +kernel))) hce hcv hcl ?_
      refine lv_astore_n (lv' := [(3, .ref q9), (0, .ref (g 0)), (1, .int b), (2, .ref (g 40))]) hx hb dL_getCents_12 rfl hl (by decide) rfl (fun ls hl => ?_)
      refine lv_iconst (v := 1) hx hb dL_getCents_13 (by decide) ?_
      refine W.widen (k := 4) (n := 24) (by omega) (by omega) ?_
      exact W.iret (v := 1) hx hb hr (fun t ht hW => ⟨⟨1, (o, g), rfl, ⟨fun h => absurd (h.symm.trans hK9) (by simp), fun X hX => by rw [← Option.some.inj (hK9.symm.trans hX)]; decide +kernel⟩, gE.rf g, by rw [hm2]; exact wHS_t ht hH⟩, hS.F ht⟩) hS.2.2 dL_getCents_14
  · obtain ⟨hnone, rfl⟩ := hw
    have hH := wHS_h ht hB
    refine lv_i2l hx hb dL_getCents_7 rfl ?_
    refine wr_last (t := 40) hx hb hK hH hS lv_o1 rfl 4 rfl (by unfold vp_in; decide) dL_getCents_8 (fun H locs hH hS => ?_)
    have hH := po_l hH
    refine lv_goto (tgt := 15) hx hb dL_getCents_9 (by decide) ?_
    refine lv_iconst (v := 0) hx hb dL_getCents_15 (by decide) ?_
    refine W.widen (k := 4) (n := 24) (by omega) (by omega) ?_
    exact W.iret (v := 0) hx hb hr (fun t ht hW => ⟨⟨0, ((vp_updL o.1 (0 : Int32).toNatClampNeg (((cp_getCents x b).2.1).toInt64), o.2), g), rfl, ⟨fun _ => ⟨rfl, by show vp_updL o.1 (0 : Int32).toNatClampNeg (((cp_getCents x b).2.1).toInt64) 0 = _; rw [show (0 : Int32).toNatClampNeg = 0 from rfl]; simp [vp_updL]⟩, fun X hX => by rw [hnone] at hX; cases hX⟩, (gE.rf g), wHS_t ht hH⟩, hS.F ht⟩) hS.2.2 dL_getCents_16
set_option maxHeartbeats 4000000 in
theorem cpt_isJammed (x : St) (b : Int32) (X : String) : (cp_isJammed x b).1 = some X → (X = "java/lang/IndexOutOfBoundsException") ∧ (cp_isJammed x b).2.2 = x := by
  unfold cp_isJammed
  repeat' split
  all_goals intro h
  all_goals first | (exfalso; revert h; simp; done) | (have h2 := Option.some.inj h; subst h2; exact ⟨by decide, rfl⟩)
set_option maxHeartbeats 4000000 in
set_option maxRecDepth 100000 in
theorem met_L_isJammed (l : Launch) (E : wE) (o : wO) (g : Nat → Nat) (x y : St) (b : Int32) (hlt : l.stackTraces = false) (hI : CI x) : Met l yL_isJammed wsL_isJammed ({ frames := 11, cells := 4, slots := 24, locals := 1200 } : Room) (va_Pc [.ref (g 0), .int b, .ref (g 40)] (wPreL E o g x y)) (va_Qi (fun (r : Int32) (u : wO × (Nat → Nat)) => lResZ ["java/lang/IndexOutOfBoundsException"] r (u.1.1 0) (cp_isJammed x b)) (fun (u : wO × (Nat → Nat)) t => gE g u.2 ∧ wHS E u.1 u.2 (cp_isJammed x b).2.2 y t.heap) (wA E)) 4 24 (wA E) := by
  refine va_MetW (cc := cL_isJammed) (maxL := 4) (ret := (some .int)) (by decide) rfl ?_
  intro p e s m args below meth c s₁ B hml hv
  obtain ⟨rfl, ⟨⟨⟨hz, hH, hK⟩, hC⟩, hDD⟩, hNc⟩ := hv
  have hx := B.exec
  have hb := B.bytes
  have hr := B.returns
  have hts := atoms_spec (ws := wsL_isJammed) B.pre
  have hown : s.vm.findClass RL = some m.cls := findClass_of_methodNamed B.named
  have hlocks := B.notSynchronized
  have htab : c.exceptionTable.toList = tableOf [(0, 16, 19, 24)] := vx_table (x := yL_isJammed) B (hts _ List.mem_cons_self)
  have hS : va_S (wA E) s.heap s.heap [] := va_S.rf
  have hl := lv_entry ([.ref (g 0), .int b, .ref (g 40)]) (n := 4) (Nat.le_of_ble_eq_true rfl)
  rw [lg_entry_eq]
  generalize (lg_sl ([.ref (g 0), .int b, .ref (g 40)]) ++ List.replicate (4 - (lg_sl ([.ref (g 0), .int b, .ref (g 40)])).length) Slot.unset).toArray = ls at hl ⊢
  have hl : lv_has ls 4 [(0, .ref (g 0)), (1, .int b), (2, .ref (g 40))] := hl
  obtain ⟨H, eH⟩ : ∃ z, z = s.heap := ⟨_, rfl⟩
  have hH : wHS E o g x y H := by rw [eH]; exact hH
  have hS : va_S (wA E) s.heap H [] := by rw [eH]; exact hS
  refine W.heapTo eH ?_
  refine lv_aload_n hx hb dL_isJammed_0 rfl (lv_at hl 2 rfl) ?_
  refine lv_iconst (v := 0) hx hb dL_isJammed_1 (by decide) ?_
  refine lv_aload_n hx hb dL_isJammed_2 rfl (lv_at hl 0 rfl) ?_
  refine lv_iload_n hx hb dL_isJammed_3 rfl (lv_at hl 1 rfl) ?_
  refine vx_calli (vx_runV (As := [.int b]) (rest := [.int 0, .ref (g 40)]) ⟨hx, hb, hml, hown, hts⟩ (met_X4_isJammed l E o g x y b hlt hI) (cwV 1 hts gL_isJammed_X4_isJammed rfl rfl rfl (by decide +kernel) ⟨Nat.le_of_ble_eq_true rfl, Nat.le_of_ble_eq_true rfl⟩) ⟨fun a U f mk q => ⟨q.1, wPreX.calling q.2 a f mk⟩, (va_recv hK (wH_one hH lv_r0 (cel_rt (by omega))) (ci := 6) (q0 := 0) rfl rfl), fun U hU hW => ⟨rfl, wPreX_at hz hS hH hK hC U hU hW⟩⟩ rfl rfl hl.1 rfl (lv_room (Nat.le_of_ble_eq_true rfl)) dL_isJammed_4 ⟨by exact Nat.le_of_ble_eq_true rfl, by exact Nat.le_of_ble_eq_true rfl⟩) hS (fun q _ h => h) (fun q h => h) (fun q _ h => h) (fun E9 ce q9 u t H locs ht hvm hw hB hz1 hk1 hS hce hcv hcl => ?_) (fun r u t H locs ht hvm hw hB hz1 hk1 hS => ?_)
  · obtain ⟨hK9, hB⟩ := hB
    have hH := wHS_h ht hB
    have hm := cpt_isJammed x b E9 hK9
    obtain ⟨hm1, hm2⟩ := hm
    subst hm1
    · refine vx_catch (name := "java/lang/IndexOutOfBoundsException") hown (tableOf []) ⟨0, 16, 19, 24⟩ (tableOf []) htab (fun z hz => nomatch hz) rfl (by decide) (hts (.classLink RL 24 "java/lang/IndexOutOfBoundsException") (by decide +kernel)) (va_Nw.use rfl (hC.2.2.2.1 ("java/lang/IndexOutOfBoundsException", "java/lang/IndexOutOfBoundsException") (by decide +kernel))) hce hcv hcl ?_
      refine lv_astore_n (lv' := [(3, .ref q9), (0, .ref (g 0)), (1, .int b), (2, .ref (g 40))]) hx hb dL_isJammed_19 rfl hl (by decide) rfl (fun ls hl => ?_)
      refine lv_iconst (v := 1) hx hb dL_isJammed_20 (by decide) ?_
      refine W.widen (k := 4) (n := 24) (by omega) (by omega) ?_
      exact W.iret (v := 1) hx hb hr (fun t ht hW => ⟨⟨1, (o, g), rfl, ⟨fun h => absurd (h.symm.trans hK9) (by simp), fun X hX => by rw [← Option.some.inj (hK9.symm.trans hX)]; decide +kernel⟩, gE.rf g, by rw [hm2]; exact wHS_t ht hH⟩, hS.F ht⟩) hS.2.2 dL_isJammed_21
  · obtain ⟨hnone, rfl⟩ := hw
    have hH := wHS_h ht hB
    refine lv_if_eq (tgt := 14) hx hb dL_isJammed_7 (by decide) (fun c1 => ?_) (fun c1 => ?_)
    · skip
      refine lv_lconst (v := 0) hx hb dL_isJammed_14 (by decide) ?_
      refine wr_last (t := 40) hx hb hK hH hS lv_o1 rfl 4 rfl (by unfold vp_in; decide) dL_isJammed_15 (fun H locs hH hS => ?_)
      have hH := po_l hH
      refine lv_goto (tgt := 22) hx hb dL_isJammed_16 (by decide) ?_
      refine lv_iconst (v := 0) hx hb dL_isJammed_22 (by decide) ?_
      refine W.widen (k := 4) (n := 24) (by omega) (by omega) ?_
      exact W.iret (v := 0) hx hb hr (fun t ht hW => ⟨⟨0, ((vp_updL o.1 (0 : Int32).toNatClampNeg 0, o.2), g), rfl, ⟨fun _ => ⟨rfl, by show vp_updL o.1 (0 : Int32).toNatClampNeg 0 0 = _; rw [show (0 : Int32).toNatClampNeg = 0 from rfl]; simp [vp_updL, c1]⟩, fun X hX => by rw [hnone] at hX; cases hX⟩, (gE.rf g), wHS_t ht hH⟩, hS.F ht⟩) hS.2.2 dL_isJammed_23
    · skip
      refine lv_lconst (v := 1) hx hb dL_isJammed_10 (by decide) ?_
      refine lv_goto (tgt := 15) hx hb dL_isJammed_11 (by decide) ?_
      refine wr_last (t := 40) hx hb hK hH hS lv_o1 rfl 4 rfl (by unfold vp_in; decide) dL_isJammed_15 (fun H locs hH hS => ?_)
      have hH := po_l hH
      refine lv_goto (tgt := 22) hx hb dL_isJammed_16 (by decide) ?_
      refine lv_iconst (v := 0) hx hb dL_isJammed_22 (by decide) ?_
      refine W.widen (k := 4) (n := 24) (by omega) (by omega) ?_
      exact W.iret (v := 0) hx hb hr (fun t ht hW => ⟨⟨0, ((vp_updL o.1 (0 : Int32).toNatClampNeg 1, o.2), g), rfl, ⟨fun _ => ⟨rfl, by show vp_updL o.1 (0 : Int32).toNatClampNeg 1 0 = _; rw [show (0 : Int32).toNatClampNeg = 0 from rfl]; simp [vp_updL, c1]⟩, fun X hX => by rw [hnone] at hX; cases hX⟩, (gE.rf g), wHS_t ht hH⟩, hS.F ht⟩) hS.2.2 dL_isJammed_23
set_option maxHeartbeats 4000000 in
theorem cpt_getWheel (x : St) (b : Int32) (k : Int32) (X : String) : (cp_getWheel x b k).1 = some X → (X = "java/lang/IndexOutOfBoundsException") ∧ (cp_getWheel x b k).2.2 = x := by
  unfold cp_getWheel
  repeat' split
  all_goals intro h
  all_goals first | (exfalso; revert h; simp; done) | (have h2 := Option.some.inj h; subst h2; exact ⟨by decide, rfl⟩)
set_option maxHeartbeats 4000000 in
set_option maxRecDepth 100000 in
theorem met_L_getWheel (l : Launch) (E : wE) (o : wO) (g : Nat → Nat) (x y : St) (b : Int32) (k : Int32) (hlt : l.stackTraces = false) (hI : CI x) : Met l yL_getWheel wsL_getWheel ({ frames := 11, cells := 4, slots := 24, locals := 1200 } : Room) (va_Pc [.ref (g 0), .int b, .int k, .ref (g 40)] (wPreL E o g x y)) (va_Qi (fun (r : Int32) (u : wO × (Nat → Nat)) => lRes ["java/lang/IndexOutOfBoundsException"] r (u.1.1 0) (cp_getWheel x b k)) (fun (u : wO × (Nat → Nat)) t => gE g u.2 ∧ wHS E u.1 u.2 (cp_getWheel x b k).2.2 y t.heap) (wA E)) 4 24 (wA E) := by
  refine va_MetW (cc := cL_getWheel) (maxL := 5) (ret := (some .int)) (by decide) rfl ?_
  intro p e s m args below meth c s₁ B hml hv
  obtain ⟨rfl, ⟨⟨⟨hz, hH, hK⟩, hC⟩, hDD⟩, hNc⟩ := hv
  have hx := B.exec
  have hb := B.bytes
  have hr := B.returns
  have hts := atoms_spec (ws := wsL_getWheel) B.pre
  have hown : s.vm.findClass RL = some m.cls := findClass_of_methodNamed B.named
  have hlocks := B.notSynchronized
  have htab : c.exceptionTable.toList = tableOf [(0, 10, 13, 24)] := vx_table (x := yL_getWheel) B (hts _ List.mem_cons_self)
  have hS : va_S (wA E) s.heap s.heap [] := va_S.rf
  have hl := lv_entry ([.ref (g 0), .int b, .int k, .ref (g 40)]) (n := 5) (Nat.le_of_ble_eq_true rfl)
  rw [lg_entry_eq]
  generalize (lg_sl ([.ref (g 0), .int b, .int k, .ref (g 40)]) ++ List.replicate (5 - (lg_sl ([.ref (g 0), .int b, .int k, .ref (g 40)])).length) Slot.unset).toArray = ls at hl ⊢
  have hl : lv_has ls 5 [(0, .ref (g 0)), (1, .int b), (2, .int k), (3, .ref (g 40))] := hl
  obtain ⟨H, eH⟩ : ∃ z, z = s.heap := ⟨_, rfl⟩
  have hH : wHS E o g x y H := by rw [eH]; exact hH
  have hS : va_S (wA E) s.heap H [] := by rw [eH]; exact hS
  refine W.heapTo eH ?_
  refine lv_aload_n hx hb dL_getWheel_0 rfl (lv_at hl 3 rfl) ?_
  refine lv_iconst (v := 0) hx hb dL_getWheel_1 (by decide) ?_
  refine lv_aload_n hx hb dL_getWheel_2 rfl (lv_at hl 0 rfl) ?_
  refine lv_iload_n hx hb dL_getWheel_3 rfl (lv_at hl 1 rfl) ?_
  refine lv_iload_n hx hb dL_getWheel_4 rfl (lv_at hl 2 rfl) ?_
  refine vx_calli (vx_runV (As := [.int b, .int k]) (rest := [.int 0, .ref (g 40)]) ⟨hx, hb, hml, hown, hts⟩ (met_X4_getWheel l E o g x y b k hlt hI) (cwV 2 hts gL_getWheel_X4_getWheel rfl rfl rfl (by decide +kernel) ⟨Nat.le_of_ble_eq_true rfl, Nat.le_of_ble_eq_true rfl⟩) ⟨fun a U f mk q => ⟨q.1, wPreX.calling q.2 a f mk⟩, (va_recv hK (wH_one hH lv_r0 (cel_rt (by omega))) (ci := 6) (q0 := 0) rfl rfl), fun U hU hW => ⟨rfl, wPreX_at hz hS hH hK hC U hU hW⟩⟩ rfl rfl hl.1 rfl (lv_room (Nat.le_of_ble_eq_true rfl)) dL_getWheel_5 ⟨by exact Nat.le_of_ble_eq_true rfl, by exact Nat.le_of_ble_eq_true rfl⟩) hS (fun q _ h => h) (fun q h => h) (fun q _ h => h) (fun E9 ce q9 u t H locs ht hvm hw hB hz1 hk1 hS hce hcv hcl => ?_) (fun r u t H locs ht hvm hw hB hz1 hk1 hS => ?_)
  · obtain ⟨hK9, hB⟩ := hB
    have hH := wHS_h ht hB
    have hm := cpt_getWheel x b k E9 hK9
    obtain ⟨hm1, hm2⟩ := hm
    subst hm1
    · refine vx_catch (name := "java/lang/IndexOutOfBoundsException") hown (tableOf []) ⟨0, 10, 13, 24⟩ (tableOf []) htab (fun z hz => nomatch hz) rfl (by decide) (hts (.classLink RL 24 "java/lang/IndexOutOfBoundsException") (by decide +kernel)) (va_Nw.use rfl (hC.2.2.2.1 ("java/lang/IndexOutOfBoundsException", "java/lang/IndexOutOfBoundsException") (by decide +kernel))) hce hcv hcl ?_
      refine lv_astore (lv' := [(4, .ref q9), (0, .ref (g 0)), (1, .int b), (2, .int k), (3, .ref (g 40))]) hx hb dL_getWheel_13 hl (by decide) rfl (fun ls hl => ?_)
      refine lv_iconst (v := 1) hx hb dL_getWheel_15 (by decide) ?_
      refine W.widen (k := 4) (n := 24) (by omega) (by omega) ?_
      exact W.iret (v := 1) hx hb hr (fun t ht hW => ⟨⟨1, (o, g), rfl, ⟨fun h => absurd (h.symm.trans hK9) (by simp), fun X hX => by rw [← Option.some.inj (hK9.symm.trans hX)]; decide +kernel⟩, gE.rf g, by rw [hm2]; exact wHS_t ht hH⟩, hS.F ht⟩) hS.2.2 dL_getWheel_16
  · obtain ⟨hnone, rfl⟩ := hw
    have hH := wHS_h ht hB
    refine lv_i2l hx hb dL_getWheel_8 rfl ?_
    refine wr_last (t := 40) hx hb hK hH hS lv_o1 rfl 4 rfl (by unfold vp_in; decide) dL_getWheel_9 (fun H locs hH hS => ?_)
    have hH := po_l hH
    refine lv_goto (tgt := 17) hx hb dL_getWheel_10 (by decide) ?_
    refine lv_iconst (v := 0) hx hb dL_getWheel_17 (by decide) ?_
    refine W.widen (k := 4) (n := 24) (by omega) (by omega) ?_
    exact W.iret (v := 0) hx hb hr (fun t ht hW => ⟨⟨0, ((vp_updL o.1 (0 : Int32).toNatClampNeg (((cp_getWheel x b k).2.1).toInt64), o.2), g), rfl, ⟨fun _ => ⟨rfl, by show vp_updL o.1 (0 : Int32).toNatClampNeg (((cp_getWheel x b k).2.1).toInt64) 0 = _; rw [show (0 : Int32).toNatClampNeg = 0 from rfl]; simp [vp_updL]⟩, fun X hX => by rw [hnone] at hX; cases hX⟩, (gE.rf g), wHS_t ht hH⟩, hS.F ht⟩) hS.2.2 dL_getWheel_18
set_option maxHeartbeats 4000000 in
theorem cpt_getNeedle (x : St) (b : Int32) (X : String) : (cp_getNeedle x b).1 = some X → (X = "java/lang/IndexOutOfBoundsException") ∧ (cp_getNeedle x b).2.2 = x := by
  unfold cp_getNeedle
  repeat' split
  all_goals intro h
  all_goals first | (exfalso; revert h; simp; done) | (have h2 := Option.some.inj h; subst h2; exact ⟨by decide, rfl⟩)
set_option maxHeartbeats 4000000 in
set_option maxRecDepth 100000 in
theorem met_L_getNeedle (l : Launch) (E : wE) (o : wO) (g : Nat → Nat) (x y : St) (b : Int32) (hlt : l.stackTraces = false) (hI : CI x) : Met l yL_getNeedle wsL_getNeedle ({ frames := 11, cells := 4, slots := 24, locals := 1200 } : Room) (va_Pc [.ref (g 0), .int b, .ref (g 40)] (wPreL E o g x y)) (va_Qi (fun (r : Int32) (u : wO × (Nat → Nat)) => lRes ["java/lang/IndexOutOfBoundsException"] r (u.1.1 0) (cp_getNeedle x b)) (fun (u : wO × (Nat → Nat)) t => gE g u.2 ∧ wHS E u.1 u.2 (cp_getNeedle x b).2.2 y t.heap) (wA E)) 4 24 (wA E) := by
  refine va_MetW (cc := cL_getNeedle) (maxL := 4) (ret := (some .int)) (by decide) rfl ?_
  intro p e s m args below meth c s₁ B hml hv
  obtain ⟨rfl, ⟨⟨⟨hz, hH, hK⟩, hC⟩, hDD⟩, hNc⟩ := hv
  have hx := B.exec
  have hb := B.bytes
  have hr := B.returns
  have hts := atoms_spec (ws := wsL_getNeedle) B.pre
  have hown : s.vm.findClass RL = some m.cls := findClass_of_methodNamed B.named
  have hlocks := B.notSynchronized
  have htab : c.exceptionTable.toList = tableOf [(0, 9, 12, 24)] := vx_table (x := yL_getNeedle) B (hts _ List.mem_cons_self)
  have hS : va_S (wA E) s.heap s.heap [] := va_S.rf
  have hl := lv_entry ([.ref (g 0), .int b, .ref (g 40)]) (n := 4) (Nat.le_of_ble_eq_true rfl)
  rw [lg_entry_eq]
  generalize (lg_sl ([.ref (g 0), .int b, .ref (g 40)]) ++ List.replicate (4 - (lg_sl ([.ref (g 0), .int b, .ref (g 40)])).length) Slot.unset).toArray = ls at hl ⊢
  have hl : lv_has ls 4 [(0, .ref (g 0)), (1, .int b), (2, .ref (g 40))] := hl
  obtain ⟨H, eH⟩ : ∃ z, z = s.heap := ⟨_, rfl⟩
  have hH : wHS E o g x y H := by rw [eH]; exact hH
  have hS : va_S (wA E) s.heap H [] := by rw [eH]; exact hS
  refine W.heapTo eH ?_
  refine lv_aload_n hx hb dL_getNeedle_0 rfl (lv_at hl 2 rfl) ?_
  refine lv_iconst (v := 0) hx hb dL_getNeedle_1 (by decide) ?_
  refine lv_aload_n hx hb dL_getNeedle_2 rfl (lv_at hl 0 rfl) ?_
  refine lv_iload_n hx hb dL_getNeedle_3 rfl (lv_at hl 1 rfl) ?_
  refine vx_calli (vx_runV (As := [.int b]) (rest := [.int 0, .ref (g 40)]) ⟨hx, hb, hml, hown, hts⟩ (met_X4_getNeedle l E o g x y b hlt hI) (cwV 1 hts gL_getNeedle_X4_getNeedle rfl rfl rfl (by decide +kernel) ⟨Nat.le_of_ble_eq_true rfl, Nat.le_of_ble_eq_true rfl⟩) ⟨fun a U f mk q => ⟨q.1, wPreX.calling q.2 a f mk⟩, (va_recv hK (wH_one hH lv_r0 (cel_rt (by omega))) (ci := 6) (q0 := 0) rfl rfl), fun U hU hW => ⟨rfl, wPreX_at hz hS hH hK hC U hU hW⟩⟩ rfl rfl hl.1 rfl (lv_room (Nat.le_of_ble_eq_true rfl)) dL_getNeedle_4 ⟨by exact Nat.le_of_ble_eq_true rfl, by exact Nat.le_of_ble_eq_true rfl⟩) hS (fun q _ h => h) (fun q h => h) (fun q _ h => h) (fun E9 ce q9 u t H locs ht hvm hw hB hz1 hk1 hS hce hcv hcl => ?_) (fun r u t H locs ht hvm hw hB hz1 hk1 hS => ?_)
  · obtain ⟨hK9, hB⟩ := hB
    have hH := wHS_h ht hB
    have hm := cpt_getNeedle x b E9 hK9
    obtain ⟨hm1, hm2⟩ := hm
    subst hm1
    · refine vx_catch (name := "java/lang/IndexOutOfBoundsException") hown (tableOf []) ⟨0, 9, 12, 24⟩ (tableOf []) htab (fun z hz => nomatch hz) rfl (by decide) (hts (.classLink RL 24 "java/lang/IndexOutOfBoundsException") (by decide +kernel)) (va_Nw.use rfl (hC.2.2.2.1 ("java/lang/IndexOutOfBoundsException", "java/lang/IndexOutOfBoundsException") (by decide +kernel))) hce hcv hcl ?_
      refine lv_astore_n (lv' := [(3, .ref q9), (0, .ref (g 0)), (1, .int b), (2, .ref (g 40))]) hx hb dL_getNeedle_12 rfl hl (by decide) rfl (fun ls hl => ?_)
      refine lv_iconst (v := 1) hx hb dL_getNeedle_13 (by decide) ?_
      refine W.widen (k := 4) (n := 24) (by omega) (by omega) ?_
      exact W.iret (v := 1) hx hb hr (fun t ht hW => ⟨⟨1, (o, g), rfl, ⟨fun h => absurd (h.symm.trans hK9) (by simp), fun X hX => by rw [← Option.some.inj (hK9.symm.trans hX)]; decide +kernel⟩, gE.rf g, by rw [hm2]; exact wHS_t ht hH⟩, hS.F ht⟩) hS.2.2 dL_getNeedle_14
  · obtain ⟨hnone, rfl⟩ := hw
    have hH := wHS_h ht hB
    refine lv_i2l hx hb dL_getNeedle_7 rfl ?_
    refine wr_last (t := 40) hx hb hK hH hS lv_o1 rfl 4 rfl (by unfold vp_in; decide) dL_getNeedle_8 (fun H locs hH hS => ?_)
    have hH := po_l hH
    refine lv_goto (tgt := 15) hx hb dL_getNeedle_9 (by decide) ?_
    refine lv_iconst (v := 0) hx hb dL_getNeedle_15 (by decide) ?_
    refine W.widen (k := 4) (n := 24) (by omega) (by omega) ?_
    exact W.iret (v := 0) hx hb hr (fun t ht hW => ⟨⟨0, ((vp_updL o.1 (0 : Int32).toNatClampNeg (((cp_getNeedle x b).2.1).toInt64), o.2), g), rfl, ⟨fun _ => ⟨rfl, by show vp_updL o.1 (0 : Int32).toNatClampNeg (((cp_getNeedle x b).2.1).toInt64) 0 = _; rw [show (0 : Int32).toNatClampNeg = 0 from rfl]; simp [vp_updL]⟩, fun X hX => by rw [hnone] at hX; cases hX⟩, (gE.rf g), wHS_t ht hH⟩, hS.F ht⟩) hS.2.2 dL_getNeedle_16
set_option maxHeartbeats 4000000 in
theorem cpt_getWear (x : St) (b : Int32) (X : String) : (cp_getWear x b).1 = some X → (X = "java/lang/IndexOutOfBoundsException") ∧ (cp_getWear x b).2.2 = x := by
  unfold cp_getWear
  repeat' split
  all_goals intro h
  all_goals first | (exfalso; revert h; simp; done) | (have h2 := Option.some.inj h; subst h2; exact ⟨by decide, rfl⟩)
set_option maxHeartbeats 4000000 in
set_option maxRecDepth 100000 in
theorem met_L_getWear (l : Launch) (E : wE) (o : wO) (g : Nat → Nat) (x y : St) (b : Int32) (hlt : l.stackTraces = false) (hI : CI x) : Met l yL_getWear wsL_getWear ({ frames := 11, cells := 4, slots := 24, locals := 1200 } : Room) (va_Pc [.ref (g 0), .int b, .ref (g 40)] (wPreL E o g x y)) (va_Qi (fun (r : Int32) (u : wO × (Nat → Nat)) => lRes ["java/lang/IndexOutOfBoundsException"] r (u.1.1 0) (cp_getWear x b)) (fun (u : wO × (Nat → Nat)) t => gE g u.2 ∧ wHS E u.1 u.2 (cp_getWear x b).2.2 y t.heap) (wA E)) 4 24 (wA E) := by
  refine va_MetW (cc := cL_getWear) (maxL := 4) (ret := (some .int)) (by decide) rfl ?_
  intro p e s m args below meth c s₁ B hml hv
  obtain ⟨rfl, ⟨⟨⟨hz, hH, hK⟩, hC⟩, hDD⟩, hNc⟩ := hv
  have hx := B.exec
  have hb := B.bytes
  have hr := B.returns
  have hts := atoms_spec (ws := wsL_getWear) B.pre
  have hown : s.vm.findClass RL = some m.cls := findClass_of_methodNamed B.named
  have hlocks := B.notSynchronized
  have htab : c.exceptionTable.toList = tableOf [(0, 9, 12, 24)] := vx_table (x := yL_getWear) B (hts _ List.mem_cons_self)
  have hS : va_S (wA E) s.heap s.heap [] := va_S.rf
  have hl := lv_entry ([.ref (g 0), .int b, .ref (g 40)]) (n := 4) (Nat.le_of_ble_eq_true rfl)
  rw [lg_entry_eq]
  generalize (lg_sl ([.ref (g 0), .int b, .ref (g 40)]) ++ List.replicate (4 - (lg_sl ([.ref (g 0), .int b, .ref (g 40)])).length) Slot.unset).toArray = ls at hl ⊢
  have hl : lv_has ls 4 [(0, .ref (g 0)), (1, .int b), (2, .ref (g 40))] := hl
  obtain ⟨H, eH⟩ : ∃ z, z = s.heap := ⟨_, rfl⟩
  have hH : wHS E o g x y H := by rw [eH]; exact hH
  have hS : va_S (wA E) s.heap H [] := by rw [eH]; exact hS
  refine W.heapTo eH ?_
  refine lv_aload_n hx hb dL_getWear_0 rfl (lv_at hl 2 rfl) ?_
  refine lv_iconst (v := 0) hx hb dL_getWear_1 (by decide) ?_
  refine lv_aload_n hx hb dL_getWear_2 rfl (lv_at hl 0 rfl) ?_
  refine lv_iload_n hx hb dL_getWear_3 rfl (lv_at hl 1 rfl) ?_
  refine vx_calli (vx_runV (As := [.int b]) (rest := [.int 0, .ref (g 40)]) ⟨hx, hb, hml, hown, hts⟩ (met_X4_getWear l E o g x y b hlt hI) (cwV 1 hts gL_getWear_X4_getWear rfl rfl rfl (by decide +kernel) ⟨Nat.le_of_ble_eq_true rfl, Nat.le_of_ble_eq_true rfl⟩) ⟨fun a U f mk q => ⟨q.1, wPreX.calling q.2 a f mk⟩, (va_recv hK (wH_one hH lv_r0 (cel_rt (by omega))) (ci := 6) (q0 := 0) rfl rfl), fun U hU hW => ⟨rfl, wPreX_at hz hS hH hK hC U hU hW⟩⟩ rfl rfl hl.1 rfl (lv_room (Nat.le_of_ble_eq_true rfl)) dL_getWear_4 ⟨by exact Nat.le_of_ble_eq_true rfl, by exact Nat.le_of_ble_eq_true rfl⟩) hS (fun q _ h => h) (fun q h => h) (fun q _ h => h) (fun E9 ce q9 u t H locs ht hvm hw hB hz1 hk1 hS hce hcv hcl => ?_) (fun r u t H locs ht hvm hw hB hz1 hk1 hS => ?_)
  · obtain ⟨hK9, hB⟩ := hB
    have hH := wHS_h ht hB
    have hm := cpt_getWear x b E9 hK9
    obtain ⟨hm1, hm2⟩ := hm
    subst hm1
    · refine vx_catch (name := "java/lang/IndexOutOfBoundsException") hown (tableOf []) ⟨0, 9, 12, 24⟩ (tableOf []) htab (fun z hz => nomatch hz) rfl (by decide) (hts (.classLink RL 24 "java/lang/IndexOutOfBoundsException") (by decide +kernel)) (va_Nw.use rfl (hC.2.2.2.1 ("java/lang/IndexOutOfBoundsException", "java/lang/IndexOutOfBoundsException") (by decide +kernel))) hce hcv hcl ?_
      refine lv_astore_n (lv' := [(3, .ref q9), (0, .ref (g 0)), (1, .int b), (2, .ref (g 40))]) hx hb dL_getWear_12 rfl hl (by decide) rfl (fun ls hl => ?_)
      refine lv_iconst (v := 1) hx hb dL_getWear_13 (by decide) ?_
      refine W.widen (k := 4) (n := 24) (by omega) (by omega) ?_
      exact W.iret (v := 1) hx hb hr (fun t ht hW => ⟨⟨1, (o, g), rfl, ⟨fun h => absurd (h.symm.trans hK9) (by simp), fun X hX => by rw [← Option.some.inj (hK9.symm.trans hX)]; decide +kernel⟩, gE.rf g, by rw [hm2]; exact wHS_t ht hH⟩, hS.F ht⟩) hS.2.2 dL_getWear_14
  · obtain ⟨hnone, rfl⟩ := hw
    have hH := wHS_h ht hB
    refine lv_i2l hx hb dL_getWear_7 rfl ?_
    refine wr_last (t := 40) hx hb hK hH hS lv_o1 rfl 4 rfl (by unfold vp_in; decide) dL_getWear_8 (fun H locs hH hS => ?_)
    have hH := po_l hH
    refine lv_goto (tgt := 15) hx hb dL_getWear_9 (by decide) ?_
    refine lv_iconst (v := 0) hx hb dL_getWear_15 (by decide) ?_
    refine W.widen (k := 4) (n := 24) (by omega) (by omega) ?_
    exact W.iret (v := 0) hx hb hr (fun t ht hW => ⟨⟨0, ((vp_updL o.1 (0 : Int32).toNatClampNeg (((cp_getWear x b).2.1).toInt64), o.2), g), rfl, ⟨fun _ => ⟨rfl, by show vp_updL o.1 (0 : Int32).toNatClampNeg (((cp_getWear x b).2.1).toInt64) 0 = _; rw [show (0 : Int32).toNatClampNeg = 0 from rfl]; simp [vp_updL]⟩, fun X hX => by rw [hnone] at hX; cases hX⟩, (gE.rf g), wHS_t ht hH⟩, hS.F ht⟩) hS.2.2 dL_getWear_16
set_option maxHeartbeats 4000000 in
theorem cpt_getPlace (x : St) (b : Int32) (X : String) : (cp_getPlace x b).1 = some X → (X = "java/lang/IndexOutOfBoundsException") ∧ (cp_getPlace x b).2.2 = x := by
  unfold cp_getPlace
  repeat' split
  all_goals intro h
  all_goals first | (exfalso; revert h; simp; done) | (have h2 := Option.some.inj h; subst h2; exact ⟨by decide, rfl⟩)
set_option maxHeartbeats 4000000 in
set_option maxRecDepth 100000 in
theorem met_L_getPlace (l : Launch) (E : wE) (o : wO) (g : Nat → Nat) (x y : St) (b : Int32) (hlt : l.stackTraces = false) (hI : CI x) : Met l yL_getPlace wsL_getPlace ({ frames := 11, cells := 4, slots := 24, locals := 1200 } : Room) (va_Pc [.ref (g 0), .int b, .ref (g 40)] (wPreL E o g x y)) (va_Qi (fun (r : Int32) (u : wO × (Nat → Nat)) => lRes ["java/lang/IndexOutOfBoundsException"] r (u.1.1 0) (cp_getPlace x b)) (fun (u : wO × (Nat → Nat)) t => gE g u.2 ∧ wHS E u.1 u.2 (cp_getPlace x b).2.2 y t.heap) (wA E)) 4 24 (wA E) := by
  refine va_MetW (cc := cL_getPlace) (maxL := 4) (ret := (some .int)) (by decide) rfl ?_
  intro p e s m args below meth c s₁ B hml hv
  obtain ⟨rfl, ⟨⟨⟨hz, hH, hK⟩, hC⟩, hDD⟩, hNc⟩ := hv
  have hx := B.exec
  have hb := B.bytes
  have hr := B.returns
  have hts := atoms_spec (ws := wsL_getPlace) B.pre
  have hown : s.vm.findClass RL = some m.cls := findClass_of_methodNamed B.named
  have hlocks := B.notSynchronized
  have htab : c.exceptionTable.toList = tableOf [(0, 9, 12, 24)] := vx_table (x := yL_getPlace) B (hts _ List.mem_cons_self)
  have hS : va_S (wA E) s.heap s.heap [] := va_S.rf
  have hl := lv_entry ([.ref (g 0), .int b, .ref (g 40)]) (n := 4) (Nat.le_of_ble_eq_true rfl)
  rw [lg_entry_eq]
  generalize (lg_sl ([.ref (g 0), .int b, .ref (g 40)]) ++ List.replicate (4 - (lg_sl ([.ref (g 0), .int b, .ref (g 40)])).length) Slot.unset).toArray = ls at hl ⊢
  have hl : lv_has ls 4 [(0, .ref (g 0)), (1, .int b), (2, .ref (g 40))] := hl
  obtain ⟨H, eH⟩ : ∃ z, z = s.heap := ⟨_, rfl⟩
  have hH : wHS E o g x y H := by rw [eH]; exact hH
  have hS : va_S (wA E) s.heap H [] := by rw [eH]; exact hS
  refine W.heapTo eH ?_
  refine lv_aload_n hx hb dL_getPlace_0 rfl (lv_at hl 2 rfl) ?_
  refine lv_iconst (v := 0) hx hb dL_getPlace_1 (by decide) ?_
  refine lv_aload_n hx hb dL_getPlace_2 rfl (lv_at hl 0 rfl) ?_
  refine lv_iload_n hx hb dL_getPlace_3 rfl (lv_at hl 1 rfl) ?_
  refine vx_calli (vx_runV (As := [.int b]) (rest := [.int 0, .ref (g 40)]) ⟨hx, hb, hml, hown, hts⟩ (met_X4_getPlace l E o g x y b hlt hI) (cwV 1 hts gL_getPlace_X4_getPlace rfl rfl rfl (by decide +kernel) ⟨Nat.le_of_ble_eq_true rfl, Nat.le_of_ble_eq_true rfl⟩) ⟨fun a U f mk q => ⟨q.1, wPreX.calling q.2 a f mk⟩, (va_recv hK (wH_one hH lv_r0 (cel_rt (by omega))) (ci := 6) (q0 := 0) rfl rfl), fun U hU hW => ⟨rfl, wPreX_at hz hS hH hK hC U hU hW⟩⟩ rfl rfl hl.1 rfl (lv_room (Nat.le_of_ble_eq_true rfl)) dL_getPlace_4 ⟨by exact Nat.le_of_ble_eq_true rfl, by exact Nat.le_of_ble_eq_true rfl⟩) hS (fun q _ h => h) (fun q h => h) (fun q _ h => h) (fun E9 ce q9 u t H locs ht hvm hw hB hz1 hk1 hS hce hcv hcl => ?_) (fun r u t H locs ht hvm hw hB hz1 hk1 hS => ?_)
  · obtain ⟨hK9, hB⟩ := hB
    have hH := wHS_h ht hB
    have hm := cpt_getPlace x b E9 hK9
    obtain ⟨hm1, hm2⟩ := hm
    subst hm1
    · refine vx_catch (name := "java/lang/IndexOutOfBoundsException") hown (tableOf []) ⟨0, 9, 12, 24⟩ (tableOf []) htab (fun z hz => nomatch hz) rfl (by decide) (hts (.classLink RL 24 "java/lang/IndexOutOfBoundsException") (by decide +kernel)) (va_Nw.use rfl (hC.2.2.2.1 ("java/lang/IndexOutOfBoundsException", "java/lang/IndexOutOfBoundsException") (by decide +kernel))) hce hcv hcl ?_
      refine lv_astore_n (lv' := [(3, .ref q9), (0, .ref (g 0)), (1, .int b), (2, .ref (g 40))]) hx hb dL_getPlace_12 rfl hl (by decide) rfl (fun ls hl => ?_)
      refine lv_iconst (v := 1) hx hb dL_getPlace_13 (by decide) ?_
      refine W.widen (k := 4) (n := 24) (by omega) (by omega) ?_
      exact W.iret (v := 1) hx hb hr (fun t ht hW => ⟨⟨1, (o, g), rfl, ⟨fun h => absurd (h.symm.trans hK9) (by simp), fun X hX => by rw [← Option.some.inj (hK9.symm.trans hX)]; decide +kernel⟩, gE.rf g, by rw [hm2]; exact wHS_t ht hH⟩, hS.F ht⟩) hS.2.2 dL_getPlace_14
  · obtain ⟨hnone, rfl⟩ := hw
    have hH := wHS_h ht hB
    refine lv_i2l hx hb dL_getPlace_7 rfl ?_
    refine wr_last (t := 40) hx hb hK hH hS lv_o1 rfl 4 rfl (by unfold vp_in; decide) dL_getPlace_8 (fun H locs hH hS => ?_)
    have hH := po_l hH
    refine lv_goto (tgt := 15) hx hb dL_getPlace_9 (by decide) ?_
    refine lv_iconst (v := 0) hx hb dL_getPlace_15 (by decide) ?_
    refine W.widen (k := 4) (n := 24) (by omega) (by omega) ?_
    exact W.iret (v := 0) hx hb hr (fun t ht hW => ⟨⟨0, ((vp_updL o.1 (0 : Int32).toNatClampNeg (((cp_getPlace x b).2.1).toInt64), o.2), g), rfl, ⟨fun _ => ⟨rfl, by show vp_updL o.1 (0 : Int32).toNatClampNeg (((cp_getPlace x b).2.1).toInt64) 0 = _; rw [show (0 : Int32).toNatClampNeg = 0 from rfl]; simp [vp_updL]⟩, fun X hX => by rw [hnone] at hX; cases hX⟩, (gE.rf g), wHS_t ht hH⟩, hS.F ht⟩) hS.2.2 dL_getPlace_16
set_option maxHeartbeats 4000000 in
theorem cpt_discAt (x : St) (b : Int32) (k : Int32) (X : String) : (cp_discAt x b k).1 = some X → (X = "java/lang/IndexOutOfBoundsException" ∨ X = "java/util/NoSuchElementException") ∧ (cp_discAt x b k).2.2 = x := by
  unfold cp_discAt
  repeat' split
  all_goals intro h
  all_goals first | (exfalso; revert h; simp; done) | (have h2 := Option.some.inj h; subst h2; exact ⟨by decide, rfl⟩)
set_option maxHeartbeats 4000000 in
set_option maxRecDepth 100000 in
theorem met_L_discAt (l : Launch) (E : wE) (o : wO) (g : Nat → Nat) (x y : St) (b : Int32) (k : Int32) (hlt : l.stackTraces = false) (hI : CI x) : Met l yL_discAt wsL_discAt ({ frames := 11, cells := 4, slots := 24, locals := 1200 } : Room) (va_Pc [.ref (g 0), .int b, .int k, .ref (g 40)] (wPreL E o g x y)) (va_Qi (fun (r : Int32) (u : wO × (Nat → Nat)) => lRes ["java/lang/IndexOutOfBoundsException", "java/util/NoSuchElementException"] r (u.1.1 0) (cp_discAt x b k)) (fun (u : wO × (Nat → Nat)) t => gE g u.2 ∧ wHS E u.1 u.2 (cp_discAt x b k).2.2 y t.heap) (wA E)) 4 24 (wA E) := by
  refine va_MetW (cc := cL_discAt) (maxL := 5) (ret := (some .int)) (by decide) rfl ?_
  intro p e s m args below meth c s₁ B hml hv
  obtain ⟨rfl, ⟨⟨⟨hz, hH, hK⟩, hC⟩, hDD⟩, hNc⟩ := hv
  have hx := B.exec
  have hb := B.bytes
  have hr := B.returns
  have hts := atoms_spec (ws := wsL_discAt) B.pre
  have hown : s.vm.findClass RL = some m.cls := findClass_of_methodNamed B.named
  have hlocks := B.notSynchronized
  have htab : c.exceptionTable.toList = tableOf [(0, 10, 13, 24), (0, 10, 17, 43)] := vx_table (x := yL_discAt) B (hts _ List.mem_cons_self)
  have hS : va_S (wA E) s.heap s.heap [] := va_S.rf
  have hl := lv_entry ([.ref (g 0), .int b, .int k, .ref (g 40)]) (n := 5) (Nat.le_of_ble_eq_true rfl)
  rw [lg_entry_eq]
  generalize (lg_sl ([.ref (g 0), .int b, .int k, .ref (g 40)]) ++ List.replicate (5 - (lg_sl ([.ref (g 0), .int b, .int k, .ref (g 40)])).length) Slot.unset).toArray = ls at hl ⊢
  have hl : lv_has ls 5 [(0, .ref (g 0)), (1, .int b), (2, .int k), (3, .ref (g 40))] := hl
  obtain ⟨H, eH⟩ : ∃ z, z = s.heap := ⟨_, rfl⟩
  have hH : wHS E o g x y H := by rw [eH]; exact hH
  have hS : va_S (wA E) s.heap H [] := by rw [eH]; exact hS
  refine W.heapTo eH ?_
  refine lv_aload_n hx hb dL_discAt_0 rfl (lv_at hl 3 rfl) ?_
  refine lv_iconst (v := 0) hx hb dL_discAt_1 (by decide) ?_
  refine lv_aload_n hx hb dL_discAt_2 rfl (lv_at hl 0 rfl) ?_
  refine lv_iload_n hx hb dL_discAt_3 rfl (lv_at hl 1 rfl) ?_
  refine lv_iload_n hx hb dL_discAt_4 rfl (lv_at hl 2 rfl) ?_
  refine vx_calli (vx_runV (As := [.int b, .int k]) (rest := [.int 0, .ref (g 40)]) ⟨hx, hb, hml, hown, hts⟩ (met_X4_discAt l E o g x y b k hlt hI) (cwV 2 hts gL_discAt_X4_discAt rfl rfl rfl (by decide +kernel) ⟨Nat.le_of_ble_eq_true rfl, Nat.le_of_ble_eq_true rfl⟩) ⟨fun a U f mk q => ⟨q.1, wPreX.calling q.2 a f mk⟩, (va_recv hK (wH_one hH lv_r0 (cel_rt (by omega))) (ci := 6) (q0 := 0) rfl rfl), fun U hU hW => ⟨rfl, wPreX_at hz hS hH hK hC U hU hW⟩⟩ rfl rfl hl.1 rfl (lv_room (Nat.le_of_ble_eq_true rfl)) dL_discAt_5 ⟨by exact Nat.le_of_ble_eq_true rfl, by exact Nat.le_of_ble_eq_true rfl⟩) hS (fun q _ h => h) (fun q h => h) (fun q _ h => h) (fun E9 ce q9 u t H locs ht hvm hw hB hz1 hk1 hS hce hcv hcl => ?_) (fun r u t H locs ht hvm hw hB hz1 hk1 hS => ?_)
  · obtain ⟨hK9, hB⟩ := hB
    have hH := wHS_h ht hB
    have hm := cpt_discAt x b k E9 hK9
    obtain ⟨hm1, hm2⟩ := hm
    rcases hm1 with rfl | rfl
    · refine vx_catch (name := "java/lang/IndexOutOfBoundsException") hown (tableOf []) ⟨0, 10, 13, 24⟩ (tableOf [(0, 10, 17, 43)]) htab (fun z hz => nomatch hz) rfl (by decide) (hts (.classLink RL 24 "java/lang/IndexOutOfBoundsException") (by decide +kernel)) (va_Nw.use rfl (hC.2.2.2.1 ("java/lang/IndexOutOfBoundsException", "java/lang/IndexOutOfBoundsException") (by decide +kernel))) hce hcv hcl ?_
      refine lv_astore (lv' := [(4, .ref q9), (0, .ref (g 0)), (1, .int b), (2, .int k), (3, .ref (g 40))]) hx hb dL_discAt_13 hl (by decide) rfl (fun ls hl => ?_)
      refine lv_iconst (v := 1) hx hb dL_discAt_15 (by decide) ?_
      refine W.widen (k := 4) (n := 24) (by omega) (by omega) ?_
      exact W.iret (v := 1) hx hb hr (fun t ht hW => ⟨⟨1, (o, g), rfl, ⟨fun h => absurd (h.symm.trans hK9) (by simp), fun X hX => by rw [← Option.some.inj (hK9.symm.trans hX)]; decide +kernel⟩, gE.rf g, by rw [hm2]; exact wHS_t ht hH⟩, hS.F ht⟩) hS.2.2 dL_discAt_16
    · refine vx_catch (name := "java/util/NoSuchElementException") hown (tableOf [(0, 10, 13, 24)]) ⟨0, 10, 17, 43⟩ (tableOf []) htab (fun z hz => by (rcases List.mem_cons.mp hz with rfl | hz; exact Or.inr ⟨by decide, "java/lang/IndexOutOfBoundsException", hts (.classLink RL 24 "java/lang/IndexOutOfBoundsException") (by decide +kernel), hNc ("java/util/NoSuchElementException", "java/lang/IndexOutOfBoundsException") (by decide +kernel)⟩; exact absurd hz (List.not_mem_nil))) rfl (by decide) (hts (.classLink RL 43 "java/util/NoSuchElementException") (by decide +kernel)) (va_Nw.use rfl (hC.2.2.2.1 ("java/util/NoSuchElementException", "java/util/NoSuchElementException") (by decide +kernel))) hce hcv hcl ?_
      refine lv_astore (lv' := [(4, .ref q9), (0, .ref (g 0)), (1, .int b), (2, .int k), (3, .ref (g 40))]) hx hb dL_discAt_17 hl (by decide) rfl (fun ls hl => ?_)
      refine lv_iconst (v := 2) hx hb dL_discAt_19 (by decide) ?_
      refine W.widen (k := 4) (n := 24) (by omega) (by omega) ?_
      exact W.iret (v := 2) hx hb hr (fun t ht hW => ⟨⟨2, (o, g), rfl, ⟨fun h => absurd (h.symm.trans hK9) (by simp), fun X hX => by rw [← Option.some.inj (hK9.symm.trans hX)]; decide +kernel⟩, gE.rf g, by rw [hm2]; exact wHS_t ht hH⟩, hS.F ht⟩) hS.2.2 dL_discAt_20
  · obtain ⟨hnone, rfl⟩ := hw
    have hH := wHS_h ht hB
    refine lv_i2l hx hb dL_discAt_8 rfl ?_
    refine wr_last (t := 40) hx hb hK hH hS lv_o1 rfl 4 rfl (by unfold vp_in; decide) dL_discAt_9 (fun H locs hH hS => ?_)
    have hH := po_l hH
    refine lv_goto (tgt := 21) hx hb dL_discAt_10 (by decide) ?_
    refine lv_iconst (v := 0) hx hb dL_discAt_21 (by decide) ?_
    refine W.widen (k := 4) (n := 24) (by omega) (by omega) ?_
    exact W.iret (v := 0) hx hb hr (fun t ht hW => ⟨⟨0, ((vp_updL o.1 (0 : Int32).toNatClampNeg (((cp_discAt x b k).2.1).toInt64), o.2), g), rfl, ⟨fun _ => ⟨rfl, by show vp_updL o.1 (0 : Int32).toNatClampNeg (((cp_discAt x b k).2.1).toInt64) 0 = _; rw [show (0 : Int32).toNatClampNeg = 0 from rfl]; simp [vp_updL]⟩, fun X hX => by rw [hnone] at hX; cases hX⟩, (gE.rf g), wHS_t ht hH⟩, hS.F ht⟩) hS.2.2 dL_discAt_22
