set_option maxHeartbeats 4000000 in
theorem cpt_burn (x : St) (b : Int32) (X : String) : (cp_burn x b).1 = some X → (X = "java/lang/IndexOutOfBoundsException" ∨ X = "java/lang/UnsupportedOperationException") ∧ (cp_burn x b).2.2 = x := by
  unfold cp_burn
  repeat' split
  all_goals intro h
  all_goals first | (exfalso; revert h; simp; done) | (have h2 := Option.some.inj h; subst h2; exact ⟨by decide, rfl⟩)
set_option maxHeartbeats 4000000 in
set_option maxRecDepth 100000 in
theorem met_L_burn (l : Launch) (E : wE) (o : wO) (g : Nat → Nat) (x y : St) (b : Int32) (hlt : l.stackTraces = false) (hI : CI x) : Met l yL_burn wsL_burn ({ frames := 11, cells := 4, slots := 24, locals := 1200 } : Room) (va_Pc [.ref (g 0), .int b, .ref (g 40)] (wPreL E o g x y)) (va_Qi (fun (r : Int32) (u : wO × (Nat → Nat)) => lRes ["java/lang/IndexOutOfBoundsException", "java/lang/UnsupportedOperationException"] r (u.1.1 0) (cp_burn x b)) (fun (u : wO × (Nat → Nat)) t => gE g u.2 ∧ wHS E u.1 u.2 (cp_burn x b).2.2 y t.heap) (wA E)) 4 24 (wA E) := by
  refine va_MetW (cc := cL_burn) (maxL := 4) (ret := (some .int)) (by decide) rfl ?_
  intro p e s m args below meth c s₁ B hml hv
  obtain ⟨rfl, ⟨⟨⟨hz, hH, hK⟩, hC⟩, hDD⟩, hNc⟩ := hv
  have hx := B.exec
  have hb := B.bytes
  have hr := B.returns
  have hts := atoms_spec (ws := wsL_burn) B.pre
  have hown : s.vm.findClass RL = some m.cls := findClass_of_methodNamed B.named
  have hlocks := B.notSynchronized
  have htab : c.exceptionTable.toList = tableOf [(0, 9, 12, 24), (0, 9, 15, 34)] := vx_table (x := yL_burn) B (hts _ List.mem_cons_self)
  have hS : va_S (wA E) s.heap s.heap [] := va_S.rf
  have hl := lv_entry ([.ref (g 0), .int b, .ref (g 40)]) (n := 4) (Nat.le_of_ble_eq_true rfl)
  rw [lg_entry_eq]
  generalize (lg_sl ([.ref (g 0), .int b, .ref (g 40)]) ++ List.replicate (4 - (lg_sl ([.ref (g 0), .int b, .ref (g 40)])).length) Slot.unset).toArray = ls at hl ⊢
  have hl : lv_has ls 4 [(0, .ref (g 0)), (1, .int b), (2, .ref (g 40))] := hl
  obtain ⟨H, eH⟩ : ∃ z, z = s.heap := ⟨_, rfl⟩
  have hH : wHS E o g x y H := by rw [eH]; exact hH
  have hS : va_S (wA E) s.heap H [] := by rw [eH]; exact hS
  refine W.heapTo eH ?_
  refine lv_aload_n hx hb dL_burn_0 rfl (lv_at hl 2 rfl) ?_
  refine lv_iconst (v := 0) hx hb dL_burn_1 (by decide) ?_
  refine lv_aload_n hx hb dL_burn_2 rfl (lv_at hl 0 rfl) ?_
  refine lv_iload_n hx hb dL_burn_3 rfl (lv_at hl 1 rfl) ?_
  refine vx_calli (vx_runV (As := [.int b]) (rest := [.int 0, .ref (g 40)]) ⟨hx, hb, hml, hown, hts⟩ (met_X4_burn l E o g x y b hlt hI) (cwV 1 hts gL_burn_X4_burn rfl rfl rfl (by decide +kernel) ⟨Nat.le_of_ble_eq_true rfl, Nat.le_of_ble_eq_true rfl⟩) ⟨fun a U f mk q => ⟨q.1, wPreX.calling q.2 a f mk⟩, (va_recv hK (wH_one hH lv_r0 (cel_rt (by omega))) (ci := 6) (q0 := 0) rfl rfl), fun U hU hW => ⟨rfl, wPreX_at hz hS hH hK hC U hU hW⟩⟩ rfl rfl hl.1 rfl (lv_room (Nat.le_of_ble_eq_true rfl)) dL_burn_4 ⟨by exact Nat.le_of_ble_eq_true rfl, by exact Nat.le_of_ble_eq_true rfl⟩) hS (fun q _ h => h) (fun q h => h) (fun q _ h => h) (fun E9 ce q9 u t H locs ht hvm hw hB hz1 hk1 hS hce hcv hcl => ?_) (fun r u t H locs ht hvm hw hB hz1 hk1 hS => ?_)
  · obtain ⟨hK9, hB⟩ := hB
    have hH := wHS_h ht hB
    have hm := cpt_burn x b E9 hK9
    obtain ⟨hm1, hm2⟩ := hm
    rcases hm1 with rfl | rfl
    · refine vx_catch (name := "java/lang/IndexOutOfBoundsException") hown (tableOf []) ⟨0, 9, 12, 24⟩ (tableOf [(0, 9, 15, 34)]) htab (fun z hz => nomatch hz) rfl (by decide) (hts (.classLink RL 24 "java/lang/IndexOutOfBoundsException") (by decide +kernel)) (va_Nw.use rfl (hC.2.2.2.1 ("java/lang/IndexOutOfBoundsException", "java/lang/IndexOutOfBoundsException") (by decide +kernel))) hce hcv hcl ?_
      refine lv_astore_n (lv' := [(3, .ref q9), (0, .ref (g 0)), (1, .int b), (2, .ref (g 40))]) hx hb dL_burn_12 rfl hl (by decide) rfl (fun ls hl => ?_)
      refine lv_iconst (v := 1) hx hb dL_burn_13 (by decide) ?_
      refine W.widen (k := 4) (n := 24) (by omega) (by omega) ?_
      exact W.iret (v := 1) hx hb hr (fun t ht hW => ⟨⟨1, (o, g), rfl, ⟨fun h => absurd (h.symm.trans hK9) (by simp), fun X hX => by rw [← Option.some.inj (hK9.symm.trans hX)]; decide +kernel⟩, gE.rf g, by rw [hm2]; exact wHS_t ht hH⟩, hS.F ht⟩) hS.2.2 dL_burn_14
    · refine vx_catch (name := "java/lang/UnsupportedOperationException") hown (tableOf [(0, 9, 12, 24)]) ⟨0, 9, 15, 34⟩ (tableOf []) htab (fun z hz => by (rcases List.mem_cons.mp hz with rfl | hz; exact Or.inr ⟨by decide, "java/lang/IndexOutOfBoundsException", hts (.classLink RL 24 "java/lang/IndexOutOfBoundsException") (by decide +kernel), hNc ("java/lang/UnsupportedOperationException", "java/lang/IndexOutOfBoundsException") (by decide +kernel)⟩; exact absurd hz (List.not_mem_nil))) rfl (by decide) (hts (.classLink RL 34 "java/lang/UnsupportedOperationException") (by decide +kernel)) (va_Nw.use rfl (hC.2.2.2.1 ("java/lang/UnsupportedOperationException", "java/lang/UnsupportedOperationException") (by decide +kernel))) hce hcv hcl ?_
      refine lv_astore_n (lv' := [(3, .ref q9), (0, .ref (g 0)), (1, .int b), (2, .ref (g 40))]) hx hb dL_burn_15 rfl hl (by decide) rfl (fun ls hl => ?_)
      refine lv_iconst (v := 2) hx hb dL_burn_16 (by decide) ?_
      refine W.widen (k := 4) (n := 24) (by omega) (by omega) ?_
      exact W.iret (v := 2) hx hb hr (fun t ht hW => ⟨⟨2, (o, g), rfl, ⟨fun h => absurd (h.symm.trans hK9) (by simp), fun X hX => by rw [← Option.some.inj (hK9.symm.trans hX)]; decide +kernel⟩, gE.rf g, by rw [hm2]; exact wHS_t ht hH⟩, hS.F ht⟩) hS.2.2 dL_burn_17
  · obtain ⟨hnone, rfl⟩ := hw
    have hH := wHS_h ht hB
    refine lv_i2l hx hb dL_burn_7 rfl ?_
    refine wr_last (t := 40) hx hb hK hH hS lv_o1 rfl 4 rfl (by unfold vp_in; decide) dL_burn_8 (fun H locs hH hS => ?_)
    have hH := po_l hH
    refine lv_goto (tgt := 18) hx hb dL_burn_9 (by decide) ?_
    refine lv_iconst (v := 0) hx hb dL_burn_18 (by decide) ?_
    refine W.widen (k := 4) (n := 24) (by omega) (by omega) ?_
    exact W.iret (v := 0) hx hb hr (fun t ht hW => ⟨⟨0, ((vp_updL o.1 (0 : Int32).toNatClampNeg (((cp_burn x b).2.1).toInt64), o.2), g), rfl, ⟨fun _ => ⟨rfl, by show vp_updL o.1 (0 : Int32).toNatClampNeg (((cp_burn x b).2.1).toInt64) 0 = _; rw [show (0 : Int32).toNatClampNeg = 0 from rfl]; simp [vp_updL]⟩, fun X hX => by rw [hnone] at hX; cases hX⟩, (gE.rf g), wHS_t ht hH⟩, hS.F ht⟩) hS.2.2 dL_burn_19
set_option maxHeartbeats 4000000 in
theorem cpt_ask (x : St) (b : Int32) (v : Int32) (X : String) : (cp_ask x b v).1 = some X → (X = "java/lang/IndexOutOfBoundsException" ∨ X = "java/lang/IllegalArgumentException" ∨ X = "java/lang/IllegalStateException") ∧ (cp_ask x b v).2.2 = x := by
  unfold cp_ask
  repeat' split
  all_goals intro h
  all_goals first | (exfalso; revert h; simp; done) | (have h2 := Option.some.inj h; subst h2; exact ⟨by decide, rfl⟩)
set_option maxHeartbeats 4000000 in
set_option maxRecDepth 100000 in
theorem met_L_ask (l : Launch) (E : wE) (o : wO) (g : Nat → Nat) (x y : St) (b : Int32) (v : Int32) (hlt : l.stackTraces = false) (hI : CI x) : Met l yL_ask wsL_ask ({ frames := 11, cells := 4, slots := 24, locals := 1200 } : Room) (va_Pc [.ref (g 0), .int b, .int v, .ref (g 40)] (wPreL E o g x y)) (va_Qi (fun (r : Int32) (u : wO × (Nat → Nat)) => lRes ["java/lang/IndexOutOfBoundsException", "java/lang/IllegalArgumentException", "java/lang/IllegalStateException"] r (u.1.1 0) (cp_ask x b v)) (fun (u : wO × (Nat → Nat)) t => gE g u.2 ∧ wHS E u.1 u.2 (cp_ask x b v).2.2 y t.heap) (wA E)) 4 24 (wA E) := by
  refine va_MetW (cc := cL_ask) (maxL := 5) (ret := (some .int)) (by decide) rfl ?_
  intro p e s m args below meth c s₁ B hml hv
  obtain ⟨rfl, ⟨⟨⟨hz, hH, hK⟩, hC⟩, hDD⟩, hNc⟩ := hv
  have hx := B.exec
  have hb := B.bytes
  have hr := B.returns
  have hts := atoms_spec (ws := wsL_ask) B.pre
  have hown : s.vm.findClass RL = some m.cls := findClass_of_methodNamed B.named
  have hlocks := B.notSynchronized
  have htab : c.exceptionTable.toList = tableOf [(0, 10, 13, 24), (0, 10, 17, 13), (0, 10, 21, 15)] := vx_table (x := yL_ask) B (hts _ List.mem_cons_self)
  have hS : va_S (wA E) s.heap s.heap [] := va_S.rf
  have hl := lv_entry ([.ref (g 0), .int b, .int v, .ref (g 40)]) (n := 5) (Nat.le_of_ble_eq_true rfl)
  rw [lg_entry_eq]
  generalize (lg_sl ([.ref (g 0), .int b, .int v, .ref (g 40)]) ++ List.replicate (5 - (lg_sl ([.ref (g 0), .int b, .int v, .ref (g 40)])).length) Slot.unset).toArray = ls at hl ⊢
  have hl : lv_has ls 5 [(0, .ref (g 0)), (1, .int b), (2, .int v), (3, .ref (g 40))] := hl
  obtain ⟨H, eH⟩ : ∃ z, z = s.heap := ⟨_, rfl⟩
  have hH : wHS E o g x y H := by rw [eH]; exact hH
  have hS : va_S (wA E) s.heap H [] := by rw [eH]; exact hS
  refine W.heapTo eH ?_
  refine lv_aload_n hx hb dL_ask_0 rfl (lv_at hl 3 rfl) ?_
  refine lv_iconst (v := 0) hx hb dL_ask_1 (by decide) ?_
  refine lv_aload_n hx hb dL_ask_2 rfl (lv_at hl 0 rfl) ?_
  refine lv_iload_n hx hb dL_ask_3 rfl (lv_at hl 1 rfl) ?_
  refine lv_iload_n hx hb dL_ask_4 rfl (lv_at hl 2 rfl) ?_
  refine vx_calli (vx_runV (As := [.int b, .int v]) (rest := [.int 0, .ref (g 40)]) ⟨hx, hb, hml, hown, hts⟩ (met_X4_ask l E o g x y b v hlt hI) (cwV 2 hts gL_ask_X4_ask rfl rfl rfl (by decide +kernel) ⟨Nat.le_of_ble_eq_true rfl, Nat.le_of_ble_eq_true rfl⟩) ⟨fun a U f mk q => ⟨q.1, wPreX.calling q.2 a f mk⟩, (va_recv hK (wH_one hH lv_r0 (cel_rt (by omega))) (ci := 6) (q0 := 0) rfl rfl), fun U hU hW => ⟨rfl, wPreX_at hz hS hH hK hC U hU hW⟩⟩ rfl rfl hl.1 rfl (lv_room (Nat.le_of_ble_eq_true rfl)) dL_ask_5 ⟨by exact Nat.le_of_ble_eq_true rfl, by exact Nat.le_of_ble_eq_true rfl⟩) hS (fun q _ h => h) (fun q h => h) (fun q _ h => h) (fun E9 ce q9 u t H locs ht hvm hw hB hz1 hk1 hS hce hcv hcl => ?_) (fun r u t H locs ht hvm hw hB hz1 hk1 hS => ?_)
  · obtain ⟨hK9, hB⟩ := hB
    have hH := wHS_h ht hB
    have hm := cpt_ask x b v E9 hK9
    obtain ⟨hm1, hm2⟩ := hm
    rcases hm1 with rfl | rfl | rfl
    · refine vx_catch (name := "java/lang/IndexOutOfBoundsException") hown (tableOf []) ⟨0, 10, 13, 24⟩ (tableOf [(0, 10, 17, 13), (0, 10, 21, 15)]) htab (fun z hz => nomatch hz) rfl (by decide) (hts (.classLink RL 24 "java/lang/IndexOutOfBoundsException") (by decide +kernel)) (va_Nw.use rfl (hC.2.2.2.1 ("java/lang/IndexOutOfBoundsException", "java/lang/IndexOutOfBoundsException") (by decide +kernel))) hce hcv hcl ?_
      refine lv_astore (lv' := [(4, .ref q9), (0, .ref (g 0)), (1, .int b), (2, .int v), (3, .ref (g 40))]) hx hb dL_ask_13 hl (by decide) rfl (fun ls hl => ?_)
      refine lv_iconst (v := 1) hx hb dL_ask_15 (by decide) ?_
      refine W.widen (k := 4) (n := 24) (by omega) (by omega) ?_
      exact W.iret (v := 1) hx hb hr (fun t ht hW => ⟨⟨1, (o, g), rfl, ⟨fun h => absurd (h.symm.trans hK9) (by simp), fun X hX => by rw [← Option.some.inj (hK9.symm.trans hX)]; decide +kernel⟩, gE.rf g, by rw [hm2]; exact wHS_t ht hH⟩, hS.F ht⟩) hS.2.2 dL_ask_16
    · refine vx_catch (name := "java/lang/IllegalArgumentException") hown (tableOf [(0, 10, 13, 24)]) ⟨0, 10, 17, 13⟩ (tableOf [(0, 10, 21, 15)]) htab (fun z hz => by (rcases List.mem_cons.mp hz with rfl | hz; exact Or.inr ⟨by decide, "java/lang/IndexOutOfBoundsException", hts (.classLink RL 24 "java/lang/IndexOutOfBoundsException") (by decide +kernel), hNc ("java/lang/IllegalArgumentException", "java/lang/IndexOutOfBoundsException") (by decide +kernel)⟩; exact absurd hz (List.not_mem_nil))) rfl (by decide) (hts (.classLink RL 13 "java/lang/IllegalArgumentException") (by decide +kernel)) (va_Nw.use rfl (hC.2.2.2.1 ("java/lang/IllegalArgumentException", "java/lang/IllegalArgumentException") (by decide +kernel))) hce hcv hcl ?_
      refine lv_astore (lv' := [(4, .ref q9), (0, .ref (g 0)), (1, .int b), (2, .int v), (3, .ref (g 40))]) hx hb dL_ask_17 hl (by decide) rfl (fun ls hl => ?_)
      refine lv_iconst (v := 2) hx hb dL_ask_19 (by decide) ?_
      refine W.widen (k := 4) (n := 24) (by omega) (by omega) ?_
      exact W.iret (v := 2) hx hb hr (fun t ht hW => ⟨⟨2, (o, g), rfl, ⟨fun h => absurd (h.symm.trans hK9) (by simp), fun X hX => by rw [← Option.some.inj (hK9.symm.trans hX)]; decide +kernel⟩, gE.rf g, by rw [hm2]; exact wHS_t ht hH⟩, hS.F ht⟩) hS.2.2 dL_ask_20
    · refine vx_catch (name := "java/lang/IllegalStateException") hown (tableOf [(0, 10, 13, 24), (0, 10, 17, 13)]) ⟨0, 10, 21, 15⟩ (tableOf []) htab (fun z hz => by (rcases List.mem_cons.mp hz with rfl | hz; exact Or.inr ⟨by decide, "java/lang/IndexOutOfBoundsException", hts (.classLink RL 24 "java/lang/IndexOutOfBoundsException") (by decide +kernel), hNc ("java/lang/IllegalStateException", "java/lang/IndexOutOfBoundsException") (by decide +kernel)⟩; (rcases List.mem_cons.mp hz with rfl | hz; exact Or.inr ⟨by decide, "java/lang/IllegalArgumentException", hts (.classLink RL 13 "java/lang/IllegalArgumentException") (by decide +kernel), hNc ("java/lang/IllegalStateException", "java/lang/IllegalArgumentException") (by decide +kernel)⟩; exact absurd hz (List.not_mem_nil)))) rfl (by decide) (hts (.classLink RL 15 "java/lang/IllegalStateException") (by decide +kernel)) (va_Nw.use rfl (hC.2.2.2.1 ("java/lang/IllegalStateException", "java/lang/IllegalStateException") (by decide +kernel))) hce hcv hcl ?_
      refine lv_astore (lv' := [(4, .ref q9), (0, .ref (g 0)), (1, .int b), (2, .int v), (3, .ref (g 40))]) hx hb dL_ask_21 hl (by decide) rfl (fun ls hl => ?_)
      refine lv_iconst (v := 3) hx hb dL_ask_23 (by decide) ?_
      refine W.widen (k := 4) (n := 24) (by omega) (by omega) ?_
      exact W.iret (v := 3) hx hb hr (fun t ht hW => ⟨⟨3, (o, g), rfl, ⟨fun h => absurd (h.symm.trans hK9) (by simp), fun X hX => by rw [← Option.some.inj (hK9.symm.trans hX)]; decide +kernel⟩, gE.rf g, by rw [hm2]; exact wHS_t ht hH⟩, hS.F ht⟩) hS.2.2 dL_ask_24
  · obtain ⟨hnone, rfl⟩ := hw
    have hH := wHS_h ht hB
    refine lv_i2l hx hb dL_ask_8 rfl ?_
    refine wr_last (t := 40) hx hb hK hH hS lv_o1 rfl 4 rfl (by unfold vp_in; decide) dL_ask_9 (fun H locs hH hS => ?_)
    have hH := po_l hH
    refine lv_goto (tgt := 25) hx hb dL_ask_10 (by decide) ?_
    refine lv_iconst (v := 0) hx hb dL_ask_25 (by decide) ?_
    refine W.widen (k := 4) (n := 24) (by omega) (by omega) ?_
    exact W.iret (v := 0) hx hb hr (fun t ht hW => ⟨⟨0, ((vp_updL o.1 (0 : Int32).toNatClampNeg (((cp_ask x b v).2.1).toInt64), o.2), g), rfl, ⟨fun _ => ⟨rfl, by show vp_updL o.1 (0 : Int32).toNatClampNeg (((cp_ask x b v).2.1).toInt64) 0 = _; rw [show (0 : Int32).toNatClampNeg = 0 from rfl]; simp [vp_updL]⟩, fun X hX => by rw [hnone] at hX; cases hX⟩, (gE.rf g), wHS_t ht hH⟩, hS.F ht⟩) hS.2.2 dL_ask_26
set_option maxHeartbeats 4000000 in
theorem cpt_mostAsked (x : St) (b : Int32) (X : String) : (cp_mostAsked x b).1 = some X → (X = "java/lang/IndexOutOfBoundsException" ∨ X = "java/util/NoSuchElementException") ∧ (cp_mostAsked x b).2.2 = x := by
  unfold cp_mostAsked
  repeat' split
  all_goals intro h
  all_goals first | (exfalso; revert h; simp; done) | (have h2 := Option.some.inj h; subst h2; exact ⟨by decide, rfl⟩)
set_option maxHeartbeats 4000000 in
set_option maxRecDepth 100000 in
theorem met_L_mostAsked (l : Launch) (E : wE) (o : wO) (g : Nat → Nat) (x y : St) (b : Int32) (hlt : l.stackTraces = false) (hI : CI x) : Met l yL_mostAsked wsL_mostAsked ({ frames := 11, cells := 4, slots := 24, locals := 1200 } : Room) (va_Pc [.ref (g 0), .int b, .ref (g 40)] (wPreL E o g x y)) (va_Qi (fun (r : Int32) (u : wO × (Nat → Nat)) => lRes ["java/lang/IndexOutOfBoundsException", "java/util/NoSuchElementException"] r (u.1.1 0) (cp_mostAsked x b)) (fun (u : wO × (Nat → Nat)) t => gE g u.2 ∧ wHS E u.1 u.2 (cp_mostAsked x b).2.2 y t.heap) (wA E)) 4 24 (wA E) := by
  refine va_MetW (cc := cL_mostAsked) (maxL := 4) (ret := (some .int)) (by decide) rfl ?_
  intro p e s m args below meth c s₁ B hml hv
  obtain ⟨rfl, ⟨⟨⟨hz, hH, hK⟩, hC⟩, hDD⟩, hNc⟩ := hv
  have hx := B.exec
  have hb := B.bytes
  have hr := B.returns
  have hts := atoms_spec (ws := wsL_mostAsked) B.pre
  have hown : s.vm.findClass RL = some m.cls := findClass_of_methodNamed B.named
  have hlocks := B.notSynchronized
  have htab : c.exceptionTable.toList = tableOf [(0, 9, 12, 24), (0, 9, 15, 43)] := vx_table (x := yL_mostAsked) B (hts _ List.mem_cons_self)
  have hS : va_S (wA E) s.heap s.heap [] := va_S.rf
  have hl := lv_entry ([.ref (g 0), .int b, .ref (g 40)]) (n := 4) (Nat.le_of_ble_eq_true rfl)
  rw [lg_entry_eq]
  generalize (lg_sl ([.ref (g 0), .int b, .ref (g 40)]) ++ List.replicate (4 - (lg_sl ([.ref (g 0), .int b, .ref (g 40)])).length) Slot.unset).toArray = ls at hl ⊢
  have hl : lv_has ls 4 [(0, .ref (g 0)), (1, .int b), (2, .ref (g 40))] := hl
  obtain ⟨H, eH⟩ : ∃ z, z = s.heap := ⟨_, rfl⟩
  have hH : wHS E o g x y H := by rw [eH]; exact hH
  have hS : va_S (wA E) s.heap H [] := by rw [eH]; exact hS
  refine W.heapTo eH ?_
  refine lv_aload_n hx hb dL_mostAsked_0 rfl (lv_at hl 2 rfl) ?_
  refine lv_iconst (v := 0) hx hb dL_mostAsked_1 (by decide) ?_
  refine lv_aload_n hx hb dL_mostAsked_2 rfl (lv_at hl 0 rfl) ?_
  refine lv_iload_n hx hb dL_mostAsked_3 rfl (lv_at hl 1 rfl) ?_
  refine vx_calli (vx_runV (As := [.int b]) (rest := [.int 0, .ref (g 40)]) ⟨hx, hb, hml, hown, hts⟩ (met_X4_mostAsked l E o g x y b hlt hI) (cwV 1 hts gL_mostAsked_X4_mostAsked rfl rfl rfl (by decide +kernel) ⟨Nat.le_of_ble_eq_true rfl, Nat.le_of_ble_eq_true rfl⟩) ⟨fun a U f mk q => ⟨q.1, wPreX.calling q.2 a f mk⟩, (va_recv hK (wH_one hH lv_r0 (cel_rt (by omega))) (ci := 6) (q0 := 0) rfl rfl), fun U hU hW => ⟨rfl, wPreX_at hz hS hH hK hC U hU hW⟩⟩ rfl rfl hl.1 rfl (lv_room (Nat.le_of_ble_eq_true rfl)) dL_mostAsked_4 ⟨by exact Nat.le_of_ble_eq_true rfl, by exact Nat.le_of_ble_eq_true rfl⟩) hS (fun q _ h => h) (fun q h => h) (fun q _ h => h) (fun E9 ce q9 u t H locs ht hvm hw hB hz1 hk1 hS hce hcv hcl => ?_) (fun r u t H locs ht hvm hw hB hz1 hk1 hS => ?_)
  · obtain ⟨hK9, hB⟩ := hB
    have hH := wHS_h ht hB
    have hm := cpt_mostAsked x b E9 hK9
    obtain ⟨hm1, hm2⟩ := hm
    rcases hm1 with rfl | rfl
    · refine vx_catch (name := "java/lang/IndexOutOfBoundsException") hown (tableOf []) ⟨0, 9, 12, 24⟩ (tableOf [(0, 9, 15, 43)]) htab (fun z hz => nomatch hz) rfl (by decide) (hts (.classLink RL 24 "java/lang/IndexOutOfBoundsException") (by decide +kernel)) (va_Nw.use rfl (hC.2.2.2.1 ("java/lang/IndexOutOfBoundsException", "java/lang/IndexOutOfBoundsException") (by decide +kernel))) hce hcv hcl ?_
      refine lv_astore_n (lv' := [(3, .ref q9), (0, .ref (g 0)), (1, .int b), (2, .ref (g 40))]) hx hb dL_mostAsked_12 rfl hl (by decide) rfl (fun ls hl => ?_)
      refine lv_iconst (v := 1) hx hb dL_mostAsked_13 (by decide) ?_
      refine W.widen (k := 4) (n := 24) (by omega) (by omega) ?_
      exact W.iret (v := 1) hx hb hr (fun t ht hW => ⟨⟨1, (o, g), rfl, ⟨fun h => absurd (h.symm.trans hK9) (by simp), fun X hX => by rw [← Option.some.inj (hK9.symm.trans hX)]; decide +kernel⟩, gE.rf g, by rw [hm2]; exact wHS_t ht hH⟩, hS.F ht⟩) hS.2.2 dL_mostAsked_14
    · refine vx_catch (name := "java/util/NoSuchElementException") hown (tableOf [(0, 9, 12, 24)]) ⟨0, 9, 15, 43⟩ (tableOf []) htab (fun z hz => by (rcases List.mem_cons.mp hz with rfl | hz; exact Or.inr ⟨by decide, "java/lang/IndexOutOfBoundsException", hts (.classLink RL 24 "java/lang/IndexOutOfBoundsException") (by decide +kernel), hNc ("java/util/NoSuchElementException", "java/lang/IndexOutOfBoundsException") (by decide +kernel)⟩; exact absurd hz (List.not_mem_nil))) rfl (by decide) (hts (.classLink RL 43 "java/util/NoSuchElementException") (by decide +kernel)) (va_Nw.use rfl (hC.2.2.2.1 ("java/util/NoSuchElementException", "java/util/NoSuchElementException") (by decide +kernel))) hce hcv hcl ?_
      refine lv_astore_n (lv' := [(3, .ref q9), (0, .ref (g 0)), (1, .int b), (2, .ref (g 40))]) hx hb dL_mostAsked_15 rfl hl (by decide) rfl (fun ls hl => ?_)
      refine lv_iconst (v := 2) hx hb dL_mostAsked_16 (by decide) ?_
      refine W.widen (k := 4) (n := 24) (by omega) (by omega) ?_
      exact W.iret (v := 2) hx hb hr (fun t ht hW => ⟨⟨2, (o, g), rfl, ⟨fun h => absurd (h.symm.trans hK9) (by simp), fun X hX => by rw [← Option.some.inj (hK9.symm.trans hX)]; decide +kernel⟩, gE.rf g, by rw [hm2]; exact wHS_t ht hH⟩, hS.F ht⟩) hS.2.2 dL_mostAsked_17
  · obtain ⟨hnone, rfl⟩ := hw
    have hH := wHS_h ht hB
    refine lv_i2l hx hb dL_mostAsked_7 rfl ?_
    refine wr_last (t := 40) hx hb hK hH hS lv_o1 rfl 4 rfl (by unfold vp_in; decide) dL_mostAsked_8 (fun H locs hH hS => ?_)
    have hH := po_l hH
    refine lv_goto (tgt := 18) hx hb dL_mostAsked_9 (by decide) ?_
    refine lv_iconst (v := 0) hx hb dL_mostAsked_18 (by decide) ?_
    refine W.widen (k := 4) (n := 24) (by omega) (by omega) ?_
    exact W.iret (v := 0) hx hb hr (fun t ht hW => ⟨⟨0, ((vp_updL o.1 (0 : Int32).toNatClampNeg (((cp_mostAsked x b).2.1).toInt64), o.2), g), rfl, ⟨fun _ => ⟨rfl, by show vp_updL o.1 (0 : Int32).toNatClampNeg (((cp_mostAsked x b).2.1).toInt64) 0 = _; rw [show (0 : Int32).toNatClampNeg = 0 from rfl]; simp [vp_updL]⟩, fun X hX => by rw [hnone] at hX; cases hX⟩, (gE.rf g), wHS_t ht hH⟩, hS.F ht⟩) hS.2.2 dL_mostAsked_19
set_option maxHeartbeats 4000000 in
theorem cpt_least (x : St) (b : Int32) (X : String) : (cp_least x b).1 = some X → (X = "java/lang/IndexOutOfBoundsException" ∨ X = "java/util/NoSuchElementException") ∧ (cp_least x b).2.2 = x := by
  unfold cp_least
  repeat' split
  all_goals intro h
  all_goals first | (exfalso; revert h; simp; done) | (have h2 := Option.some.inj h; subst h2; exact ⟨by decide, rfl⟩)
set_option maxHeartbeats 4000000 in
set_option maxRecDepth 100000 in
theorem met_L_least (l : Launch) (E : wE) (o : wO) (g : Nat → Nat) (x y : St) (b : Int32) (hlt : l.stackTraces = false) (hI : CI x) : Met l yL_least wsL_least ({ frames := 11, cells := 4, slots := 24, locals := 1200 } : Room) (va_Pc [.ref (g 0), .int b, .ref (g 40)] (wPreL E o g x y)) (va_Qi (fun (r : Int32) (u : wO × (Nat → Nat)) => lRes ["java/lang/IndexOutOfBoundsException", "java/util/NoSuchElementException"] r (u.1.1 0) (cp_least x b)) (fun (u : wO × (Nat → Nat)) t => gE g u.2 ∧ wHS E u.1 u.2 (cp_least x b).2.2 y t.heap) (wA E)) 4 24 (wA E) := by
  refine va_MetW (cc := cL_least) (maxL := 4) (ret := (some .int)) (by decide) rfl ?_
  intro p e s m args below meth c s₁ B hml hv
  obtain ⟨rfl, ⟨⟨⟨hz, hH, hK⟩, hC⟩, hDD⟩, hNc⟩ := hv
  have hx := B.exec
  have hb := B.bytes
  have hr := B.returns
  have hts := atoms_spec (ws := wsL_least) B.pre
  have hown : s.vm.findClass RL = some m.cls := findClass_of_methodNamed B.named
  have hlocks := B.notSynchronized
  have htab : c.exceptionTable.toList = tableOf [(0, 9, 12, 24), (0, 9, 15, 43)] := vx_table (x := yL_least) B (hts _ List.mem_cons_self)
  have hS : va_S (wA E) s.heap s.heap [] := va_S.rf
  have hl := lv_entry ([.ref (g 0), .int b, .ref (g 40)]) (n := 4) (Nat.le_of_ble_eq_true rfl)
  rw [lg_entry_eq]
  generalize (lg_sl ([.ref (g 0), .int b, .ref (g 40)]) ++ List.replicate (4 - (lg_sl ([.ref (g 0), .int b, .ref (g 40)])).length) Slot.unset).toArray = ls at hl ⊢
  have hl : lv_has ls 4 [(0, .ref (g 0)), (1, .int b), (2, .ref (g 40))] := hl
  obtain ⟨H, eH⟩ : ∃ z, z = s.heap := ⟨_, rfl⟩
  have hH : wHS E o g x y H := by rw [eH]; exact hH
  have hS : va_S (wA E) s.heap H [] := by rw [eH]; exact hS
  refine W.heapTo eH ?_
  refine lv_aload_n hx hb dL_least_0 rfl (lv_at hl 2 rfl) ?_
  refine lv_iconst (v := 0) hx hb dL_least_1 (by decide) ?_
  refine lv_aload_n hx hb dL_least_2 rfl (lv_at hl 0 rfl) ?_
  refine lv_iload_n hx hb dL_least_3 rfl (lv_at hl 1 rfl) ?_
  refine vx_calli (vx_runV (As := [.int b]) (rest := [.int 0, .ref (g 40)]) ⟨hx, hb, hml, hown, hts⟩ (met_X4_least l E o g x y b hlt hI) (cwV 1 hts gL_least_X4_least rfl rfl rfl (by decide +kernel) ⟨Nat.le_of_ble_eq_true rfl, Nat.le_of_ble_eq_true rfl⟩) ⟨fun a U f mk q => ⟨q.1, wPreX.calling q.2 a f mk⟩, (va_recv hK (wH_one hH lv_r0 (cel_rt (by omega))) (ci := 6) (q0 := 0) rfl rfl), fun U hU hW => ⟨rfl, wPreX_at hz hS hH hK hC U hU hW⟩⟩ rfl rfl hl.1 rfl (lv_room (Nat.le_of_ble_eq_true rfl)) dL_least_4 ⟨by exact Nat.le_of_ble_eq_true rfl, by exact Nat.le_of_ble_eq_true rfl⟩) hS (fun q _ h => h) (fun q h => h) (fun q _ h => h) (fun E9 ce q9 u t H locs ht hvm hw hB hz1 hk1 hS hce hcv hcl => ?_) (fun r u t H locs ht hvm hw hB hz1 hk1 hS => ?_)
  · obtain ⟨hK9, hB⟩ := hB
    have hH := wHS_h ht hB
    have hm := cpt_least x b E9 hK9
    obtain ⟨hm1, hm2⟩ := hm
    rcases hm1 with rfl | rfl
    · refine vx_catch (name := "java/lang/IndexOutOfBoundsException") hown (tableOf []) ⟨0, 9, 12, 24⟩ (tableOf [(0, 9, 15, 43)]) htab (fun z hz => nomatch hz) rfl (by decide) (hts (.classLink RL 24 "java/lang/IndexOutOfBoundsException") (by decide +kernel)) (va_Nw.use rfl (hC.2.2.2.1 ("java/lang/IndexOutOfBoundsException", "java/lang/IndexOutOfBoundsException") (by decide +kernel))) hce hcv hcl ?_
      refine lv_astore_n (lv' := [(3, .ref q9), (0, .ref (g 0)), (1, .int b), (2, .ref (g 40))]) hx hb dL_least_12 rfl hl (by decide) rfl (fun ls hl => ?_)
      refine lv_iconst (v := 1) hx hb dL_least_13 (by decide) ?_
      refine W.widen (k := 4) (n := 24) (by omega) (by omega) ?_
      exact W.iret (v := 1) hx hb hr (fun t ht hW => ⟨⟨1, (o, g), rfl, ⟨fun h => absurd (h.symm.trans hK9) (by simp), fun X hX => by rw [← Option.some.inj (hK9.symm.trans hX)]; decide +kernel⟩, gE.rf g, by rw [hm2]; exact wHS_t ht hH⟩, hS.F ht⟩) hS.2.2 dL_least_14
    · refine vx_catch (name := "java/util/NoSuchElementException") hown (tableOf [(0, 9, 12, 24)]) ⟨0, 9, 15, 43⟩ (tableOf []) htab (fun z hz => by (rcases List.mem_cons.mp hz with rfl | hz; exact Or.inr ⟨by decide, "java/lang/IndexOutOfBoundsException", hts (.classLink RL 24 "java/lang/IndexOutOfBoundsException") (by decide +kernel), hNc ("java/util/NoSuchElementException", "java/lang/IndexOutOfBoundsException") (by decide +kernel)⟩; exact absurd hz (List.not_mem_nil))) rfl (by decide) (hts (.classLink RL 43 "java/util/NoSuchElementException") (by decide +kernel)) (va_Nw.use rfl (hC.2.2.2.1 ("java/util/NoSuchElementException", "java/util/NoSuchElementException") (by decide +kernel))) hce hcv hcl ?_
      refine lv_astore_n (lv' := [(3, .ref q9), (0, .ref (g 0)), (1, .int b), (2, .ref (g 40))]) hx hb dL_least_15 rfl hl (by decide) rfl (fun ls hl => ?_)
      refine lv_iconst (v := 2) hx hb dL_least_16 (by decide) ?_
      refine W.widen (k := 4) (n := 24) (by omega) (by omega) ?_
      exact W.iret (v := 2) hx hb hr (fun t ht hW => ⟨⟨2, (o, g), rfl, ⟨fun h => absurd (h.symm.trans hK9) (by simp), fun X hX => by rw [← Option.some.inj (hK9.symm.trans hX)]; decide +kernel⟩, gE.rf g, by rw [hm2]; exact wHS_t ht hH⟩, hS.F ht⟩) hS.2.2 dL_least_17
  · obtain ⟨hnone, rfl⟩ := hw
    have hH := wHS_h ht hB
    refine lv_i2l hx hb dL_least_7 rfl ?_
    refine wr_last (t := 40) hx hb hK hH hS lv_o1 rfl 4 rfl (by unfold vp_in; decide) dL_least_8 (fun H locs hH hS => ?_)
    have hH := po_l hH
    refine lv_goto (tgt := 18) hx hb dL_least_9 (by decide) ?_
    refine lv_iconst (v := 0) hx hb dL_least_18 (by decide) ?_
    refine W.widen (k := 4) (n := 24) (by omega) (by omega) ?_
    exact W.iret (v := 0) hx hb hr (fun t ht hW => ⟨⟨0, ((vp_updL o.1 (0 : Int32).toNatClampNeg (((cp_least x b).2.1).toInt64), o.2), g), rfl, ⟨fun _ => ⟨rfl, by show vp_updL o.1 (0 : Int32).toNatClampNeg (((cp_least x b).2.1).toInt64) 0 = _; rw [show (0 : Int32).toNatClampNeg = 0 from rfl]; simp [vp_updL]⟩, fun X hX => by rw [hnone] at hX; cases hX⟩, (gE.rf g), wHS_t ht hH⟩, hS.F ht⟩) hS.2.2 dL_least_19
set_option maxHeartbeats 4000000 in
theorem cpt_worth (x : St) (b : Int32) (k : Int32) (v : Int32) (X : String) : (cp_worth x b k v).1 = some X → (X = "java/lang/IndexOutOfBoundsException" ∨ X = "java/lang/UnsupportedOperationException") ∧ (cp_worth x b k v).2.2 = x := by
  unfold cp_worth
  repeat' split
  all_goals intro h
  all_goals first | (exfalso; revert h; simp; done) | (have h2 := Option.some.inj h; subst h2; exact ⟨by decide, rfl⟩)
set_option maxHeartbeats 4000000 in
set_option maxRecDepth 100000 in
theorem met_L_worth (l : Launch) (E : wE) (o : wO) (g : Nat → Nat) (x y : St) (b : Int32) (k : Int32) (v : Int32) (hlt : l.stackTraces = false) (hI : CI x) : Met l yL_worth wsL_worth ({ frames := 11, cells := 4, slots := 24, locals := 1200 } : Room) (va_Pc [.ref (g 0), .int b, .int k, .int v, .ref (g 40)] (wPreL E o g x y)) (va_Qi (fun (r : Int32) (u : wO × (Nat → Nat)) => lRes ["java/lang/IndexOutOfBoundsException", "java/lang/UnsupportedOperationException"] r (u.1.1 0) (cp_worth x b k v)) (fun (u : wO × (Nat → Nat)) t => gE g u.2 ∧ wHS E u.1 u.2 (cp_worth x b k v).2.2 y t.heap) (wA E)) 4 24 (wA E) := by
  refine va_MetW (cc := cL_worth) (maxL := 6) (ret := (some .int)) (by decide) rfl ?_
  intro p e s m args below meth c s₁ B hml hv
  obtain ⟨rfl, ⟨⟨⟨hz, hH, hK⟩, hC⟩, hDD⟩, hNc⟩ := hv
  have hx := B.exec
  have hb := B.bytes
  have hr := B.returns
  have hts := atoms_spec (ws := wsL_worth) B.pre
  have hown : s.vm.findClass RL = some m.cls := findClass_of_methodNamed B.named
  have hlocks := B.notSynchronized
  have htab : c.exceptionTable.toList = tableOf [(0, 12, 15, 24), (0, 12, 19, 34)] := vx_table (x := yL_worth) B (hts _ List.mem_cons_self)
  have hS : va_S (wA E) s.heap s.heap [] := va_S.rf
  have hl := lv_entry ([.ref (g 0), .int b, .int k, .int v, .ref (g 40)]) (n := 6) (Nat.le_of_ble_eq_true rfl)
  rw [lg_entry_eq]
  generalize (lg_sl ([.ref (g 0), .int b, .int k, .int v, .ref (g 40)]) ++ List.replicate (6 - (lg_sl ([.ref (g 0), .int b, .int k, .int v, .ref (g 40)])).length) Slot.unset).toArray = ls at hl ⊢
  have hl : lv_has ls 6 [(0, .ref (g 0)), (1, .int b), (2, .int k), (3, .int v), (4, .ref (g 40))] := hl
  obtain ⟨H, eH⟩ : ∃ z, z = s.heap := ⟨_, rfl⟩
  have hH : wHS E o g x y H := by rw [eH]; exact hH
  have hS : va_S (wA E) s.heap H [] := by rw [eH]; exact hS
  refine W.heapTo eH ?_
  refine lv_aload hx hb dL_worth_0 (lv_at hl 4 rfl) ?_
  refine lv_iconst (v := 0) hx hb dL_worth_2 (by decide) ?_
  refine lv_aload_n hx hb dL_worth_3 rfl (lv_at hl 0 rfl) ?_
  refine lv_iload_n hx hb dL_worth_4 rfl (lv_at hl 1 rfl) ?_
  refine lv_iload_n hx hb dL_worth_5 rfl (lv_at hl 2 rfl) ?_
  refine lv_iload_n hx hb dL_worth_6 rfl (lv_at hl 3 rfl) ?_
  refine vx_calli (vx_runV (As := [.int b, .int k, .int v]) (rest := [.int 0, .ref (g 40)]) ⟨hx, hb, hml, hown, hts⟩ (met_X4_worth l E o g x y b k v hlt hI) (cwV 3 hts gL_worth_X4_worth rfl rfl rfl (by decide +kernel) ⟨Nat.le_of_ble_eq_true rfl, Nat.le_of_ble_eq_true rfl⟩) ⟨fun a U f mk q => ⟨q.1, wPreX.calling q.2 a f mk⟩, (va_recv hK (wH_one hH lv_r0 (cel_rt (by omega))) (ci := 6) (q0 := 0) rfl rfl), fun U hU hW => ⟨rfl, wPreX_at hz hS hH hK hC U hU hW⟩⟩ rfl rfl hl.1 rfl (lv_room (Nat.le_of_ble_eq_true rfl)) dL_worth_7 ⟨by exact Nat.le_of_ble_eq_true rfl, by exact Nat.le_of_ble_eq_true rfl⟩) hS (fun q _ h => h) (fun q h => h) (fun q _ h => h) (fun E9 ce q9 u t H locs ht hvm hw hB hz1 hk1 hS hce hcv hcl => ?_) (fun r u t H locs ht hvm hw hB hz1 hk1 hS => ?_)
  · obtain ⟨hK9, hB⟩ := hB
    have hH := wHS_h ht hB
    have hm := cpt_worth x b k v E9 hK9
    obtain ⟨hm1, hm2⟩ := hm
    rcases hm1 with rfl | rfl
    · refine vx_catch (name := "java/lang/IndexOutOfBoundsException") hown (tableOf []) ⟨0, 12, 15, 24⟩ (tableOf [(0, 12, 19, 34)]) htab (fun z hz => nomatch hz) rfl (by decide) (hts (.classLink RL 24 "java/lang/IndexOutOfBoundsException") (by decide +kernel)) (va_Nw.use rfl (hC.2.2.2.1 ("java/lang/IndexOutOfBoundsException", "java/lang/IndexOutOfBoundsException") (by decide +kernel))) hce hcv hcl ?_
      refine lv_astore (lv' := [(5, .ref q9), (0, .ref (g 0)), (1, .int b), (2, .int k), (3, .int v), (4, .ref (g 40))]) hx hb dL_worth_15 hl (by decide) rfl (fun ls hl => ?_)
      refine lv_iconst (v := 1) hx hb dL_worth_17 (by decide) ?_
      refine W.widen (k := 4) (n := 24) (by omega) (by omega) ?_
      exact W.iret (v := 1) hx hb hr (fun t ht hW => ⟨⟨1, (o, g), rfl, ⟨fun h => absurd (h.symm.trans hK9) (by simp), fun X hX => by rw [← Option.some.inj (hK9.symm.trans hX)]; decide +kernel⟩, gE.rf g, by rw [hm2]; exact wHS_t ht hH⟩, hS.F ht⟩) hS.2.2 dL_worth_18
    · refine vx_catch (name := "java/lang/UnsupportedOperationException") hown (tableOf [(0, 12, 15, 24)]) ⟨0, 12, 19, 34⟩ (tableOf []) htab (fun z hz => by (rcases List.mem_cons.mp hz with rfl | hz; exact Or.inr ⟨by decide, "java/lang/IndexOutOfBoundsException", hts (.classLink RL 24 "java/lang/IndexOutOfBoundsException") (by decide +kernel), hNc ("java/lang/UnsupportedOperationException", "java/lang/IndexOutOfBoundsException") (by decide +kernel)⟩; exact absurd hz (List.not_mem_nil))) rfl (by decide) (hts (.classLink RL 34 "java/lang/UnsupportedOperationException") (by decide +kernel)) (va_Nw.use rfl (hC.2.2.2.1 ("java/lang/UnsupportedOperationException", "java/lang/UnsupportedOperationException") (by decide +kernel))) hce hcv hcl ?_
      refine lv_astore (lv' := [(5, .ref q9), (0, .ref (g 0)), (1, .int b), (2, .int k), (3, .int v), (4, .ref (g 40))]) hx hb dL_worth_19 hl (by decide) rfl (fun ls hl => ?_)
      refine lv_iconst (v := 2) hx hb dL_worth_21 (by decide) ?_
      refine W.widen (k := 4) (n := 24) (by omega) (by omega) ?_
      exact W.iret (v := 2) hx hb hr (fun t ht hW => ⟨⟨2, (o, g), rfl, ⟨fun h => absurd (h.symm.trans hK9) (by simp), fun X hX => by rw [← Option.some.inj (hK9.symm.trans hX)]; decide +kernel⟩, gE.rf g, by rw [hm2]; exact wHS_t ht hH⟩, hS.F ht⟩) hS.2.2 dL_worth_22
  · obtain ⟨hnone, rfl⟩ := hw
    have hH := wHS_h ht hB
    refine lv_i2l hx hb dL_worth_10 rfl ?_
    refine wr_last (t := 40) hx hb hK hH hS lv_o1 rfl 4 rfl (by unfold vp_in; decide) dL_worth_11 (fun H locs hH hS => ?_)
    have hH := po_l hH
    refine lv_goto (tgt := 23) hx hb dL_worth_12 (by decide) ?_
    refine lv_iconst (v := 0) hx hb dL_worth_23 (by decide) ?_
    refine W.widen (k := 4) (n := 24) (by omega) (by omega) ?_
    exact W.iret (v := 0) hx hb hr (fun t ht hW => ⟨⟨0, ((vp_updL o.1 (0 : Int32).toNatClampNeg (((cp_worth x b k v).2.1).toInt64), o.2), g), rfl, ⟨fun _ => ⟨rfl, by show vp_updL o.1 (0 : Int32).toNatClampNeg (((cp_worth x b k v).2.1).toInt64) 0 = _; rw [show (0 : Int32).toNatClampNeg = 0 from rfl]; simp [vp_updL]⟩, fun X hX => by rw [hnone] at hX; cases hX⟩, (gE.rf g), wHS_t ht hH⟩, hS.F ht⟩) hS.2.2 dL_worth_24
set_option maxHeartbeats 4000000 in
theorem cpt_bestWorth (x : St) (b : Int32) (v : Int32) (X : String) : (cp_bestWorth x b v).1 = some X → (X = "java/lang/IndexOutOfBoundsException" ∨ X = "java/lang/IllegalArgumentException") ∧ (cp_bestWorth x b v).2.2 = x := by
  unfold cp_bestWorth
  repeat' split
  all_goals intro h
  all_goals first | (exfalso; revert h; simp; done) | (have h2 := Option.some.inj h; subst h2; exact ⟨by decide, rfl⟩)
set_option maxHeartbeats 4000000 in
set_option maxRecDepth 100000 in
theorem met_L_bestWorth (l : Launch) (E : wE) (o : wO) (g : Nat → Nat) (x y : St) (b : Int32) (v : Int32) (hlt : l.stackTraces = false) (hI : CI x) : Met l yL_bestWorth wsL_bestWorth ({ frames := 11, cells := 4, slots := 24, locals := 1200 } : Room) (va_Pc [.ref (g 0), .int b, .int v, .ref (g 40)] (wPreL E o g x y)) (va_Qi (fun (r : Int32) (u : wO × (Nat → Nat)) => lRes ["java/lang/IndexOutOfBoundsException", "java/lang/IllegalArgumentException"] r (u.1.1 0) (cp_bestWorth x b v)) (fun (u : wO × (Nat → Nat)) t => gE g u.2 ∧ wHS E u.1 u.2 (cp_bestWorth x b v).2.2 y t.heap) (wA E)) 4 24 (wA E) := by
  refine va_MetW (cc := cL_bestWorth) (maxL := 5) (ret := (some .int)) (by decide) rfl ?_
  intro p e s m args below meth c s₁ B hml hv
  obtain ⟨rfl, ⟨⟨⟨hz, hH, hK⟩, hC⟩, hDD⟩, hNc⟩ := hv
  have hx := B.exec
  have hb := B.bytes
  have hr := B.returns
  have hts := atoms_spec (ws := wsL_bestWorth) B.pre
  have hown : s.vm.findClass RL = some m.cls := findClass_of_methodNamed B.named
  have hlocks := B.notSynchronized
  have htab : c.exceptionTable.toList = tableOf [(0, 10, 13, 24), (0, 10, 17, 13)] := vx_table (x := yL_bestWorth) B (hts _ List.mem_cons_self)
  have hS : va_S (wA E) s.heap s.heap [] := va_S.rf
  have hl := lv_entry ([.ref (g 0), .int b, .int v, .ref (g 40)]) (n := 5) (Nat.le_of_ble_eq_true rfl)
  rw [lg_entry_eq]
  generalize (lg_sl ([.ref (g 0), .int b, .int v, .ref (g 40)]) ++ List.replicate (5 - (lg_sl ([.ref (g 0), .int b, .int v, .ref (g 40)])).length) Slot.unset).toArray = ls at hl ⊢
  have hl : lv_has ls 5 [(0, .ref (g 0)), (1, .int b), (2, .int v), (3, .ref (g 40))] := hl
  obtain ⟨H, eH⟩ : ∃ z, z = s.heap := ⟨_, rfl⟩
  have hH : wHS E o g x y H := by rw [eH]; exact hH
  have hS : va_S (wA E) s.heap H [] := by rw [eH]; exact hS
  refine W.heapTo eH ?_
  refine lv_aload_n hx hb dL_bestWorth_0 rfl (lv_at hl 3 rfl) ?_
  refine lv_iconst (v := 0) hx hb dL_bestWorth_1 (by decide) ?_
  refine lv_aload_n hx hb dL_bestWorth_2 rfl (lv_at hl 0 rfl) ?_
  refine lv_iload_n hx hb dL_bestWorth_3 rfl (lv_at hl 1 rfl) ?_
  refine lv_iload_n hx hb dL_bestWorth_4 rfl (lv_at hl 2 rfl) ?_
  refine vx_calli (vx_runV (As := [.int b, .int v]) (rest := [.int 0, .ref (g 40)]) ⟨hx, hb, hml, hown, hts⟩ (met_X4_bestWorth l E o g x y b v hlt hI) (cwV 2 hts gL_bestWorth_X4_bestWorth rfl rfl rfl (by decide +kernel) ⟨Nat.le_of_ble_eq_true rfl, Nat.le_of_ble_eq_true rfl⟩) ⟨fun a U f mk q => ⟨q.1, wPreX.calling q.2 a f mk⟩, (va_recv hK (wH_one hH lv_r0 (cel_rt (by omega))) (ci := 6) (q0 := 0) rfl rfl), fun U hU hW => ⟨rfl, wPreX_at hz hS hH hK hC U hU hW⟩⟩ rfl rfl hl.1 rfl (lv_room (Nat.le_of_ble_eq_true rfl)) dL_bestWorth_5 ⟨by exact Nat.le_of_ble_eq_true rfl, by exact Nat.le_of_ble_eq_true rfl⟩) hS (fun q _ h => h) (fun q h => h) (fun q _ h => h) (fun E9 ce q9 u t H locs ht hvm hw hB hz1 hk1 hS hce hcv hcl => ?_) (fun r u t H locs ht hvm hw hB hz1 hk1 hS => ?_)
  · obtain ⟨hK9, hB⟩ := hB
    have hH := wHS_h ht hB
    have hm := cpt_bestWorth x b v E9 hK9
    obtain ⟨hm1, hm2⟩ := hm
    rcases hm1 with rfl | rfl
    · refine vx_catch (name := "java/lang/IndexOutOfBoundsException") hown (tableOf []) ⟨0, 10, 13, 24⟩ (tableOf [(0, 10, 17, 13)]) htab (fun z hz => nomatch hz) rfl (by decide) (hts (.classLink RL 24 "java/lang/IndexOutOfBoundsException") (by decide +kernel)) (va_Nw.use rfl (hC.2.2.2.1 ("java/lang/IndexOutOfBoundsException", "java/lang/IndexOutOfBoundsException") (by decide +kernel))) hce hcv hcl ?_
      refine lv_astore (lv' := [(4, .ref q9), (0, .ref (g 0)), (1, .int b), (2, .int v), (3, .ref (g 40))]) hx hb dL_bestWorth_13 hl (by decide) rfl (fun ls hl => ?_)
      refine lv_iconst (v := 1) hx hb dL_bestWorth_15 (by decide) ?_
      refine W.widen (k := 4) (n := 24) (by omega) (by omega) ?_
      exact W.iret (v := 1) hx hb hr (fun t ht hW => ⟨⟨1, (o, g), rfl, ⟨fun h => absurd (h.symm.trans hK9) (by simp), fun X hX => by rw [← Option.some.inj (hK9.symm.trans hX)]; decide +kernel⟩, gE.rf g, by rw [hm2]; exact wHS_t ht hH⟩, hS.F ht⟩) hS.2.2 dL_bestWorth_16
    · refine vx_catch (name := "java/lang/IllegalArgumentException") hown (tableOf [(0, 10, 13, 24)]) ⟨0, 10, 17, 13⟩ (tableOf []) htab (fun z hz => by (rcases List.mem_cons.mp hz with rfl | hz; exact Or.inr ⟨by decide, "java/lang/IndexOutOfBoundsException", hts (.classLink RL 24 "java/lang/IndexOutOfBoundsException") (by decide +kernel), hNc ("java/lang/IllegalArgumentException", "java/lang/IndexOutOfBoundsException") (by decide +kernel)⟩; exact absurd hz (List.not_mem_nil))) rfl (by decide) (hts (.classLink RL 13 "java/lang/IllegalArgumentException") (by decide +kernel)) (va_Nw.use rfl (hC.2.2.2.1 ("java/lang/IllegalArgumentException", "java/lang/IllegalArgumentException") (by decide +kernel))) hce hcv hcl ?_
      refine lv_astore (lv' := [(4, .ref q9), (0, .ref (g 0)), (1, .int b), (2, .int v), (3, .ref (g 40))]) hx hb dL_bestWorth_17 hl (by decide) rfl (fun ls hl => ?_)
      refine lv_iconst (v := 2) hx hb dL_bestWorth_19 (by decide) ?_
      refine W.widen (k := 4) (n := 24) (by omega) (by omega) ?_
      exact W.iret (v := 2) hx hb hr (fun t ht hW => ⟨⟨2, (o, g), rfl, ⟨fun h => absurd (h.symm.trans hK9) (by simp), fun X hX => by rw [← Option.some.inj (hK9.symm.trans hX)]; decide +kernel⟩, gE.rf g, by rw [hm2]; exact wHS_t ht hH⟩, hS.F ht⟩) hS.2.2 dL_bestWorth_20
  · obtain ⟨hnone, rfl⟩ := hw
    have hH := wHS_h ht hB
    refine lv_i2l hx hb dL_bestWorth_8 rfl ?_
    refine wr_last (t := 40) hx hb hK hH hS lv_o1 rfl 4 rfl (by unfold vp_in; decide) dL_bestWorth_9 (fun H locs hH hS => ?_)
    have hH := po_l hH
    refine lv_goto (tgt := 21) hx hb dL_bestWorth_10 (by decide) ?_
    refine lv_iconst (v := 0) hx hb dL_bestWorth_21 (by decide) ?_
    refine W.widen (k := 4) (n := 24) (by omega) (by omega) ?_
    exact W.iret (v := 0) hx hb hr (fun t ht hW => ⟨⟨0, ((vp_updL o.1 (0 : Int32).toNatClampNeg (((cp_bestWorth x b v).2.1).toInt64), o.2), g), rfl, ⟨fun _ => ⟨rfl, by show vp_updL o.1 (0 : Int32).toNatClampNeg (((cp_bestWorth x b v).2.1).toInt64) 0 = _; rw [show (0 : Int32).toNatClampNeg = 0 from rfl]; simp [vp_updL]⟩, fun X hX => by rw [hnone] at hX; cases hX⟩, (gE.rf g), wHS_t ht hH⟩, hS.F ht⟩) hS.2.2 dL_bestWorth_22
set_option maxHeartbeats 4000000 in
theorem cpt_wornShare (x : St) (X : String) : (cp_wornShare x).1 = some X → (X = "java/lang/ArithmeticException") ∧ (cp_wornShare x).2.2 = x := by
  unfold cp_wornShare
  repeat' split
  all_goals intro h
  all_goals first | (exfalso; revert h; simp; done) | (have h2 := Option.some.inj h; subst h2; exact ⟨by decide, rfl⟩)
set_option maxHeartbeats 4000000 in
set_option maxRecDepth 100000 in
theorem met_L_wornShare (l : Launch) (E : wE) (o : wO) (g : Nat → Nat) (x y : St) (hlt : l.stackTraces = false) (hI : CI x) (hNf : (cp_wornShare x).1 = none → vf_n64 (FP.f2d (cp_wornShare x).2.1)) : Met l yL_wornShare wsL_wornShare ({ frames := 11, cells := 4, slots := 24, locals := 1200 } : Room) (va_Pc [.ref (g 0), .ref (g 41)] (wPreL E o g x y)) (va_Qi (fun (r : Int32) (u : wO × (Nat → Nat)) => lResF ["java/lang/ArithmeticException"] r (u.1.2 0) (cp_wornShare x)) (fun (u : wO × (Nat → Nat)) t => gE g u.2 ∧ wHS E u.1 u.2 (cp_wornShare x).2.2 y t.heap) (wA E)) 4 24 (wA E) := by
  refine va_MetW (cc := cL_wornShare) (maxL := 3) (ret := (some .int)) (by decide) rfl ?_
  intro p e s m args below meth c s₁ B hml hv
  obtain ⟨rfl, ⟨⟨⟨hz, hH, hK⟩, hC⟩, hDD⟩, hNc⟩ := hv
  have hx := B.exec
  have hb := B.bytes
  have hr := B.returns
  have hts := atoms_spec (ws := wsL_wornShare) B.pre
  have hown : s.vm.findClass RL = some m.cls := findClass_of_methodNamed B.named
  have hlocks := B.notSynchronized
  have htab : c.exceptionTable.toList = tableOf [(0, 8, 11, 120)] := vx_table (x := yL_wornShare) B (hts _ List.mem_cons_self)
  have hS : va_S (wA E) s.heap s.heap [] := va_S.rf
  have hl := lv_entry ([.ref (g 0), .ref (g 41)]) (n := 3) (Nat.le_of_ble_eq_true rfl)
  rw [lg_entry_eq]
  generalize (lg_sl ([.ref (g 0), .ref (g 41)]) ++ List.replicate (3 - (lg_sl ([.ref (g 0), .ref (g 41)])).length) Slot.unset).toArray = ls at hl ⊢
  have hl : lv_has ls 3 [(0, .ref (g 0)), (1, .ref (g 41))] := hl
  obtain ⟨H, eH⟩ : ∃ z, z = s.heap := ⟨_, rfl⟩
  have hH : wHS E o g x y H := by rw [eH]; exact hH
  have hS : va_S (wA E) s.heap H [] := by rw [eH]; exact hS
  refine W.heapTo eH ?_
  refine lv_aload_n hx hb dL_wornShare_0 rfl (lv_at hl 1 rfl) ?_
  refine lv_iconst (v := 0) hx hb dL_wornShare_1 (by decide) ?_
  refine lv_aload_n hx hb dL_wornShare_2 rfl (lv_at hl 0 rfl) ?_
  refine vx_callf (vx_runV (As := []) (rest := [.int 0, .ref (g 41)]) ⟨hx, hb, hml, hown, hts⟩ (met_X4_wornShare l E o g x y hlt hI) (cwV 0 hts gL_wornShare_X4_wornShare rfl rfl rfl (by decide +kernel) ⟨Nat.le_of_ble_eq_true rfl, Nat.le_of_ble_eq_true rfl⟩) ⟨fun a U f mk q => ⟨q.1, wPreX.calling q.2 a f mk⟩, (va_recv hK (wH_one hH lv_r0 (cel_rt (by omega))) (ci := 6) (q0 := 0) rfl rfl), fun U hU hW => ⟨rfl, wPreX_at hz hS hH hK hC U hU hW⟩⟩ rfl rfl hl.1 rfl (lv_room (Nat.le_of_ble_eq_true rfl)) dL_wornShare_3 ⟨by exact Nat.le_of_ble_eq_true rfl, by exact Nat.le_of_ble_eq_true rfl⟩) hS (fun q _ h => h) (fun q h => h) (fun q _ h => h) (fun E9 ce q9 u t H locs ht hvm hw hB hz1 hk1 hS hce hcv hcl => ?_) (fun r u t H locs ht hvm hw hB hz1 hk1 hS => ?_)
  · obtain ⟨hK9, hB⟩ := hB
    have hH := wHS_h ht hB
    have hm := cpt_wornShare x E9 hK9
    obtain ⟨hm1, hm2⟩ := hm
    subst hm1
    · refine vx_catch (name := "java/lang/ArithmeticException") hown (tableOf []) ⟨0, 8, 11, 120⟩ (tableOf []) htab (fun z hz => nomatch hz) rfl (by decide) (hts (.classLink RL 120 "java/lang/ArithmeticException") (by decide +kernel)) (va_Nw.use rfl (hC.2.2.2.1 ("java/lang/ArithmeticException", "java/lang/ArithmeticException") (by decide +kernel))) hce hcv hcl ?_
      refine lv_astore_n (lv' := [(2, .ref q9), (0, .ref (g 0)), (1, .ref (g 41))]) hx hb dL_wornShare_11 rfl hl (by decide) rfl (fun ls hl => ?_)
      refine lv_iconst (v := 1) hx hb dL_wornShare_12 (by decide) ?_
      refine W.widen (k := 4) (n := 24) (by omega) (by omega) ?_
      exact W.iret (v := 1) hx hb hr (fun t ht hW => ⟨⟨1, (o, g), rfl, ⟨fun h => absurd (h.symm.trans hK9) (by simp), fun X hX => by rw [← Option.some.inj (hK9.symm.trans hX)]; decide +kernel⟩, gE.rf g, by rw [hm2]; exact wHS_t ht hH⟩, hS.F ht⟩) hS.2.2 dL_wornShare_13
  · obtain ⟨hnone, rfl⟩ := hw
    have hH := wHS_h ht hB
    refine lv_f2d hx hb dL_wornShare_6 (hNf hnone) ?_
    refine wr_dast (t := 41) hx hb hK hH hS lv_o2 rfl 5 rfl (by unfold vp_in; decide) dL_wornShare_7 (fun H locs f1 hf1 hH hS => ?_)
    have hH := po_d hH
    refine lv_goto (tgt := 14) hx hb dL_wornShare_8 (by decide) ?_
    refine lv_iconst (v := 0) hx hb dL_wornShare_14 (by decide) ?_
    refine W.widen (k := 4) (n := 24) (by omega) (by omega) ?_
    exact W.iret (v := 0) hx hb hr (fun t ht hW => ⟨⟨0, ((o.1, f1), g), rfl, ⟨fun _ => ⟨rfl, by show f1 0 = _; exact hf1⟩, fun X hX => by rw [hnone] at hX; cases hX⟩, (gE.rf g), wHS_t ht hH⟩, hS.F ht⟩) hS.2.2 dL_wornShare_15
set_option maxHeartbeats 4000000 in
theorem cpt_meanPull (x : St) (X : String) : (cp_meanPull x).1 = some X → (X = "java/lang/ArithmeticException") ∧ (cp_meanPull x).2.2 = x := by
  unfold cp_meanPull
  repeat' split
  all_goals intro h
  all_goals first | (exfalso; revert h; simp; done) | (have h2 := Option.some.inj h; subst h2; exact ⟨by decide, rfl⟩)
set_option maxHeartbeats 4000000 in
set_option maxRecDepth 100000 in
theorem met_L_meanPull (l : Launch) (E : wE) (o : wO) (g : Nat → Nat) (x y : St) (hlt : l.stackTraces = false) (hI : CI x) (hN : ∀ q : Nat × Int32, q = fU (stMp x) ((0 : Nat), (0 : Int32)) (x.1 0 0) → ¬ q.1 = 0 → vf_n64 (FP.ddiv (FP.i2d q.2) (FP.i2d (nI q.1)))) : Met l yL_meanPull wsL_meanPull ({ frames := 11, cells := 4, slots := 24, locals := 1200 } : Room) (va_Pc [.ref (g 0), .ref (g 41)] (wPreL E o g x y)) (va_Qi (fun (r : Int32) (u : wO × (Nat → Nat)) => lResD ["java/lang/ArithmeticException"] r (u.1.2 0) (cp_meanPull x)) (fun (u : wO × (Nat → Nat)) t => gE g u.2 ∧ wHS E u.1 u.2 (cp_meanPull x).2.2 y t.heap) (wA E)) 4 24 (wA E) := by
  refine va_MetW (cc := cL_meanPull) (maxL := 3) (ret := (some .int)) (by decide) rfl ?_
  intro p e s m args below meth c s₁ B hml hv
  obtain ⟨rfl, ⟨⟨⟨hz, hH, hK⟩, hC⟩, hDD⟩, hNc⟩ := hv
  have hx := B.exec
  have hb := B.bytes
  have hr := B.returns
  have hts := atoms_spec (ws := wsL_meanPull) B.pre
  have hown : s.vm.findClass RL = some m.cls := findClass_of_methodNamed B.named
  have hlocks := B.notSynchronized
  have htab : c.exceptionTable.toList = tableOf [(0, 7, 10, 120)] := vx_table (x := yL_meanPull) B (hts _ List.mem_cons_self)
  have hS : va_S (wA E) s.heap s.heap [] := va_S.rf
  have hl := lv_entry ([.ref (g 0), .ref (g 41)]) (n := 3) (Nat.le_of_ble_eq_true rfl)
  rw [lg_entry_eq]
  generalize (lg_sl ([.ref (g 0), .ref (g 41)]) ++ List.replicate (3 - (lg_sl ([.ref (g 0), .ref (g 41)])).length) Slot.unset).toArray = ls at hl ⊢
  have hl : lv_has ls 3 [(0, .ref (g 0)), (1, .ref (g 41))] := hl
  obtain ⟨H, eH⟩ : ∃ z, z = s.heap := ⟨_, rfl⟩
  have hH : wHS E o g x y H := by rw [eH]; exact hH
  have hS : va_S (wA E) s.heap H [] := by rw [eH]; exact hS
  refine W.heapTo eH ?_
  refine lv_aload_n hx hb dL_meanPull_0 rfl (lv_at hl 1 rfl) ?_
  refine lv_iconst (v := 0) hx hb dL_meanPull_1 (by decide) ?_
  refine lv_aload_n hx hb dL_meanPull_2 rfl (lv_at hl 0 rfl) ?_
  refine vx_calld (vx_runV (As := []) (rest := [.int 0, .ref (g 41)]) ⟨hx, hb, hml, hown, hts⟩ (met_X4_meanPull l E o g x y hlt hI hN) (cwV 0 hts gL_meanPull_X4_meanPull rfl rfl rfl (by decide +kernel) ⟨Nat.le_of_ble_eq_true rfl, Nat.le_of_ble_eq_true rfl⟩) ⟨fun a U f mk q => ⟨q.1, wPreX.calling q.2 a f mk⟩, (va_recv hK (wH_one hH lv_r0 (cel_rt (by omega))) (ci := 6) (q0 := 0) rfl rfl), fun U hU hW => ⟨rfl, wPreX_at hz hS hH hK hC U hU hW⟩⟩ rfl rfl hl.1 rfl (lv_room (Nat.le_of_ble_eq_true rfl)) dL_meanPull_3 ⟨by exact Nat.le_of_ble_eq_true rfl, by exact Nat.le_of_ble_eq_true rfl⟩) hS (fun q _ h => h) (fun q h => h) (fun q _ h => h) (fun E9 ce q9 u t H locs ht hvm hw hB hz1 hk1 hS hce hcv hcl => ?_) (fun r u t H locs ht hvm hw hB hz1 hk1 hS => ?_)
  · obtain ⟨hK9, hB⟩ := hB
    have hH := wHS_h ht hB
    have hm := cpt_meanPull x E9 hK9
    obtain ⟨hm1, hm2⟩ := hm
    subst hm1
    · refine vx_catch (name := "java/lang/ArithmeticException") hown (tableOf []) ⟨0, 7, 10, 120⟩ (tableOf []) htab (fun z hz => nomatch hz) rfl (by decide) (hts (.classLink RL 120 "java/lang/ArithmeticException") (by decide +kernel)) (va_Nw.use rfl (hC.2.2.2.1 ("java/lang/ArithmeticException", "java/lang/ArithmeticException") (by decide +kernel))) hce hcv hcl ?_
      refine lv_astore_n (lv' := [(2, .ref q9), (0, .ref (g 0)), (1, .ref (g 41))]) hx hb dL_meanPull_10 rfl hl (by decide) rfl (fun ls hl => ?_)
      refine lv_iconst (v := 1) hx hb dL_meanPull_11 (by decide) ?_
      refine W.widen (k := 4) (n := 24) (by omega) (by omega) ?_
      exact W.iret (v := 1) hx hb hr (fun t ht hW => ⟨⟨1, (o, g), rfl, ⟨fun h => absurd (h.symm.trans hK9) (by simp), fun X hX => by rw [← Option.some.inj (hK9.symm.trans hX)]; decide +kernel⟩, gE.rf g, by rw [hm2]; exact wHS_t ht hH⟩, hS.F ht⟩) hS.2.2 dL_meanPull_12
  · obtain ⟨hnone, rfl⟩ := hw
    have hH := wHS_h ht hB
    refine wr_dast (t := 41) hx hb hK hH hS lv_o2 rfl 5 rfl (by unfold vp_in; decide) dL_meanPull_6 (fun H locs f1 hf1 hH hS => ?_)
    have hH := po_d hH
    refine lv_goto (tgt := 13) hx hb dL_meanPull_7 (by decide) ?_
    refine lv_iconst (v := 0) hx hb dL_meanPull_13 (by decide) ?_
    refine W.widen (k := 4) (n := 24) (by omega) (by omega) ?_
    exact W.iret (v := 0) hx hb hr (fun t ht hW => ⟨⟨0, ((o.1, f1), g), rfl, ⟨fun _ => ⟨rfl, by show f1 0 = _; exact hf1⟩, fun X hX => by rw [hnone] at hX; cases hX⟩, (gE.rf g), wHS_t ht hH⟩, hS.F ht⟩) hS.2.2 dL_meanPull_14
