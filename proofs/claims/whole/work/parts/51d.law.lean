set_option maxHeartbeats 4000000 in
theorem cpt_pull (x : St) (b : Int32) (X : String) : (cp_pull x b).1 = some X → (X = "java/lang/IndexOutOfBoundsException") ∧ (cp_pull x b).2.2 = x := by
  unfold cp_pull
  repeat' split
  all_goals intro h
  all_goals first | (exfalso; revert h; simp; done) | (have h2 := Option.some.inj h; subst h2; exact ⟨by decide, rfl⟩)
set_option maxHeartbeats 4000000 in
set_option maxRecDepth 100000 in
theorem met_L_pull (l : Launch) (E : wE) (o : wO) (g : Nat → Nat) (x y : St) (b : Int32) (hlt : l.stackTraces = false) (hI : CI x) : Met l yL_pull wsL_pull ({ frames := 11, cells := 4, slots := 24, locals := 1200 } : Room) (va_Pc [.ref (g 0), .int b, .ref (g 40)] (wPreL E o g x y)) (va_Qi (fun (r : Int32) (u : wO × (Nat → Nat)) => lRes ["java/lang/IndexOutOfBoundsException"] r (u.1.1 0) (cp_pull x b)) (fun (u : wO × (Nat → Nat)) t => gE g u.2 ∧ wHS E u.1 u.2 (cp_pull x b).2.2 y t.heap) (wA E)) 4 24 (wA E) := by
  refine va_MetW (cc := cL_pull) (maxL := 4) (ret := (some .int)) (by decide) rfl ?_
  intro p e s m args below meth c s₁ B hml hv
  obtain ⟨rfl, ⟨⟨⟨hz, hH, hK⟩, hC⟩, hDD⟩, hNc⟩ := hv
  have hx := B.exec
  have hb := B.bytes
  have hr := B.returns
  have hts := atoms_spec (ws := wsL_pull) B.pre
  have hown : s.vm.findClass RL = some m.cls := findClass_of_methodNamed B.named
  have hlocks := B.notSynchronized
  have htab : c.exceptionTable.toList = tableOf [(0, 9, 12, 24)] := vx_table (x := yL_pull) B (hts _ List.mem_cons_self)
  have hS : va_S (wA E) s.heap s.heap [] := va_S.rf
  have hl := lv_entry ([.ref (g 0), .int b, .ref (g 40)]) (n := 4) (Nat.le_of_ble_eq_true rfl)
  rw [lg_entry_eq]
  generalize (lg_sl ([.ref (g 0), .int b, .ref (g 40)]) ++ List.replicate (4 - (lg_sl ([.ref (g 0), .int b, .ref (g 40)])).length) Slot.unset).toArray = ls at hl ⊢
  have hl : lv_has ls 4 [(0, .ref (g 0)), (1, .int b), (2, .ref (g 40))] := hl
  obtain ⟨H, eH⟩ : ∃ z, z = s.heap := ⟨_, rfl⟩
  have hH : wHS E o g x y H := by rw [eH]; exact hH
  have hS : va_S (wA E) s.heap H [] := by rw [eH]; exact hS
  refine W.heapTo eH ?_
  refine lv_aload_n hx hb dL_pull_0 rfl (lv_at hl 2 rfl) ?_
  refine lv_iconst (v := 0) hx hb dL_pull_1 (by decide) ?_
  refine lv_aload_n hx hb dL_pull_2 rfl (lv_at hl 0 rfl) ?_
  refine lv_iload_n hx hb dL_pull_3 rfl (lv_at hl 1 rfl) ?_
  refine vx_calli (vx_runV (As := [.int b]) (rest := [.int 0, .ref (g 40)]) ⟨hx, hb, hml, hown, hts⟩ (met_X4_pull l E o g x y b hlt hI) (cwV 1 hts gL_pull_X4_pull rfl rfl rfl (by decide +kernel) ⟨Nat.le_of_ble_eq_true rfl, Nat.le_of_ble_eq_true rfl⟩) ⟨fun a U f mk q => ⟨q.1, wPreX.calling q.2 a f mk⟩, (va_recv hK (wH_one hH lv_r0 (cel_rt (by omega))) (ci := 6) (q0 := 0) rfl rfl), fun U hU hW => ⟨rfl, wPreX_at hz hS hH hK hC U hU hW⟩⟩ rfl rfl hl.1 rfl (lv_room (Nat.le_of_ble_eq_true rfl)) dL_pull_4 ⟨by exact Nat.le_of_ble_eq_true rfl, by exact Nat.le_of_ble_eq_true rfl⟩) hS (fun q _ h => h) (fun q h => h) (fun q _ h => h) (fun E9 ce q9 u t H locs ht hvm hw hB hz1 hk1 hS hce hcv hcl => ?_) (fun r u t H locs ht hvm hw hB hz1 hk1 hS => ?_)
  · obtain ⟨hK9, hB⟩ := hB
    have hH := wHS_h ht hB
    have hm := cpt_pull x b E9 hK9
    obtain ⟨hm1, hm2⟩ := hm
    subst hm1
    · refine vx_catch (name := "java/lang/IndexOutOfBoundsException") hown (tableOf []) ⟨0, 9, 12, 24⟩ (tableOf []) htab (fun z hz => nomatch hz) rfl (by decide) (hts (.classLink RL 24 "java/lang/IndexOutOfBoundsException") (by decide +kernel)) (va_Nw.use rfl (hC.2.2.2.1 ("java/lang/IndexOutOfBoundsException", "java/lang/IndexOutOfBoundsException") (by decide +kernel))) hce hcv hcl ?_
      refine lv_astore_n (lv' := [(3, .ref q9), (0, .ref (g 0)), (1, .int b), (2, .ref (g 40))]) hx hb dL_pull_12 rfl hl (by decide) rfl (fun ls hl => ?_)
      refine lv_iconst (v := 1) hx hb dL_pull_13 (by decide) ?_
      refine W.widen (k := 4) (n := 24) (by omega) (by omega) ?_
      exact W.iret (v := 1) hx hb hr (fun t ht hW => ⟨⟨1, (o, g), rfl, ⟨fun h => absurd (h.symm.trans hK9) (by simp), fun X hX => by rw [← Option.some.inj (hK9.symm.trans hX)]; decide +kernel⟩, gE.rf g, by rw [hm2]; exact wHS_t ht hH⟩, hS.F ht⟩) hS.2.2 dL_pull_14
  · obtain ⟨hnone, rfl⟩ := hw
    have hH := wHS_h ht hB
    refine lv_i2l hx hb dL_pull_7 rfl ?_
    refine wr_last (t := 40) hx hb hK hH hS lv_o1 rfl 4 rfl (by unfold vp_in; decide) dL_pull_8 (fun H locs hH hS => ?_)
    have hH := po_l hH
    refine lv_goto (tgt := 15) hx hb dL_pull_9 (by decide) ?_
    refine lv_iconst (v := 0) hx hb dL_pull_15 (by decide) ?_
    refine W.widen (k := 4) (n := 24) (by omega) (by omega) ?_
    exact W.iret (v := 0) hx hb hr (fun t ht hW => ⟨⟨0, ((vp_updL o.1 (0 : Int32).toNatClampNeg (((cp_pull x b).2.1).toInt64), o.2), g), rfl, ⟨fun _ => ⟨rfl, by show vp_updL o.1 (0 : Int32).toNatClampNeg (((cp_pull x b).2.1).toInt64) 0 = _; rw [show (0 : Int32).toNatClampNeg = 0 from rfl]; simp [vp_updL]⟩, fun X hX => by rw [hnone] at hX; cases hX⟩, (gE.rf g), wHS_t ht hH⟩, hS.F ht⟩) hS.2.2 dL_pull_16
set_option maxHeartbeats 4000000 in
theorem cpt_pullIn (x : St) (b : Int32) (v : Int32) (X : String) : (cp_pullIn x b v).1 = some X → (X = "java/lang/IndexOutOfBoundsException") ∧ (cp_pullIn x b v).2.2 = x := by
  unfold cp_pullIn
  repeat' split
  all_goals intro h
  all_goals first | (exfalso; revert h; simp; done) | (have h2 := Option.some.inj h; subst h2; exact ⟨by decide, rfl⟩)
set_option maxHeartbeats 4000000 in
set_option maxRecDepth 100000 in
theorem met_L_pullIn (l : Launch) (E : wE) (o : wO) (g : Nat → Nat) (x y : St) (b : Int32) (v : Int32) (hlt : l.stackTraces = false) (hI : CI x) : Met l yL_pullIn wsL_pullIn ({ frames := 11, cells := 4, slots := 24, locals := 1200 } : Room) (va_Pc [.ref (g 0), .int b, .int v, .ref (g 40)] (wPreL E o g x y)) (va_Qi (fun (r : Int32) (u : wO × (Nat → Nat)) => lRes ["java/lang/IndexOutOfBoundsException"] r (u.1.1 0) (cp_pullIn x b v)) (fun (u : wO × (Nat → Nat)) t => gE g u.2 ∧ wHS E u.1 u.2 (cp_pullIn x b v).2.2 y t.heap) (wA E)) 4 24 (wA E) := by
  refine va_MetW (cc := cL_pullIn) (maxL := 5) (ret := (some .int)) (by decide) rfl ?_
  intro p e s m args below meth c s₁ B hml hv
  obtain ⟨rfl, ⟨⟨⟨hz, hH, hK⟩, hC⟩, hDD⟩, hNc⟩ := hv
  have hx := B.exec
  have hb := B.bytes
  have hr := B.returns
  have hts := atoms_spec (ws := wsL_pullIn) B.pre
  have hown : s.vm.findClass RL = some m.cls := findClass_of_methodNamed B.named
  have hlocks := B.notSynchronized
  have htab : c.exceptionTable.toList = tableOf [(0, 10, 13, 24)] := vx_table (x := yL_pullIn) B (hts _ List.mem_cons_self)
  have hS : va_S (wA E) s.heap s.heap [] := va_S.rf
  have hl := lv_entry ([.ref (g 0), .int b, .int v, .ref (g 40)]) (n := 5) (Nat.le_of_ble_eq_true rfl)
  rw [lg_entry_eq]
  generalize (lg_sl ([.ref (g 0), .int b, .int v, .ref (g 40)]) ++ List.replicate (5 - (lg_sl ([.ref (g 0), .int b, .int v, .ref (g 40)])).length) Slot.unset).toArray = ls at hl ⊢
  have hl : lv_has ls 5 [(0, .ref (g 0)), (1, .int b), (2, .int v), (3, .ref (g 40))] := hl
  obtain ⟨H, eH⟩ : ∃ z, z = s.heap := ⟨_, rfl⟩
  have hH : wHS E o g x y H := by rw [eH]; exact hH
  have hS : va_S (wA E) s.heap H [] := by rw [eH]; exact hS
  refine W.heapTo eH ?_
  refine lv_aload_n hx hb dL_pullIn_0 rfl (lv_at hl 3 rfl) ?_
  refine lv_iconst (v := 0) hx hb dL_pullIn_1 (by decide) ?_
  refine lv_aload_n hx hb dL_pullIn_2 rfl (lv_at hl 0 rfl) ?_
  refine lv_iload_n hx hb dL_pullIn_3 rfl (lv_at hl 1 rfl) ?_
  refine lv_iload_n hx hb dL_pullIn_4 rfl (lv_at hl 2 rfl) ?_
  refine vx_calli (vx_runV (As := [.int b, .int v]) (rest := [.int 0, .ref (g 40)]) ⟨hx, hb, hml, hown, hts⟩ (met_X4_pullIn l E o g x y b v hlt hI) (cwV 2 hts gL_pullIn_X4_pullIn rfl rfl rfl (by decide +kernel) ⟨Nat.le_of_ble_eq_true rfl, Nat.le_of_ble_eq_true rfl⟩) ⟨fun a U f mk q => ⟨q.1, wPreX.calling q.2 a f mk⟩, (va_recv hK (wH_one hH lv_r0 (cel_rt (by omega))) (ci := 6) (q0 := 0) rfl rfl), fun U hU hW => ⟨rfl, wPreX_at hz hS hH hK hC U hU hW⟩⟩ rfl rfl hl.1 rfl (lv_room (Nat.le_of_ble_eq_true rfl)) dL_pullIn_5 ⟨by exact Nat.le_of_ble_eq_true rfl, by exact Nat.le_of_ble_eq_true rfl⟩) hS (fun q _ h => h) (fun q h => h) (fun q _ h => h) (fun E9 ce q9 u t H locs ht hvm hw hB hz1 hk1 hS hce hcv hcl => ?_) (fun r u t H locs ht hvm hw hB hz1 hk1 hS => ?_)
  · obtain ⟨hK9, hB⟩ := hB
    have hH := wHS_h ht hB
    have hm := cpt_pullIn x b v E9 hK9
    obtain ⟨hm1, hm2⟩ := hm
    subst hm1
    · refine vx_catch (name := "java/lang/IndexOutOfBoundsException") hown (tableOf []) ⟨0, 10, 13, 24⟩ (tableOf []) htab (fun z hz => nomatch hz) rfl (by decide) (hts (.classLink RL 24 "java/lang/IndexOutOfBoundsException") (by decide +kernel)) (va_Nw.use rfl (hC.2.2.2.1 ("java/lang/IndexOutOfBoundsException", "java/lang/IndexOutOfBoundsException") (by decide +kernel))) hce hcv hcl ?_
      refine lv_astore (lv' := [(4, .ref q9), (0, .ref (g 0)), (1, .int b), (2, .int v), (3, .ref (g 40))]) hx hb dL_pullIn_13 hl (by decide) rfl (fun ls hl => ?_)
      refine lv_iconst (v := 1) hx hb dL_pullIn_15 (by decide) ?_
      refine W.widen (k := 4) (n := 24) (by omega) (by omega) ?_
      exact W.iret (v := 1) hx hb hr (fun t ht hW => ⟨⟨1, (o, g), rfl, ⟨fun h => absurd (h.symm.trans hK9) (by simp), fun X hX => by rw [← Option.some.inj (hK9.symm.trans hX)]; decide +kernel⟩, gE.rf g, by rw [hm2]; exact wHS_t ht hH⟩, hS.F ht⟩) hS.2.2 dL_pullIn_16
  · obtain ⟨hnone, rfl⟩ := hw
    have hH := wHS_h ht hB
    refine lv_i2l hx hb dL_pullIn_8 rfl ?_
    refine wr_last (t := 40) hx hb hK hH hS lv_o1 rfl 4 rfl (by unfold vp_in; decide) dL_pullIn_9 (fun H locs hH hS => ?_)
    have hH := po_l hH
    refine lv_goto (tgt := 17) hx hb dL_pullIn_10 (by decide) ?_
    refine lv_iconst (v := 0) hx hb dL_pullIn_17 (by decide) ?_
    refine W.widen (k := 4) (n := 24) (by omega) (by omega) ?_
    exact W.iret (v := 0) hx hb hr (fun t ht hW => ⟨⟨0, ((vp_updL o.1 (0 : Int32).toNatClampNeg (((cp_pullIn x b v).2.1).toInt64), o.2), g), rfl, ⟨fun _ => ⟨rfl, by show vp_updL o.1 (0 : Int32).toNatClampNeg (((cp_pullIn x b v).2.1).toInt64) 0 = _; rw [show (0 : Int32).toNatClampNeg = 0 from rfl]; simp [vp_updL]⟩, fun X hX => by rw [hnone] at hX; cases hX⟩, (gE.rf g), wHS_t ht hH⟩, hS.F ht⟩) hS.2.2 dL_pullIn_18
set_option maxHeartbeats 4000000 in
theorem cpt_pass (x : St) (X : String) : (cp_pass x).1 = some X → (X = "java/lang/IllegalStateException") ∧ (cp_pass x).2.2 = x := by
  unfold cp_pass
  repeat' split
  all_goals intro h
  all_goals first | (exfalso; revert h; simp; done) | (have h2 := Option.some.inj h; subst h2; exact ⟨by decide, rfl⟩)
set_option maxHeartbeats 4000000 in
set_option maxRecDepth 100000 in
theorem met_L_pass (l : Launch) (E : wE) (o : wO) (g : Nat → Nat) (x y : St) (hlt : l.stackTraces = false) (hI : CI x) : Met l yL_pass wsL_pass ({ frames := 11, cells := 4, slots := 24, locals := 1200 } : Room) (va_Pc [.ref (g 0), .ref (g 40)] (wPreL E o g x y)) (va_Qi (fun (r : Int32) (u : wO × (Nat → Nat)) => lRes ["java/lang/IllegalStateException"] r (u.1.1 0) (cp_pass x)) (fun (u : wO × (Nat → Nat)) t => gE g u.2 ∧ wHS E u.1 u.2 (cp_pass x).2.2 y t.heap) (wA E)) 4 24 (wA E) := by
  refine va_MetW (cc := cL_pass) (maxL := 3) (ret := (some .int)) (by decide) rfl ?_
  intro p e s m args below meth c s₁ B hml hv
  obtain ⟨rfl, ⟨⟨⟨hz, hH, hK⟩, hC⟩, hDD⟩, hNc⟩ := hv
  have hx := B.exec
  have hb := B.bytes
  have hr := B.returns
  have hts := atoms_spec (ws := wsL_pass) B.pre
  have hown : s.vm.findClass RL = some m.cls := findClass_of_methodNamed B.named
  have hlocks := B.notSynchronized
  have htab : c.exceptionTable.toList = tableOf [(0, 8, 11, 15)] := vx_table (x := yL_pass) B (hts _ List.mem_cons_self)
  have hS : va_S (wA E) s.heap s.heap [] := va_S.rf
  have hl := lv_entry ([.ref (g 0), .ref (g 40)]) (n := 3) (Nat.le_of_ble_eq_true rfl)
  rw [lg_entry_eq]
  generalize (lg_sl ([.ref (g 0), .ref (g 40)]) ++ List.replicate (3 - (lg_sl ([.ref (g 0), .ref (g 40)])).length) Slot.unset).toArray = ls at hl ⊢
  have hl : lv_has ls 3 [(0, .ref (g 0)), (1, .ref (g 40))] := hl
  obtain ⟨H, eH⟩ : ∃ z, z = s.heap := ⟨_, rfl⟩
  have hH : wHS E o g x y H := by rw [eH]; exact hH
  have hS : va_S (wA E) s.heap H [] := by rw [eH]; exact hS
  refine W.heapTo eH ?_
  refine lv_aload_n hx hb dL_pass_0 rfl (lv_at hl 1 rfl) ?_
  refine lv_iconst (v := 0) hx hb dL_pass_1 (by decide) ?_
  refine lv_aload_n hx hb dL_pass_2 rfl (lv_at hl 0 rfl) ?_
  refine vx_calli (vx_runV (As := []) (rest := [.int 0, .ref (g 40)]) ⟨hx, hb, hml, hown, hts⟩ (met_X4_pass l E o g x y hlt hI) (cwV 0 hts gL_pass_X4_pass rfl rfl rfl (by decide +kernel) ⟨Nat.le_of_ble_eq_true rfl, Nat.le_of_ble_eq_true rfl⟩) ⟨fun a U f mk q => ⟨q.1, wPreX.calling q.2 a f mk⟩, (va_recv hK (wH_one hH lv_r0 (cel_rt (by omega))) (ci := 6) (q0 := 0) rfl rfl), fun U hU hW => ⟨rfl, wPreX_at hz hS hH hK hC U hU hW⟩⟩ rfl rfl hl.1 rfl (lv_room (Nat.le_of_ble_eq_true rfl)) dL_pass_3 ⟨by exact Nat.le_of_ble_eq_true rfl, by exact Nat.le_of_ble_eq_true rfl⟩) hS (fun q _ h => h) (fun q h => h) (fun q _ h => h) (fun E9 ce q9 u t H locs ht hvm hw hB hz1 hk1 hS hce hcv hcl => ?_) (fun r u t H locs ht hvm hw hB hz1 hk1 hS => ?_)
  · obtain ⟨hK9, hB⟩ := hB
    have hH := wHS_h ht hB
    have hm := cpt_pass x E9 hK9
    obtain ⟨hm1, hm2⟩ := hm
    subst hm1
    · refine vx_catch (name := "java/lang/IllegalStateException") hown (tableOf []) ⟨0, 8, 11, 15⟩ (tableOf []) htab (fun z hz => nomatch hz) rfl (by decide) (hts (.classLink RL 15 "java/lang/IllegalStateException") (by decide +kernel)) (va_Nw.use rfl (hC.2.2.2.1 ("java/lang/IllegalStateException", "java/lang/IllegalStateException") (by decide +kernel))) hce hcv hcl ?_
      refine lv_astore_n (lv' := [(2, .ref q9), (0, .ref (g 0)), (1, .ref (g 40))]) hx hb dL_pass_11 rfl hl (by decide) rfl (fun ls hl => ?_)
      refine lv_iconst (v := 1) hx hb dL_pass_12 (by decide) ?_
      refine W.widen (k := 4) (n := 24) (by omega) (by omega) ?_
      exact W.iret (v := 1) hx hb hr (fun t ht hW => ⟨⟨1, (o, g), rfl, ⟨fun h => absurd (h.symm.trans hK9) (by simp), fun X hX => by rw [← Option.some.inj (hK9.symm.trans hX)]; decide +kernel⟩, gE.rf g, by rw [hm2]; exact wHS_t ht hH⟩, hS.F ht⟩) hS.2.2 dL_pass_13
  · obtain ⟨hnone, rfl⟩ := hw
    have hH := wHS_h ht hB
    refine lv_i2l hx hb dL_pass_6 rfl ?_
    refine wr_last (t := 40) hx hb hK hH hS lv_o1 rfl 4 rfl (by unfold vp_in; decide) dL_pass_7 (fun H locs hH hS => ?_)
    have hH := po_l hH
    refine lv_goto (tgt := 14) hx hb dL_pass_8 (by decide) ?_
    refine lv_iconst (v := 0) hx hb dL_pass_14 (by decide) ?_
    refine W.widen (k := 4) (n := 24) (by omega) (by omega) ?_
    exact W.iret (v := 0) hx hb hr (fun t ht hW => ⟨⟨0, ((vp_updL o.1 (0 : Int32).toNatClampNeg (((cp_pass x).2.1).toInt64), o.2), g), rfl, ⟨fun _ => ⟨rfl, by show vp_updL o.1 (0 : Int32).toNatClampNeg (((cp_pass x).2.1).toInt64) 0 = _; rw [show (0 : Int32).toNatClampNeg = 0 from rfl]; simp [vp_updL]⟩, fun X hX => by rw [hnone] at hX; cases hX⟩, (gE.rf g), wHS_t ht hH⟩, hS.F ht⟩) hS.2.2 dL_pass_15
set_option maxHeartbeats 4000000 in
theorem cpt_visit (x : St) (b : Int32) (X : String) : (cp_visit x b).1 = some X → (X = "java/lang/IndexOutOfBoundsException" ∨ X = "java/lang/UnsupportedOperationException") ∧ (cp_visit x b).2.2 = x := by
  unfold cp_visit
  repeat' split
  all_goals intro h
  all_goals first | (exfalso; revert h; simp; done) | (have h2 := Option.some.inj h; subst h2; exact ⟨by decide, rfl⟩)
set_option maxHeartbeats 4000000 in
set_option maxRecDepth 100000 in
theorem met_L_visit (l : Launch) (E : wE) (o : wO) (g : Nat → Nat) (x y : St) (b : Int32) (hlt : l.stackTraces = false) (hI : CI x) : Met l yL_visit wsL_visit ({ frames := 11, cells := 4, slots := 24, locals := 1200 } : Room) (va_Pc [.ref (g 0), .int b, .ref (g 40)] (wPreL E o g x y)) (va_Qi (fun (r : Int32) (u : wO × (Nat → Nat)) => lRes ["java/lang/IndexOutOfBoundsException", "java/lang/UnsupportedOperationException"] r (u.1.1 0) (cp_visit x b)) (fun (u : wO × (Nat → Nat)) t => gE g u.2 ∧ wHS E u.1 u.2 (cp_visit x b).2.2 y t.heap) (wA E)) 4 24 (wA E) := by
  refine va_MetW (cc := cL_visit) (maxL := 4) (ret := (some .int)) (by decide) rfl ?_
  intro p e s m args below meth c s₁ B hml hv
  obtain ⟨rfl, ⟨⟨⟨hz, hH, hK⟩, hC⟩, hDD⟩, hNc⟩ := hv
  have hx := B.exec
  have hb := B.bytes
  have hr := B.returns
  have hts := atoms_spec (ws := wsL_visit) B.pre
  have hown : s.vm.findClass RL = some m.cls := findClass_of_methodNamed B.named
  have hlocks := B.notSynchronized
  have htab : c.exceptionTable.toList = tableOf [(0, 9, 12, 24), (0, 9, 15, 34)] := vx_table (x := yL_visit) B (hts _ List.mem_cons_self)
  have hS : va_S (wA E) s.heap s.heap [] := va_S.rf
  have hl := lv_entry ([.ref (g 0), .int b, .ref (g 40)]) (n := 4) (Nat.le_of_ble_eq_true rfl)
  rw [lg_entry_eq]
  generalize (lg_sl ([.ref (g 0), .int b, .ref (g 40)]) ++ List.replicate (4 - (lg_sl ([.ref (g 0), .int b, .ref (g 40)])).length) Slot.unset).toArray = ls at hl ⊢
  have hl : lv_has ls 4 [(0, .ref (g 0)), (1, .int b), (2, .ref (g 40))] := hl
  obtain ⟨H, eH⟩ : ∃ z, z = s.heap := ⟨_, rfl⟩
  have hH : wHS E o g x y H := by rw [eH]; exact hH
  have hS : va_S (wA E) s.heap H [] := by rw [eH]; exact hS
  refine W.heapTo eH ?_
  refine lv_aload_n hx hb dL_visit_0 rfl (lv_at hl 2 rfl) ?_
  refine lv_iconst (v := 0) hx hb dL_visit_1 (by decide) ?_
  refine lv_aload_n hx hb dL_visit_2 rfl (lv_at hl 0 rfl) ?_
  refine lv_iload_n hx hb dL_visit_3 rfl (lv_at hl 1 rfl) ?_
  refine vx_calli (vx_runV (As := [.int b]) (rest := [.int 0, .ref (g 40)]) ⟨hx, hb, hml, hown, hts⟩ (met_X4_visit l E o g x y b hlt hI) (cwV 1 hts gL_visit_X4_visit rfl rfl rfl (by decide +kernel) ⟨Nat.le_of_ble_eq_true rfl, Nat.le_of_ble_eq_true rfl⟩) ⟨fun a U f mk q => ⟨q.1, wPreX.calling q.2 a f mk⟩, (va_recv hK (wH_one hH lv_r0 (cel_rt (by omega))) (ci := 6) (q0 := 0) rfl rfl), fun U hU hW => ⟨rfl, wPreX_at hz hS hH hK hC U hU hW⟩⟩ rfl rfl hl.1 rfl (lv_room (Nat.le_of_ble_eq_true rfl)) dL_visit_4 ⟨by exact Nat.le_of_ble_eq_true rfl, by exact Nat.le_of_ble_eq_true rfl⟩) hS (fun q _ h => h) (fun q h => h) (fun q _ h => h) (fun E9 ce q9 u t H locs ht hvm hw hB hz1 hk1 hS hce hcv hcl => ?_) (fun r u t H locs ht hvm hw hB hz1 hk1 hS => ?_)
  · obtain ⟨hK9, hB⟩ := hB
    have hH := wHS_h ht hB
    have hm := cpt_visit x b E9 hK9
    obtain ⟨hm1, hm2⟩ := hm
    rcases hm1 with rfl | rfl
    · refine vx_catch (name := "java/lang/IndexOutOfBoundsException") hown (tableOf []) ⟨0, 9, 12, 24⟩ (tableOf [(0, 9, 15, 34)]) htab (fun z hz => nomatch hz) rfl (by decide) (hts (.classLink RL 24 "java/lang/IndexOutOfBoundsException") (by decide +kernel)) (va_Nw.use rfl (hC.2.2.2.1 ("java/lang/IndexOutOfBoundsException", "java/lang/IndexOutOfBoundsException") (by decide +kernel))) hce hcv hcl ?_
      refine lv_astore_n (lv' := [(3, .ref q9), (0, .ref (g 0)), (1, .int b), (2, .ref (g 40))]) hx hb dL_visit_12 rfl hl (by decide) rfl (fun ls hl => ?_)
      refine lv_iconst (v := 1) hx hb dL_visit_13 (by decide) ?_
      refine W.widen (k := 4) (n := 24) (by omega) (by omega) ?_
      exact W.iret (v := 1) hx hb hr (fun t ht hW => ⟨⟨1, (o, g), rfl, ⟨fun h => absurd (h.symm.trans hK9) (by simp), fun X hX => by rw [← Option.some.inj (hK9.symm.trans hX)]; decide +kernel⟩, gE.rf g, by rw [hm2]; exact wHS_t ht hH⟩, hS.F ht⟩) hS.2.2 dL_visit_14
    · refine vx_catch (name := "java/lang/UnsupportedOperationException") hown (tableOf [(0, 9, 12, 24)]) ⟨0, 9, 15, 34⟩ (tableOf []) htab (fun z hz => by (rcases List.mem_cons.mp hz with rfl | hz; exact Or.inr ⟨by decide, "java/lang/IndexOutOfBoundsException", hts (.classLink RL 24 "java/lang/IndexOutOfBoundsException") (by decide +kernel), hNc ("java/lang/UnsupportedOperationException", "java/lang/IndexOutOfBoundsException") (by decide +kernel)⟩; exact absurd hz (List.not_mem_nil))) rfl (by decide) (hts (.classLink RL 34 "java/lang/UnsupportedOperationException") (by decide +kernel)) (va_Nw.use rfl (hC.2.2.2.1 ("java/lang/UnsupportedOperationException", "java/lang/UnsupportedOperationException") (by decide +kernel))) hce hcv hcl ?_
      refine lv_astore_n (lv' := [(3, .ref q9), (0, .ref (g 0)), (1, .int b), (2, .ref (g 40))]) hx hb dL_visit_15 rfl hl (by decide) rfl (fun ls hl => ?_)
      refine lv_iconst (v := 2) hx hb dL_visit_16 (by decide) ?_
      refine W.widen (k := 4) (n := 24) (by omega) (by omega) ?_
      exact W.iret (v := 2) hx hb hr (fun t ht hW => ⟨⟨2, (o, g), rfl, ⟨fun h => absurd (h.symm.trans hK9) (by simp), fun X hX => by rw [← Option.some.inj (hK9.symm.trans hX)]; decide +kernel⟩, gE.rf g, by rw [hm2]; exact wHS_t ht hH⟩, hS.F ht⟩) hS.2.2 dL_visit_17
  · obtain ⟨hnone, rfl⟩ := hw
    have hH := wHS_h ht hB
    refine lv_i2l hx hb dL_visit_7 rfl ?_
    refine wr_last (t := 40) hx hb hK hH hS lv_o1 rfl 4 rfl (by unfold vp_in; decide) dL_visit_8 (fun H locs hH hS => ?_)
    have hH := po_l hH
    refine lv_goto (tgt := 18) hx hb dL_visit_9 (by decide) ?_
    refine lv_iconst (v := 0) hx hb dL_visit_18 (by decide) ?_
    refine W.widen (k := 4) (n := 24) (by omega) (by omega) ?_
    exact W.iret (v := 0) hx hb hr (fun t ht hW => ⟨⟨0, ((vp_updL o.1 (0 : Int32).toNatClampNeg (((cp_visit x b).2.1).toInt64), o.2), g), rfl, ⟨fun _ => ⟨rfl, by show vp_updL o.1 (0 : Int32).toNatClampNeg (((cp_visit x b).2.1).toInt64) 0 = _; rw [show (0 : Int32).toNatClampNeg = 0 from rfl]; simp [vp_updL]⟩, fun X hX => by rw [hnone] at hX; cases hX⟩, (gE.rf g), wHS_t ht hH⟩, hS.F ht⟩) hS.2.2 dL_visit_19
set_option maxHeartbeats 4000000 in
theorem cpt_getShort (x : St) (b : Int32) (X : String) : (cp_getShort x b).1 = some X → (X = "java/lang/IndexOutOfBoundsException") ∧ (cp_getShort x b).2.2 = x := by
  unfold cp_getShort
  repeat' split
  all_goals intro h
  all_goals first | (exfalso; revert h; simp; done) | (have h2 := Option.some.inj h; subst h2; exact ⟨by decide, rfl⟩)
set_option maxHeartbeats 4000000 in
set_option maxRecDepth 100000 in
theorem met_L_getShort (l : Launch) (E : wE) (o : wO) (g : Nat → Nat) (x y : St) (b : Int32) (hlt : l.stackTraces = false) (hI : CI x) : Met l yL_getShort wsL_getShort ({ frames := 11, cells := 4, slots := 24, locals := 1200 } : Room) (va_Pc [.ref (g 0), .int b, .ref (g 40)] (wPreL E o g x y)) (va_Qi (fun (r : Int32) (u : wO × (Nat → Nat)) => lRes ["java/lang/IndexOutOfBoundsException"] r (u.1.1 0) (cp_getShort x b)) (fun (u : wO × (Nat → Nat)) t => gE g u.2 ∧ wHS E u.1 u.2 (cp_getShort x b).2.2 y t.heap) (wA E)) 4 24 (wA E) := by
  refine va_MetW (cc := cL_getShort) (maxL := 4) (ret := (some .int)) (by decide) rfl ?_
  intro p e s m args below meth c s₁ B hml hv
  obtain ⟨rfl, ⟨⟨⟨hz, hH, hK⟩, hC⟩, hDD⟩, hNc⟩ := hv
  have hx := B.exec
  have hb := B.bytes
  have hr := B.returns
  have hts := atoms_spec (ws := wsL_getShort) B.pre
  have hown : s.vm.findClass RL = some m.cls := findClass_of_methodNamed B.named
  have hlocks := B.notSynchronized
  have htab : c.exceptionTable.toList = tableOf [(0, 9, 12, 24)] := vx_table (x := yL_getShort) B (hts _ List.mem_cons_self)
  have hS : va_S (wA E) s.heap s.heap [] := va_S.rf
  have hl := lv_entry ([.ref (g 0), .int b, .ref (g 40)]) (n := 4) (Nat.le_of_ble_eq_true rfl)
  rw [lg_entry_eq]
  generalize (lg_sl ([.ref (g 0), .int b, .ref (g 40)]) ++ List.replicate (4 - (lg_sl ([.ref (g 0), .int b, .ref (g 40)])).length) Slot.unset).toArray = ls at hl ⊢
  have hl : lv_has ls 4 [(0, .ref (g 0)), (1, .int b), (2, .ref (g 40))] := hl
  obtain ⟨H, eH⟩ : ∃ z, z = s.heap := ⟨_, rfl⟩
  have hH : wHS E o g x y H := by rw [eH]; exact hH
  have hS : va_S (wA E) s.heap H [] := by rw [eH]; exact hS
  refine W.heapTo eH ?_
  refine lv_aload_n hx hb dL_getShort_0 rfl (lv_at hl 2 rfl) ?_
  refine lv_iconst (v := 0) hx hb dL_getShort_1 (by decide) ?_
  refine lv_aload_n hx hb dL_getShort_2 rfl (lv_at hl 0 rfl) ?_
  refine lv_iload_n hx hb dL_getShort_3 rfl (lv_at hl 1 rfl) ?_
  refine vx_calli (vx_runV (As := [.int b]) (rest := [.int 0, .ref (g 40)]) ⟨hx, hb, hml, hown, hts⟩ (met_X4_getShort l E o g x y b hlt hI) (cwV 1 hts gL_getShort_X4_getShort rfl rfl rfl (by decide +kernel) ⟨Nat.le_of_ble_eq_true rfl, Nat.le_of_ble_eq_true rfl⟩) ⟨fun a U f mk q => ⟨q.1, wPreX.calling q.2 a f mk⟩, (va_recv hK (wH_one hH lv_r0 (cel_rt (by omega))) (ci := 6) (q0 := 0) rfl rfl), fun U hU hW => ⟨rfl, wPreX_at hz hS hH hK hC U hU hW⟩⟩ rfl rfl hl.1 rfl (lv_room (Nat.le_of_ble_eq_true rfl)) dL_getShort_4 ⟨by exact Nat.le_of_ble_eq_true rfl, by exact Nat.le_of_ble_eq_true rfl⟩) hS (fun q _ h => h) (fun q h => h) (fun q _ h => h) (fun E9 ce q9 u t H locs ht hvm hw hB hz1 hk1 hS hce hcv hcl => ?_) (fun r u t H locs ht hvm hw hB hz1 hk1 hS => ?_)
  · obtain ⟨hK9, hB⟩ := hB
    have hH := wHS_h ht hB
    have hm := cpt_getShort x b E9 hK9
    obtain ⟨hm1, hm2⟩ := hm
    subst hm1
    · refine vx_catch (name := "java/lang/IndexOutOfBoundsException") hown (tableOf []) ⟨0, 9, 12, 24⟩ (tableOf []) htab (fun z hz => nomatch hz) rfl (by decide) (hts (.classLink RL 24 "java/lang/IndexOutOfBoundsException") (by decide +kernel)) (va_Nw.use rfl (hC.2.2.2.1 ("java/lang/IndexOutOfBoundsException", "java/lang/IndexOutOfBoundsException") (by decide +kernel))) hce hcv hcl ?_
      refine lv_astore_n (lv' := [(3, .ref q9), (0, .ref (g 0)), (1, .int b), (2, .ref (g 40))]) hx hb dL_getShort_12 rfl hl (by decide) rfl (fun ls hl => ?_)
      refine lv_iconst (v := 1) hx hb dL_getShort_13 (by decide) ?_
      refine W.widen (k := 4) (n := 24) (by omega) (by omega) ?_
      exact W.iret (v := 1) hx hb hr (fun t ht hW => ⟨⟨1, (o, g), rfl, ⟨fun h => absurd (h.symm.trans hK9) (by simp), fun X hX => by rw [← Option.some.inj (hK9.symm.trans hX)]; decide +kernel⟩, gE.rf g, by rw [hm2]; exact wHS_t ht hH⟩, hS.F ht⟩) hS.2.2 dL_getShort_14
  · obtain ⟨hnone, rfl⟩ := hw
    have hH := wHS_h ht hB
    refine lv_i2l hx hb dL_getShort_7 rfl ?_
    refine wr_last (t := 40) hx hb hK hH hS lv_o1 rfl 4 rfl (by unfold vp_in; decide) dL_getShort_8 (fun H locs hH hS => ?_)
    have hH := po_l hH
    refine lv_goto (tgt := 15) hx hb dL_getShort_9 (by decide) ?_
    refine lv_iconst (v := 0) hx hb dL_getShort_15 (by decide) ?_
    refine W.widen (k := 4) (n := 24) (by omega) (by omega) ?_
    exact W.iret (v := 0) hx hb hr (fun t ht hW => ⟨⟨0, ((vp_updL o.1 (0 : Int32).toNatClampNeg (((cp_getShort x b).2.1).toInt64), o.2), g), rfl, ⟨fun _ => ⟨rfl, by show vp_updL o.1 (0 : Int32).toNatClampNeg (((cp_getShort x b).2.1).toInt64) 0 = _; rw [show (0 : Int32).toNatClampNeg = 0 from rfl]; simp [vp_updL]⟩, fun X hX => by rw [hnone] at hX; cases hX⟩, (gE.rf g), wHS_t ht hH⟩, hS.F ht⟩) hS.2.2 dL_getShort_16
set_option maxHeartbeats 4000000 in
theorem cpt_getShare (x : St) (b : Int32) (X : String) : (cp_getShare x b).1 = some X → (X = "java/lang/IndexOutOfBoundsException") ∧ (cp_getShare x b).2.2 = x := by
  unfold cp_getShare
  repeat' split
  all_goals intro h
  all_goals first | (exfalso; revert h; simp; done) | (have h2 := Option.some.inj h; subst h2; exact ⟨by decide, rfl⟩)
set_option maxHeartbeats 4000000 in
set_option maxRecDepth 100000 in
theorem met_L_getShare (l : Launch) (E : wE) (o : wO) (g : Nat → Nat) (x y : St) (b : Int32) (hlt : l.stackTraces = false) (hI : CI x) : Met l yL_getShare wsL_getShare ({ frames := 11, cells := 4, slots := 24, locals := 1200 } : Room) (va_Pc [.ref (g 0), .int b, .ref (g 40)] (wPreL E o g x y)) (va_Qi (fun (r : Int32) (u : wO × (Nat → Nat)) => lRes ["java/lang/IndexOutOfBoundsException"] r (u.1.1 0) (cp_getShare x b)) (fun (u : wO × (Nat → Nat)) t => gE g u.2 ∧ wHS E u.1 u.2 (cp_getShare x b).2.2 y t.heap) (wA E)) 4 24 (wA E) := by
  refine va_MetW (cc := cL_getShare) (maxL := 4) (ret := (some .int)) (by decide) rfl ?_
  intro p e s m args below meth c s₁ B hml hv
  obtain ⟨rfl, ⟨⟨⟨hz, hH, hK⟩, hC⟩, hDD⟩, hNc⟩ := hv
  have hx := B.exec
  have hb := B.bytes
  have hr := B.returns
  have hts := atoms_spec (ws := wsL_getShare) B.pre
  have hown : s.vm.findClass RL = some m.cls := findClass_of_methodNamed B.named
  have hlocks := B.notSynchronized
  have htab : c.exceptionTable.toList = tableOf [(0, 9, 12, 24)] := vx_table (x := yL_getShare) B (hts _ List.mem_cons_self)
  have hS : va_S (wA E) s.heap s.heap [] := va_S.rf
  have hl := lv_entry ([.ref (g 0), .int b, .ref (g 40)]) (n := 4) (Nat.le_of_ble_eq_true rfl)
  rw [lg_entry_eq]
  generalize (lg_sl ([.ref (g 0), .int b, .ref (g 40)]) ++ List.replicate (4 - (lg_sl ([.ref (g 0), .int b, .ref (g 40)])).length) Slot.unset).toArray = ls at hl ⊢
  have hl : lv_has ls 4 [(0, .ref (g 0)), (1, .int b), (2, .ref (g 40))] := hl
  obtain ⟨H, eH⟩ : ∃ z, z = s.heap := ⟨_, rfl⟩
  have hH : wHS E o g x y H := by rw [eH]; exact hH
  have hS : va_S (wA E) s.heap H [] := by rw [eH]; exact hS
  refine W.heapTo eH ?_
  refine lv_aload_n hx hb dL_getShare_0 rfl (lv_at hl 2 rfl) ?_
  refine lv_iconst (v := 0) hx hb dL_getShare_1 (by decide) ?_
  refine lv_aload_n hx hb dL_getShare_2 rfl (lv_at hl 0 rfl) ?_
  refine lv_iload_n hx hb dL_getShare_3 rfl (lv_at hl 1 rfl) ?_
  refine vx_calli (vx_runV (As := [.int b]) (rest := [.int 0, .ref (g 40)]) ⟨hx, hb, hml, hown, hts⟩ (met_X4_getShare l E o g x y b hlt hI) (cwV 1 hts gL_getShare_X4_getShare rfl rfl rfl (by decide +kernel) ⟨Nat.le_of_ble_eq_true rfl, Nat.le_of_ble_eq_true rfl⟩) ⟨fun a U f mk q => ⟨q.1, wPreX.calling q.2 a f mk⟩, (va_recv hK (wH_one hH lv_r0 (cel_rt (by omega))) (ci := 6) (q0 := 0) rfl rfl), fun U hU hW => ⟨rfl, wPreX_at hz hS hH hK hC U hU hW⟩⟩ rfl rfl hl.1 rfl (lv_room (Nat.le_of_ble_eq_true rfl)) dL_getShare_4 ⟨by exact Nat.le_of_ble_eq_true rfl, by exact Nat.le_of_ble_eq_true rfl⟩) hS (fun q _ h => h) (fun q h => h) (fun q _ h => h) (fun E9 ce q9 u t H locs ht hvm hw hB hz1 hk1 hS hce hcv hcl => ?_) (fun r u t H locs ht hvm hw hB hz1 hk1 hS => ?_)
  · obtain ⟨hK9, hB⟩ := hB
    have hH := wHS_h ht hB
    have hm := cpt_getShare x b E9 hK9
    obtain ⟨hm1, hm2⟩ := hm
    subst hm1
    · refine vx_catch (name := "java/lang/IndexOutOfBoundsException") hown (tableOf []) ⟨0, 9, 12, 24⟩ (tableOf []) htab (fun z hz => nomatch hz) rfl (by decide) (hts (.classLink RL 24 "java/lang/IndexOutOfBoundsException") (by decide +kernel)) (va_Nw.use rfl (hC.2.2.2.1 ("java/lang/IndexOutOfBoundsException", "java/lang/IndexOutOfBoundsException") (by decide +kernel))) hce hcv hcl ?_
      refine lv_astore_n (lv' := [(3, .ref q9), (0, .ref (g 0)), (1, .int b), (2, .ref (g 40))]) hx hb dL_getShare_12 rfl hl (by decide) rfl (fun ls hl => ?_)
      refine lv_iconst (v := 1) hx hb dL_getShare_13 (by decide) ?_
      refine W.widen (k := 4) (n := 24) (by omega) (by omega) ?_
      exact W.iret (v := 1) hx hb hr (fun t ht hW => ⟨⟨1, (o, g), rfl, ⟨fun h => absurd (h.symm.trans hK9) (by simp), fun X hX => by rw [← Option.some.inj (hK9.symm.trans hX)]; decide +kernel⟩, gE.rf g, by rw [hm2]; exact wHS_t ht hH⟩, hS.F ht⟩) hS.2.2 dL_getShare_14
  · obtain ⟨hnone, rfl⟩ := hw
    have hH := wHS_h ht hB
    refine lv_i2l hx hb dL_getShare_7 rfl ?_
    refine wr_last (t := 40) hx hb hK hH hS lv_o1 rfl 4 rfl (by unfold vp_in; decide) dL_getShare_8 (fun H locs hH hS => ?_)
    have hH := po_l hH
    refine lv_goto (tgt := 15) hx hb dL_getShare_9 (by decide) ?_
    refine lv_iconst (v := 0) hx hb dL_getShare_15 (by decide) ?_
    refine W.widen (k := 4) (n := 24) (by omega) (by omega) ?_
    exact W.iret (v := 0) hx hb hr (fun t ht hW => ⟨⟨0, ((vp_updL o.1 (0 : Int32).toNatClampNeg (((cp_getShare x b).2.1).toInt64), o.2), g), rfl, ⟨fun _ => ⟨rfl, by show vp_updL o.1 (0 : Int32).toNatClampNeg (((cp_getShare x b).2.1).toInt64) 0 = _; rw [show (0 : Int32).toNatClampNeg = 0 from rfl]; simp [vp_updL]⟩, fun X hX => by rw [hnone] at hX; cases hX⟩, (gE.rf g), wHS_t ht hH⟩, hS.F ht⟩) hS.2.2 dL_getShare_16
set_option maxHeartbeats 4000000 in
theorem cpt_change (x : St) (b : Int32) (k : Int32) (v : Int32) (X : String) : (cp_change x b k v).1 = some X → (X = "java/lang/IndexOutOfBoundsException" ∨ X = "java/lang/UnsupportedOperationException") ∧ (cp_change x b k v).2.2 = x := by
  unfold cp_change
  repeat' split
  all_goals intro h
  all_goals first | (exfalso; revert h; simp; done) | (have h2 := Option.some.inj h; subst h2; exact ⟨by decide, rfl⟩)
set_option maxHeartbeats 4000000 in
set_option maxRecDepth 100000 in
theorem met_L_change (l : Launch) (E : wE) (o : wO) (g : Nat → Nat) (x y : St) (b : Int32) (k : Int32) (v : Int32) (hlt : l.stackTraces = false) (hI : CI x) (hJ : CJ x) : Met l yL_change wsL_change ({ frames := 11, cells := 4, slots := 24, locals := 1200 } : Room) (va_Pc [.ref (g 0), .int b, .int k, .int v, .ref (g 40)] (wPreL E o g x y)) (va_Qi (fun (r : Int32) (u : wO × (Nat → Nat)) => lRes ["java/lang/IndexOutOfBoundsException", "java/lang/UnsupportedOperationException"] r (u.1.1 0) (cp_change x b k v)) (fun (u : wO × (Nat → Nat)) t => gE g u.2 ∧ wHS E u.1 u.2 (cp_change x b k v).2.2 y t.heap) (wA E)) 4 24 (wA E) := by
  refine va_MetW (cc := cL_change) (maxL := 6) (ret := (some .int)) (by decide) rfl ?_
  intro p e s m args below meth c s₁ B hml hv
  obtain ⟨rfl, ⟨⟨⟨hz, hH, hK⟩, hC⟩, hDD⟩, hNc⟩ := hv
  have hx := B.exec
  have hb := B.bytes
  have hr := B.returns
  have hts := atoms_spec (ws := wsL_change) B.pre
  have hown : s.vm.findClass RL = some m.cls := findClass_of_methodNamed B.named
  have hlocks := B.notSynchronized
  have htab : c.exceptionTable.toList = tableOf [(0, 12, 15, 24), (0, 12, 19, 34)] := vx_table (x := yL_change) B (hts _ List.mem_cons_self)
  have hS : va_S (wA E) s.heap s.heap [] := va_S.rf
  have hl := lv_entry ([.ref (g 0), .int b, .int k, .int v, .ref (g 40)]) (n := 6) (Nat.le_of_ble_eq_true rfl)
  rw [lg_entry_eq]
  generalize (lg_sl ([.ref (g 0), .int b, .int k, .int v, .ref (g 40)]) ++ List.replicate (6 - (lg_sl ([.ref (g 0), .int b, .int k, .int v, .ref (g 40)])).length) Slot.unset).toArray = ls at hl ⊢
  have hl : lv_has ls 6 [(0, .ref (g 0)), (1, .int b), (2, .int k), (3, .int v), (4, .ref (g 40))] := hl
  obtain ⟨H, eH⟩ : ∃ z, z = s.heap := ⟨_, rfl⟩
  have hH : wHS E o g x y H := by rw [eH]; exact hH
  have hS : va_S (wA E) s.heap H [] := by rw [eH]; exact hS
  refine W.heapTo eH ?_
  refine lv_aload hx hb dL_change_0 (lv_at hl 4 rfl) ?_
  refine lv_iconst (v := 0) hx hb dL_change_2 (by decide) ?_
  refine lv_aload_n hx hb dL_change_3 rfl (lv_at hl 0 rfl) ?_
  refine lv_iload_n hx hb dL_change_4 rfl (lv_at hl 1 rfl) ?_
  refine lv_iload_n hx hb dL_change_5 rfl (lv_at hl 2 rfl) ?_
  refine lv_iload_n hx hb dL_change_6 rfl (lv_at hl 3 rfl) ?_
  refine vx_calli (vx_runV (As := [.int b, .int k, .int v]) (rest := [.int 0, .ref (g 40)]) ⟨hx, hb, hml, hown, hts⟩ (met_X4_change l E o g x y b k v hlt hI hJ) (cwV 3 hts gL_change_X4_change rfl rfl rfl (by decide +kernel) ⟨Nat.le_of_ble_eq_true rfl, Nat.le_of_ble_eq_true rfl⟩) ⟨fun a U f mk q => ⟨q.1, wPreX.calling q.2 a f mk⟩, (va_recv hK (wH_one hH lv_r0 (cel_rt (by omega))) (ci := 6) (q0 := 0) rfl rfl), fun U hU hW => ⟨rfl, wPreX_at hz hS hH hK hC U hU hW⟩⟩ rfl rfl hl.1 rfl (lv_room (Nat.le_of_ble_eq_true rfl)) dL_change_7 ⟨by exact Nat.le_of_ble_eq_true rfl, by exact Nat.le_of_ble_eq_true rfl⟩) hS (fun q _ h => h) (fun q h => h) (fun q _ h => h) (fun E9 ce q9 u t H locs ht hvm hw hB hz1 hk1 hS hce hcv hcl => ?_) (fun r u t H locs ht hvm hw hB hz1 hk1 hS => ?_)
  · obtain ⟨hK9, hB⟩ := hB
    have hH := wHS_h ht hB
    have hm := cpt_change x b k v E9 hK9
    obtain ⟨hm1, hm2⟩ := hm
    rcases hm1 with rfl | rfl
    · refine vx_catch (name := "java/lang/IndexOutOfBoundsException") hown (tableOf []) ⟨0, 12, 15, 24⟩ (tableOf [(0, 12, 19, 34)]) htab (fun z hz => nomatch hz) rfl (by decide) (hts (.classLink RL 24 "java/lang/IndexOutOfBoundsException") (by decide +kernel)) (va_Nw.use rfl (hC.2.2.2.1 ("java/lang/IndexOutOfBoundsException", "java/lang/IndexOutOfBoundsException") (by decide +kernel))) hce hcv hcl ?_
      refine lv_astore (lv' := [(5, .ref q9), (0, .ref (g 0)), (1, .int b), (2, .int k), (3, .int v), (4, .ref (g 40))]) hx hb dL_change_15 hl (by decide) rfl (fun ls hl => ?_)
      refine lv_iconst (v := 1) hx hb dL_change_17 (by decide) ?_
      refine W.widen (k := 4) (n := 24) (by omega) (by omega) ?_
      exact W.iret (v := 1) hx hb hr (fun t ht hW => ⟨⟨1, (o, g), rfl, ⟨fun h => absurd (h.symm.trans hK9) (by simp), fun X hX => by rw [← Option.some.inj (hK9.symm.trans hX)]; decide +kernel⟩, gE.rf g, by rw [hm2]; exact wHS_t ht hH⟩, hS.F ht⟩) hS.2.2 dL_change_18
    · refine vx_catch (name := "java/lang/UnsupportedOperationException") hown (tableOf [(0, 12, 15, 24)]) ⟨0, 12, 19, 34⟩ (tableOf []) htab (fun z hz => by (rcases List.mem_cons.mp hz with rfl | hz; exact Or.inr ⟨by decide, "java/lang/IndexOutOfBoundsException", hts (.classLink RL 24 "java/lang/IndexOutOfBoundsException") (by decide +kernel), hNc ("java/lang/UnsupportedOperationException", "java/lang/IndexOutOfBoundsException") (by decide +kernel)⟩; exact absurd hz (List.not_mem_nil))) rfl (by decide) (hts (.classLink RL 34 "java/lang/UnsupportedOperationException") (by decide +kernel)) (va_Nw.use rfl (hC.2.2.2.1 ("java/lang/UnsupportedOperationException", "java/lang/UnsupportedOperationException") (by decide +kernel))) hce hcv hcl ?_
      refine lv_astore (lv' := [(5, .ref q9), (0, .ref (g 0)), (1, .int b), (2, .int k), (3, .int v), (4, .ref (g 40))]) hx hb dL_change_19 hl (by decide) rfl (fun ls hl => ?_)
      refine lv_iconst (v := 2) hx hb dL_change_21 (by decide) ?_
      refine W.widen (k := 4) (n := 24) (by omega) (by omega) ?_
      exact W.iret (v := 2) hx hb hr (fun t ht hW => ⟨⟨2, (o, g), rfl, ⟨fun h => absurd (h.symm.trans hK9) (by simp), fun X hX => by rw [← Option.some.inj (hK9.symm.trans hX)]; decide +kernel⟩, gE.rf g, by rw [hm2]; exact wHS_t ht hH⟩, hS.F ht⟩) hS.2.2 dL_change_22
  · obtain ⟨hnone, rfl⟩ := hw
    have hH := wHS_h ht hB
    refine lv_i2l hx hb dL_change_10 rfl ?_
    refine wr_last (t := 40) hx hb hK hH hS lv_o1 rfl 4 rfl (by unfold vp_in; decide) dL_change_11 (fun H locs hH hS => ?_)
    have hH := po_l hH
    refine lv_goto (tgt := 23) hx hb dL_change_12 (by decide) ?_
    refine lv_iconst (v := 0) hx hb dL_change_23 (by decide) ?_
    refine W.widen (k := 4) (n := 24) (by omega) (by omega) ?_
    exact W.iret (v := 0) hx hb hr (fun t ht hW => ⟨⟨0, ((vp_updL o.1 (0 : Int32).toNatClampNeg (((cp_change x b k v).2.1).toInt64), o.2), g), rfl, ⟨fun _ => ⟨rfl, by show vp_updL o.1 (0 : Int32).toNatClampNeg (((cp_change x b k v).2.1).toInt64) 0 = _; rw [show (0 : Int32).toNatClampNeg = 0 from rfl]; simp [vp_updL]⟩, fun X hX => by rw [hnone] at hX; cases hX⟩, (gE.rf g), wHS_t ht hH⟩, hS.F ht⟩) hS.2.2 dL_change_24
set_option maxHeartbeats 4000000 in
theorem cpt_changeNeedle (x : St) (b : Int32) (X : String) : (cp_changeNeedle x b).1 = some X → (X = "java/lang/IndexOutOfBoundsException" ∨ X = "java/lang/UnsupportedOperationException") ∧ (cp_changeNeedle x b).2.2 = x := by
  unfold cp_changeNeedle
  repeat' split
  all_goals intro h
  all_goals first | (exfalso; revert h; simp; done) | (have h2 := Option.some.inj h; subst h2; exact ⟨by decide, rfl⟩)
set_option maxHeartbeats 4000000 in
set_option maxRecDepth 100000 in
theorem met_L_changeNeedle (l : Launch) (E : wE) (o : wO) (g : Nat → Nat) (x y : St) (b : Int32) (hlt : l.stackTraces = false) (hI : CI x) : Met l yL_changeNeedle wsL_changeNeedle ({ frames := 11, cells := 4, slots := 24, locals := 1200 } : Room) (va_Pc [.ref (g 0), .int b, .ref (g 40)] (wPreL E o g x y)) (va_Qi (fun (r : Int32) (u : wO × (Nat → Nat)) => lRes ["java/lang/IndexOutOfBoundsException", "java/lang/UnsupportedOperationException"] r (u.1.1 0) (cp_changeNeedle x b)) (fun (u : wO × (Nat → Nat)) t => gE g u.2 ∧ wHS E u.1 u.2 (cp_changeNeedle x b).2.2 y t.heap) (wA E)) 4 24 (wA E) := by
  refine va_MetW (cc := cL_changeNeedle) (maxL := 4) (ret := (some .int)) (by decide) rfl ?_
  intro p e s m args below meth c s₁ B hml hv
  obtain ⟨rfl, ⟨⟨⟨hz, hH, hK⟩, hC⟩, hDD⟩, hNc⟩ := hv
  have hx := B.exec
  have hb := B.bytes
  have hr := B.returns
  have hts := atoms_spec (ws := wsL_changeNeedle) B.pre
  have hown : s.vm.findClass RL = some m.cls := findClass_of_methodNamed B.named
  have hlocks := B.notSynchronized
  have htab : c.exceptionTable.toList = tableOf [(0, 9, 12, 24), (0, 9, 15, 34)] := vx_table (x := yL_changeNeedle) B (hts _ List.mem_cons_self)
  have hS : va_S (wA E) s.heap s.heap [] := va_S.rf
  have hl := lv_entry ([.ref (g 0), .int b, .ref (g 40)]) (n := 4) (Nat.le_of_ble_eq_true rfl)
  rw [lg_entry_eq]
  generalize (lg_sl ([.ref (g 0), .int b, .ref (g 40)]) ++ List.replicate (4 - (lg_sl ([.ref (g 0), .int b, .ref (g 40)])).length) Slot.unset).toArray = ls at hl ⊢
  have hl : lv_has ls 4 [(0, .ref (g 0)), (1, .int b), (2, .ref (g 40))] := hl
  obtain ⟨H, eH⟩ : ∃ z, z = s.heap := ⟨_, rfl⟩
  have hH : wHS E o g x y H := by rw [eH]; exact hH
  have hS : va_S (wA E) s.heap H [] := by rw [eH]; exact hS
  refine W.heapTo eH ?_
  refine lv_aload_n hx hb dL_changeNeedle_0 rfl (lv_at hl 2 rfl) ?_
  refine lv_iconst (v := 0) hx hb dL_changeNeedle_1 (by decide) ?_
  refine lv_aload_n hx hb dL_changeNeedle_2 rfl (lv_at hl 0 rfl) ?_
  refine lv_iload_n hx hb dL_changeNeedle_3 rfl (lv_at hl 1 rfl) ?_
  refine vx_calli (vx_runV (As := [.int b]) (rest := [.int 0, .ref (g 40)]) ⟨hx, hb, hml, hown, hts⟩ (met_X4_changeNeedle l E o g x y b hlt hI) (cwV 1 hts gL_changeNeedle_X4_changeNeedle rfl rfl rfl (by decide +kernel) ⟨Nat.le_of_ble_eq_true rfl, Nat.le_of_ble_eq_true rfl⟩) ⟨fun a U f mk q => ⟨q.1, wPreX.calling q.2 a f mk⟩, (va_recv hK (wH_one hH lv_r0 (cel_rt (by omega))) (ci := 6) (q0 := 0) rfl rfl), fun U hU hW => ⟨rfl, wPreX_at hz hS hH hK hC U hU hW⟩⟩ rfl rfl hl.1 rfl (lv_room (Nat.le_of_ble_eq_true rfl)) dL_changeNeedle_4 ⟨by exact Nat.le_of_ble_eq_true rfl, by exact Nat.le_of_ble_eq_true rfl⟩) hS (fun q _ h => h) (fun q h => h) (fun q _ h => h) (fun E9 ce q9 u t H locs ht hvm hw hB hz1 hk1 hS hce hcv hcl => ?_) (fun r u t H locs ht hvm hw hB hz1 hk1 hS => ?_)
  · obtain ⟨hK9, hB⟩ := hB
    have hH := wHS_h ht hB
    have hm := cpt_changeNeedle x b E9 hK9
    obtain ⟨hm1, hm2⟩ := hm
    rcases hm1 with rfl | rfl
    · refine vx_catch (name := "java/lang/IndexOutOfBoundsException") hown (tableOf []) ⟨0, 9, 12, 24⟩ (tableOf [(0, 9, 15, 34)]) htab (fun z hz => nomatch hz) rfl (by decide) (hts (.classLink RL 24 "java/lang/IndexOutOfBoundsException") (by decide +kernel)) (va_Nw.use rfl (hC.2.2.2.1 ("java/lang/IndexOutOfBoundsException", "java/lang/IndexOutOfBoundsException") (by decide +kernel))) hce hcv hcl ?_
      refine lv_astore_n (lv' := [(3, .ref q9), (0, .ref (g 0)), (1, .int b), (2, .ref (g 40))]) hx hb dL_changeNeedle_12 rfl hl (by decide) rfl (fun ls hl => ?_)
      refine lv_iconst (v := 1) hx hb dL_changeNeedle_13 (by decide) ?_
      refine W.widen (k := 4) (n := 24) (by omega) (by omega) ?_
      exact W.iret (v := 1) hx hb hr (fun t ht hW => ⟨⟨1, (o, g), rfl, ⟨fun h => absurd (h.symm.trans hK9) (by simp), fun X hX => by rw [← Option.some.inj (hK9.symm.trans hX)]; decide +kernel⟩, gE.rf g, by rw [hm2]; exact wHS_t ht hH⟩, hS.F ht⟩) hS.2.2 dL_changeNeedle_14
    · refine vx_catch (name := "java/lang/UnsupportedOperationException") hown (tableOf [(0, 9, 12, 24)]) ⟨0, 9, 15, 34⟩ (tableOf []) htab (fun z hz => by (rcases List.mem_cons.mp hz with rfl | hz; exact Or.inr ⟨by decide, "java/lang/IndexOutOfBoundsException", hts (.classLink RL 24 "java/lang/IndexOutOfBoundsException") (by decide +kernel), hNc ("java/lang/UnsupportedOperationException", "java/lang/IndexOutOfBoundsException") (by decide +kernel)⟩; exact absurd hz (List.not_mem_nil))) rfl (by decide) (hts (.classLink RL 34 "java/lang/UnsupportedOperationException") (by decide +kernel)) (va_Nw.use rfl (hC.2.2.2.1 ("java/lang/UnsupportedOperationException", "java/lang/UnsupportedOperationException") (by decide +kernel))) hce hcv hcl ?_
      refine lv_astore_n (lv' := [(3, .ref q9), (0, .ref (g 0)), (1, .int b), (2, .ref (g 40))]) hx hb dL_changeNeedle_15 rfl hl (by decide) rfl (fun ls hl => ?_)
      refine lv_iconst (v := 2) hx hb dL_changeNeedle_16 (by decide) ?_
      refine W.widen (k := 4) (n := 24) (by omega) (by omega) ?_
      exact W.iret (v := 2) hx hb hr (fun t ht hW => ⟨⟨2, (o, g), rfl, ⟨fun h => absurd (h.symm.trans hK9) (by simp), fun X hX => by rw [← Option.some.inj (hK9.symm.trans hX)]; decide +kernel⟩, gE.rf g, by rw [hm2]; exact wHS_t ht hH⟩, hS.F ht⟩) hS.2.2 dL_changeNeedle_17
  · obtain ⟨hnone, rfl⟩ := hw
    have hH := wHS_h ht hB
    refine lv_i2l hx hb dL_changeNeedle_7 rfl ?_
    refine wr_last (t := 40) hx hb hK hH hS lv_o1 rfl 4 rfl (by unfold vp_in; decide) dL_changeNeedle_8 (fun H locs hH hS => ?_)
    have hH := po_l hH
    refine lv_goto (tgt := 18) hx hb dL_changeNeedle_9 (by decide) ?_
    refine lv_iconst (v := 0) hx hb dL_changeNeedle_18 (by decide) ?_
    refine W.widen (k := 4) (n := 24) (by omega) (by omega) ?_
    exact W.iret (v := 0) hx hb hr (fun t ht hW => ⟨⟨0, ((vp_updL o.1 (0 : Int32).toNatClampNeg (((cp_changeNeedle x b).2.1).toInt64), o.2), g), rfl, ⟨fun _ => ⟨rfl, by show vp_updL o.1 (0 : Int32).toNatClampNeg (((cp_changeNeedle x b).2.1).toInt64) 0 = _; rw [show (0 : Int32).toNatClampNeg = 0 from rfl]; simp [vp_updL]⟩, fun X hX => by rw [hnone] at hX; cases hX⟩, (gE.rf g), wHS_t ht hH⟩, hS.F ht⟩) hS.2.2 dL_changeNeedle_19
