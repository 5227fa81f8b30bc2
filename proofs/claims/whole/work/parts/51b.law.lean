set_option maxHeartbeats 4000000 in
theorem cpt_addDisc (x : St) (a : Int32) (st : Int32) (fw : Int32) (X : String) : (cp_addDisc x a st fw).1 = some X → (X = "java/lang/IllegalArgumentException" ∨ X = "java/lang/IllegalStateException") ∧ (cp_addDisc x a st fw).2.2 = x := by
  unfold cp_addDisc
  repeat' split
  all_goals intro h
  all_goals first | (exfalso; revert h; simp; done) | (have h2 := Option.some.inj h; subst h2; exact ⟨by decide, rfl⟩)
set_option maxHeartbeats 4000000 in
set_option maxRecDepth 100000 in
theorem met_L_addDisc (l : Launch) (E : wE) (o : wO) (g : Nat → Nat) (x y : St) (a : Int32) (st : Int32) (fw : Int32) (hlt : l.stackTraces = false) (hI : CI x) (hQ : CQ x) (hFr : FrD x) : Met l yL_addDisc wsL_addDisc ({ frames := 13, cells := 5, slots := 140, locals := 1400 } : Room) (va_Pc [.ref (g 0), .int a, .int st, .int fw, .ref (g 40)] (wPreL E o g x y)) (va_Qi (fun (r : Int32) (u : wO × (Nat → Nat)) => lRes ["java/lang/IllegalArgumentException", "java/lang/IllegalStateException"] r (u.1.1 0) (cp_addDisc x a st fw)) (fun (u : wO × (Nat → Nat)) t => gE g u.2 ∧ wHS E u.1 u.2 (cp_addDisc x a st fw).2.2 y t.heap) (wA E)) 5 140 (wA E) := by
  refine va_MetW (cc := cL_addDisc) (maxL := 6) (ret := (some .int)) (by decide) rfl ?_
  intro p e s m args below meth c s₁ B hml hv
  obtain ⟨rfl, ⟨⟨⟨hz, hH, hK⟩, hC⟩, hDD⟩, hNc⟩ := hv
  have hx := B.exec
  have hb := B.bytes
  have hr := B.returns
  have hts := atoms_spec (ws := wsL_addDisc) B.pre
  have hown : s.vm.findClass RL = some m.cls := findClass_of_methodNamed B.named
  have hlocks := B.notSynchronized
  have htab : c.exceptionTable.toList = tableOf [(0, 12, 15, 13), (0, 12, 19, 15)] := vx_table (x := yL_addDisc) B (hts _ List.mem_cons_self)
  have hS : va_S (wA E) s.heap s.heap [] := va_S.rf
  have hl := lv_entry ([.ref (g 0), .int a, .int st, .int fw, .ref (g 40)]) (n := 6) (Nat.le_of_ble_eq_true rfl)
  rw [lg_entry_eq]
  generalize (lg_sl ([.ref (g 0), .int a, .int st, .int fw, .ref (g 40)]) ++ List.replicate (6 - (lg_sl ([.ref (g 0), .int a, .int st, .int fw, .ref (g 40)])).length) Slot.unset).toArray = ls at hl ⊢
  have hl : lv_has ls 6 [(0, .ref (g 0)), (1, .int a), (2, .int st), (3, .int fw), (4, .ref (g 40))] := hl
  obtain ⟨H, eH⟩ : ∃ z, z = s.heap := ⟨_, rfl⟩
  have hH : wHS E o g x y H := by rw [eH]; exact hH
  have hS : va_S (wA E) s.heap H [] := by rw [eH]; exact hS
  refine W.heapTo eH ?_
  refine lv_aload hx hb dL_addDisc_0 (lv_at hl 4 rfl) ?_
  refine lv_iconst (v := 0) hx hb dL_addDisc_2 (by decide) ?_
  refine lv_aload_n hx hb dL_addDisc_3 rfl (lv_at hl 0 rfl) ?_
  refine lv_iload_n hx hb dL_addDisc_4 rfl (lv_at hl 1 rfl) ?_
  refine lv_iload_n hx hb dL_addDisc_5 rfl (lv_at hl 2 rfl) ?_
  refine lv_iload_n hx hb dL_addDisc_6 rfl (lv_at hl 3 rfl) ?_
  refine vx_calli (vx_runV (As := [.int a, .int st, .int fw]) (rest := [.int 0, .ref (g 40)]) ⟨hx, hb, hml, hown, hts⟩ (met_X4_addDisc l E o g x y a st fw hlt hI hQ hFr) (cwV 3 hts gL_addDisc_X4_addDisc rfl rfl rfl (by decide +kernel) ⟨Nat.le_of_ble_eq_true rfl, Nat.le_of_ble_eq_true rfl⟩) ⟨fun a U f mk q => ⟨q.1, wPreZ.calling q.2 a f mk⟩, (va_recv hK (wH_one hH lv_r0 (cel_rt (by omega))) (ci := 6) (q0 := 0) rfl rfl), fun U hU hW => ⟨rfl, wPreZ_at hz hS hH hK hC hDD U hU hW⟩⟩ rfl rfl hl.1 rfl (lv_room (Nat.le_of_ble_eq_true rfl)) dL_addDisc_7 ⟨by exact Nat.le_of_ble_eq_true rfl, by exact Nat.le_of_ble_eq_true rfl⟩) hS (fun q _ h => h) (fun q h => h) (fun q _ h => h) (fun E9 ce q9 u t H locs ht hvm hw hB hz1 hk1 hS hce hcv hcl => ?_) (fun r u t H locs ht hvm hw hB hz1 hk1 hS => ?_)
  · obtain ⟨hK9, hB⟩ := hB
    have hH := wHS_h ht hB
    have hm := cpt_addDisc x a st fw E9 hK9
    obtain ⟨hm1, hm2⟩ := hm
    rcases hm1 with rfl | rfl
    · refine vx_catch (name := "java/lang/IllegalArgumentException") hown (tableOf []) ⟨0, 12, 15, 13⟩ (tableOf [(0, 12, 19, 15)]) htab (fun z hz => nomatch hz) rfl (by decide) (hts (.classLink RL 13 "java/lang/IllegalArgumentException") (by decide +kernel)) (va_Nw.use rfl (hC.2.2.2.1 ("java/lang/IllegalArgumentException", "java/lang/IllegalArgumentException") (by decide +kernel))) hce hcv hcl ?_
      refine lv_astore (lv' := [(5, .ref q9), (0, .ref (g 0)), (1, .int a), (2, .int st), (3, .int fw), (4, .ref (g 40))]) hx hb dL_addDisc_15 hl (by decide) rfl (fun ls hl => ?_)
      refine lv_iconst (v := 1) hx hb dL_addDisc_17 (by decide) ?_
      refine W.widen (k := 5) (n := 140) (by omega) (by omega) ?_
      exact W.iret (v := 1) hx hb hr (fun t ht hW => ⟨⟨1, (o, g), rfl, ⟨fun h => absurd (h.symm.trans hK9) (by simp), fun X hX => by rw [← Option.some.inj (hK9.symm.trans hX)]; decide +kernel⟩, gE.rf g, by rw [hm2]; exact wHS_t ht hH⟩, hS.F ht⟩) hS.2.2 dL_addDisc_18
    · refine vx_catch (name := "java/lang/IllegalStateException") hown (tableOf [(0, 12, 15, 13)]) ⟨0, 12, 19, 15⟩ (tableOf []) htab (fun z hz => by (rcases List.mem_cons.mp hz with rfl | hz; exact Or.inr ⟨by decide, "java/lang/IllegalArgumentException", hts (.classLink RL 13 "java/lang/IllegalArgumentException") (by decide +kernel), hNc ("java/lang/IllegalStateException", "java/lang/IllegalArgumentException") (by decide +kernel)⟩; exact absurd hz (List.not_mem_nil))) rfl (by decide) (hts (.classLink RL 15 "java/lang/IllegalStateException") (by decide +kernel)) (va_Nw.use rfl (hC.2.2.2.1 ("java/lang/IllegalStateException", "java/lang/IllegalStateException") (by decide +kernel))) hce hcv hcl ?_
      refine lv_astore (lv' := [(5, .ref q9), (0, .ref (g 0)), (1, .int a), (2, .int st), (3, .int fw), (4, .ref (g 40))]) hx hb dL_addDisc_19 hl (by decide) rfl (fun ls hl => ?_)
      refine lv_iconst (v := 2) hx hb dL_addDisc_21 (by decide) ?_
      refine W.widen (k := 5) (n := 140) (by omega) (by omega) ?_
      exact W.iret (v := 2) hx hb hr (fun t ht hW => ⟨⟨2, (o, g), rfl, ⟨fun h => absurd (h.symm.trans hK9) (by simp), fun X hX => by rw [← Option.some.inj (hK9.symm.trans hX)]; decide +kernel⟩, gE.rf g, by rw [hm2]; exact wHS_t ht hH⟩, hS.F ht⟩) hS.2.2 dL_addDisc_22
  · obtain ⟨hnone, rfl⟩ := hw
    obtain ⟨g9, hgE, hB⟩ := hB
    have hH := wHS_h ht hB
    have e40 : g9 40 = g 40 := hgE 40 (by decide) (by decide) (by decide)
    refine W.eq (g2 := F0 m 10 ls [.int ((cp_addDisc x a st fw).2.1), .int 0, .ref (g9 40)]) (by rw [e40]) ?_
    have hG : ∃ z, z = g9 ∧ gE g z := ⟨g9, rfl, hgE⟩
    clear hgE e40
    obtain ⟨g, rfl, hgE⟩ := hG
    refine lv_i2l hx hb dL_addDisc_10 rfl ?_
    refine wr_last (t := 40) hx hb hK hH hS lv_o1 rfl 4 rfl (by unfold vp_in; decide) dL_addDisc_11 (fun H locs hH hS => ?_)
    have hH := po_l hH
    refine lv_goto (tgt := 23) hx hb dL_addDisc_12 (by decide) ?_
    refine lv_iconst (v := 0) hx hb dL_addDisc_23 (by decide) ?_
    refine W.widen (k := 5) (n := 140) (by omega) (by omega) ?_
    exact W.iret (v := 0) hx hb hr (fun t ht hW => ⟨⟨0, ((vp_updL o.1 (0 : Int32).toNatClampNeg (((cp_addDisc x a st fw).2.1).toInt64), o.2), g), rfl, ⟨fun _ => ⟨rfl, by show vp_updL o.1 (0 : Int32).toNatClampNeg (((cp_addDisc x a st fw).2.1).toInt64) 0 = _; rw [show (0 : Int32).toNatClampNeg = 0 from rfl]; simp [vp_updL]⟩, fun X hX => by rw [hnone] at hX; cases hX⟩, hgE, wHS_t ht hH⟩, hS.F ht⟩) hS.2.2 dL_addDisc_24
set_option maxHeartbeats 4000000 in
theorem cpt_addBox (x : St) (sh : Int32) (ta : Int32) (X : String) : (cp_addBox x sh ta).1 = some X → (X = "java/lang/IllegalArgumentException" ∨ X = "java/lang/IllegalStateException") ∧ (cp_addBox x sh ta).2.2 = x := by
  unfold cp_addBox
  repeat' split
  all_goals intro h
  all_goals first | (exfalso; revert h; simp; done) | (have h2 := Option.some.inj h; subst h2; exact ⟨by decide, rfl⟩)
set_option maxHeartbeats 4000000 in
set_option maxRecDepth 100000 in
theorem met_L_addBox (l : Launch) (E : wE) (o : wO) (g : Nat → Nat) (x y : St) (sh : Int32) (ta : Int32) (hlt : l.stackTraces = false) (hI : CI x) (hQ : CQ x) (hFr : FrB x) : Met l yL_addBox wsL_addBox ({ frames := 13, cells := 20, slots := 300, locals := 1400 } : Room) (va_Pc [.ref (g 0), .int sh, .int ta, .ref (g 40)] (wPreL E o g x y)) (va_Qi (fun (r : Int32) (u : wO × (Nat → Nat)) => lRes ["java/lang/IllegalArgumentException", "java/lang/IllegalStateException"] r (u.1.1 0) (cp_addBox x sh ta)) (fun (u : wO × (Nat → Nat)) t => gE g u.2 ∧ wHS E u.1 u.2 (cp_addBox x sh ta).2.2 y t.heap) (wA E)) 20 300 (wA E) := by
  refine va_MetW (cc := cL_addBox) (maxL := 5) (ret := (some .int)) (by decide) rfl ?_
  intro p e s m args below meth c s₁ B hml hv
  obtain ⟨rfl, ⟨⟨⟨hz, hH, hK⟩, hC⟩, hDD⟩, hNc⟩ := hv
  have hx := B.exec
  have hb := B.bytes
  have hr := B.returns
  have hts := atoms_spec (ws := wsL_addBox) B.pre
  have hown : s.vm.findClass RL = some m.cls := findClass_of_methodNamed B.named
  have hlocks := B.notSynchronized
  have htab : c.exceptionTable.toList = tableOf [(0, 10, 13, 13), (0, 10, 17, 15)] := vx_table (x := yL_addBox) B (hts _ List.mem_cons_self)
  have hS : va_S (wA E) s.heap s.heap [] := va_S.rf
  have hl := lv_entry ([.ref (g 0), .int sh, .int ta, .ref (g 40)]) (n := 5) (Nat.le_of_ble_eq_true rfl)
  rw [lg_entry_eq]
  generalize (lg_sl ([.ref (g 0), .int sh, .int ta, .ref (g 40)]) ++ List.replicate (5 - (lg_sl ([.ref (g 0), .int sh, .int ta, .ref (g 40)])).length) Slot.unset).toArray = ls at hl ⊢
  have hl : lv_has ls 5 [(0, .ref (g 0)), (1, .int sh), (2, .int ta), (3, .ref (g 40))] := hl
  obtain ⟨H, eH⟩ : ∃ z, z = s.heap := ⟨_, rfl⟩
  have hH : wHS E o g x y H := by rw [eH]; exact hH
  have hS : va_S (wA E) s.heap H [] := by rw [eH]; exact hS
  refine W.heapTo eH ?_
  refine lv_aload_n hx hb dL_addBox_0 rfl (lv_at hl 3 rfl) ?_
  refine lv_iconst (v := 0) hx hb dL_addBox_1 (by decide) ?_
  refine lv_aload_n hx hb dL_addBox_2 rfl (lv_at hl 0 rfl) ?_
  refine lv_iload_n hx hb dL_addBox_3 rfl (lv_at hl 1 rfl) ?_
  refine lv_iload_n hx hb dL_addBox_4 rfl (lv_at hl 2 rfl) ?_
  refine vx_calli (vx_runV (As := [.int sh, .int ta]) (rest := [.int 0, .ref (g 40)]) ⟨hx, hb, hml, hown, hts⟩ (met_X4_addBox l E o g x y sh ta hlt hI hQ hFr) (cwV 2 hts gL_addBox_X4_addBox rfl rfl rfl (by decide +kernel) ⟨Nat.le_of_ble_eq_true rfl, Nat.le_of_ble_eq_true rfl⟩) ⟨fun a U f mk q => ⟨q.1, wPreZ.calling q.2 a f mk⟩, (va_recv hK (wH_one hH lv_r0 (cel_rt (by omega))) (ci := 6) (q0 := 0) rfl rfl), fun U hU hW => ⟨rfl, wPreZ_at hz hS hH hK hC hDD U hU hW⟩⟩ rfl rfl hl.1 rfl (lv_room (Nat.le_of_ble_eq_true rfl)) dL_addBox_5 ⟨by exact Nat.le_of_ble_eq_true rfl, by exact Nat.le_of_ble_eq_true rfl⟩) hS (fun q _ h => h) (fun q h => h) (fun q _ h => h) (fun E9 ce q9 u t H locs ht hvm hw hB hz1 hk1 hS hce hcv hcl => ?_) (fun r u t H locs ht hvm hw hB hz1 hk1 hS => ?_)
  · obtain ⟨hK9, hB⟩ := hB
    have hH := wHS_h ht hB
    have hm := cpt_addBox x sh ta E9 hK9
    obtain ⟨hm1, hm2⟩ := hm
    rcases hm1 with rfl | rfl
    · refine vx_catch (name := "java/lang/IllegalArgumentException") hown (tableOf []) ⟨0, 10, 13, 13⟩ (tableOf [(0, 10, 17, 15)]) htab (fun z hz => nomatch hz) rfl (by decide) (hts (.classLink RL 13 "java/lang/IllegalArgumentException") (by decide +kernel)) (va_Nw.use rfl (hC.2.2.2.1 ("java/lang/IllegalArgumentException", "java/lang/IllegalArgumentException") (by decide +kernel))) hce hcv hcl ?_
      refine lv_astore (lv' := [(4, .ref q9), (0, .ref (g 0)), (1, .int sh), (2, .int ta), (3, .ref (g 40))]) hx hb dL_addBox_13 hl (by decide) rfl (fun ls hl => ?_)
      refine lv_iconst (v := 1) hx hb dL_addBox_15 (by decide) ?_
      refine W.widen (k := 20) (n := 300) (by omega) (by omega) ?_
      exact W.iret (v := 1) hx hb hr (fun t ht hW => ⟨⟨1, (o, g), rfl, ⟨fun h => absurd (h.symm.trans hK9) (by simp), fun X hX => by rw [← Option.some.inj (hK9.symm.trans hX)]; decide +kernel⟩, gE.rf g, by rw [hm2]; exact wHS_t ht hH⟩, hS.F ht⟩) hS.2.2 dL_addBox_16
    · refine vx_catch (name := "java/lang/IllegalStateException") hown (tableOf [(0, 10, 13, 13)]) ⟨0, 10, 17, 15⟩ (tableOf []) htab (fun z hz => by (rcases List.mem_cons.mp hz with rfl | hz; exact Or.inr ⟨by decide, "java/lang/IllegalArgumentException", hts (.classLink RL 13 "java/lang/IllegalArgumentException") (by decide +kernel), hNc ("java/lang/IllegalStateException", "java/lang/IllegalArgumentException") (by decide +kernel)⟩; exact absurd hz (List.not_mem_nil))) rfl (by decide) (hts (.classLink RL 15 "java/lang/IllegalStateException") (by decide +kernel)) (va_Nw.use rfl (hC.2.2.2.1 ("java/lang/IllegalStateException", "java/lang/IllegalStateException") (by decide +kernel))) hce hcv hcl ?_
      refine lv_astore (lv' := [(4, .ref q9), (0, .ref (g 0)), (1, .int sh), (2, .int ta), (3, .ref (g 40))]) hx hb dL_addBox_17 hl (by decide) rfl (fun ls hl => ?_)
      refine lv_iconst (v := 2) hx hb dL_addBox_19 (by decide) ?_
      refine W.widen (k := 20) (n := 300) (by omega) (by omega) ?_
      exact W.iret (v := 2) hx hb hr (fun t ht hW => ⟨⟨2, (o, g), rfl, ⟨fun h => absurd (h.symm.trans hK9) (by simp), fun X hX => by rw [← Option.some.inj (hK9.symm.trans hX)]; decide +kernel⟩, gE.rf g, by rw [hm2]; exact wHS_t ht hH⟩, hS.F ht⟩) hS.2.2 dL_addBox_20
  · obtain ⟨hnone, rfl⟩ := hw
    obtain ⟨g9, hgE, hB⟩ := hB
    have hH := wHS_h ht hB
    have e40 : g9 40 = g 40 := hgE 40 (by decide) (by decide) (by decide)
    refine W.eq (g2 := F0 m 8 ls [.int ((cp_addBox x sh ta).2.1), .int 0, .ref (g9 40)]) (by rw [e40]) ?_
    have hG : ∃ z, z = g9 ∧ gE g z := ⟨g9, rfl, hgE⟩
    clear hgE e40
    obtain ⟨g, rfl, hgE⟩ := hG
    refine lv_i2l hx hb dL_addBox_8 rfl ?_
    refine wr_last (t := 40) hx hb hK hH hS lv_o1 rfl 4 rfl (by unfold vp_in; decide) dL_addBox_9 (fun H locs hH hS => ?_)
    have hH := po_l hH
    refine lv_goto (tgt := 21) hx hb dL_addBox_10 (by decide) ?_
    refine lv_iconst (v := 0) hx hb dL_addBox_21 (by decide) ?_
    refine W.widen (k := 20) (n := 300) (by omega) (by omega) ?_
    exact W.iret (v := 0) hx hb hr (fun t ht hW => ⟨⟨0, ((vp_updL o.1 (0 : Int32).toNatClampNeg (((cp_addBox x sh ta).2.1).toInt64), o.2), g), rfl, ⟨fun _ => ⟨rfl, by show vp_updL o.1 (0 : Int32).toNatClampNeg (((cp_addBox x sh ta).2.1).toInt64) 0 = _; rw [show (0 : Int32).toNatClampNeg = 0 from rfl]; simp [vp_updL]⟩, fun X hX => by rw [hnone] at hX; cases hX⟩, hgE, wHS_t ht hH⟩, hS.F ht⟩) hS.2.2 dL_addBox_22
set_option maxHeartbeats 4000000 in
theorem cpt_setRisk (x : St) (b : Int32) (v : Int32) (X : String) : (cp_setRisk x b v).1 = some X → (X = "java/lang/IndexOutOfBoundsException" ∨ X = "java/lang/IllegalArgumentException") ∧ (cp_setRisk x b v).2.2 = x := by
  unfold cp_setRisk
  repeat' split
  all_goals intro h
  all_goals first | (exfalso; revert h; simp; done) | (have h2 := Option.some.inj h; subst h2; exact ⟨by decide, rfl⟩)
set_option maxHeartbeats 4000000 in
set_option maxRecDepth 100000 in
theorem met_L_setRisk (l : Launch) (E : wE) (o : wO) (g : Nat → Nat) (x y : St) (b : Int32) (v : Int32) (hlt : l.stackTraces = false) (hI : CI x) : Met l yL_setRisk wsL_setRisk ({ frames := 11, cells := 4, slots := 24, locals := 1200 } : Room) (va_Pc [.ref (g 0), .int b, .int v, .ref (g 40)] (wPreL E o g x y)) (va_Qi (fun (r : Int32) (u : wO × (Nat → Nat)) => lRes ["java/lang/IndexOutOfBoundsException", "java/lang/IllegalArgumentException"] r (u.1.1 0) (cp_setRisk x b v)) (fun (u : wO × (Nat → Nat)) t => gE g u.2 ∧ wHS E u.1 u.2 (cp_setRisk x b v).2.2 y t.heap) (wA E)) 4 24 (wA E) := by
  refine va_MetW (cc := cL_setRisk) (maxL := 5) (ret := (some .int)) (by decide) rfl ?_
  intro p e s m args below meth c s₁ B hml hv
  obtain ⟨rfl, ⟨⟨⟨hz, hH, hK⟩, hC⟩, hDD⟩, hNc⟩ := hv
  have hx := B.exec
  have hb := B.bytes
  have hr := B.returns
  have hts := atoms_spec (ws := wsL_setRisk) B.pre
  have hown : s.vm.findClass RL = some m.cls := findClass_of_methodNamed B.named
  have hlocks := B.notSynchronized
  have htab : c.exceptionTable.toList = tableOf [(0, 10, 13, 24), (0, 10, 17, 13)] := vx_table (x := yL_setRisk) B (hts _ List.mem_cons_self)
  have hS : va_S (wA E) s.heap s.heap [] := va_S.rf
  have hl := lv_entry ([.ref (g 0), .int b, .int v, .ref (g 40)]) (n := 5) (Nat.le_of_ble_eq_true rfl)
  rw [lg_entry_eq]
  generalize (lg_sl ([.ref (g 0), .int b, .int v, .ref (g 40)]) ++ List.replicate (5 - (lg_sl ([.ref (g 0), .int b, .int v, .ref (g 40)])).length) Slot.unset).toArray = ls at hl ⊢
  have hl : lv_has ls 5 [(0, .ref (g 0)), (1, .int b), (2, .int v), (3, .ref (g 40))] := hl
  obtain ⟨H, eH⟩ : ∃ z, z = s.heap := ⟨_, rfl⟩
  have hH : wHS E o g x y H := by rw [eH]; exact hH
  have hS : va_S (wA E) s.heap H [] := by rw [eH]; exact hS
  refine W.heapTo eH ?_
  refine lv_aload_n hx hb dL_setRisk_0 rfl (lv_at hl 3 rfl) ?_
  refine lv_iconst (v := 0) hx hb dL_setRisk_1 (by decide) ?_
  refine lv_aload_n hx hb dL_setRisk_2 rfl (lv_at hl 0 rfl) ?_
  refine lv_iload_n hx hb dL_setRisk_3 rfl (lv_at hl 1 rfl) ?_
  refine lv_iload_n hx hb dL_setRisk_4 rfl (lv_at hl 2 rfl) ?_
  refine vx_calli (vx_runV (As := [.int b, .int v]) (rest := [.int 0, .ref (g 40)]) ⟨hx, hb, hml, hown, hts⟩ (met_X4_setRisk l E o g x y b v hlt hI) (cwV 2 hts gL_setRisk_X4_setRisk rfl rfl rfl (by decide +kernel) ⟨Nat.le_of_ble_eq_true rfl, Nat.le_of_ble_eq_true rfl⟩) ⟨fun a U f mk q => ⟨q.1, wPreX.calling q.2 a f mk⟩, (va_recv hK (wH_one hH lv_r0 (cel_rt (by omega))) (ci := 6) (q0 := 0) rfl rfl), fun U hU hW => ⟨rfl, wPreX_at hz hS hH hK hC U hU hW⟩⟩ rfl rfl hl.1 rfl (lv_room (Nat.le_of_ble_eq_true rfl)) dL_setRisk_5 ⟨by exact Nat.le_of_ble_eq_true rfl, by exact Nat.le_of_ble_eq_true rfl⟩) hS (fun q _ h => h) (fun q h => h) (fun q _ h => h) (fun E9 ce q9 u t H locs ht hvm hw hB hz1 hk1 hS hce hcv hcl => ?_) (fun r u t H locs ht hvm hw hB hz1 hk1 hS => ?_)
  · obtain ⟨hK9, hB⟩ := hB
    have hH := wHS_h ht hB
    have hm := cpt_setRisk x b v E9 hK9
    obtain ⟨hm1, hm2⟩ := hm
    rcases hm1 with rfl | rfl
    · refine vx_catch (name := "java/lang/IndexOutOfBoundsException") hown (tableOf []) ⟨0, 10, 13, 24⟩ (tableOf [(0, 10, 17, 13)]) htab (fun z hz => nomatch hz) rfl (by decide) (hts (.classLink RL 24 "java/lang/IndexOutOfBoundsException") (by decide +kernel)) (va_Nw.use rfl (hC.2.2.2.1 ("java/lang/IndexOutOfBoundsException", "java/lang/IndexOutOfBoundsException") (by decide +kernel))) hce hcv hcl ?_
      refine lv_astore (lv' := [(4, .ref q9), (0, .ref (g 0)), (1, .int b), (2, .int v), (3, .ref (g 40))]) hx hb dL_setRisk_13 hl (by decide) rfl (fun ls hl => ?_)
      refine lv_iconst (v := 1) hx hb dL_setRisk_15 (by decide) ?_
      refine W.widen (k := 4) (n := 24) (by omega) (by omega) ?_
      exact W.iret (v := 1) hx hb hr (fun t ht hW => ⟨⟨1, (o, g), rfl, ⟨fun h => absurd (h.symm.trans hK9) (by simp), fun X hX => by rw [← Option.some.inj (hK9.symm.trans hX)]; decide +kernel⟩, gE.rf g, by rw [hm2]; exact wHS_t ht hH⟩, hS.F ht⟩) hS.2.2 dL_setRisk_16
    · refine vx_catch (name := "java/lang/IllegalArgumentException") hown (tableOf [(0, 10, 13, 24)]) ⟨0, 10, 17, 13⟩ (tableOf []) htab (fun z hz => by (rcases List.mem_cons.mp hz with rfl | hz; exact Or.inr ⟨by decide, "java/lang/IndexOutOfBoundsException", hts (.classLink RL 24 "java/lang/IndexOutOfBoundsException") (by decide +kernel), hNc ("java/lang/IllegalArgumentException", "java/lang/IndexOutOfBoundsException") (by decide +kernel)⟩; exact absurd hz (List.not_mem_nil))) rfl (by decide) (hts (.classLink RL 13 "java/lang/IllegalArgumentException") (by decide +kernel)) (va_Nw.use rfl (hC.2.2.2.1 ("java/lang/IllegalArgumentException", "java/lang/IllegalArgumentException") (by decide +kernel))) hce hcv hcl ?_
      refine lv_astore (lv' := [(4, .ref q9), (0, .ref (g 0)), (1, .int b), (2, .int v), (3, .ref (g 40))]) hx hb dL_setRisk_17 hl (by decide) rfl (fun ls hl => ?_)
      refine lv_iconst (v := 2) hx hb dL_setRisk_19 (by decide) ?_
      refine W.widen (k := 4) (n := 24) (by omega) (by omega) ?_
      exact W.iret (v := 2) hx hb hr (fun t ht hW => ⟨⟨2, (o, g), rfl, ⟨fun h => absurd (h.symm.trans hK9) (by simp), fun X hX => by rw [← Option.some.inj (hK9.symm.trans hX)]; decide +kernel⟩, gE.rf g, by rw [hm2]; exact wHS_t ht hH⟩, hS.F ht⟩) hS.2.2 dL_setRisk_20
  · obtain ⟨hnone, rfl⟩ := hw
    have hH := wHS_h ht hB
    refine lv_i2l hx hb dL_setRisk_8 rfl ?_
    refine wr_last (t := 40) hx hb hK hH hS lv_o1 rfl 4 rfl (by unfold vp_in; decide) dL_setRisk_9 (fun H locs hH hS => ?_)
    have hH := po_l hH
    refine lv_goto (tgt := 21) hx hb dL_setRisk_10 (by decide) ?_
    refine lv_iconst (v := 0) hx hb dL_setRisk_21 (by decide) ?_
    refine W.widen (k := 4) (n := 24) (by omega) (by omega) ?_
    exact W.iret (v := 0) hx hb hr (fun t ht hW => ⟨⟨0, ((vp_updL o.1 (0 : Int32).toNatClampNeg (((cp_setRisk x b v).2.1).toInt64), o.2), g), rfl, ⟨fun _ => ⟨rfl, by show vp_updL o.1 (0 : Int32).toNatClampNeg (((cp_setRisk x b v).2.1).toInt64) 0 = _; rw [show (0 : Int32).toNatClampNeg = 0 from rfl]; simp [vp_updL]⟩, fun X hX => by rw [hnone] at hX; cases hX⟩, (gE.rf g), wHS_t ht hH⟩, hS.F ht⟩) hS.2.2 dL_setRisk_22
set_option maxHeartbeats 4000000 in
theorem cpt_setSeed (x : St) (v : Int32) (X : String) : (cp_setSeed x v).1 = some X → (X = "java/lang/IllegalArgumentException") ∧ (cp_setSeed x v).2.2 = x := by
  unfold cp_setSeed
  repeat' split
  all_goals intro h
  all_goals first | (exfalso; revert h; simp; done) | (have h2 := Option.some.inj h; subst h2; exact ⟨by decide, rfl⟩)
set_option maxHeartbeats 4000000 in
set_option maxRecDepth 100000 in
theorem met_L_setSeed (l : Launch) (E : wE) (o : wO) (g : Nat → Nat) (x y : St) (v : Int32) (hlt : l.stackTraces = false) (hI : CI x) : Met l yL_setSeed wsL_setSeed ({ frames := 11, cells := 4, slots := 24, locals := 1200 } : Room) (va_Pc [.ref (g 0), .int v, .ref (g 40)] (wPreL E o g x y)) (va_Qi (fun (r : Int32) (u : wO × (Nat → Nat)) => lRes ["java/lang/IllegalArgumentException"] r (u.1.1 0) (cp_setSeed x v)) (fun (u : wO × (Nat → Nat)) t => gE g u.2 ∧ wHS E u.1 u.2 (cp_setSeed x v).2.2 y t.heap) (wA E)) 4 24 (wA E) := by
  refine va_MetW (cc := cL_setSeed) (maxL := 4) (ret := (some .int)) (by decide) rfl ?_
  intro p e s m args below meth c s₁ B hml hv
  obtain ⟨rfl, ⟨⟨⟨hz, hH, hK⟩, hC⟩, hDD⟩, hNc⟩ := hv
  have hx := B.exec
  have hb := B.bytes
  have hr := B.returns
  have hts := atoms_spec (ws := wsL_setSeed) B.pre
  have hown : s.vm.findClass RL = some m.cls := findClass_of_methodNamed B.named
  have hlocks := B.notSynchronized
  have htab : c.exceptionTable.toList = tableOf [(0, 9, 12, 13)] := vx_table (x := yL_setSeed) B (hts _ List.mem_cons_self)
  have hS : va_S (wA E) s.heap s.heap [] := va_S.rf
  have hl := lv_entry ([.ref (g 0), .int v, .ref (g 40)]) (n := 4) (Nat.le_of_ble_eq_true rfl)
  rw [lg_entry_eq]
  generalize (lg_sl ([.ref (g 0), .int v, .ref (g 40)]) ++ List.replicate (4 - (lg_sl ([.ref (g 0), .int v, .ref (g 40)])).length) Slot.unset).toArray = ls at hl ⊢
  have hl : lv_has ls 4 [(0, .ref (g 0)), (1, .int v), (2, .ref (g 40))] := hl
  obtain ⟨H, eH⟩ : ∃ z, z = s.heap := ⟨_, rfl⟩
  have hH : wHS E o g x y H := by rw [eH]; exact hH
  have hS : va_S (wA E) s.heap H [] := by rw [eH]; exact hS
  refine W.heapTo eH ?_
  refine lv_aload_n hx hb dL_setSeed_0 rfl (lv_at hl 2 rfl) ?_
  refine lv_iconst (v := 0) hx hb dL_setSeed_1 (by decide) ?_
  refine lv_aload_n hx hb dL_setSeed_2 rfl (lv_at hl 0 rfl) ?_
  refine lv_iload_n hx hb dL_setSeed_3 rfl (lv_at hl 1 rfl) ?_
  refine vx_calli (vx_runV (As := [.int v]) (rest := [.int 0, .ref (g 40)]) ⟨hx, hb, hml, hown, hts⟩ (met_X4_setSeed l E o g x y v hlt hI) (cwV 1 hts gL_setSeed_X4_setSeed rfl rfl rfl (by decide +kernel) ⟨Nat.le_of_ble_eq_true rfl, Nat.le_of_ble_eq_true rfl⟩) ⟨fun a U f mk q => ⟨q.1, wPreX.calling q.2 a f mk⟩, (va_recv hK (wH_one hH lv_r0 (cel_rt (by omega))) (ci := 6) (q0 := 0) rfl rfl), fun U hU hW => ⟨rfl, wPreX_at hz hS hH hK hC U hU hW⟩⟩ rfl rfl hl.1 rfl (lv_room (Nat.le_of_ble_eq_true rfl)) dL_setSeed_4 ⟨by exact Nat.le_of_ble_eq_true rfl, by exact Nat.le_of_ble_eq_true rfl⟩) hS (fun q _ h => h) (fun q h => h) (fun q _ h => h) (fun E9 ce q9 u t H locs ht hvm hw hB hz1 hk1 hS hce hcv hcl => ?_) (fun r u t H locs ht hvm hw hB hz1 hk1 hS => ?_)
  · obtain ⟨hK9, hB⟩ := hB
    have hH := wHS_h ht hB
    have hm := cpt_setSeed x v E9 hK9
    obtain ⟨hm1, hm2⟩ := hm
    subst hm1
    · refine vx_catch (name := "java/lang/IllegalArgumentException") hown (tableOf []) ⟨0, 9, 12, 13⟩ (tableOf []) htab (fun z hz => nomatch hz) rfl (by decide) (hts (.classLink RL 13 "java/lang/IllegalArgumentException") (by decide +kernel)) (va_Nw.use rfl (hC.2.2.2.1 ("java/lang/IllegalArgumentException", "java/lang/IllegalArgumentException") (by decide +kernel))) hce hcv hcl ?_
      refine lv_astore_n (lv' := [(3, .ref q9), (0, .ref (g 0)), (1, .int v), (2, .ref (g 40))]) hx hb dL_setSeed_12 rfl hl (by decide) rfl (fun ls hl => ?_)
      refine lv_iconst (v := 1) hx hb dL_setSeed_13 (by decide) ?_
      refine W.widen (k := 4) (n := 24) (by omega) (by omega) ?_
      exact W.iret (v := 1) hx hb hr (fun t ht hW => ⟨⟨1, (o, g), rfl, ⟨fun h => absurd (h.symm.trans hK9) (by simp), fun X hX => by rw [← Option.some.inj (hK9.symm.trans hX)]; decide +kernel⟩, gE.rf g, by rw [hm2]; exact wHS_t ht hH⟩, hS.F ht⟩) hS.2.2 dL_setSeed_14
  · obtain ⟨hnone, rfl⟩ := hw
    have hH := wHS_h ht hB
    refine lv_i2l hx hb dL_setSeed_7 rfl ?_
    refine wr_last (t := 40) hx hb hK hH hS lv_o1 rfl 4 rfl (by unfold vp_in; decide) dL_setSeed_8 (fun H locs hH hS => ?_)
    have hH := po_l hH
    refine lv_goto (tgt := 15) hx hb dL_setSeed_9 (by decide) ?_
    refine lv_iconst (v := 0) hx hb dL_setSeed_15 (by decide) ?_
    refine W.widen (k := 4) (n := 24) (by omega) (by omega) ?_
    exact W.iret (v := 0) hx hb hr (fun t ht hW => ⟨⟨0, ((vp_updL o.1 (0 : Int32).toNatClampNeg (((cp_setSeed x v).2.1).toInt64), o.2), g), rfl, ⟨fun _ => ⟨rfl, by show vp_updL o.1 (0 : Int32).toNatClampNeg (((cp_setSeed x v).2.1).toInt64) 0 = _; rw [show (0 : Int32).toNatClampNeg = 0 from rfl]; simp [vp_updL]⟩, fun X hX => by rw [hnone] at hX; cases hX⟩, (gE.rf g), wHS_t ht hH⟩, hS.F ht⟩) hS.2.2 dL_setSeed_16
set_option maxHeartbeats 4000000 in
theorem cpt_insert (x : St) (b : Int32) (v : Int32) (X : String) : (cp_insert x b v).1 = some X → (X = "java/lang/IndexOutOfBoundsException" ∨ X = "java/lang/IllegalArgumentException" ∨ X = "java/lang/UnsupportedOperationException" ∨ X = "java/lang/IllegalStateException") ∧ (cp_insert x b v).2.2 = x := by
  unfold cp_insert
  repeat' split
  all_goals intro h
  all_goals first | (exfalso; revert h; simp; done) | (have h2 := Option.some.inj h; subst h2; exact ⟨by decide, rfl⟩)
set_option maxHeartbeats 4000000 in
set_option maxRecDepth 100000 in
theorem met_L_insert (l : Launch) (E : wE) (o : wO) (g : Nat → Nat) (x y : St) (b : Int32) (v : Int32) (hlt : l.stackTraces = false) (hI : CI x) : Met l yL_insert wsL_insert ({ frames := 11, cells := 4, slots := 24, locals := 1200 } : Room) (va_Pc [.ref (g 0), .int b, .int v, .ref (g 40)] (wPreL E o g x y)) (va_Qi (fun (r : Int32) (u : wO × (Nat → Nat)) => lRes ["java/lang/IndexOutOfBoundsException", "java/lang/IllegalArgumentException", "java/lang/UnsupportedOperationException", "java/lang/IllegalStateException"] r (u.1.1 0) (cp_insert x b v)) (fun (u : wO × (Nat → Nat)) t => gE g u.2 ∧ wHS E u.1 u.2 (cp_insert x b v).2.2 y t.heap) (wA E)) 4 24 (wA E) := by
  refine va_MetW (cc := cL_insert) (maxL := 5) (ret := (some .int)) (by decide) rfl ?_
  intro p e s m args below meth c s₁ B hml hv
  obtain ⟨rfl, ⟨⟨⟨hz, hH, hK⟩, hC⟩, hDD⟩, hNc⟩ := hv
  have hx := B.exec
  have hb := B.bytes
  have hr := B.returns
  have hts := atoms_spec (ws := wsL_insert) B.pre
  have hown : s.vm.findClass RL = some m.cls := findClass_of_methodNamed B.named
  have hlocks := B.notSynchronized
  have htab : c.exceptionTable.toList = tableOf [(0, 10, 13, 24), (0, 10, 17, 13), (0, 10, 21, 34), (0, 10, 25, 15)] := vx_table (x := yL_insert) B (hts _ List.mem_cons_self)
  have hS : va_S (wA E) s.heap s.heap [] := va_S.rf
  have hl := lv_entry ([.ref (g 0), .int b, .int v, .ref (g 40)]) (n := 5) (Nat.le_of_ble_eq_true rfl)
  rw [lg_entry_eq]
  generalize (lg_sl ([.ref (g 0), .int b, .int v, .ref (g 40)]) ++ List.replicate (5 - (lg_sl ([.ref (g 0), .int b, .int v, .ref (g 40)])).length) Slot.unset).toArray = ls at hl ⊢
  have hl : lv_has ls 5 [(0, .ref (g 0)), (1, .int b), (2, .int v), (3, .ref (g 40))] := hl
  obtain ⟨H, eH⟩ : ∃ z, z = s.heap := ⟨_, rfl⟩
  have hH : wHS E o g x y H := by rw [eH]; exact hH
  have hS : va_S (wA E) s.heap H [] := by rw [eH]; exact hS
  refine W.heapTo eH ?_
  refine lv_aload_n hx hb dL_insert_0 rfl (lv_at hl 3 rfl) ?_
  refine lv_iconst (v := 0) hx hb dL_insert_1 (by decide) ?_
  refine lv_aload_n hx hb dL_insert_2 rfl (lv_at hl 0 rfl) ?_
  refine lv_iload_n hx hb dL_insert_3 rfl (lv_at hl 1 rfl) ?_
  refine lv_iload_n hx hb dL_insert_4 rfl (lv_at hl 2 rfl) ?_
  refine vx_calli (vx_runV (As := [.int b, .int v]) (rest := [.int 0, .ref (g 40)]) ⟨hx, hb, hml, hown, hts⟩ (met_X4_insert l E o g x y b v hlt hI) (cwV 2 hts gL_insert_X4_insert rfl rfl rfl (by decide +kernel) ⟨Nat.le_of_ble_eq_true rfl, Nat.le_of_ble_eq_true rfl⟩) ⟨fun a U f mk q => ⟨q.1, wPreZ.calling q.2 a f mk⟩, (va_recv hK (wH_one hH lv_r0 (cel_rt (by omega))) (ci := 6) (q0 := 0) rfl rfl), fun U hU hW => ⟨rfl, wPreZ_at hz hS hH hK hC hDD U hU hW⟩⟩ rfl rfl hl.1 rfl (lv_room (Nat.le_of_ble_eq_true rfl)) dL_insert_5 ⟨by exact Nat.le_of_ble_eq_true rfl, by exact Nat.le_of_ble_eq_true rfl⟩) hS (fun q _ h => h) (fun q h => h) (fun q _ h => h) (fun E9 ce q9 u t H locs ht hvm hw hB hz1 hk1 hS hce hcv hcl => ?_) (fun r u t H locs ht hvm hw hB hz1 hk1 hS => ?_)
  · obtain ⟨hK9, hB⟩ := hB
    have hH := wHS_h ht hB
    have hm := cpt_insert x b v E9 hK9
    obtain ⟨hm1, hm2⟩ := hm
    rcases hm1 with rfl | rfl | rfl | rfl
    · refine vx_catch (name := "java/lang/IndexOutOfBoundsException") hown (tableOf []) ⟨0, 10, 13, 24⟩ (tableOf [(0, 10, 17, 13), (0, 10, 21, 34), (0, 10, 25, 15)]) htab (fun z hz => nomatch hz) rfl (by decide) (hts (.classLink RL 24 "java/lang/IndexOutOfBoundsException") (by decide +kernel)) (va_Nw.use rfl (hC.2.2.2.1 ("java/lang/IndexOutOfBoundsException", "java/lang/IndexOutOfBoundsException") (by decide +kernel))) hce hcv hcl ?_
      refine lv_astore (lv' := [(4, .ref q9), (0, .ref (g 0)), (1, .int b), (2, .int v), (3, .ref (g 40))]) hx hb dL_insert_13 hl (by decide) rfl (fun ls hl => ?_)
      refine lv_iconst (v := 1) hx hb dL_insert_15 (by decide) ?_
      refine W.widen (k := 4) (n := 24) (by omega) (by omega) ?_
      exact W.iret (v := 1) hx hb hr (fun t ht hW => ⟨⟨1, (o, g), rfl, ⟨fun h => absurd (h.symm.trans hK9) (by simp), fun X hX => by rw [← Option.some.inj (hK9.symm.trans hX)]; decide +kernel⟩, gE.rf g, by rw [hm2]; exact wHS_t ht hH⟩, hS.F ht⟩) hS.2.2 dL_insert_16
    · refine vx_catch (name := "java/lang/IllegalArgumentException") hown (tableOf [(0, 10, 13, 24)]) ⟨0, 10, 17, 13⟩ (tableOf [(0, 10, 21, 34), (0, 10, 25, 15)]) htab (fun z hz => by (rcases List.mem_cons.mp hz with rfl | hz; exact Or.inr ⟨by decide, "java/lang/IndexOutOfBoundsException", hts (.classLink RL 24 "java/lang/IndexOutOfBoundsException") (by decide +kernel), hNc ("java/lang/IllegalArgumentException", "java/lang/IndexOutOfBoundsException") (by decide +kernel)⟩; exact absurd hz (List.not_mem_nil))) rfl (by decide) (hts (.classLink RL 13 "java/lang/IllegalArgumentException") (by decide +kernel)) (va_Nw.use rfl (hC.2.2.2.1 ("java/lang/IllegalArgumentException", "java/lang/IllegalArgumentException") (by decide +kernel))) hce hcv hcl ?_
      refine lv_astore (lv' := [(4, .ref q9), (0, .ref (g 0)), (1, .int b), (2, .int v), (3, .ref (g 40))]) hx hb dL_insert_17 hl (by decide) rfl (fun ls hl => ?_)
      refine lv_iconst (v := 2) hx hb dL_insert_19 (by decide) ?_
      refine W.widen (k := 4) (n := 24) (by omega) (by omega) ?_
      exact W.iret (v := 2) hx hb hr (fun t ht hW => ⟨⟨2, (o, g), rfl, ⟨fun h => absurd (h.symm.trans hK9) (by simp), fun X hX => by rw [← Option.some.inj (hK9.symm.trans hX)]; decide +kernel⟩, gE.rf g, by rw [hm2]; exact wHS_t ht hH⟩, hS.F ht⟩) hS.2.2 dL_insert_20
    · refine vx_catch (name := "java/lang/UnsupportedOperationException") hown (tableOf [(0, 10, 13, 24), (0, 10, 17, 13)]) ⟨0, 10, 21, 34⟩ (tableOf [(0, 10, 25, 15)]) htab (fun z hz => by (rcases List.mem_cons.mp hz with rfl | hz; exact Or.inr ⟨by decide, "java/lang/IndexOutOfBoundsException", hts (.classLink RL 24 "java/lang/IndexOutOfBoundsException") (by decide +kernel), hNc ("java/lang/UnsupportedOperationException", "java/lang/IndexOutOfBoundsException") (by decide +kernel)⟩; (rcases List.mem_cons.mp hz with rfl | hz; exact Or.inr ⟨by decide, "java/lang/IllegalArgumentException", hts (.classLink RL 13 "java/lang/IllegalArgumentException") (by decide +kernel), hNc ("java/lang/UnsupportedOperationException", "java/lang/IllegalArgumentException") (by decide +kernel)⟩; exact absurd hz (List.not_mem_nil)))) rfl (by decide) (hts (.classLink RL 34 "java/lang/UnsupportedOperationException") (by decide +kernel)) (va_Nw.use rfl (hC.2.2.2.1 ("java/lang/UnsupportedOperationException", "java/lang/UnsupportedOperationException") (by decide +kernel))) hce hcv hcl ?_
      refine lv_astore (lv' := [(4, .ref q9), (0, .ref (g 0)), (1, .int b), (2, .int v), (3, .ref (g 40))]) hx hb dL_insert_21 hl (by decide) rfl (fun ls hl => ?_)
      refine lv_iconst (v := 3) hx hb dL_insert_23 (by decide) ?_
      refine W.widen (k := 4) (n := 24) (by omega) (by omega) ?_
      exact W.iret (v := 3) hx hb hr (fun t ht hW => ⟨⟨3, (o, g), rfl, ⟨fun h => absurd (h.symm.trans hK9) (by simp), fun X hX => by rw [← Option.some.inj (hK9.symm.trans hX)]; decide +kernel⟩, gE.rf g, by rw [hm2]; exact wHS_t ht hH⟩, hS.F ht⟩) hS.2.2 dL_insert_24
    · refine vx_catch (name := "java/lang/IllegalStateException") hown (tableOf [(0, 10, 13, 24), (0, 10, 17, 13), (0, 10, 21, 34)]) ⟨0, 10, 25, 15⟩ (tableOf []) htab (fun z hz => by (rcases List.mem_cons.mp hz with rfl | hz; exact Or.inr ⟨by decide, "java/lang/IndexOutOfBoundsException", hts (.classLink RL 24 "java/lang/IndexOutOfBoundsException") (by decide +kernel), hNc ("java/lang/IllegalStateException", "java/lang/IndexOutOfBoundsException") (by decide +kernel)⟩; (rcases List.mem_cons.mp hz with rfl | hz; exact Or.inr ⟨by decide, "java/lang/IllegalArgumentException", hts (.classLink RL 13 "java/lang/IllegalArgumentException") (by decide +kernel), hNc ("java/lang/IllegalStateException", "java/lang/IllegalArgumentException") (by decide +kernel)⟩; (rcases List.mem_cons.mp hz with rfl | hz; exact Or.inr ⟨by decide, "java/lang/UnsupportedOperationException", hts (.classLink RL 34 "java/lang/UnsupportedOperationException") (by decide +kernel), hNc ("java/lang/IllegalStateException", "java/lang/UnsupportedOperationException") (by decide +kernel)⟩; exact absurd hz (List.not_mem_nil))))) rfl (by decide) (hts (.classLink RL 15 "java/lang/IllegalStateException") (by decide +kernel)) (va_Nw.use rfl (hC.2.2.2.1 ("java/lang/IllegalStateException", "java/lang/IllegalStateException") (by decide +kernel))) hce hcv hcl ?_
      refine lv_astore (lv' := [(4, .ref q9), (0, .ref (g 0)), (1, .int b), (2, .int v), (3, .ref (g 40))]) hx hb dL_insert_25 hl (by decide) rfl (fun ls hl => ?_)
      refine lv_iconst (v := 4) hx hb dL_insert_27 (by decide) ?_
      refine W.widen (k := 4) (n := 24) (by omega) (by omega) ?_
      exact W.iret (v := 4) hx hb hr (fun t ht hW => ⟨⟨4, (o, g), rfl, ⟨fun h => absurd (h.symm.trans hK9) (by simp), fun X hX => by rw [← Option.some.inj (hK9.symm.trans hX)]; decide +kernel⟩, gE.rf g, by rw [hm2]; exact wHS_t ht hH⟩, hS.F ht⟩) hS.2.2 dL_insert_28
  · obtain ⟨hnone, rfl⟩ := hw
    obtain ⟨g9, hgE, hB⟩ := hB
    have hH := wHS_h ht hB
    have e40 : g9 40 = g 40 := hgE 40 (by decide) (by decide) (by decide)
    refine W.eq (g2 := F0 m 8 ls [.int ((cp_insert x b v).2.1), .int 0, .ref (g9 40)]) (by rw [e40]) ?_
    have hG : ∃ z, z = g9 ∧ gE g z := ⟨g9, rfl, hgE⟩
    clear hgE e40
    obtain ⟨g, rfl, hgE⟩ := hG
    refine lv_i2l hx hb dL_insert_8 rfl ?_
    refine wr_last (t := 40) hx hb hK hH hS lv_o1 rfl 4 rfl (by unfold vp_in; decide) dL_insert_9 (fun H locs hH hS => ?_)
    have hH := po_l hH
    refine lv_goto (tgt := 29) hx hb dL_insert_10 (by decide) ?_
    refine lv_iconst (v := 0) hx hb dL_insert_29 (by decide) ?_
    refine W.widen (k := 4) (n := 24) (by omega) (by omega) ?_
    exact W.iret (v := 0) hx hb hr (fun t ht hW => ⟨⟨0, ((vp_updL o.1 (0 : Int32).toNatClampNeg (((cp_insert x b v).2.1).toInt64), o.2), g), rfl, ⟨fun _ => ⟨rfl, by show vp_updL o.1 (0 : Int32).toNatClampNeg (((cp_insert x b v).2.1).toInt64) 0 = _; rw [show (0 : Int32).toNatClampNeg = 0 from rfl]; simp [vp_updL]⟩, fun X hX => by rw [hnone] at hX; cases hX⟩, hgE, wHS_t ht hH⟩, hS.F ht⟩) hS.2.2 dL_insert_30
set_option maxHeartbeats 4000000 in
theorem cpt_press (x : St) (b : Int32) (k : Int32) (X : String) : (cp_press x b k).1 = some X → (X = "java/lang/IndexOutOfBoundsException" ∨ X = "java/lang/UnsupportedOperationException" ∨ X = "java/lang/IllegalStateException") ∧ (cp_press x b k).2.2 = x := by
  unfold cp_press
  repeat' split
  all_goals intro h
  all_goals first | (exfalso; revert h; simp; done) | (have h2 := Option.some.inj h; subst h2; exact ⟨by decide, rfl⟩)
set_option maxHeartbeats 4000000 in
set_option maxRecDepth 100000 in
theorem met_L_press (l : Launch) (E : wE) (o : wO) (g : Nat → Nat) (x y : St) (b : Int32) (k : Int32) (hlt : l.stackTraces = false) (hI : CI x) (hQ : CQ x) : Met l yL_press wsL_press ({ frames := 13, cells := 5, slots := 124, locals := 1400 } : Room) (va_Pc [.ref (g 0), .int b, .int k, .ref (g 40)] (wPreL E o g x y)) (va_Qi (fun (r : Int32) (u : wO × (Nat → Nat)) => lRes ["java/lang/IndexOutOfBoundsException", "java/lang/UnsupportedOperationException", "java/lang/IllegalStateException"] r (u.1.1 0) (cp_press x b k)) (fun (u : wO × (Nat → Nat)) t => gE g u.2 ∧ wHS E u.1 u.2 (cp_press x b k).2.2 y t.heap) (wA E)) 5 124 (wA E) := by
  refine va_MetW (cc := cL_press) (maxL := 5) (ret := (some .int)) (by decide) rfl ?_
  intro p e s m args below meth c s₁ B hml hv
  obtain ⟨rfl, ⟨⟨⟨hz, hH, hK⟩, hC⟩, hDD⟩, hNc⟩ := hv
  have hx := B.exec
  have hb := B.bytes
  have hr := B.returns
  have hts := atoms_spec (ws := wsL_press) B.pre
  have hown : s.vm.findClass RL = some m.cls := findClass_of_methodNamed B.named
  have hlocks := B.notSynchronized
  have htab : c.exceptionTable.toList = tableOf [(0, 10, 13, 24), (0, 10, 17, 34), (0, 10, 21, 15)] := vx_table (x := yL_press) B (hts _ List.mem_cons_self)
  have hS : va_S (wA E) s.heap s.heap [] := va_S.rf
  have hl := lv_entry ([.ref (g 0), .int b, .int k, .ref (g 40)]) (n := 5) (Nat.le_of_ble_eq_true rfl)
  rw [lg_entry_eq]
  generalize (lg_sl ([.ref (g 0), .int b, .int k, .ref (g 40)]) ++ List.replicate (5 - (lg_sl ([.ref (g 0), .int b, .int k, .ref (g 40)])).length) Slot.unset).toArray = ls at hl ⊢
  have hl : lv_has ls 5 [(0, .ref (g 0)), (1, .int b), (2, .int k), (3, .ref (g 40))] := hl
  obtain ⟨H, eH⟩ : ∃ z, z = s.heap := ⟨_, rfl⟩
  have hH : wHS E o g x y H := by rw [eH]; exact hH
  have hS : va_S (wA E) s.heap H [] := by rw [eH]; exact hS
  refine W.heapTo eH ?_
  refine lv_aload_n hx hb dL_press_0 rfl (lv_at hl 3 rfl) ?_
  refine lv_iconst (v := 0) hx hb dL_press_1 (by decide) ?_
  refine lv_aload_n hx hb dL_press_2 rfl (lv_at hl 0 rfl) ?_
  refine lv_iload_n hx hb dL_press_3 rfl (lv_at hl 1 rfl) ?_
  refine lv_iload_n hx hb dL_press_4 rfl (lv_at hl 2 rfl) ?_
  refine vx_calli (vx_runV (As := [.int b, .int k]) (rest := [.int 0, .ref (g 40)]) ⟨hx, hb, hml, hown, hts⟩ (met_X4_press l E o g x y b k hlt hI hQ) (cwV 2 hts gL_press_X4_press rfl rfl rfl (by decide +kernel) ⟨Nat.le_of_ble_eq_true rfl, Nat.le_of_ble_eq_true rfl⟩) ⟨fun a U f mk q => ⟨q.1, wPreZ.calling q.2 a f mk⟩, (va_recv hK (wH_one hH lv_r0 (cel_rt (by omega))) (ci := 6) (q0 := 0) rfl rfl), fun U hU hW => ⟨rfl, wPreZ_at hz hS hH hK hC hDD U hU hW⟩⟩ rfl rfl hl.1 rfl (lv_room (Nat.le_of_ble_eq_true rfl)) dL_press_5 ⟨by exact Nat.le_of_ble_eq_true rfl, by exact Nat.le_of_ble_eq_true rfl⟩) hS (fun q _ h => h) (fun q h => h) (fun q _ h => h) (fun E9 ce q9 u t H locs ht hvm hw hB hz1 hk1 hS hce hcv hcl => ?_) (fun r u t H locs ht hvm hw hB hz1 hk1 hS => ?_)
  · obtain ⟨hK9, hB⟩ := hB
    have hH := wHS_h ht hB
    have hm := cpt_press x b k E9 hK9
    obtain ⟨hm1, hm2⟩ := hm
    rcases hm1 with rfl | rfl | rfl
    · refine vx_catch (name := "java/lang/IndexOutOfBoundsException") hown (tableOf []) ⟨0, 10, 13, 24⟩ (tableOf [(0, 10, 17, 34), (0, 10, 21, 15)]) htab (fun z hz => nomatch hz) rfl (by decide) (hts (.classLink RL 24 "java/lang/IndexOutOfBoundsException") (by decide +kernel)) (va_Nw.use rfl (hC.2.2.2.1 ("java/lang/IndexOutOfBoundsException", "java/lang/IndexOutOfBoundsException") (by decide +kernel))) hce hcv hcl ?_
      refine lv_astore (lv' := [(4, .ref q9), (0, .ref (g 0)), (1, .int b), (2, .int k), (3, .ref (g 40))]) hx hb dL_press_13 hl (by decide) rfl (fun ls hl => ?_)
      refine lv_iconst (v := 1) hx hb dL_press_15 (by decide) ?_
      refine W.widen (k := 5) (n := 124) (by omega) (by omega) ?_
      exact W.iret (v := 1) hx hb hr (fun t ht hW => ⟨⟨1, (o, g), rfl, ⟨fun h => absurd (h.symm.trans hK9) (by simp), fun X hX => by rw [← Option.some.inj (hK9.symm.trans hX)]; decide +kernel⟩, gE.rf g, by rw [hm2]; exact wHS_t ht hH⟩, hS.F ht⟩) hS.2.2 dL_press_16
    · refine vx_catch (name := "java/lang/UnsupportedOperationException") hown (tableOf [(0, 10, 13, 24)]) ⟨0, 10, 17, 34⟩ (tableOf [(0, 10, 21, 15)]) htab (fun z hz => by (rcases List.mem_cons.mp hz with rfl | hz; exact Or.inr ⟨by decide, "java/lang/IndexOutOfBoundsException", hts (.classLink RL 24 "java/lang/IndexOutOfBoundsException") (by decide +kernel), hNc ("java/lang/UnsupportedOperationException", "java/lang/IndexOutOfBoundsException") (by decide +kernel)⟩; exact absurd hz (List.not_mem_nil))) rfl (by decide) (hts (.classLink RL 34 "java/lang/UnsupportedOperationException") (by decide +kernel)) (va_Nw.use rfl (hC.2.2.2.1 ("java/lang/UnsupportedOperationException", "java/lang/UnsupportedOperationException") (by decide +kernel))) hce hcv hcl ?_
      refine lv_astore (lv' := [(4, .ref q9), (0, .ref (g 0)), (1, .int b), (2, .int k), (3, .ref (g 40))]) hx hb dL_press_17 hl (by decide) rfl (fun ls hl => ?_)
      refine lv_iconst (v := 2) hx hb dL_press_19 (by decide) ?_
      refine W.widen (k := 5) (n := 124) (by omega) (by omega) ?_
      exact W.iret (v := 2) hx hb hr (fun t ht hW => ⟨⟨2, (o, g), rfl, ⟨fun h => absurd (h.symm.trans hK9) (by simp), fun X hX => by rw [← Option.some.inj (hK9.symm.trans hX)]; decide +kernel⟩, gE.rf g, by rw [hm2]; exact wHS_t ht hH⟩, hS.F ht⟩) hS.2.2 dL_press_20
    · refine vx_catch (name := "java/lang/IllegalStateException") hown (tableOf [(0, 10, 13, 24), (0, 10, 17, 34)]) ⟨0, 10, 21, 15⟩ (tableOf []) htab (fun z hz => by (rcases List.mem_cons.mp hz with rfl | hz; exact Or.inr ⟨by decide, "java/lang/IndexOutOfBoundsException", hts (.classLink RL 24 "java/lang/IndexOutOfBoundsException") (by decide +kernel), hNc ("java/lang/IllegalStateException", "java/lang/IndexOutOfBoundsException") (by decide +kernel)⟩; (rcases List.mem_cons.mp hz with rfl | hz; exact Or.inr ⟨by decide, "java/lang/UnsupportedOperationException", hts (.classLink RL 34 "java/lang/UnsupportedOperationException") (by decide +kernel), hNc ("java/lang/IllegalStateException", "java/lang/UnsupportedOperationException") (by decide +kernel)⟩; exact absurd hz (List.not_mem_nil)))) rfl (by decide) (hts (.classLink RL 15 "java/lang/IllegalStateException") (by decide +kernel)) (va_Nw.use rfl (hC.2.2.2.1 ("java/lang/IllegalStateException", "java/lang/IllegalStateException") (by decide +kernel))) hce hcv hcl ?_
      refine lv_astore (lv' := [(4, .ref q9), (0, .ref (g 0)), (1, .int b), (2, .int k), (3, .ref (g 40))]) hx hb dL_press_21 hl (by decide) rfl (fun ls hl => ?_)
      refine lv_iconst (v := 3) hx hb dL_press_23 (by decide) ?_
      refine W.widen (k := 5) (n := 124) (by omega) (by omega) ?_
      exact W.iret (v := 3) hx hb hr (fun t ht hW => ⟨⟨3, (o, g), rfl, ⟨fun h => absurd (h.symm.trans hK9) (by simp), fun X hX => by rw [← Option.some.inj (hK9.symm.trans hX)]; decide +kernel⟩, gE.rf g, by rw [hm2]; exact wHS_t ht hH⟩, hS.F ht⟩) hS.2.2 dL_press_24
  · obtain ⟨hnone, rfl⟩ := hw
    obtain ⟨g9, hgE, hB⟩ := hB
    have hH := wHS_h ht hB
    have e40 : g9 40 = g 40 := hgE 40 (by decide) (by decide) (by decide)
    refine W.eq (g2 := F0 m 8 ls [.int ((cp_press x b k).2.1), .int 0, .ref (g9 40)]) (by rw [e40]) ?_
    have hG : ∃ z, z = g9 ∧ gE g z := ⟨g9, rfl, hgE⟩
    clear hgE e40
    obtain ⟨g, rfl, hgE⟩ := hG
    refine lv_i2l hx hb dL_press_8 rfl ?_
    refine wr_last (t := 40) hx hb hK hH hS lv_o1 rfl 4 rfl (by unfold vp_in; decide) dL_press_9 (fun H locs hH hS => ?_)
    have hH := po_l hH
    refine lv_goto (tgt := 25) hx hb dL_press_10 (by decide) ?_
    refine lv_iconst (v := 0) hx hb dL_press_25 (by decide) ?_
    refine W.widen (k := 5) (n := 124) (by omega) (by omega) ?_
    exact W.iret (v := 0) hx hb hr (fun t ht hW => ⟨⟨0, ((vp_updL o.1 (0 : Int32).toNatClampNeg (((cp_press x b k).2.1).toInt64), o.2), g), rfl, ⟨fun _ => ⟨rfl, by show vp_updL o.1 (0 : Int32).toNatClampNeg (((cp_press x b k).2.1).toInt64) 0 = _; rw [show (0 : Int32).toNatClampNeg = 0 from rfl]; simp [vp_updL]⟩, fun X hX => by rw [hnone] at hX; cases hX⟩, hgE, wHS_t ht hH⟩, hS.F ht⟩) hS.2.2 dL_press_26
set_option maxHeartbeats 4000000 in
theorem cpt_play (x : St) (b : Int32) (X : String) : (cp_play x b).1 = some X → (X = "java/lang/IndexOutOfBoundsException" ∨ X = "java/lang/UnsupportedOperationException" ∨ X = "java/util/NoSuchElementException") ∧ (cp_play x b).2.2 = x := by
  unfold cp_play
  repeat' split
  all_goals intro h
  all_goals first | (exfalso; revert h; simp; done) | (have h2 := Option.some.inj h; subst h2; exact ⟨by decide, rfl⟩)
set_option maxHeartbeats 4000000 in
set_option maxRecDepth 100000 in
theorem met_L_play (l : Launch) (E : wE) (o : wO) (g : Nat → Nat) (x y : St) (b : Int32) (hlt : l.stackTraces = false) (hI : CI x) : Met l yL_play wsL_play ({ frames := 11, cells := 4, slots := 24, locals := 1200 } : Room) (va_Pc [.ref (g 0), .int b, .ref (g 40)] (wPreL E o g x y)) (va_Qi (fun (r : Int32) (u : wO × (Nat → Nat)) => lRes ["java/lang/IndexOutOfBoundsException", "java/lang/UnsupportedOperationException", "java/util/NoSuchElementException"] r (u.1.1 0) (cp_play x b)) (fun (u : wO × (Nat → Nat)) t => gE g u.2 ∧ wHS E u.1 u.2 (cp_play x b).2.2 y t.heap) (wA E)) 4 24 (wA E) := by
  refine va_MetW (cc := cL_play) (maxL := 4) (ret := (some .int)) (by decide) rfl ?_
  intro p e s m args below meth c s₁ B hml hv
  obtain ⟨rfl, ⟨⟨⟨hz, hH, hK⟩, hC⟩, hDD⟩, hNc⟩ := hv
  have hx := B.exec
  have hb := B.bytes
  have hr := B.returns
  have hts := atoms_spec (ws := wsL_play) B.pre
  have hown : s.vm.findClass RL = some m.cls := findClass_of_methodNamed B.named
  have hlocks := B.notSynchronized
  have htab : c.exceptionTable.toList = tableOf [(0, 9, 12, 24), (0, 9, 15, 34), (0, 9, 18, 43)] := vx_table (x := yL_play) B (hts _ List.mem_cons_self)
  have hS : va_S (wA E) s.heap s.heap [] := va_S.rf
  have hl := lv_entry ([.ref (g 0), .int b, .ref (g 40)]) (n := 4) (Nat.le_of_ble_eq_true rfl)
  rw [lg_entry_eq]
  generalize (lg_sl ([.ref (g 0), .int b, .ref (g 40)]) ++ List.replicate (4 - (lg_sl ([.ref (g 0), .int b, .ref (g 40)])).length) Slot.unset).toArray = ls at hl ⊢
  have hl : lv_has ls 4 [(0, .ref (g 0)), (1, .int b), (2, .ref (g 40))] := hl
  obtain ⟨H, eH⟩ : ∃ z, z = s.heap := ⟨_, rfl⟩
  have hH : wHS E o g x y H := by rw [eH]; exact hH
  have hS : va_S (wA E) s.heap H [] := by rw [eH]; exact hS
  refine W.heapTo eH ?_
  refine lv_aload_n hx hb dL_play_0 rfl (lv_at hl 2 rfl) ?_
  refine lv_iconst (v := 0) hx hb dL_play_1 (by decide) ?_
  refine lv_aload_n hx hb dL_play_2 rfl (lv_at hl 0 rfl) ?_
  refine lv_iload_n hx hb dL_play_3 rfl (lv_at hl 1 rfl) ?_
  refine vx_calli (vx_runV (As := [.int b]) (rest := [.int 0, .ref (g 40)]) ⟨hx, hb, hml, hown, hts⟩ (met_X4_play l E o g x y b hlt hI) (cwV 1 hts gL_play_X4_play rfl rfl rfl (by decide +kernel) ⟨Nat.le_of_ble_eq_true rfl, Nat.le_of_ble_eq_true rfl⟩) ⟨fun a U f mk q => ⟨q.1, wPreZ.calling q.2 a f mk⟩, (va_recv hK (wH_one hH lv_r0 (cel_rt (by omega))) (ci := 6) (q0 := 0) rfl rfl), fun U hU hW => ⟨rfl, wPreZ_at hz hS hH hK hC hDD U hU hW⟩⟩ rfl rfl hl.1 rfl (lv_room (Nat.le_of_ble_eq_true rfl)) dL_play_4 ⟨by exact Nat.le_of_ble_eq_true rfl, by exact Nat.le_of_ble_eq_true rfl⟩) hS (fun q _ h => h) (fun q h => h) (fun q _ h => h) (fun E9 ce q9 u t H locs ht hvm hw hB hz1 hk1 hS hce hcv hcl => ?_) (fun r u t H locs ht hvm hw hB hz1 hk1 hS => ?_)
  · obtain ⟨hK9, hB⟩ := hB
    have hH := wHS_h ht hB
    have hm := cpt_play x b E9 hK9
    obtain ⟨hm1, hm2⟩ := hm
    rcases hm1 with rfl | rfl | rfl
    · refine vx_catch (name := "java/lang/IndexOutOfBoundsException") hown (tableOf []) ⟨0, 9, 12, 24⟩ (tableOf [(0, 9, 15, 34), (0, 9, 18, 43)]) htab (fun z hz => nomatch hz) rfl (by decide) (hts (.classLink RL 24 "java/lang/IndexOutOfBoundsException") (by decide +kernel)) (va_Nw.use rfl (hC.2.2.2.1 ("java/lang/IndexOutOfBoundsException", "java/lang/IndexOutOfBoundsException") (by decide +kernel))) hce hcv hcl ?_
      refine lv_astore_n (lv' := [(3, .ref q9), (0, .ref (g 0)), (1, .int b), (2, .ref (g 40))]) hx hb dL_play_12 rfl hl (by decide) rfl (fun ls hl => ?_)
      refine lv_iconst (v := 1) hx hb dL_play_13 (by decide) ?_
      refine W.widen (k := 4) (n := 24) (by omega) (by omega) ?_
      exact W.iret (v := 1) hx hb hr (fun t ht hW => ⟨⟨1, (o, g), rfl, ⟨fun h => absurd (h.symm.trans hK9) (by simp), fun X hX => by rw [← Option.some.inj (hK9.symm.trans hX)]; decide +kernel⟩, gE.rf g, by rw [hm2]; exact wHS_t ht hH⟩, hS.F ht⟩) hS.2.2 dL_play_14
    · refine vx_catch (name := "java/lang/UnsupportedOperationException") hown (tableOf [(0, 9, 12, 24)]) ⟨0, 9, 15, 34⟩ (tableOf [(0, 9, 18, 43)]) htab (fun z hz => by (rcases List.mem_cons.mp hz with rfl | hz; exact Or.inr ⟨by decide, "java/lang/IndexOutOfBoundsException", hts (.classLink RL 24 "java/lang/IndexOutOfBoundsException") (by decide +kernel), hNc ("java/lang/UnsupportedOperationException", "java/lang/IndexOutOfBoundsException") (by decide +kernel)⟩; exact absurd hz (List.not_mem_nil))) rfl (by decide) (hts (.classLink RL 34 "java/lang/UnsupportedOperationException") (by decide +kernel)) (va_Nw.use rfl (hC.2.2.2.1 ("java/lang/UnsupportedOperationException", "java/lang/UnsupportedOperationException") (by decide +kernel))) hce hcv hcl ?_
      refine lv_astore_n (lv' := [(3, .ref q9), (0, .ref (g 0)), (1, .int b), (2, .ref (g 40))]) hx hb dL_play_15 rfl hl (by decide) rfl (fun ls hl => ?_)
      refine lv_iconst (v := 2) hx hb dL_play_16 (by decide) ?_
      refine W.widen (k := 4) (n := 24) (by omega) (by omega) ?_
      exact W.iret (v := 2) hx hb hr (fun t ht hW => ⟨⟨2, (o, g), rfl, ⟨fun h => absurd (h.symm.trans hK9) (by simp), fun X hX => by rw [← Option.some.inj (hK9.symm.trans hX)]; decide +kernel⟩, gE.rf g, by rw [hm2]; exact wHS_t ht hH⟩, hS.F ht⟩) hS.2.2 dL_play_17
    · refine vx_catch (name := "java/util/NoSuchElementException") hown (tableOf [(0, 9, 12, 24), (0, 9, 15, 34)]) ⟨0, 9, 18, 43⟩ (tableOf []) htab (fun z hz => by (rcases List.mem_cons.mp hz with rfl | hz; exact Or.inr ⟨by decide, "java/lang/IndexOutOfBoundsException", hts (.classLink RL 24 "java/lang/IndexOutOfBoundsException") (by decide +kernel), hNc ("java/util/NoSuchElementException", "java/lang/IndexOutOfBoundsException") (by decide +kernel)⟩; (rcases List.mem_cons.mp hz with rfl | hz; exact Or.inr ⟨by decide, "java/lang/UnsupportedOperationException", hts (.classLink RL 34 "java/lang/UnsupportedOperationException") (by decide +kernel), hNc ("java/util/NoSuchElementException", "java/lang/UnsupportedOperationException") (by decide +kernel)⟩; exact absurd hz (List.not_mem_nil)))) rfl (by decide) (hts (.classLink RL 43 "java/util/NoSuchElementException") (by decide +kernel)) (va_Nw.use rfl (hC.2.2.2.1 ("java/util/NoSuchElementException", "java/util/NoSuchElementException") (by decide +kernel))) hce hcv hcl ?_
      refine lv_astore_n (lv' := [(3, .ref q9), (0, .ref (g 0)), (1, .int b), (2, .ref (g 40))]) hx hb dL_play_18 rfl hl (by decide) rfl (fun ls hl => ?_)
      refine lv_iconst (v := 3) hx hb dL_play_19 (by decide) ?_
      refine W.widen (k := 4) (n := 24) (by omega) (by omega) ?_
      exact W.iret (v := 3) hx hb hr (fun t ht hW => ⟨⟨3, (o, g), rfl, ⟨fun h => absurd (h.symm.trans hK9) (by simp), fun X hX => by rw [← Option.some.inj (hK9.symm.trans hX)]; decide +kernel⟩, gE.rf g, by rw [hm2]; exact wHS_t ht hH⟩, hS.F ht⟩) hS.2.2 dL_play_20
  · obtain ⟨hnone, rfl⟩ := hw
    obtain ⟨g9, hgE, hB⟩ := hB
    have hH := wHS_h ht hB
    have e40 : g9 40 = g 40 := hgE 40 (by decide) (by decide) (by decide)
    refine W.eq (g2 := F0 m 7 ls [.int ((cp_play x b).2.1), .int 0, .ref (g9 40)]) (by rw [e40]) ?_
    have hG : ∃ z, z = g9 ∧ gE g z := ⟨g9, rfl, hgE⟩
    clear hgE e40
    obtain ⟨g, rfl, hgE⟩ := hG
    refine lv_i2l hx hb dL_play_7 rfl ?_
    refine wr_last (t := 40) hx hb hK hH hS lv_o1 rfl 4 rfl (by unfold vp_in; decide) dL_play_8 (fun H locs hH hS => ?_)
    have hH := po_l hH
    refine lv_goto (tgt := 21) hx hb dL_play_9 (by decide) ?_
    refine lv_iconst (v := 0) hx hb dL_play_21 (by decide) ?_
    refine W.widen (k := 4) (n := 24) (by omega) (by omega) ?_
    exact W.iret (v := 0) hx hb hr (fun t ht hW => ⟨⟨0, ((vp_updL o.1 (0 : Int32).toNatClampNeg (((cp_play x b).2.1).toInt64), o.2), g), rfl, ⟨fun _ => ⟨rfl, by show vp_updL o.1 (0 : Int32).toNatClampNeg (((cp_play x b).2.1).toInt64) 0 = _; rw [show (0 : Int32).toNatClampNeg = 0 from rfl]; simp [vp_updL]⟩, fun X hX => by rw [hnone] at hX; cases hX⟩, hgE, wHS_t ht hH⟩, hS.F ht⟩) hS.2.2 dL_play_22
set_option maxHeartbeats 4000000 in
theorem cpt_getCredits (x : St) (b : Int32) (X : String) : (cp_getCredits x b).1 = some X → (X = "java/lang/IndexOutOfBoundsException") ∧ (cp_getCredits x b).2.2 = x := by
  unfold cp_getCredits
  repeat' split
  all_goals intro h
  all_goals first | (exfalso; revert h; simp; done) | (have h2 := Option.some.inj h; subst h2; exact ⟨by decide, rfl⟩)
set_option maxHeartbeats 4000000 in
set_option maxRecDepth 100000 in
theorem met_L_getCredits (l : Launch) (E : wE) (o : wO) (g : Nat → Nat) (x y : St) (b : Int32) (hlt : l.stackTraces = false) (hI : CI x) : Met l yL_getCredits wsL_getCredits ({ frames := 11, cells := 4, slots := 24, locals := 1200 } : Room) (va_Pc [.ref (g 0), .int b, .ref (g 40)] (wPreL E o g x y)) (va_Qi (fun (r : Int32) (u : wO × (Nat → Nat)) => lRes ["java/lang/IndexOutOfBoundsException"] r (u.1.1 0) (cp_getCredits x b)) (fun (u : wO × (Nat → Nat)) t => gE g u.2 ∧ wHS E u.1 u.2 (cp_getCredits x b).2.2 y t.heap) (wA E)) 4 24 (wA E) := by
  refine va_MetW (cc := cL_getCredits) (maxL := 4) (ret := (some .int)) (by decide) rfl ?_
  intro p e s m args below meth c s₁ B hml hv
  obtain ⟨rfl, ⟨⟨⟨hz, hH, hK⟩, hC⟩, hDD⟩, hNc⟩ := hv
  have hx := B.exec
  have hb := B.bytes
  have hr := B.returns
  have hts := atoms_spec (ws := wsL_getCredits) B.pre
  have hown : s.vm.findClass RL = some m.cls := findClass_of_methodNamed B.named
  have hlocks := B.notSynchronized
  have htab : c.exceptionTable.toList = tableOf [(0, 9, 12, 24)] := vx_table (x := yL_getCredits) B (hts _ List.mem_cons_self)
  have hS : va_S (wA E) s.heap s.heap [] := va_S.rf
  have hl := lv_entry ([.ref (g 0), .int b, .ref (g 40)]) (n := 4) (Nat.le_of_ble_eq_true rfl)
  rw [lg_entry_eq]
  generalize (lg_sl ([.ref (g 0), .int b, .ref (g 40)]) ++ List.replicate (4 - (lg_sl ([.ref (g 0), .int b, .ref (g 40)])).length) Slot.unset).toArray = ls at hl ⊢
  have hl : lv_has ls 4 [(0, .ref (g 0)), (1, .int b), (2, .ref (g 40))] := hl
  obtain ⟨H, eH⟩ : ∃ z, z = s.heap := ⟨_, rfl⟩
  have hH : wHS E o g x y H := by rw [eH]; exact hH
  have hS : va_S (wA E) s.heap H [] := by rw [eH]; exact hS
  refine W.heapTo eH ?_
  refine lv_aload_n hx hb dL_getCredits_0 rfl (lv_at hl 2 rfl) ?_
  refine lv_iconst (v := 0) hx hb dL_getCredits_1 (by decide) ?_
  refine lv_aload_n hx hb dL_getCredits_2 rfl (lv_at hl 0 rfl) ?_
  refine lv_iload_n hx hb dL_getCredits_3 rfl (lv_at hl 1 rfl) ?_
  refine vx_calli (vx_runV (As := [.int b]) (rest := [.int 0, .ref (g 40)]) ⟨hx, hb, hml, hown, hts⟩ (met_X4_getCredits l E o g x y b hlt hI) (cwV 1 hts gL_getCredits_X4_getCredits rfl rfl rfl (by decide +kernel) ⟨Nat.le_of_ble_eq_true rfl, Nat.le_of_ble_eq_true rfl⟩) ⟨fun a U f mk q => ⟨q.1, wPreX.calling q.2 a f mk⟩, (va_recv hK (wH_one hH lv_r0 (cel_rt (by omega))) (ci := 6) (q0 := 0) rfl rfl), fun U hU hW => ⟨rfl, wPreX_at hz hS hH hK hC U hU hW⟩⟩ rfl rfl hl.1 rfl (lv_room (Nat.le_of_ble_eq_true rfl)) dL_getCredits_4 ⟨by exact Nat.le_of_ble_eq_true rfl, by exact Nat.le_of_ble_eq_true rfl⟩) hS (fun q _ h => h) (fun q h => h) (fun q _ h => h) (fun E9 ce q9 u t H locs ht hvm hw hB hz1 hk1 hS hce hcv hcl => ?_) (fun r u t H locs ht hvm hw hB hz1 hk1 hS => ?_)
  · obtain ⟨hK9, hB⟩ := hB
    have hH := wHS_h ht hB
    have hm := cpt_getCredits x b E9 hK9
    obtain ⟨hm1, hm2⟩ := hm
    subst hm1
    · refine vx_catch (name := "java/lang/IndexOutOfBoundsException") hown (tableOf []) ⟨0, 9, 12, 24⟩ (tableOf []) htab (fun z hz => nomatch hz) rfl (by decide) (hts (.classLink RL 24 "java/lang/IndexOutOfBoundsException") (by decide +kernel)) (va_Nw.use rfl (hC.2.2.2.1 ("java/lang/IndexOutOfBoundsException", "java/lang/IndexOutOfBoundsException") (by decide +kernel))) hce hcv hcl ?_
      refine lv_astore_n (lv' := [(3, .ref q9), (0, .ref (g 0)), (1, .int b), (2, .ref (g 40))]) hx hb dL_getCredits_12 rfl hl (by decide) rfl (fun ls hl => ?_)
      refine lv_iconst (v := 1) hx hb dL_getCredits_13 (by decide) ?_
      refine W.widen (k := 4) (n := 24) (by omega) (by omega) ?_
      exact W.iret (v := 1) hx hb hr (fun t ht hW => ⟨⟨1, (o, g), rfl, ⟨fun h => absurd (h.symm.trans hK9) (by simp), fun X hX => by rw [← Option.some.inj (hK9.symm.trans hX)]; decide +kernel⟩, gE.rf g, by rw [hm2]; exact wHS_t ht hH⟩, hS.F ht⟩) hS.2.2 dL_getCredits_14
  · obtain ⟨hnone, rfl⟩ := hw
    have hH := wHS_h ht hB
    refine lv_i2l hx hb dL_getCredits_7 rfl ?_
    refine wr_last (t := 40) hx hb hK hH hS lv_o1 rfl 4 rfl (by unfold vp_in; decide) dL_getCredits_8 (fun H locs hH hS => ?_)
    have hH := po_l hH
    refine lv_goto (tgt := 15) hx hb dL_getCredits_9 (by decide) ?_
    refine lv_iconst (v := 0) hx hb dL_getCredits_15 (by decide) ?_
    refine W.widen (k := 4) (n := 24) (by omega) (by omega) ?_
    exact W.iret (v := 0) hx hb hr (fun t ht hW => ⟨⟨0, ((vp_updL o.1 (0 : Int32).toNatClampNeg (((cp_getCredits x b).2.1).toInt64), o.2), g), rfl, ⟨fun _ => ⟨rfl, by show vp_updL o.1 (0 : Int32).toNatClampNeg (((cp_getCredits x b).2.1).toInt64) 0 = _; rw [show (0 : Int32).toNatClampNeg = 0 from rfl]; simp [vp_updL]⟩, fun X hX => by rw [hnone] at hX; cases hX⟩, (gE.rf g), wHS_t ht hH⟩, hS.F ht⟩) hS.2.2 dL_getCredits_16
