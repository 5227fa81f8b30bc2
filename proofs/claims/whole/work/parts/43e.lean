set_option maxHeartbeats 4000000 in
set_option maxRecDepth 100000 in
theorem met_grow1_e (l : Launch) (E : wE) (g : Nat → Nat) (live : Nat → Prop) (F : Nat → va_E) (tl ta : Nat) (md : Int32) (htl : live tl) (hF : F tl = .inr (2, [.int md, .ref E.2.1.2, .int (nI 0)])) (hta : ¬ live ta) (hta9 : ta < 1000) : Met l yJx4a65c_grow_92f84 wsJx4a65c_grow_92f84 ({ frames := 5, cells := 1, slots := 100, locals := 600 } : Room) (va_Pc [.ref (g tl), .int (nI 1)] (wPreY E g live F)) (va_Qr (fun (_ : Unit) => True) (fun (_ : Unit) ra t => ∃ g9 : Nat → Nat, (∀ t9, t9 ≠ ta → g9 t9 = g t9) ∧ ra = g9 ta ∧ wH E.1 E.2.2 g9 (fun x => live x ∨ x = ta) (va_up (va_up F ta (cArO E.2.1 10 0 (fun _ => 0))) tl (cLst md 10 0 E.2.1.2 (g9 ta))) t.heap) (wA E)) 1 100 (wA E) := by
  refine Met.ofW (cc := cJx4a65c_grow_92f84) (maxL := 4) (ret := (some (.array (.object "java/lang/Object")))) (by decide) rfl ?_
  intro p e s m args below meth c s₁ B hml hv
  obtain ⟨rfl, ⟨hz, hH, hK⟩, hC, hDD⟩ := hv
  have hx := B.exec
  have hb := B.bytes
  have hr := B.returns
  have hts := atoms_spec (ws := wsJx4a65c_grow_92f84) B.pre
  have hown : s.vm.findClass RJx4a65c = some m.cls := findClass_of_methodNamed B.named
  have hnm : meth.name = yJx4a65c_grow_92f84.name := (name_of_methodNamed B.named B.method).1
  have hS : va_S (wA E) s.heap s.heap [] := va_S.rf
  have hinJx4a65c : ∀ w ∈ wsJx4a65c0, w ∈ wsJx4a65c_grow_92f84 := fun w h => List.mem_cons_of_mem _ (List.mem_append_right _ h)
  have hl := lv_entry ([.ref (g tl), .int (nI 1)]) (n := 4) (Nat.le_of_ble_eq_true rfl)
  rw [lg_entry_eq]
  generalize (lg_sl ([.ref (g tl), .int (nI 1)]) ++ List.replicate (4 - (lg_sl ([.ref (g tl), .int (nI 1)])).length) Slot.unset).toArray = ls at hl ⊢
  have hl : lv_has ls 4 [(0, .ref (g tl)), (1, .int (nI 1))] := hl
  obtain ⟨H, eH⟩ : ∃ z, z = s.heap := ⟨_, rfl⟩
  have hH : wH E.1 E.2.2 g live F H := by rw [eH]; exact hH
  have hS : va_S (wA E) s.heap H [] := by rw [eH]; exact hS
  refine W.heapTo eH ?_
  refine lv_aload_n hx hb dJx4a65c_grow_92f84_0 rfl (lv_at hl 0 rfl) ?_
  refine wr_get (T := TJx4a65c) (N := 3) (ci := 2) (v := .ref E.2.1.2) (t := tl) hx hb hts hinJx4a65c hown hK hH htl (fs := [.int md, .ref E.2.1.2, .int (nI 0)]) hF rfl 1 (by decide) (hts (.fieldLink RJx4a65c 9 "java/util/ArrayList" "elementData" "[Ljava/lang/Object;") (by decide +kernel)) (fun _ h => h) rfl dJx4a65c_grow_92f84_1 ?_
  refine va_tlen (v := 0) hx hb hC.2.2.2.2.2.1 hS rfl dJx4a65c_grow_92f84_4 ?_
  refine lv_istore_n (lv' := [(2, .int 0), (0, .ref (g tl)), (1, .int (nI 1))]) hx hb dJx4a65c_grow_92f84_5 rfl hl (by decide) rfl (fun ls hl => ?_)
  refine lv_iload_n hx hb dJx4a65c_grow_92f84_6 rfl (lv_at hl 0 rfl) ?_
  refine lv_if_gt (tgt := 20) hx hb dJx4a65c_grow_92f84_7 (by decide) (fun hq => absurd hq (show ¬ (0 : Int32) < 0 by decide)) (fun _ => ?_)
  refine lv_aload_n hx hb dJx4a65c_grow_92f84_10 rfl (lv_at hl 1 rfl) ?_
  refine wr_get (T := TJx4a65c) (N := 3) (ci := 2) (v := .ref E.2.1.2) (t := tl) hx hb hts hinJx4a65c hown hK hH htl (fs := [.int md, .ref E.2.1.2, .int (nI 0)]) hF rfl 1 (by decide) (hts (.fieldLink RJx4a65c 9 "java/util/ArrayList" "elementData" "[Ljava/lang/Object;") (by decide +kernel)) (fun _ h => h) rfl dJx4a65c_grow_92f84_11 ?_
  refine va_gets hx hb hC.2.2.2.2.1 hS hown (hts (.fieldLink RJx4a65c 39 "java/util/ArrayList" "DEFAULTCAPACITY_EMPTY_ELEMENTDATA" "[Ljava/lang/Object;") (by decide +kernel)) (fun _ h => h) dJx4a65c_grow_92f84_14 ?_
  refine lv_acmp_eq (rx := some E.2.1.2) (ry := some E.2.1.2) (tgt := 45) hx hb dJx4a65c_grow_92f84_17 (by decide) (fun _ => ?_) (fun hq => absurd rfl hq)
  refine lv_aload_n hx hb dJx4a65c_grow_92f84_45 rfl (lv_at hl 1 rfl) ?_
  refine lv_bipush (v := 10) hx hb dJx4a65c_grow_92f84_46 (by decide) ?_
  refine lv_iload_n hx hb dJx4a65c_grow_92f84_48 rfl (lv_at hl 2 rfl) ?_
  refine va_mmax hx hb (hml.trans hl.1.symm) hown (hts (.methodLink RJx4a65c 79 Lib.Math.max.name) (by decide +kernel)) (hts (.static Lib.Math.max.name) (by decide +kernel)) (hts (.initialized "java/lang/Math") (by decide +kernel)) (hts (.code Lib.Math.max.name Lib.Math.max.code 2 (some .int)) (by decide +kernel)) (Nat.le_of_ble_eq_true rfl) (Nat.le_of_ble_eq_true rfl) (Nat.le_of_ble_eq_true rfl) (Nat.le_of_ble_eq_true rfl) dJx4a65c_grow_92f84_49 ?_
  refine lv_tope (show (if 10 < (nI 1) then (nI 1) else 10) = 10 by decide) ?_
  refine wr_newq (N' := 10) (C := "java/lang/Object") hx hb hown (hts (.classLink RJx4a65c 7 "java/lang/Object") (by decide +kernel)) hDD.2.1 hK hH hS hz (by decide) (by decide) (by decide) ta hta hta9 (by show 0 + 1 ≤ 1; omega) (by show 0 + 10 ≤ 100; omega) dJx4a65c_grow_92f84_52 (fun q9 ca H hk hH hS => ?_)
  obtain rfl : ca = E.2.1.1 3 := va_K_one hk 3 rfl
  have hne : tl ≠ ta := fun q => hta (q ▸ htl)
  obtain ⟨g9, eg9⟩ : ∃ z, z = va_up g ta q9 := ⟨_, rfl⟩
  rw [← eg9] at hH
  have hq9 : g9 ta = q9 := by rw [eg9, va_up_self]
  have hgl : g9 tl = g tl := by rw [eg9, va_up_ne _ _ hne]
  refine W.eq (g2 := F0 m 55 ls [.ref (g9 ta), .ref (g9 tl)]) (by rw [hq9, hgl]) ?_
  refine lv_dup_x1 hx hb dJx4a65c_grow_92f84_55 rfl rfl ?_
  refine wr_put (T := TJx4a65c) (N := 3) (ci := 2) (v := .ref (g9 ta)) (t := tl) hx hb hts hinJx4a65c tyJx4a65c tyJx4a65c_ok nmJx4a65c hown hK hH hS (Or.inl htl) (fs := [.int md, .ref E.2.1.2, .int (nI 0)]) ((va_up_ne _ _ hne).trans hF) rfl 1 (by decide) (hts (.fieldLink RJx4a65c 9 "java/util/ArrayList" "elementData" "[Ljava/lang/Object;") (by decide +kernel)) (fun _ h => h) rfl (ty := (.array (.object "java/lang/Object"))) (by decide +kernel) rfl rfl (Nat.le_of_ble_eq_true rfl) dJx4a65c_grow_92f84_56 (fun H locs hH hS => ?_)
  refine W.widen (k := 1) (n := 100) (by omega) (by omega) ?_
  have hfin : wH E.1 E.2.2 g9 (fun x => live x ∨ x = ta) (va_up (va_up F ta (cArO E.2.1 10 0 (fun _ => 0))) tl (cLst md 10 0 E.2.1.2 (g9 ta))) H := by
    have e8 : (fun i : Nat => if i < 0 then some ((fun _ => 0 : Nat → Nat) i) else none) = (fun _ => none) := by funext i; rw [if_neg (by omega)]
    unfold cArO; rw [e8]; exact hH
  exact W.aret (v := .ref (g9 ta)) hx hb hr (Or.inr ⟨_, rfl⟩) (Or.inr ⟨_, rfl⟩) (fun t ht hW => ⟨⟨(), g9 ta, rfl, trivial, g9, fun t9 h9 => by rw [eg9, va_up_ne _ _ h9], rfl, wG_t ht hfin⟩, hS.F ht⟩) hS.2.2 dJx4a65c_grow_92f84_59
