set_option maxHeartbeats 4000000 in
set_option maxRecDepth 100000 in
theorem met_grow0_e (l : Launch) (E : wE) (g : Nat → Nat) (live : Nat → Prop) (F : Nat → va_E) (tl ta : Nat) (md : Int32) (htl : live tl) (hF : F tl = .inr (2, [.int md, .ref E.2.1.2, .int (nI 0)])) (hta : ¬ live ta) (hta9 : ta < 1000) : Met l yJx4a65c_grow_d5877 wsJx4a65c_grow_d5877 ({ frames := 6, cells := 1, slots := 100, locals := 700 } : Room) (va_Pc [.ref (g tl)] (wPreY E g live F)) (va_Qr (fun (_ : Unit) => True) (fun (_ : Unit) ra t => ∃ g9 : Nat → Nat, (∀ t9, t9 ≠ ta → g9 t9 = g t9) ∧ ra = g9 ta ∧ wH E.1 E.2.2 g9 (fun x => live x ∨ x = ta) (va_up (va_up F ta (cArO E.2.1 10 0 (fun _ => 0))) tl (cLst md 10 0 E.2.1.2 (g9 ta))) t.heap) (wA E)) 1 100 (wA E) := by
  refine Met.ofW (cc := cJx4a65c_grow_d5877) (maxL := 1) (ret := (some (.array (.object "java/lang/Object")))) (by decide) rfl ?_
  intro p e s m args below meth c s₁ B hml hv
  obtain ⟨rfl, ⟨hz, hH, hK⟩, hC, hDD⟩ := hv
  have hx := B.exec
  have hb := B.bytes
  have hr := B.returns
  have hts := atoms_spec (ws := wsJx4a65c_grow_d5877) B.pre
  have hown : s.vm.findClass RJx4a65c = some m.cls := findClass_of_methodNamed B.named
  have hnm : meth.name = yJx4a65c_grow_d5877.name := (name_of_methodNamed B.named B.method).1
  have hS : va_S (wA E) s.heap s.heap [] := va_S.rf
  have hinJx4a65c : ∀ w ∈ wsJx4a65c0, w ∈ wsJx4a65c_grow_d5877 := fun w h => List.mem_cons_of_mem _ (List.mem_append_right _ h)
  have hl := lv_entry ([.ref (g tl)]) (n := 1) (Nat.le_of_ble_eq_true rfl)
  rw [lg_entry_eq]
  generalize (lg_sl ([.ref (g tl)]) ++ List.replicate (1 - (lg_sl ([.ref (g tl)])).length) Slot.unset).toArray = ls at hl ⊢
  have hl : lv_has ls 1 [(0, .ref (g tl))] := hl
  obtain ⟨H, eH⟩ : ∃ z, z = s.heap := ⟨_, rfl⟩
  have hH : wH E.1 E.2.2 g live F H := by rw [eH]; exact hH
  have hS : va_S (wA E) s.heap H [] := by rw [eH]; exact hS
  refine W.heapTo eH ?_
  refine lv_aload_n hx hb dJx4a65c_grow_d5877_0 rfl (lv_at hl 0 rfl) ?_
  refine lv_aload_n hx hb dJx4a65c_grow_d5877_1 rfl (lv_at hl 0 rfl) ?_
  refine wr_get (T := TJx4a65c) (N := 3) (ci := 2) (v := .int (nI 0)) (t := tl) hx hb hts hinJx4a65c hown hK hH htl (fs := [.int md, .ref E.2.1.2, .int (nI 0)]) hF rfl 2 (by decide) (hts (.fieldLink RJx4a65c 48 "java/util/ArrayList" "size" "I") (by decide +kernel)) (fun _ h => h) rfl dJx4a65c_grow_d5877_2 ?_
  refine lv_iconst (v := 1) hx hb dJx4a65c_grow_d5877_5 (by decide) ?_
  refine lv_iadd hx hb dJx4a65c_grow_d5877_6 ?_
  refine lv_tope (nI_add 0 1) ?_
  refine va_callr (va_runV (As := [.int (nI 1)]) (rest := []) ⟨hx, hb, hml, hown, hts⟩ (met_grow1_e l E g live F tl ta md htl hF hta hta9) (cwV 1 hts gJx4a65c_grow_d5877_Jx4a65c_grow_92f84 rfl rfl rfl (by decide +kernel) ⟨Nat.le_of_ble_eq_true rfl, Nat.le_of_ble_eq_true rfl⟩) ⟨fun a U f mk q => ⟨q.1, wPreY.calling q.2 a f mk⟩, (va_recv hK (wH_one hH htl hF) (ci := 2) (q0 := 0) rfl rfl), fun U hU hW => ⟨rfl, wPreY_at hz hS hH hK hC hDD U hU hW⟩⟩ rfl rfl hl.1 rfl (lv_room (Nat.le_of_ble_eq_true rfl)) dJx4a65c_grow_d5877_7 ⟨by exact Nat.le_of_ble_eq_true rfl, by exact Nat.le_of_ble_eq_true rfl⟩) hS (fun q _ h => h) (fun q h => h) (fun u ra t H locs ht hvm hw hB hz1 hk1 hS => ?_)
  obtain ⟨g9, hg9, rfl, hB⟩ := hB
  have hH := wG_h ht hB
  exact W.aret (v := .ref (g9 ta)) hx hb hr (Or.inr ⟨_, rfl⟩) (Or.inr ⟨_, rfl⟩) (fun t ht hW => ⟨⟨(), g9 ta, rfl, trivial, g9, hg9, rfl, wG_t ht hH⟩, hS.F ht⟩) hS.2.2 dJx4a65c_grow_d5877_10
set_option maxHeartbeats 4000000 in
set_option maxRecDepth 100000 in
theorem met_grow0_f (l : Launch) (E : wE) (g : Nat → Nat) (live : Nat → Prop) (F : Nat → va_E) (tl ta : Nat) (md : Int32) (n hf : Nat) (htl : live tl) (hF : F tl = .inr (2, [.int md, .ref (g ta), .int (nI n)])) (hta : live ta) (f : Nat → Nat) (hFa : F ta = cArO E.2.1 n n f) (hn0 : n ≠ 0) (hf1 : 1 ≤ hf) (hfn : n + hf ≤ 100) (hsh : nI n >>> (1 &&& 31) = nI hf) (hn950 : ¬ live 950) (hel : ∀ i, i < n → elO g live F ta (f i) ∧ elO g live F tl (f i)) : Met l yJx4a65c_grow_d5877 wsJx4a65c_grow_d5877 ({ frames := 6, cells := 1, slots := 100, locals := 700 } : Room) (va_Pc [.ref (g tl)] (wPreY E g live F)) (va_Qr (fun (_ : Unit) => True) (fun (_ : Unit) ra t => ∃ g9 : Nat → Nat, (∀ t9, t9 ≠ ta → g9 t9 = g t9) ∧ ra = g9 ta ∧ wH E.1 E.2.2 g9 live (va_up (va_up F ta (cArO E.2.1 (n + hf) n f)) tl (cLst md (n + hf) n E.2.1.2 (g9 ta))) t.heap) (wA E)) 1 100 (wA E) := by
  refine Met.ofW (cc := cJx4a65c_grow_d5877) (maxL := 1) (ret := (some (.array (.object "java/lang/Object")))) (by decide) rfl ?_
  intro p e s m args below meth c s₁ B hml hv
  obtain ⟨rfl, ⟨hz, hH, hK⟩, hC, hDD⟩ := hv
  have hx := B.exec
  have hb := B.bytes
  have hr := B.returns
  have hts := atoms_spec (ws := wsJx4a65c_grow_d5877) B.pre
  have hown : s.vm.findClass RJx4a65c = some m.cls := findClass_of_methodNamed B.named
  have hnm : meth.name = yJx4a65c_grow_d5877.name := (name_of_methodNamed B.named B.method).1
  have hS : va_S (wA E) s.heap s.heap [] := va_S.rf
  have hinJx4a65c : ∀ w ∈ wsJx4a65c0, w ∈ wsJx4a65c_grow_d5877 := fun w h => List.mem_cons_of_mem _ (List.mem_append_right _ h)
  have hl := lv_entry ([.ref (g tl)]) (n := 1) (Nat.le_of_ble_eq_true rfl)
  rw [lg_entry_eq]
  generalize (lg_sl ([.ref (g tl)]) ++ List.replicate (1 - (lg_sl ([.ref (g tl)])).length) Slot.unset).toArray = ls at hl ⊢
  have hl : lv_has ls 1 [(0, .ref (g tl))] := hl
  obtain ⟨H, eH⟩ : ∃ z, z = s.heap := ⟨_, rfl⟩
  have hH : wH E.1 E.2.2 g live F H := by rw [eH]; exact hH
  have hS : va_S (wA E) s.heap H [] := by rw [eH]; exact hS
  refine W.heapTo eH ?_
  refine lv_aload_n hx hb dJx4a65c_grow_d5877_0 rfl (lv_at hl 0 rfl) ?_
  refine lv_aload_n hx hb dJx4a65c_grow_d5877_1 rfl (lv_at hl 0 rfl) ?_
  refine wr_get (T := TJx4a65c) (N := 3) (ci := 2) (v := .int (nI n)) (t := tl) hx hb hts hinJx4a65c hown hK hH htl (fs := [.int md, .ref (g ta), .int (nI n)]) hF rfl 2 (by decide) (hts (.fieldLink RJx4a65c 48 "java/util/ArrayList" "size" "I") (by decide +kernel)) (fun _ h => h) rfl dJx4a65c_grow_d5877_2 ?_
  refine lv_iconst (v := 1) hx hb dJx4a65c_grow_d5877_5 (by decide) ?_
  refine lv_iadd hx hb dJx4a65c_grow_d5877_6 ?_
  refine lv_tope (nI_add n 1) ?_
  refine va_callr (va_runV (As := [.int (nI (n + 1))]) (rest := []) ⟨hx, hb, hml, hown, hts⟩ (met_grow1_f l E g live F tl ta md n hf htl hF hta f hFa hn0 hf1 hfn hsh hn950 hel) (cwV 1 hts gJx4a65c_grow_d5877_Jx4a65c_grow_92f84 rfl rfl rfl (by decide +kernel) ⟨Nat.le_of_ble_eq_true rfl, Nat.le_of_ble_eq_true rfl⟩) ⟨fun a U f mk q => ⟨q.1, wPreY.calling q.2 a f mk⟩, (va_recv hK (wH_one hH htl hF) (ci := 2) (q0 := 0) rfl rfl), fun U hU hW => ⟨rfl, wPreY_at hz hS hH hK hC hDD U hU hW⟩⟩ rfl rfl hl.1 rfl (lv_room (Nat.le_of_ble_eq_true rfl)) dJx4a65c_grow_d5877_7 ⟨by exact Nat.le_of_ble_eq_true rfl, by exact Nat.le_of_ble_eq_true rfl⟩) hS (fun q _ h => h) (fun q h => h) (fun u ra t H locs ht hvm hw hB hz1 hk1 hS => ?_)
  obtain ⟨g9, hg9, rfl, hB⟩ := hB
  have hH := wG_h ht hB
  exact W.aret (v := .ref (g9 ta)) hx hb hr (Or.inr ⟨_, rfl⟩) (Or.inr ⟨_, rfl⟩) (fun t ht hW => ⟨⟨(), g9 ta, rfl, trivial, g9, hg9, rfl, wG_t ht hH⟩, hS.F ht⟩) hS.2.2 dJx4a65c_grow_d5877_10
