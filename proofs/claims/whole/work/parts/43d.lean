set_option maxHeartbeats 4000000 in
set_option maxRecDepth 100000 in
theorem met_copyOf2 (l : Launch) (E : wE) (g : Nat → Nat) (live : Nat → Prop) (F : Nat → va_E) (ta n mm : Nat) (f : Nat → Nat) (hta : live ta) (hFa : F ta = cArO E.2.1 n n f) (hnmm : n ≤ mm) (hmm : mm ≤ 100) (hn950 : ¬ live 950) (hel : ∀ i, i < n → elO g live F ta (f i)) : Met l yJ7_copyOf_1904c wsJ7_copyOf_1904c ({ frames := 3, cells := 1, slots := 100, locals := 400 } : Room) (va_Pc [.ref (g ta), .int (nI mm)] (wPreY E g live F)) (va_Qr (fun (_ : Unit) => True) (fun (_ : Unit) ra t => wH E.1 E.2.2 (va_up g 950 ra) (fun x => live x ∨ x = 950) (va_up F 950 (cArO E.2.1 mm n f)) t.heap) (wA E)) 1 100 (wA E) := by
  refine Met.ofW (cc := cJ7_copyOf_1904c) (maxL := 2) (ret := (some (.array (.object "java/lang/Object")))) (by decide) rfl ?_
  intro p e s m args below meth c s₁ B hml hv
  obtain ⟨rfl, ⟨hz, hH, hK⟩, hC, hDD⟩ := hv
  have hx := B.exec
  have hb := B.bytes
  have hr := B.returns
  have hts := atoms_spec (ws := wsJ7_copyOf_1904c) B.pre
  have hown : s.vm.findClass RJ7 = some m.cls := findClass_of_methodNamed B.named
  have hnm : meth.name = yJ7_copyOf_1904c.name := (name_of_methodNamed B.named B.method).1
  have hS : va_S (wA E) s.heap s.heap [] := va_S.rf
  have hl := lv_entry ([.ref (g ta), .int (nI mm)]) (n := 2) (Nat.le_of_ble_eq_true rfl)
  rw [lg_entry_eq]
  generalize (lg_sl ([.ref (g ta), .int (nI mm)]) ++ List.replicate (2 - (lg_sl ([.ref (g ta), .int (nI mm)])).length) Slot.unset).toArray = ls at hl ⊢
  have hl : lv_has ls 2 [(0, .ref (g ta)), (1, .int (nI mm))] := hl
  obtain ⟨H, eH⟩ : ∃ z, z = s.heap := ⟨_, rfl⟩
  have hH : wH E.1 E.2.2 g live F H := by rw [eH]; exact hH
  have hS : va_S (wA E) s.heap H [] := by rw [eH]; exact hS
  refine W.heapTo eH ?_
  refine lv_aload_n hx hb dJ7_copyOf_1904c_0 rfl (lv_at hl 0 rfl) ?_
  refine lv_iload_n hx hb dJ7_copyOf_1904c_1 rfl (lv_at hl 1 rfl) ?_
  refine lv_aload_n hx hb dJ7_copyOf_1904c_2 rfl (lv_at hl 0 rfl) ?_
  obtain ⟨⟨mi, hmi⟩, hd2, hd3, hd4, hd5⟩ := id hDD
  refine va_getC hx hb (hml.trans hl.1.symm) hown (hts (.methodLink RJ7 86 ⟨"java/lang/Object", "getClass", "()Ljava/lang/Class;"⟩) (by decide +kernel)) hd4.use (hts (.selects "[Ljava/lang/Object;" ⟨"java/lang/Object", "getClass", "()Ljava/lang/Class;"⟩ ⟨"java/lang/Object", "getClass", "()Ljava/lang/Class;"⟩) (by decide +kernel)) (hts (.instanceMethod ⟨"java/lang/Object", "getClass", "()Ljava/lang/Class;"⟩) (by decide +kernel)) (hts (.native ⟨"java/lang/Object", "getClass", "()Ljava/lang/Class;"⟩) (by decide +kernel)) hmi (wr_cls hK hH hta hFa 3 rfl) (Nat.le_of_ble_eq_true rfl) (Nat.le_of_ble_eq_true rfl) dJ7_copyOf_1904c_3 ?_
  refine va_callr (va_runS (As := [.ref (g ta), .int (nI mm), .ref mi]) (rest := []) ⟨hx, hb, hml, hown, hts⟩ (met_copyOf3 l E g live F ta n mm mi f hta hFa hnmm hmm hn950 hel) (va_cwS 3 hts gJ7_copyOf_1904c_J7_copyOf_6403c rfl rfl rfl (by decide +kernel) ⟨Nat.le_of_ble_eq_true rfl, Nat.le_of_ble_eq_true rfl⟩) ⟨fun a U f mk q => ⟨q.1, wPreY.calling q.2.1 a f mk, q.2.2.moved (Vm.Alike.refl U.vm)⟩, fun U hU hW => ⟨rfl, wPreY_at hz hS hH hK hC hDD U hU hW, hmi.moved hW.alike⟩⟩ rfl rfl hl.1 rfl (lv_room (Nat.le_of_ble_eq_true rfl)) dJ7_copyOf_1904c_6 ⟨by exact Nat.le_of_ble_eq_true rfl, by exact Nat.le_of_ble_eq_true rfl⟩) hS (fun q _ h => h) (fun q h => h) (fun u ra t H locs ht hvm hw hB hz1 hk1 hS => ?_)
  have hH := wG_h ht hB
  refine W.widen (k := 1) (n := 100) (by omega) (by omega) ?_
  exact W.aret (v := .ref ra) hx hb hr (Or.inr ⟨_, rfl⟩) (Or.inr ⟨_, rfl⟩) (fun t ht hW => ⟨⟨(), ra, rfl, trivial, wG_t ht hH⟩, hS.F ht⟩) hS.2.2 dJ7_copyOf_1904c_9
