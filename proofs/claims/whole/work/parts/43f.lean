set_option maxHeartbeats 4000000 in
set_option maxRecDepth 100000 in
theorem met_grow1_f (l : Launch) (E : wE) (g : Nat → Nat) (live : Nat → Prop) (F : Nat → va_E) (tl ta : Nat) (md : Int32) (n hf : Nat) (htl : live tl) (hF : F tl = .inr (2, [.int md, .ref (g ta), .int (nI n)])) (hta : live ta) (f : Nat → Nat) (hFa : F ta = cArO E.2.1 n n f) (hn0 : n ≠ 0) (hf1 : 1 ≤ hf) (hfn : n + hf ≤ 100) (hsh : nI n >>> (1 &&& 31) = nI hf) (hn950 : ¬ live 950) (hel : ∀ i, i < n → elO g live F ta (f i) ∧ elO g live F tl (f i)) : Met l yJx4a65c_grow_92f84 wsJx4a65c_grow_92f84 ({ frames := 5, cells := 1, slots := 100, locals := 600 } : Room) (va_Pc [.ref (g tl), .int (nI (n + 1))] (wPreY E g live F)) (va_Qr (fun (_ : Unit) => True) (fun (_ : Unit) ra t => ∃ g9 : Nat → Nat, (∀ t9, t9 ≠ ta → g9 t9 = g t9) ∧ ra = g9 ta ∧ wH E.1 E.2.2 g9 live (va_up (va_up F ta (cArO E.2.1 (n + hf) n f)) tl (cLst md (n + hf) n E.2.1.2 (g9 ta))) t.heap) (wA E)) 1 100 (wA E) := by
  refine Met.ofW (cc := cJx4a65c_grow_92f84) (maxL := 4) (ret := (some (.array (.object "java/lang/Object")))) (by decide) rfl ?_
  intro p e s m args below meth c s₁ B hml hv
  obtain ⟨rfl, ⟨hz, hH, hK⟩, hC, hDD⟩ := hv
  have hx := B.exec
  have hb := B.bytes
  have hr := B.returns
  have hts := atoms_spec (ws := wsJx4a65c_grow_92f84) B.pre
  have hown : s.vm.findClass RJx4a65c = some m.cls := findClass_of_methodNamed B.named
  have hnm : meth.name = yJx4a65c_grow_92f84.name := (name_of_methodNamed B.named B.method).1
  have hS : va_S (wA E) s.heap s.heap [] := va_S.rf
  have hinJx4a65c : ∀ w ∈ wsJx4a65c0, w ∈ wsJx4a65c_grow_92f84 := fun w h => List.mem_cons_of_mem _ (List.mem_append_right _ h)
  have hl := lv_entry ([.ref (g tl), .int (nI (n + 1))]) (n := 4) (Nat.le_of_ble_eq_true rfl)
  rw [lg_entry_eq]
  generalize (lg_sl ([.ref (g tl), .int (nI (n + 1))]) ++ List.replicate (4 - (lg_sl ([.ref (g tl), .int (nI (n + 1))])).length) Slot.unset).toArray = ls at hl ⊢
  have hl : lv_has ls 4 [(0, .ref (g tl)), (1, .int (nI (n + 1)))] := hl
  obtain ⟨H, eH⟩ : ∃ z, z = s.heap := ⟨_, rfl⟩
  have hH : wH E.1 E.2.2 g live F H := by rw [eH]; exact hH
  have hS : va_S (wA E) s.heap H [] := by rw [eH]; exact hS
  refine W.heapTo eH ?_
  refine lv_aload_n hx hb dJx4a65c_grow_92f84_0 rfl (lv_at hl 0 rfl) ?_
  refine wr_get (T := TJx4a65c) (N := 3) (ci := 2) (v := .ref (g ta)) (t := tl) hx hb hts hinJx4a65c hown hK hH htl (fs := [.int md, .ref (g ta), .int (nI n)]) hF rfl 1 (by decide) (hts (.fieldLink RJx4a65c 9 "java/util/ArrayList" "elementData" "[Ljava/lang/Object;") (by decide +kernel)) (fun _ h => h) rfl dJx4a65c_grow_92f84_1 ?_
  refine wr_alen (v := nI n) (t := ta) hx hb hK hH hta hFa 3 rfl rfl dJx4a65c_grow_92f84_4 ?_
  refine lv_istore_n (lv' := [(2, .int (nI n)), (0, .ref (g tl)), (1, .int (nI (n + 1)))]) hx hb dJx4a65c_grow_92f84_5 rfl hl (by decide) rfl (fun ls hl => ?_)
  refine lv_iload_n hx hb dJx4a65c_grow_92f84_6 rfl (lv_at hl 0 rfl) ?_
  refine lv_if_gt (tgt := 20) hx hb dJx4a65c_grow_92f84_7 (by decide) (fun _ => ?_) (fun hq => absurd ((nI_ltI (a := 0) (b := n) (by omega) (by omega)).mpr (show 0 < n by omega)) hq)
  refine lv_iload_n hx hb dJx4a65c_grow_92f84_20 rfl (lv_at hl 0 rfl) ?_
  refine lv_iload_n hx hb dJx4a65c_grow_92f84_21 rfl (lv_at hl 2 rfl) ?_
  refine lv_iload_n hx hb dJx4a65c_grow_92f84_22 rfl (lv_at hl 0 rfl) ?_
  refine lv_isub hx hb dJx4a65c_grow_92f84_23 ?_
  refine lv_tope (show nI (n + 1) - nI n = 1 by rw [pk_sub (by omega), show n + 1 - n = 1 by omega]; rfl) ?_
  refine lv_iload_n hx hb dJx4a65c_grow_92f84_24 rfl (lv_at hl 0 rfl) ?_
  refine lv_iconst (v := 1) hx hb dJx4a65c_grow_92f84_25 (by decide) ?_
  refine lv_ishr hx hb dJx4a65c_grow_92f84_26 ?_
  refine lv_tope hsh ?_
  refine va_calli (va_runS (As := [.int (nI n), .int 1, .int (nI hf)]) (rest := []) ⟨hx, hb, hml, hown, hts⟩ (met_newLength l E g live F n hf hf1 (by omega)) (va_cwS 3 hts gJx4a65c_grow_92f84_J8_newLength_cabcc rfl rfl rfl (by decide +kernel) ⟨Nat.le_of_ble_eq_true rfl, Nat.le_of_ble_eq_true rfl⟩) ⟨fun a U f mk q => ⟨q.1, wPreG.calling q.2 a f mk⟩, fun U hU hW => ⟨rfl, wPreG_at hz hS hH hK U hU hW⟩⟩ rfl rfl hl.1 rfl (lv_room (Nat.le_of_ble_eq_true rfl)) dJx4a65c_grow_92f84_27 ⟨by exact Nat.le_of_ble_eq_true rfl, by exact Nat.le_of_ble_eq_true rfl⟩) hS (fun q _ h => h) (fun q h => h) (fun r u t H locs ht hvm hw hB hz1 hk1 hS => ?_)
  obtain rfl := hw
  have hH := wG_h ht hB
  refine lv_istore_n (lv' := [(3, .int (nI (n + hf))), (2, .int (nI n)), (0, .ref (g tl)), (1, .int (nI (n + 1)))]) hx hb dJx4a65c_grow_92f84_30 rfl hl (by decide) rfl (fun ls hl => ?_)
  refine lv_aload_n hx hb dJx4a65c_grow_92f84_31 rfl (lv_at hl 2 rfl) ?_
  refine lv_aload_n hx hb dJx4a65c_grow_92f84_32 rfl (lv_at hl 2 rfl) ?_
  refine wr_get (T := TJx4a65c) (N := 3) (ci := 2) (v := .ref (g ta)) (t := tl) hx hb hts hinJx4a65c hown hK hH htl (fs := [.int md, .ref (g ta), .int (nI n)]) hF rfl 1 (by decide) (hts (.fieldLink RJx4a65c 9 "java/util/ArrayList" "elementData" "[Ljava/lang/Object;") (by decide +kernel)) (fun _ h => h) rfl dJx4a65c_grow_92f84_33 ?_
  refine lv_iload_n hx hb dJx4a65c_grow_92f84_36 rfl (lv_at hl 0 rfl) ?_
  refine va_callr (va_runS (As := [.ref (g ta), .int (nI (n + hf))]) (rest := [.ref (g tl)]) ⟨hx, hb, hml, hown, hts⟩ (met_copyOf2 l E g live F ta n (n + hf) f hta hFa (by omega) (by omega) hn950 (fun i hi => (hel i hi).1)) (va_cwS 2 hts gJx4a65c_grow_92f84_J7_copyOf_1904c rfl rfl rfl (by decide +kernel) ⟨Nat.le_of_ble_eq_true rfl, Nat.le_of_ble_eq_true rfl⟩) ⟨fun a U f mk q => ⟨q.1, wPreY.calling q.2 a f mk⟩, fun U hU hW => ⟨rfl, wPreY_at hz hS hH hK hC hDD U hU hW⟩⟩ rfl rfl hl.1 rfl (lv_room (Nat.le_of_ble_eq_true rfl)) dJx4a65c_grow_92f84_37 ⟨by exact Nat.le_of_ble_eq_true rfl, by exact Nat.le_of_ble_eq_true rfl⟩) hS (fun q _ h => h) (fun q h => h) (fun u ra t H locs ht hvm hw hB hz1 hk1 hS => ?_)
  have hH := wG_h ht hB
  have hne : tl ≠ ta := by intro q; subst q; rw [hF] at hFa; cases hFa
  have hH : wH E.1 E.2.2 (va_up g ta ra) live (va_up F ta (cArO E.2.1 (n + hf) n f)) H := by
    refine wH_re hH (fun t9 => if t9 = ta then 950 else t9) (fun t9 h9 => ?_) (fun t9 t8 h9 h8 e9 => ?_)
    · have l9 : t9 < 1000 := by
        have q := hH.1 t9 (Or.inl h9); exact q
      have n9 : t9 ≠ 950 := fun q => hn950 (q ▸ h9)
      by_cases q : t9 = ta
      · subst q; simp [va_up]; omega
      · simp [va_up, q, n9, h9]; omega
    · have n9 : t9 ≠ 950 := fun q => hn950 (q ▸ h9)
      have n8 : t8 ≠ 950 := fun q => hn950 (q ▸ h8)
      try dsimp only at e9
      split at e9 <;> split at e9 <;> omega
  obtain ⟨g9, eg9⟩ : ∃ z, z = va_up g ta ra := ⟨_, rfl⟩
  rw [← eg9] at hH
  have hq9 : g9 ta = ra := by rw [eg9, va_up_self]
  have hgl : g9 tl = g tl := by rw [eg9, va_up_ne _ _ hne]
  refine W.eq (g2 := F0 m 40 ls [.ref (g9 ta), .ref (g9 tl)]) (by rw [hq9, hgl]) ?_
  refine lv_dup_x1 hx hb dJx4a65c_grow_92f84_40 rfl rfl ?_
  refine wr_put (T := TJx4a65c) (N := 3) (ci := 2) (v := .ref (g9 ta)) (t := tl) hx hb hts hinJx4a65c tyJx4a65c tyJx4a65c_ok nmJx4a65c hown hK hH hS htl (fs := [.int md, .ref (g ta), .int (nI n)]) ((va_up_ne _ _ hne).trans hF) rfl 1 (by decide) (hts (.fieldLink RJx4a65c 9 "java/util/ArrayList" "elementData" "[Ljava/lang/Object;") (by decide +kernel)) (fun _ h => h) rfl (ty := (.array (.object "java/lang/Object"))) (by decide +kernel) rfl rfl (Nat.le_of_ble_eq_true rfl) dJx4a65c_grow_92f84_41 (fun H locs hH hS => ?_)
  refine W.widen (k := 1) (n := 100) (by omega) (by omega) ?_
  have hfin : wH E.1 E.2.2 g9 live (va_up (va_up F ta (cArO E.2.1 (n + hf) n f)) tl (cLst md (n + hf) n E.2.1.2 (g9 ta))) H := by
    unfold cLst; rw [if_neg (show ¬ n + hf = 0 by omega)]; exact hH
  exact W.aret (v := .ref (g9 ta)) hx hb hr (Or.inr ⟨_, rfl⟩) (Or.inr ⟨_, rfl⟩) (fun t ht hW => ⟨⟨(), g9 ta, rfl, trivial, g9, fun t9 h9 => by rw [eg9, va_up_ne _ _ h9], rfl, wG_t ht hfin⟩, hS.F ht⟩) hS.2.2 dJx4a65c_grow_92f84_44
