set_option maxHeartbeats 4000000 in
set_option maxRecDepth 100000 in
theorem met_add3_f (l : Launch) (E : wE) (g : Nat → Nat) (live : Nat → Prop) (F : Nat → va_E) (tl ta : Nat) (md : Int32) (n hf : Nat) (te ci : Nat) (vs : List Value) (r : vw_C) (htl : live tl) (hF : F tl = .inr (2, [.int md, .ref (g ta), .int (nI n)])) (hta : live ta) (f : Nat → Nat) (hFa : F ta = cArO E.2.1 n n f) (hn0 : n ≠ 0) (hf1 : 1 ≤ hf) (hfn : n + hf ≤ 100) (hsh : nI n >>> (1 &&& 31) = nI hf) (hn950 : ¬ live 950) (hel : ∀ i, i < n → elO g live F ta (f i) ∧ elO g live F tl (f i)) (hte : live te) (hel0 : te ≠ tl) (hFe : F te = .inr (ci, vs)) (hci : vwCl[ci]? = some r) (hcas : (r.1, "java/lang/Object") ∈ wCas) : Met l yJx4a65c_add_72be8 wsJx4a65c_add_72be8 ({ frames := 7, cells := 1, slots := 100, locals := 800 } : Room) (va_Pc [.ref (g tl), .ref (g te), .ref (g ta), .int (nI n)] (wPreY E g live F)) (va_Qv (fun (_ : Unit) => True) (fun (_ : Unit) t => ∃ (g9 : Nat → Nat) (cap9 : Nat), (∀ t9, t9 ≠ ta → g9 t9 = g t9) ∧ cap9 = n + hf ∧ wH E.1 E.2.2 g9 (fun x => live x ∨ x = ta) (va_up (va_up F ta (cArO E.2.1 cap9 (n + 1) (va_up f n (g te)))) tl (cLst md cap9 (n + 1) E.2.1.2 (g9 ta))) t.heap) (wA E)) 1 100 (wA E) := by
  refine Met.ofW (cc := cJx4a65c_add_72be8) (maxL := 4) (ret := none) (by decide) rfl ?_
  intro p e s m args below meth c s₁ B hml hv
  obtain ⟨rfl, ⟨hz, hH, hK⟩, hC, hDD⟩ := hv
  have hx := B.exec
  have hb := B.bytes
  have hr := B.returns
  have hts := atoms_spec (ws := wsJx4a65c_add_72be8) B.pre
  have hown : s.vm.findClass RJx4a65c = some m.cls := findClass_of_methodNamed B.named
  have hnm : meth.name = yJx4a65c_add_72be8.name := (name_of_methodNamed B.named B.method).1
  have hS : va_S (wA E) s.heap s.heap [] := va_S.rf
  have hinJx4a65c : ∀ w ∈ wsJx4a65c0, w ∈ wsJx4a65c_add_72be8 := fun w h => List.mem_cons_of_mem _ (List.mem_append_right _ h)
  have hl := lv_entry ([.ref (g tl), .ref (g te), .ref (g ta), .int (nI n)]) (n := 4) (Nat.le_of_ble_eq_true rfl)
  rw [lg_entry_eq]
  generalize (lg_sl ([.ref (g tl), .ref (g te), .ref (g ta), .int (nI n)]) ++ List.replicate (4 - (lg_sl ([.ref (g tl), .ref (g te), .ref (g ta), .int (nI n)])).length) Slot.unset).toArray = ls at hl ⊢
  have hl : lv_has ls 4 [(0, .ref (g tl)), (1, .ref (g te)), (2, .ref (g ta)), (3, .int (nI n))] := hl
  obtain ⟨H, eH⟩ : ∃ z, z = s.heap := ⟨_, rfl⟩
  have hH : wH E.1 E.2.2 g live F H := by rw [eH]; exact hH
  have hS : va_S (wA E) s.heap H [] := by rw [eH]; exact hS
  refine W.heapTo eH ?_
  refine lv_iload_n hx hb dJx4a65c_add_72be8_0 rfl (lv_at hl 3 rfl) ?_
  refine lv_aload_n hx hb dJx4a65c_add_72be8_1 rfl (lv_at hl 2 rfl) ?_
  refine wr_alen (v := nI n) (t := ta) hx hb hK hH hta hFa 3 rfl rfl dJx4a65c_add_72be8_2 ?_
  refine lv_icmp_ne (tgt := 11) hx hb dJx4a65c_add_72be8_3 (by decide) (fun hq => absurd ((nI_eq (a := n) (b := n) (by omega) (by omega)).mpr (rfl : n = n)) hq) (fun _ => ?_)
  refine lv_aload_n hx hb dJx4a65c_add_72be8_6 rfl (lv_at hl 0 rfl) ?_
  refine va_callr (va_runV (As := []) (rest := []) ⟨hx, hb, hml, hown, hts⟩ (met_grow0_f l E g live F tl ta md n hf htl hF hta f hFa hn0 hf1 hfn hsh hn950 hel) (cwV 0 hts gJx4a65c_add_72be8_Jx4a65c_grow_d5877 rfl rfl rfl (by decide +kernel) ⟨Nat.le_of_ble_eq_true rfl, Nat.le_of_ble_eq_true rfl⟩) ⟨fun a U f mk q => ⟨q.1, wPreY.calling q.2 a f mk⟩, (va_recv hK (wH_one hH htl hF) (ci := 2) (q0 := 0) rfl rfl), fun U hU hW => ⟨rfl, wPreY_at hz hS hH hK hC hDD U hU hW⟩⟩ rfl rfl hl.1 rfl (lv_room (Nat.le_of_ble_eq_true rfl)) dJx4a65c_add_72be8_7 ⟨by exact Nat.le_of_ble_eq_true rfl, by exact Nat.le_of_ble_eq_true rfl⟩) hS (fun q _ h => h) (fun q h => h) (fun u ra t H locs ht hvm hw hB hz1 hk1 hS => ?_)
  obtain ⟨g9, hg9, rfl, hB⟩ := hB
  have hH := wG_h ht hB
  refine lv_astore_n (lv' := [(2, .ref (g9 ta)), (0, .ref (g tl)), (1, .ref (g te)), (3, .int (nI n))]) hx hb dJx4a65c_add_72be8_10 rfl hl (by decide) rfl (fun ls hl => ?_)
  have hne : tl ≠ ta := by intro q; rw [q, hFa] at hF; cases hF
  have hnet : te ≠ ta := by intro q; rw [q, hFa] at hFe; cases hFe
  have hH : wH E.1 E.2.2 g9 (fun x => live x ∨ x = ta) (va_up (va_up F ta (cArO E.2.1 (n + hf) n f)) tl (cLst md (n + hf) n E.2.1.2 (g9 ta))) H := wH_cg hH (fun t9 h9 => ⟨h9.elim id (fun q => q ▸ hta), rfl⟩)
  rw [← hg9 tl hne, ← hg9 te hnet] at hl
  obtain ⟨F1, eF1⟩ : ∃ z, z = va_up (va_up F ta (cArO E.2.1 (n + hf) n f)) tl (cLst md (n + hf) n E.2.1.2 (g9 ta)) := ⟨_, rfl⟩
  rw [← eF1] at hH
  have hF9 : F1 tl = .inr (2, [.int md, .ref (g9 ta), .int (nI n)]) := by rw [eF1, va_up_self]; unfold cLst; rw [if_neg (by omega)]
  have hA9 : F1 ta = cArO E.2.1 (n + hf) n f := by rw [eF1, va_up_ne _ _ (Ne.symm hne), va_up_self]
  have hE9 : F1 te = .inr (ci, vs) := by rw [eF1, va_up_ne _ _ hel0, va_up_ne _ _ hnet]; exact hFe
  refine lv_aload_n hx hb dJx4a65c_add_72be8_11 rfl (lv_at hl 0 rfl) ?_
  refine lv_iload_n hx hb dJx4a65c_add_72be8_12 rfl (lv_at hl 3 rfl) ?_
  refine lv_aload_n hx hb dJx4a65c_add_72be8_13 rfl (lv_at hl 2 rfl) ?_
  refine wr_astqO (t := ta) (tv := te) (ci := ci) (r := r) hx hb hK hH hS (Or.inr rfl) hA9 3 rfl (Or.inl hte) hE9 hci (hC.2.2.2.1 (r.1, "java/lang/Object") hcas) (vp_in_nI (n := n) (N := (n + hf)) (by omega) (by omega)) dJx4a65c_add_72be8_14 (fun H locs hH hS => ?_)
  rw [push_eq (by omega)] at hH
  refine lv_aload_n hx hb dJx4a65c_add_72be8_15 rfl (lv_at hl 1 rfl) ?_
  refine lv_iload_n hx hb dJx4a65c_add_72be8_16 rfl (lv_at hl 3 rfl) ?_
  refine lv_iconst (v := 1) hx hb dJx4a65c_add_72be8_17 (by decide) ?_
  refine lv_iadd hx hb dJx4a65c_add_72be8_18 ?_
  refine lv_tope (nI_add n 1) ?_
  refine wr_put (T := TJx4a65c) (N := 3) (ci := 2) (v := .int (nI (n + 1))) (t := tl) hx hb hts hinJx4a65c tyJx4a65c tyJx4a65c_ok nmJx4a65c hown hK hH hS (Or.inl htl) (fs := [.int md, .ref (g9 ta), .int (nI n)]) ((va_up_ne _ _ hne).trans hF9) rfl 2 (by decide) (hts (.fieldLink RJx4a65c 48 "java/util/ArrayList" "size" "I") (by decide +kernel)) (fun _ h => h) rfl (ty := .int) (by decide +kernel) rfl rfl (Nat.le_of_ble_eq_true rfl) dJx4a65c_add_72be8_19 (fun H locs hH hS => ?_)
  have hfin : wH E.1 E.2.2 g9 (fun x => live x ∨ x = ta) (va_up (va_up F ta (cArO E.2.1 (n + hf) (n + 1) (va_up f n (g te)))) tl (cLst md (n + hf) (n + 1) E.2.1.2 (g9 ta))) H := by
    have e7 : cLst md (n + hf) (n + 1) E.2.1.2 (g9 ta) = .inr (2, [.int md, .ref (g9 ta), .int (nI (n + 1))]) := by unfold cLst; rw [if_neg (by omega)]
    rw [e7, ← hg9 te hnet]
    refine wH_cg hH (fun t9 h9 => ⟨h9, ?_⟩)
    by_cases q1 : t9 = tl
    · subst q1; rw [va_up_self, va_up_self]; rfl
    · rw [va_up_ne _ _ q1, va_up_ne _ _ q1]
      by_cases q2 : t9 = ta
      · subst q2; rw [va_up_self, va_up_self]; rfl
      · rw [va_up_ne _ _ q2, va_up_ne _ _ q2, eF1, va_up_ne _ _ q1, va_up_ne _ _ q2]
  exact W.vret hx hb hr (fun t ht hW => ⟨⟨(), rfl, trivial, g9, (n + hf), hg9, rfl, wG_t ht hfin⟩, hS.F ht⟩) hS.2.2 dJx4a65c_add_72be8_22
