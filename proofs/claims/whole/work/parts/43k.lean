set_option maxHeartbeats 4000000 in
set_option maxRecDepth 100000 in
theorem met_add_f (l : Launch) (E : wE) (g : Nat → Nat) (live : Nat → Prop) (F : Nat → va_E) (tl ta : Nat) (md : Int32) (cap n cap9 : Nat) (f : Nat → Nat) (te ci : Nat) (vs : List Value) (r : vw_C) (htl : live tl) (hF0 : F tl = cLst md cap n E.2.1.2 (g ta)) (hf : Nat) (hta : live ta) (hFa : F ta = cArO E.2.1 n n f) (hcn : cap = n) (hn0 : n ≠ 0) (hf1 : 1 ≤ hf) (hfn : n + hf ≤ 100) (hsh : nI n >>> (1 &&& 31) = nI hf) (hn950 : ¬ live 950) (hel : ∀ i, i < n → elO g live F tl (f i)) (hc9 : cap9 = n + hf) (hte : live te) (hel0 : te ≠ tl) (hFe : F te = .inr (ci, vs)) (hci : vwCl[ci]? = some r) (hcas : (r.1, "java/lang/Object") ∈ wCas) : Met l yJx4a65c_add_9ea2d wsJx4a65c_add_9ea2d ({ frames := 8, cells := 1, slots := 100, locals := 900 } : Room) (va_Pc [.ref (g tl), .ref (g te)] (wPreY E g live F)) (va_Qi (fun (x9 : Int32) (_ : Unit) => x9 = 1) (fun (_ : Unit) t => ∃ (g9 : Nat → Nat), (∀ t9, t9 ≠ ta → g9 t9 = g t9) ∧ wH E.1 E.2.2 g9 (fun x => live x ∨ x = ta) (va_up (va_up F ta (cArO E.2.1 cap9 (n + 1) (va_up f n (g te)))) tl (cLst (md + 1) cap9 (n + 1) E.2.1.2 (g9 ta))) t.heap) (wA E)) 1 100 (wA E) := by
  obtain rfl : n = cap := hcn.symm
  subst hc9
  have hF : F tl = .inr (2, [.int md, .ref (g ta), .int (nI n)]) := by rw [hF0]; unfold cLst; rw [if_neg hn0]
  refine Met.ofW (cc := cJx4a65c_add_9ea2d) (maxL := 2) (ret := (some .boolean)) (by decide) rfl ?_
  intro p e s m args below meth c s₁ B hml hv
  obtain ⟨rfl, ⟨hz, hH, hK⟩, hC, hDD⟩ := hv
  have hx := B.exec
  have hb := B.bytes
  have hr := B.returns
  have hts := atoms_spec (ws := wsJx4a65c_add_9ea2d) B.pre
  have hown : s.vm.findClass RJx4a65c = some m.cls := findClass_of_methodNamed B.named
  have hnm : meth.name = yJx4a65c_add_9ea2d.name := (name_of_methodNamed B.named B.method).1
  have hS : va_S (wA E) s.heap s.heap [] := va_S.rf
  have hinJx4a65c : ∀ w ∈ wsJx4a65c0, w ∈ wsJx4a65c_add_9ea2d := fun w h => List.mem_cons_of_mem _ (List.mem_append_right _ h)
  have hl := lv_entry ([.ref (g tl), .ref (g te)]) (n := 2) (Nat.le_of_ble_eq_true rfl)
  rw [lg_entry_eq]
  generalize (lg_sl ([.ref (g tl), .ref (g te)]) ++ List.replicate (2 - (lg_sl ([.ref (g tl), .ref (g te)])).length) Slot.unset).toArray = ls at hl ⊢
  have hl : lv_has ls 2 [(0, .ref (g tl)), (1, .ref (g te))] := hl
  obtain ⟨H, eH⟩ : ∃ z, z = s.heap := ⟨_, rfl⟩
  have hH : wH E.1 E.2.2 g live F H := by rw [eH]; exact hH
  have hS : va_S (wA E) s.heap H [] := by rw [eH]; exact hS
  refine W.heapTo eH ?_
  refine lv_aload_n hx hb dJx4a65c_add_9ea2d_0 rfl (lv_at hl 0 rfl) ?_
  refine lv_dup hx hb dJx4a65c_add_9ea2d_1 rfl ?_
  refine wr_get (T := TJx4a65c) (N := 3) (ci := 2) (v := .int md) (t := tl) hx hb hts hinJx4a65c hown hK hH htl (fs := [.int md, .ref (g ta), .int (nI n)]) hF rfl 0 (by decide) (hts (.fieldLink RJx4a65c 63 "java/util/ArrayList" "modCount" "I") (by decide +kernel)) (fun x9 h9 => u_same (hts (.sameField "java/util/ArrayList" "java/util/AbstractList" "modCount" "I") (by decide +kernel)) x9 h9) rfl dJx4a65c_add_9ea2d_2 ?_
  refine lv_iconst (v := 1) hx hb dJx4a65c_add_9ea2d_5 (by decide) ?_
  refine lv_iadd hx hb dJx4a65c_add_9ea2d_6 ?_
  refine wr_put (T := TJx4a65c) (N := 3) (ci := 2) (v := .int (md + 1)) (t := tl) hx hb hts hinJx4a65c tyJx4a65c tyJx4a65c_ok nmJx4a65c hown hK hH hS htl (fs := [.int md, .ref (g ta), .int (nI n)]) hF rfl 0 (by decide) (hts (.fieldLink RJx4a65c 63 "java/util/ArrayList" "modCount" "I") (by decide +kernel)) (fun x9 h9 => u_same (hts (.sameField "java/util/ArrayList" "java/util/AbstractList" "modCount" "I") (by decide +kernel)) x9 h9) rfl (ty := .int) (by decide +kernel) rfl rfl (Nat.le_of_ble_eq_true rfl) dJx4a65c_add_9ea2d_7 (fun H locs hH hS => ?_)
  have hH : wH E.1 E.2.2 g live (va_up F tl (.inr (2, [.int (md + 1), .ref (g ta), .int (nI n)]))) H := hH
  refine lv_aload_n hx hb dJx4a65c_add_9ea2d_10 rfl (lv_at hl 0 rfl) ?_
  refine lv_aload_n hx hb dJx4a65c_add_9ea2d_11 rfl (lv_at hl 1 rfl) ?_
  refine lv_aload_n hx hb dJx4a65c_add_9ea2d_12 rfl (lv_at hl 0 rfl) ?_
  refine wr_get (T := TJx4a65c) (N := 3) (ci := 2) (v := .ref (g ta)) (t := tl) hx hb hts hinJx4a65c hown hK hH htl (fs := [.int (md + 1), .ref (g ta), .int (nI n)]) (va_up_self _ _ _) rfl 1 (by decide) (hts (.fieldLink RJx4a65c 9 "java/util/ArrayList" "elementData" "[Ljava/lang/Object;") (by decide +kernel)) (fun _ h => h) rfl dJx4a65c_add_9ea2d_13 ?_
  refine lv_aload_n hx hb dJx4a65c_add_9ea2d_16 rfl (lv_at hl 0 rfl) ?_
  refine wr_get (T := TJx4a65c) (N := 3) (ci := 2) (v := .int (nI n)) (t := tl) hx hb hts hinJx4a65c hown hK hH htl (fs := [.int (md + 1), .ref (g ta), .int (nI n)]) (va_up_self _ _ _) rfl 2 (by decide) (hts (.fieldLink RJx4a65c 48 "java/util/ArrayList" "size" "I") (by decide +kernel)) (fun _ h => h) rfl dJx4a65c_add_9ea2d_17 ?_
  obtain ⟨F1, eF1⟩ : ∃ z, z = va_up F tl (.inr (2, [.int (md + 1), .ref (g ta), .int (nI n)])) := ⟨_, rfl⟩
  rw [← eF1] at hH
  have hF1 : F1 tl = .inr (2, [.int (md + 1), .ref (g ta), .int (nI n)]) := by rw [eF1, va_up_self]
  have hne : tl ≠ ta := by intro q; rw [q, hFa] at hF; cases hF
  have hA1 : F1 ta = cArO E.2.1 n n f := by rw [eF1, va_up_ne _ _ (Ne.symm hne)]; exact hFa
  have hE1 : F1 te = .inr (ci, vs) := by rw [eF1, va_up_ne _ _ hel0]; exact hFe
  have hel1 : ∀ i, i < n → elO g live F1 ta (f i) ∧ elO g live F1 tl (f i) := by
    intro i hi
    obtain ⟨tv2, ci2, vs2, r2, d1, d2, d3, d4, d5, d6⟩ := hel i hi
    have q : F1 tv2 = .inr (ci2, vs2) := by rw [eF1, va_up_ne _ _ d2]; exact d4
    have q2 : tv2 ≠ ta := by intro z; rw [z, hFa] at d4; cases d4
    exact ⟨⟨tv2, ci2, vs2, r2, d1, q2, d3, q, d5, d6⟩, ⟨tv2, ci2, vs2, r2, d1, d2, d3, q, d5, d6⟩⟩
  refine va_callv (va_runV (As := [.ref (g te), .ref (g ta), .int (nI n)]) (rest := []) ⟨hx, hb, hml, hown, hts⟩ (met_add3_f l E g live F1 tl ta (md + 1) n hf te ci vs r htl hF1 hta f hA1 hn0 hf1 hfn hsh hn950 hel1 hte hel0 hE1 hci hcas) (cwV 3 hts gJx4a65c_add_9ea2d_Jx4a65c_add_72be8 rfl rfl rfl (by decide +kernel) ⟨Nat.le_of_ble_eq_true rfl, Nat.le_of_ble_eq_true rfl⟩) ⟨fun a U f mk q => ⟨q.1, wPreY.calling q.2 a f mk⟩, (va_recv hK (wH_one hH htl hF1) (ci := 2) (q0 := 0) rfl rfl), fun U hU hW => ⟨rfl, wPreY_at hz hS hH hK hC hDD U hU hW⟩⟩ rfl rfl hl.1 rfl (lv_room (Nat.le_of_ble_eq_true rfl)) dJx4a65c_add_9ea2d_20 ⟨by exact Nat.le_of_ble_eq_true rfl, by exact Nat.le_of_ble_eq_true rfl⟩) hS (fun q _ h => h) (fun q h => h) (fun u t H locs ht hvm hw hB hz1 hk1 hS => ?_)
  obtain ⟨g9, cap8, hg9, hcp, hB⟩ := hB
  subst hcp
  have hH := wG_h ht hB
  refine lv_iconst (v := 1) hx hb dJx4a65c_add_9ea2d_23 (by decide) ?_
  have hfin : wH E.1 E.2.2 g9 (fun x => live x ∨ x = ta) (va_up (va_up F ta (cArO E.2.1 (n + hf) (n + 1) (va_up f n (g te)))) tl (cLst (md + 1) (n + hf) (n + 1) E.2.1.2 (g9 ta))) H := by
    refine wH_cg hH (fun t9 h9 => ⟨h9, ?_⟩)
    by_cases q1 : t9 = tl
    · subst q1; rw [va_up_self, va_up_self]
    · rw [va_up_ne _ _ q1, va_up_ne _ _ q1]
      by_cases q2 : t9 = ta
      · subst q2; rw [va_up_self, va_up_self]
      · rw [va_up_ne _ _ q2, va_up_ne _ _ q2, eF1, va_up_ne _ _ q1]
  exact W.zret (v := 1) hx hb hr rfl (fun t ht hW => ⟨⟨1, (), rfl, rfl, g9, hg9, wG_t ht hfin⟩, hS.F ht⟩) hS.2.2 dJx4a65c_add_9ea2d_24
/-- what a list is like before a thing is added: empty, with room, or full -/
def AddC (E : wE) (g : Nat → Nat) (live : Nat → Prop) (F : Nat → va_E) (tl ta cap n cap9 : Nat) (f : Nat → Nat) : Prop :=
  (cap = 0 ∧ n = 0 ∧ ¬ live ta ∧ ta < 1000 ∧ cap9 = 10) ∨ (live ta ∧ F ta = cArO E.2.1 cap n f ∧ n < cap ∧ cap < 2 ^ 30 ∧ cap9 = cap) ∨ (∃ hf : Nat, live ta ∧ F ta = cArO E.2.1 n n f ∧ cap = n ∧ n ≠ 0 ∧ 1 ≤ hf ∧ n + hf ≤ 100 ∧ nI n >>> (1 &&& 31) = nI hf ∧ ¬ live 950 ∧ (∀ i, i < n → elO g live F tl (f i)) ∧ cap9 = n + hf)
theorem met_add (l : Launch) (E : wE) (g : Nat → Nat) (live : Nat → Prop) (F : Nat → va_E) (tl ta : Nat) (md : Int32) (cap n cap9 : Nat) (f : Nat → Nat) (te ci : Nat) (vs : List Value) (r : vw_C) (htl : live tl) (hF0 : F tl = cLst md cap n E.2.1.2 (g ta)) (hcs : AddC E g live F tl ta cap n cap9 f) (hte : live te) (hel0 : te ≠ tl) (hFe : F te = .inr (ci, vs)) (hci : vwCl[ci]? = some r) (hcas : (r.1, "java/lang/Object") ∈ wCas) : Met l yJx4a65c_add_9ea2d wsJx4a65c_add_9ea2d ({ frames := 8, cells := 1, slots := 100, locals := 900 } : Room) (va_Pc [.ref (g tl), .ref (g te)] (wPreY E g live F)) (va_Qi (fun (x9 : Int32) (_ : Unit) => x9 = 1) (fun (_ : Unit) t => ∃ (g9 : Nat → Nat), (∀ t9, t9 ≠ ta → g9 t9 = g t9) ∧ wH E.1 E.2.2 g9 (fun x => live x ∨ x = ta) (va_up (va_up F ta (cArO E.2.1 cap9 (n + 1) (va_up f n (g te)))) tl (cLst (md + 1) cap9 (n + 1) E.2.1.2 (g9 ta))) t.heap) (wA E)) 1 100 (wA E) := by
  rcases hcs with ⟨a1, a2, a3, a4, a5⟩ | ⟨a1, a2, a3, a4, a5⟩ | ⟨hf, a1, a2, a3, a4, a5, a6, a7, a8, a9, a10⟩
  · exact met_add_e l E g live F tl ta md cap n cap9 f te ci vs r htl hF0 a1 a2 a3 a4 a5 hte hel0 hFe hci hcas
  · exact met_add_r l E g live F tl ta md cap n cap9 f te ci vs r htl hF0 a1 a2 a3 a4 a5 hte hel0 hFe hci hcas
  · exact met_add_f l E g live F tl ta md cap n cap9 f te ci vs r htl hF0 hf a1 a2 a3 a4 a5 a6 a7 a8 a9 a10 hte hel0 hFe hci hcas
