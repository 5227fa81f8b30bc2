set_option maxHeartbeats 4000000 in
set_option maxRecDepth 100000 in
theorem met_fastRemove_1 (l : Launch) (E : wE) (g : Nat → Nat) (live : Nat → Prop) (F : Nat → va_E) (tl ta : Nat) (md : Int32) (cap : Nat) (htl : live tl) (hF : F tl = .inr (2, [.int md, .ref (g ta), .int (nI 1)])) (hta : live ta) (f : Nat → Nat) (hFa : F ta = cArO E.2.1 cap 1 f) (hnc : 1 ≤ cap) (hb31 : cap < 2 ^ 30) : Met l yJx4a65c_fastRemove_b59b0 wsJx4a65c_fastRemove_b59b0 ({ frames := 2, cells := 0, slots := 0, locals := 200 } : Room) (va_Pc [.ref (g tl), .ref (g ta), .int 0] (wPreY E g live F)) (va_Qv (fun (_ : Unit) => True) (fun (_ : Unit) t => wH E.1 E.2.2 g live (va_up (va_up F ta (cArO E.2.1 cap 0 (fun i => f (i + 1)))) tl (.inr (2, [.int (md + 1), .ref (g ta), .int (nI 0)]))) t.heap) (wA E)) 0 0 (wA E) := by
  refine Met.ofW (cc := cJx4a65c_fastRemove_b59b0) (maxL := 4) (ret := none) (by decide) rfl ?_
  intro p e s m args below meth c s₁ B hml hv
  obtain ⟨rfl, ⟨hz, hH, hK⟩, hC, hDD⟩ := hv
  have hx := B.exec
  have hb := B.bytes
  have hr := B.returns
  have hts := atoms_spec (ws := wsJx4a65c_fastRemove_b59b0) B.pre
  have hown : s.vm.findClass RJx4a65c = some m.cls := findClass_of_methodNamed B.named
  have hnm : meth.name = yJx4a65c_fastRemove_b59b0.name := (name_of_methodNamed B.named B.method).1
  have hS : va_S (wA E) s.heap s.heap [] := va_S.rf
  have hinJx4a65c : ∀ w ∈ wsJx4a65c0, w ∈ wsJx4a65c_fastRemove_b59b0 := fun w h => List.mem_cons_of_mem _ (List.mem_append_right _ h)
  have hl := lv_entry ([.ref (g tl), .ref (g ta), .int 0]) (n := 4) (Nat.le_of_ble_eq_true rfl)
  rw [lg_entry_eq]
  generalize (lg_sl ([.ref (g tl), .ref (g ta), .int 0]) ++ List.replicate (4 - (lg_sl ([.ref (g tl), .ref (g ta), .int 0])).length) Slot.unset).toArray = ls at hl ⊢
  have hl : lv_has ls 4 [(0, .ref (g tl)), (1, .ref (g ta)), (2, .int 0)] := hl
  obtain ⟨H, eH⟩ : ∃ z, z = s.heap := ⟨_, rfl⟩
  have hH : wH E.1 E.2.2 g live F H := by rw [eH]; exact hH
  have hS : va_S (wA E) s.heap H [] := by rw [eH]; exact hS
  refine W.heapTo eH ?_
  refine lv_aload_n hx hb dJx4a65c_fastRemove_b59b0_0 rfl (lv_at hl 0 rfl) ?_
  refine lv_dup hx hb dJx4a65c_fastRemove_b59b0_1 rfl ?_
  refine wr_get (T := TJx4a65c) (N := 3) (ci := 2) (v := .int md) (t := tl) hx hb hts hinJx4a65c hown hK hH htl (fs := [.int md, .ref (g ta), .int (nI 1)]) hF rfl 0 (by decide) (hts (.fieldLink RJx4a65c 63 "java/util/ArrayList" "modCount" "I") (by decide +kernel)) (fun x9 h9 => u_same (hts (.sameField "java/util/ArrayList" "java/util/AbstractList" "modCount" "I") (by decide +kernel)) x9 h9) rfl dJx4a65c_fastRemove_b59b0_2 ?_
  refine lv_iconst (v := 1) hx hb dJx4a65c_fastRemove_b59b0_5 (by decide) ?_
  refine lv_iadd hx hb dJx4a65c_fastRemove_b59b0_6 ?_
  refine wr_put (T := TJx4a65c) (N := 3) (ci := 2) (v := .int (md + 1)) (t := tl) hx hb hts hinJx4a65c tyJx4a65c tyJx4a65c_ok nmJx4a65c hown hK hH hS htl (fs := [.int md, .ref (g ta), .int (nI 1)]) hF rfl 0 (by decide) (hts (.fieldLink RJx4a65c 63 "java/util/ArrayList" "modCount" "I") (by decide +kernel)) (fun x9 h9 => u_same (hts (.sameField "java/util/ArrayList" "java/util/AbstractList" "modCount" "I") (by decide +kernel)) x9 h9) rfl (ty := .int) (by decide +kernel) rfl rfl (Nat.le_of_ble_eq_true rfl) dJx4a65c_fastRemove_b59b0_7 (fun H locs hH hS => ?_)
  have hH : wH E.1 E.2.2 g live (va_up F tl (.inr (2, [.int (md + 1), .ref (g ta), .int (nI 1)]))) H := hH
  refine lv_aload_n hx hb dJx4a65c_fastRemove_b59b0_10 rfl (lv_at hl 0 rfl) ?_
  refine wr_get (T := TJx4a65c) (N := 3) (ci := 2) (v := .int (nI 1)) (t := tl) hx hb hts hinJx4a65c hown hK hH htl (fs := [.int (md + 1), .ref (g ta), .int (nI 1)]) (va_up_self _ _ _) rfl 2 (by decide) (hts (.fieldLink RJx4a65c 48 "java/util/ArrayList" "size" "I") (by decide +kernel)) (fun _ h => h) rfl dJx4a65c_fastRemove_b59b0_11 ?_
  refine lv_iconst (v := 1) hx hb dJx4a65c_fastRemove_b59b0_14 (by decide) ?_
  refine lv_isub hx hb dJx4a65c_fastRemove_b59b0_15 ?_
  refine lv_tope (show nI 1 - 1 = nI 0 from rfl) ?_
  refine lv_dup hx hb dJx4a65c_fastRemove_b59b0_16 rfl ?_
  refine lv_istore_n (lv' := [(3, .int (nI 0)), (0, .ref (g tl)), (1, .ref (g ta)), (2, .int 0)]) hx hb dJx4a65c_fastRemove_b59b0_17 rfl hl (by decide) rfl (fun ls hl => ?_)
  refine lv_iload_n hx hb dJx4a65c_fastRemove_b59b0_18 rfl (lv_at hl 3 rfl) ?_
  refine lv_icmp_le (tgt := 34) hx hb dJx4a65c_fastRemove_b59b0_19 (by decide) (fun _ => ?_) (fun hq => absurd ((nz_le (by omega)).mpr (rfl : (0 : Nat) = 0)) hq)
  refine lv_aload_n hx hb dJx4a65c_fastRemove_b59b0_34 rfl (lv_at hl 2 rfl) ?_
  refine lv_aload_n hx hb dJx4a65c_fastRemove_b59b0_35 rfl (lv_at hl 1 rfl) ?_
  refine lv_iload_n hx hb dJx4a65c_fastRemove_b59b0_36 rfl (lv_at hl 0 rfl) ?_
  refine lv_dup_x1 hx hb dJx4a65c_fastRemove_b59b0_37 rfl rfl ?_
  refine wr_put (T := TJx4a65c) (N := 3) (ci := 2) (v := .int (nI 0)) (t := tl) hx hb hts hinJx4a65c tyJx4a65c tyJx4a65c_ok nmJx4a65c hown hK hH hS htl (fs := [.int (md + 1), .ref (g ta), .int (nI 1)]) (va_up_self _ _ _) rfl 2 (by decide) (hts (.fieldLink RJx4a65c 48 "java/util/ArrayList" "size" "I") (by decide +kernel)) (fun _ h => h) rfl (ty := .int) (by decide +kernel) rfl rfl (Nat.le_of_ble_eq_true rfl) dJx4a65c_fastRemove_b59b0_38 (fun H locs hH hS => ?_)
  obtain ⟨F2, eF2⟩ : ∃ z, z = va_up F ta (.inl (E.2.1.1 3, cap, .inr (.inr (.inr (.inr (fun i => if i < 1 then some (f i) else none)))))) := ⟨_, rfl⟩
  have hH : wH E.1 E.2.2 g live (va_up F2 tl (.inr (2, [.int (md + 1), .ref (g ta), .int (nI 0)]))) H := by
    refine wH_cg hH (fun t9 h9 => ⟨h9, ?_⟩)
    by_cases q1 : t9 = tl
    · subst q1; rw [va_up_self, va_up_self]; rfl
    · rw [va_up_ne _ _ q1, va_up_ne _ _ q1, eF2]
      by_cases q2 : t9 = ta
      · subst q2; rw [va_up_self, va_up_ne _ _ q1]; exact hFa.symm
      · rw [va_up_ne _ _ q2, va_up_ne _ _ q1]
  refine lv_null hx hb dJx4a65c_fastRemove_b59b0_41 ?_
  have hne2 : ta ≠ tl := by intro q; rw [← q, hFa] at hF; cases hF
  refine wr_astqN (t := ta) hx hb hK hH hS hta ((va_up_ne _ _ hne2).trans (by rw [eF2, va_up_self])) 3 rfl (vp_in_nI (n := 0) (N := cap) (by omega) (by omega)) dJx4a65c_fastRemove_b59b0_42 (fun H locs hH hS => ?_)
  rw [cut_eq0] at hH
  have hfin : wH E.1 E.2.2 g live (va_up (va_up F ta (cArO E.2.1 cap 0 (fun i => f (i + 1)))) tl (.inr (2, [.int (md + 1), .ref (g ta), .int (nI 0)]))) H := by
    refine wH_cg hH (fun t9 h9 => ⟨h9, ?_⟩)
    by_cases q1 : t9 = tl
    · subst q1; rw [va_up_self, va_up_ne _ _ (Ne.symm hne2), va_up_self]
    · rw [va_up_ne _ _ q1]
      by_cases q2 : t9 = ta
      · subst q2; rw [va_up_self, va_up_self]; rfl
      · rw [va_up_ne _ _ q2, va_up_ne _ _ q2, va_up_ne _ _ q1, eF2, va_up_ne _ _ q2]
  exact W.vret hx hb hr (fun t ht hW => ⟨⟨(), rfl, trivial, wG_t ht hfin⟩, hS.F ht⟩) hS.2.2 dJx4a65c_fastRemove_b59b0_43
set_option maxHeartbeats 4000000 in
set_option maxRecDepth 100000 in
theorem met_fastRemove_m (l : Launch) (E : wE) (g : Nat → Nat) (live : Nat → Prop) (F : Nat → va_E) (tl ta : Nat) (md : Int32) (cap n : Nat) (htl : live tl) (hF : F tl = .inr (2, [.int md, .ref (g ta), .int (nI (n + 1))])) (hta : live ta) (f : Nat → Nat) (hFa : F ta = cArO E.2.1 cap (n + 1) f) (hnc : (n + 1) ≤ cap) (hb31 : cap < 2 ^ 30) (hn0 : n ≠ 0) (hel : ∀ i, i < n + 1 → elO g live F tl (f i)) : Met l yJx4a65c_fastRemove_b59b0 wsJx4a65c_fastRemove_b59b0 ({ frames := 2, cells := 0, slots := 0, locals := 200 } : Room) (va_Pc [.ref (g tl), .ref (g ta), .int 0] (wPreY E g live F)) (va_Qv (fun (_ : Unit) => True) (fun (_ : Unit) t => wH E.1 E.2.2 g live (va_up (va_up F ta (cArO E.2.1 cap n (fun i => f (i + 1)))) tl (.inr (2, [.int (md + 1), .ref (g ta), .int (nI n)]))) t.heap) (wA E)) 0 0 (wA E) := by
  refine Met.ofW (cc := cJx4a65c_fastRemove_b59b0) (maxL := 4) (ret := none) (by decide) rfl ?_
  intro p e s m args below meth c s₁ B hml hv
  obtain ⟨rfl, ⟨hz, hH, hK⟩, hC, hDD⟩ := hv
  have hx := B.exec
  have hb := B.bytes
  have hr := B.returns
  have hts := atoms_spec (ws := wsJx4a65c_fastRemove_b59b0) B.pre
  have hown : s.vm.findClass RJx4a65c = some m.cls := findClass_of_methodNamed B.named
  have hnm : meth.name = yJx4a65c_fastRemove_b59b0.name := (name_of_methodNamed B.named B.method).1
  have hS : va_S (wA E) s.heap s.heap [] := va_S.rf
  have hinJx4a65c : ∀ w ∈ wsJx4a65c0, w ∈ wsJx4a65c_fastRemove_b59b0 := fun w h => List.mem_cons_of_mem _ (List.mem_append_right _ h)
  have hl := lv_entry ([.ref (g tl), .ref (g ta), .int 0]) (n := 4) (Nat.le_of_ble_eq_true rfl)
  rw [lg_entry_eq]
  generalize (lg_sl ([.ref (g tl), .ref (g ta), .int 0]) ++ List.replicate (4 - (lg_sl ([.ref (g tl), .ref (g ta), .int 0])).length) Slot.unset).toArray = ls at hl ⊢
  have hl : lv_has ls 4 [(0, .ref (g tl)), (1, .ref (g ta)), (2, .int 0)] := hl
  obtain ⟨H, eH⟩ : ∃ z, z = s.heap := ⟨_, rfl⟩
  have hH : wH E.1 E.2.2 g live F H := by rw [eH]; exact hH
  have hS : va_S (wA E) s.heap H [] := by rw [eH]; exact hS
  refine W.heapTo eH ?_
  refine lv_aload_n hx hb dJx4a65c_fastRemove_b59b0_0 rfl (lv_at hl 0 rfl) ?_
  refine lv_dup hx hb dJx4a65c_fastRemove_b59b0_1 rfl ?_
  refine wr_get (T := TJx4a65c) (N := 3) (ci := 2) (v := .int md) (t := tl) hx hb hts hinJx4a65c hown hK hH htl (fs := [.int md, .ref (g ta), .int (nI (n + 1))]) hF rfl 0 (by decide) (hts (.fieldLink RJx4a65c 63 "java/util/ArrayList" "modCount" "I") (by decide +kernel)) (fun x9 h9 => u_same (hts (.sameField "java/util/ArrayList" "java/util/AbstractList" "modCount" "I") (by decide +kernel)) x9 h9) rfl dJx4a65c_fastRemove_b59b0_2 ?_
  refine lv_iconst (v := 1) hx hb dJx4a65c_fastRemove_b59b0_5 (by decide) ?_
  refine lv_iadd hx hb dJx4a65c_fastRemove_b59b0_6 ?_
  refine wr_put (T := TJx4a65c) (N := 3) (ci := 2) (v := .int (md + 1)) (t := tl) hx hb hts hinJx4a65c tyJx4a65c tyJx4a65c_ok nmJx4a65c hown hK hH hS htl (fs := [.int md, .ref (g ta), .int (nI (n + 1))]) hF rfl 0 (by decide) (hts (.fieldLink RJx4a65c 63 "java/util/ArrayList" "modCount" "I") (by decide +kernel)) (fun x9 h9 => u_same (hts (.sameField "java/util/ArrayList" "java/util/AbstractList" "modCount" "I") (by decide +kernel)) x9 h9) rfl (ty := .int) (by decide +kernel) rfl rfl (Nat.le_of_ble_eq_true rfl) dJx4a65c_fastRemove_b59b0_7 (fun H locs hH hS => ?_)
  have hH : wH E.1 E.2.2 g live (va_up F tl (.inr (2, [.int (md + 1), .ref (g ta), .int (nI (n + 1))]))) H := hH
  refine lv_aload_n hx hb dJx4a65c_fastRemove_b59b0_10 rfl (lv_at hl 0 rfl) ?_
  refine wr_get (T := TJx4a65c) (N := 3) (ci := 2) (v := .int (nI (n + 1))) (t := tl) hx hb hts hinJx4a65c hown hK hH htl (fs := [.int (md + 1), .ref (g ta), .int (nI (n + 1))]) (va_up_self _ _ _) rfl 2 (by decide) (hts (.fieldLink RJx4a65c 48 "java/util/ArrayList" "size" "I") (by decide +kernel)) (fun _ h => h) rfl dJx4a65c_fastRemove_b59b0_11 ?_
  refine lv_iconst (v := 1) hx hb dJx4a65c_fastRemove_b59b0_14 (by decide) ?_
  refine lv_isub hx hb dJx4a65c_fastRemove_b59b0_15 ?_
  refine lv_tope (show nI (n + 1) - 1 = nI (n + 1 - 1) by rw [show (1 : Int32) = nI 1 from rfl, pk_sub (by omega)]) ?_
  refine lv_tope (show nI (n + 1 - 1) = nI n by rw [Nat.add_sub_cancel]) ?_
  refine lv_dup hx hb dJx4a65c_fastRemove_b59b0_16 rfl ?_
  refine lv_istore_n (lv' := [(3, .int (nI n)), (0, .ref (g tl)), (1, .ref (g ta)), (2, .int 0)]) hx hb dJx4a65c_fastRemove_b59b0_17 rfl hl (by decide) rfl (fun ls hl => ?_)
  refine lv_iload_n hx hb dJx4a65c_fastRemove_b59b0_18 rfl (lv_at hl 3 rfl) ?_
  refine lv_icmp_le (tgt := 34) hx hb dJx4a65c_fastRemove_b59b0_19 (by decide) (fun hq => absurd ((nz_le (by omega)).mp hq) (show ¬ n = 0 by omega)) (fun _ => ?_)
  refine lv_aload_n hx hb dJx4a65c_fastRemove_b59b0_22 rfl (lv_at hl 2 rfl) ?_
  refine lv_iload_n hx hb dJx4a65c_fastRemove_b59b0_23 rfl (lv_at hl 3 rfl) ?_
  refine lv_iconst (v := 1) hx hb dJx4a65c_fastRemove_b59b0_24 (by decide) ?_
  refine lv_iadd hx hb dJx4a65c_fastRemove_b59b0_25 ?_
  refine lv_aload_n hx hb dJx4a65c_fastRemove_b59b0_26 rfl (lv_at hl 2 rfl) ?_
  refine lv_iload_n hx hb dJx4a65c_fastRemove_b59b0_27 rfl (lv_at hl 3 rfl) ?_
  refine lv_iload_n hx hb dJx4a65c_fastRemove_b59b0_28 rfl (lv_at hl 0 rfl) ?_
  refine lv_iload_n hx hb dJx4a65c_fastRemove_b59b0_29 rfl (lv_at hl 3 rfl) ?_
  refine lv_isub hx hb dJx4a65c_fastRemove_b59b0_30 ?_
  refine lv_tope (show nI n - 0 = nI n from Int32.sub_zero _) ?_
  have hne : tl ≠ ta := by intro q; rw [q, hFa] at hF; cases hF
  have hA1 : va_up F tl (.inr (2, [.int (md + 1), .ref (g ta), .int (nI (n + 1))])) ta = cArO E.2.1 cap (n + 1) f := (va_up_ne _ _ (Ne.symm hne)).trans hFa
  refine wr_copyM (ta := ta) (tb := ta) hx hb (hml.trans hl.1.symm) hown (hts (.methodLink RJx4a65c 112 arraycopyName) (by decide +kernel)) (hts (.native arraycopyName) (by decide +kernel)) (hts (.static arraycopyName) (by decide +kernel)) (hts (.initialized "java/lang/System") (by decide +kernel)) hK hH hS hta hta 3 3 hA1 hA1 rfl rfl (by decide) (by decide) (nI_pos (by omega)) (by rw [nI_clamp (by omega)]; show 1 + n ≤ cap; omega) (by rw [nI_clamp (by omega)]; show 0 + n ≤ cap; omega) ?_ (Nat.le_of_ble_eq_true rfl) (Nat.le_of_ble_eq_true rfl) dJx4a65c_fastRemove_b59b0_31 (fun H locs hH hS => ?_)
  · intro i hi y hy
    rw [nI_clamp (by omega)] at hi
    have hy : (if 1 + i < n + 1 then some (f (1 + i)) else none) = some y := hy
    rw [if_pos (by omega)] at hy
    obtain ⟨tv, ci, vs, r, e1, e2, e3, e4, e5, e6⟩ := hel (1 + i) (by omega)
    rw [← Option.some.inj hy, e3]
    exact wr_any hK hH e1 ((va_up_ne _ _ e2).trans e4) e5 (hC.2.2.2.1 (r.1, "java/lang/Object") e6)
  refine lv_aload_n hx hb dJx4a65c_fastRemove_b59b0_34 rfl (lv_at hl 2 rfl) ?_
  refine lv_aload_n hx hb dJx4a65c_fastRemove_b59b0_35 rfl (lv_at hl 1 rfl) ?_
  refine lv_iload_n hx hb dJx4a65c_fastRemove_b59b0_36 rfl (lv_at hl 0 rfl) ?_
  refine lv_dup_x1 hx hb dJx4a65c_fastRemove_b59b0_37 rfl rfl ?_
  refine wr_put (T := TJx4a65c) (N := 3) (ci := 2) (v := .int (nI n)) (t := tl) hx hb hts hinJx4a65c tyJx4a65c tyJx4a65c_ok nmJx4a65c hown hK hH hS htl (fs := [.int (md + 1), .ref (g ta), .int (nI (n + 1))]) ((va_up_ne _ _ hne).trans (va_up_self _ _ _)) rfl 2 (by decide) (hts (.fieldLink RJx4a65c 48 "java/util/ArrayList" "size" "I") (by decide +kernel)) (fun _ h => h) rfl (ty := .int) (by decide +kernel) rfl rfl (Nat.le_of_ble_eq_true rfl) dJx4a65c_fastRemove_b59b0_38 (fun H locs hH hS => ?_)
  obtain ⟨F2, eF2⟩ : ∃ z, z = va_up F ta (.inl (E.2.1.1 3, cap, .inr (.inr (.inr (.inr (va_cpy (fun i => if i < n + 1 then some (f i) else none) (fun i => if i < n + 1 then some (f i) else none) (1 : Int32).toNatClampNeg (0 : Int32).toNatClampNeg (nI n).toNatClampNeg)))))) := ⟨_, rfl⟩
  have hH : wH E.1 E.2.2 g live (va_up F2 tl (.inr (2, [.int (md + 1), .ref (g ta), .int (nI n)]))) H := by
    refine wH_cg hH (fun t9 h9 => ⟨h9, ?_⟩)
    by_cases q1 : t9 = tl
    · subst q1; rw [va_up_self, va_up_self]; rfl
    · rw [va_up_ne _ _ q1, va_up_ne _ _ q1, eF2]
      by_cases q2 : t9 = ta
      · subst q2; rw [va_up_self, va_up_self]; first | done | rfl
      · rw [va_up_ne _ _ q2, va_up_ne _ _ q2, va_up_ne _ _ q1]
  refine lv_null hx hb dJx4a65c_fastRemove_b59b0_41 ?_
  have hne2 : ta ≠ tl := by intro q; rw [← q, hFa] at hF; cases hF
  refine wr_astqN (t := ta) hx hb hK hH hS hta ((va_up_ne _ _ hne2).trans (by rw [eF2, va_up_self])) 3 rfl (vp_in_nI (n := n) (N := cap) (by omega) (by omega)) dJx4a65c_fastRemove_b59b0_42 (fun H locs hH hS => ?_)
  rw [cut_eq (by omega)] at hH
  have hfin : wH E.1 E.2.2 g live (va_up (va_up F ta (cArO E.2.1 cap n (fun i => f (i + 1)))) tl (.inr (2, [.int (md + 1), .ref (g ta), .int (nI n)]))) H := by
    refine wH_cg hH (fun t9 h9 => ⟨h9, ?_⟩)
    by_cases q1 : t9 = tl
    · subst q1; rw [va_up_self, va_up_ne _ _ (Ne.symm hne2), va_up_self]
    · rw [va_up_ne _ _ q1]
      by_cases q2 : t9 = ta
      · subst q2; rw [va_up_self, va_up_self]; rfl
      · rw [va_up_ne _ _ q2, va_up_ne _ _ q2, va_up_ne _ _ q1, eF2, va_up_ne _ _ q2]
  exact W.vret hx hb hr (fun t ht hW => ⟨⟨(), rfl, trivial, wG_t ht hfin⟩, hS.F ht⟩) hS.2.2 dJx4a65c_fastRemove_b59b0_43
set_option maxHeartbeats 4000000 in
set_option maxRecDepth 100000 in
theorem met_remove0 (l : Launch) (E : wE) (g : Nat → Nat) (live : Nat → Prop) (F : Nat → va_E) (tl ta : Nat) (md : Int32) (cap n : Nat) (htl : live tl) (hF : F tl = .inr (2, [.int md, .ref (g ta), .int (nI (n + 1))])) (hta : live ta) (f : Nat → Nat) (hFa : F ta = cArO E.2.1 cap (n + 1) f) (hnc : n + 1 ≤ cap) (hb31 : cap < 2 ^ 30) (hel : ∀ i, i < n + 1 → elO g live F tl (f i)) : Met l yJx4a65c_remove_915e3 wsJx4a65c_remove_915e3 ({ frames := 4, cells := 0, slots := 0, locals := 400 } : Room) (va_Pc [.ref (g tl), .int 0] (wPreY E g live F)) (va_Qr (fun (_ : Unit) => True) (fun (_ : Unit) ra t => ra = f 0 ∧ wH E.1 E.2.2 g live (va_up (va_up F ta (cArO E.2.1 cap n (fun i => f (i + 1)))) tl (.inr (2, [.int (md + 1), .ref (g ta), .int (nI n)]))) t.heap) (wA E)) 0 0 (wA E) := by
  refine Met.ofW (cc := cJx4a65c_remove_915e3) (maxL := 4) (ret := (some (.object "java/lang/Object"))) (by decide) rfl ?_
  intro p e s m args below meth c s₁ B hml hv
  obtain ⟨rfl, ⟨hz, hH, hK⟩, hC, hDD⟩ := hv
  have hx := B.exec
  have hb := B.bytes
  have hr := B.returns
  have hts := atoms_spec (ws := wsJx4a65c_remove_915e3) B.pre
  have hown : s.vm.findClass RJx4a65c = some m.cls := findClass_of_methodNamed B.named
  have hnm : meth.name = yJx4a65c_remove_915e3.name := (name_of_methodNamed B.named B.method).1
  have hS : va_S (wA E) s.heap s.heap [] := va_S.rf
  have hinJx4a65c : ∀ w ∈ wsJx4a65c0, w ∈ wsJx4a65c_remove_915e3 := fun w h => List.mem_cons_of_mem _ (List.mem_append_right _ h)
  have hl := lv_entry ([.ref (g tl), .int 0]) (n := 4) (Nat.le_of_ble_eq_true rfl)
  rw [lg_entry_eq]
  generalize (lg_sl ([.ref (g tl), .int 0]) ++ List.replicate (4 - (lg_sl ([.ref (g tl), .int 0])).length) Slot.unset).toArray = ls at hl ⊢
  have hl : lv_has ls 4 [(0, .ref (g tl)), (1, .int 0)] := hl
  obtain ⟨H, eH⟩ : ∃ z, z = s.heap := ⟨_, rfl⟩
  have hH : wH E.1 E.2.2 g live F H := by rw [eH]; exact hH
  have hS : va_S (wA E) s.heap H [] := by rw [eH]; exact hS
  refine W.heapTo eH ?_
  refine lv_iload_n hx hb dJx4a65c_remove_915e3_0 rfl (lv_at hl 1 rfl) ?_
  refine lv_aload_n hx hb dJx4a65c_remove_915e3_1 rfl (lv_at hl 0 rfl) ?_
  refine wr_get (T := TJx4a65c) (N := 3) (ci := 2) (v := .int (nI (n + 1))) (t := tl) hx hb hts hinJx4a65c hown hK hH htl (fs := [.int md, .ref (g ta), .int (nI (n + 1))]) hF rfl 2 (by decide) (hts (.fieldLink RJx4a65c 48 "java/util/ArrayList" "size" "I") (by decide +kernel)) (fun _ h => h) rfl dJx4a65c_remove_915e3_2 ?_
  refine va_calli (va_runS (As := [.int 0, .int (nI (n + 1))]) (rest := []) ⟨hx, hb, hml, hown, hts⟩ (met_J15_checkIndex l E g live F 0 (n + 1) (by omega) (by omega)) (va_cwS 2 hts gJx4a65c_remove_915e3_J15_checkIndex_7cf53 rfl rfl rfl (by decide +kernel) ⟨Nat.le_of_ble_eq_true rfl, Nat.le_of_ble_eq_true rfl⟩) ⟨fun a U f mk q => ⟨q.1, wPreG.calling q.2 a f mk⟩, fun U hU hW => ⟨rfl, wPreG_at hz hS hH hK U hU hW⟩⟩ rfl rfl hl.1 rfl (lv_room (Nat.le_of_ble_eq_true rfl)) dJx4a65c_remove_915e3_5 ⟨by exact Nat.le_of_ble_eq_true rfl, by exact Nat.le_of_ble_eq_true rfl⟩) hS (fun q _ h => h) (fun q h => h) (fun r u t H locs ht hvm hw hB hz1 hk1 hS => ?_)
  obtain rfl := hw
  have hH := wG_h ht hB
  refine lv_pop hx hb dJx4a65c_remove_915e3_8 rfl ?_
  refine lv_aload_n hx hb dJx4a65c_remove_915e3_9 rfl (lv_at hl 0 rfl) ?_
  refine wr_get (T := TJx4a65c) (N := 3) (ci := 2) (v := .ref (g ta)) (t := tl) hx hb hts hinJx4a65c hown hK hH htl (fs := [.int md, .ref (g ta), .int (nI (n + 1))]) hF rfl 1 (by decide) (hts (.fieldLink RJx4a65c 9 "java/util/ArrayList" "elementData" "[Ljava/lang/Object;") (by decide +kernel)) (fun _ h => h) rfl dJx4a65c_remove_915e3_10 ?_
  refine lv_astore_n (lv' := [(2, .ref (g ta)), (0, .ref (g tl)), (1, .int 0)]) hx hb dJx4a65c_remove_915e3_13 rfl hl (by decide) rfl (fun ls hl => ?_)
  refine lv_aload_n hx hb dJx4a65c_remove_915e3_14 rfl (lv_at hl 0 rfl) ?_
  refine lv_iload_n hx hb dJx4a65c_remove_915e3_15 rfl (lv_at hl 2 rfl) ?_
  refine wr_aldq (v := .ref (f 0)) (t := ta) hx hb hK hH hta hFa 3 rfl (vp_in_nI (n := 0) (N := cap) (by omega) (by omega)) (by show va_rf (if 0 < n + 1 then some (f 0) else none) = _; rw [if_pos (by omega)]; rfl) dJx4a65c_remove_915e3_16 ?_
  refine lv_astore_n (lv' := [(3, .ref (f 0)), (2, .ref (g ta)), (0, .ref (g tl)), (1, .int 0)]) hx hb dJx4a65c_remove_915e3_17 rfl hl (by decide) rfl (fun ls hl => ?_)
  refine lv_aload_n hx hb dJx4a65c_remove_915e3_18 rfl (lv_at hl 2 rfl) ?_
  refine lv_aload_n hx hb dJx4a65c_remove_915e3_19 rfl (lv_at hl 1 rfl) ?_
  refine lv_iload_n hx hb dJx4a65c_remove_915e3_20 rfl (lv_at hl 3 rfl) ?_
  by_cases h0 : n = 0
  · subst h0
    refine va_callv (va_runV (As := [.ref (g ta), .int 0]) (rest := []) ⟨hx, hb, hml, hown, hts⟩ (met_fastRemove_1 l E g live F tl ta md cap htl hF hta f hFa hnc hb31) (cwV 2 hts gJx4a65c_remove_915e3_Jx4a65c_fastRemove_b59b0 rfl rfl rfl (by decide +kernel) ⟨Nat.le_of_ble_eq_true rfl, Nat.le_of_ble_eq_true rfl⟩) ⟨fun a U f mk q => ⟨q.1, wPreY.calling q.2 a f mk⟩, (va_recv hK (wH_one hH htl hF) (ci := 2) (q0 := 0) rfl rfl), fun U hU hW => ⟨rfl, wPreY_at hz hS hH hK hC hDD U hU hW⟩⟩ rfl rfl hl.1 rfl (lv_room (Nat.le_of_ble_eq_true rfl)) dJx4a65c_remove_915e3_21 ⟨by exact Nat.le_of_ble_eq_true rfl, by exact Nat.le_of_ble_eq_true rfl⟩) hS (fun q _ h => h) (fun q h => h) (fun u t H locs ht hvm hw hB hz1 hk1 hS => ?_)
    have hH := wG_h ht hB
    refine lv_aload_n hx hb dJx4a65c_remove_915e3_24 rfl (lv_at hl 0 rfl) ?_
    exact W.aret (v := .ref (f 0)) hx hb hr (Or.inl ⟨_, rfl⟩) (Or.inr ⟨_, rfl⟩) (fun t ht hW => ⟨⟨(), f 0, rfl, trivial, rfl, wG_t ht hH⟩, hS.F ht⟩) hS.2.2 dJx4a65c_remove_915e3_25
  · skip
    refine va_callv (va_runV (As := [.ref (g ta), .int 0]) (rest := []) ⟨hx, hb, hml, hown, hts⟩ (met_fastRemove_m l E g live F tl ta md cap n htl hF hta f hFa hnc hb31 h0 hel) (cwV 2 hts gJx4a65c_remove_915e3_Jx4a65c_fastRemove_b59b0 rfl rfl rfl (by decide +kernel) ⟨Nat.le_of_ble_eq_true rfl, Nat.le_of_ble_eq_true rfl⟩) ⟨fun a U f mk q => ⟨q.1, wPreY.calling q.2 a f mk⟩, (va_recv hK (wH_one hH htl hF) (ci := 2) (q0 := 0) rfl rfl), fun U hU hW => ⟨rfl, wPreY_at hz hS hH hK hC hDD U hU hW⟩⟩ rfl rfl hl.1 rfl (lv_room (Nat.le_of_ble_eq_true rfl)) dJx4a65c_remove_915e3_21 ⟨by exact Nat.le_of_ble_eq_true rfl, by exact Nat.le_of_ble_eq_true rfl⟩) hS (fun q _ h => h) (fun q h => h) (fun u t H locs ht hvm hw hB hz1 hk1 hS => ?_)
    have hH := wG_h ht hB
    refine lv_aload_n hx hb dJx4a65c_remove_915e3_24 rfl (lv_at hl 0 rfl) ?_
    exact W.aret (v := .ref (f 0)) hx hb hr (Or.inl ⟨_, rfl⟩) (Or.inr ⟨_, rfl⟩) (fun t ht hW => ⟨⟨(), f 0, rfl, trivial, rfl, wG_t ht hH⟩, hS.F ht⟩) hS.2.2 dJx4a65c_remove_915e3_25
