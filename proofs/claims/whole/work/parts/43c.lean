set_option maxHeartbeats 4000000 in
set_option maxRecDepth 100000 in
theorem met_copyOf3 (l : Launch) (E : wE) (g : Nat → Nat) (live : Nat → Prop) (F : Nat → va_E) (ta n mm mi : Nat) (f : Nat → Nat) (hta : live ta) (hFa : F ta = cArO E.2.1 n n f) (hnmm : n ≤ mm) (hmm : mm ≤ 100) (hn950 : ¬ live 950) (hel : ∀ i, i < n → elO g live F ta (f i)) : Met l yJ7_copyOf_6403c wsJ7_copyOf_6403c ({ frames := 2, cells := 1, slots := 100, locals := 300 } : Room) (va_Pc [.ref (g ta), .int (nI mm), .ref mi] (fun U => wPreY E g live F U ∧ va_Mi "[Ljava/lang/Object;" mi U)) (va_Qr (fun (_ : Unit) => True) (fun (_ : Unit) ra t => wH E.1 E.2.2 (va_up g 950 ra) (fun x => live x ∨ x = 950) (va_up F 950 (cArO E.2.1 mm n f)) t.heap) (wA E)) 1 100 (wA E) := by
  refine Met.ofW (cc := cJ7_copyOf_6403c) (maxL := 4) (ret := (some (.array (.object "java/lang/Object")))) (by decide) rfl ?_
  intro p e s m args below meth c s₁ B hml hv
  obtain ⟨rfl, ⟨⟨hz, hH, hK⟩, hC, hDD⟩, hmi⟩ := hv
  have hx := B.exec
  have hb := B.bytes
  have hr := B.returns
  have hts := atoms_spec (ws := wsJ7_copyOf_6403c) B.pre
  have hown : s.vm.findClass RJ7 = some m.cls := findClass_of_methodNamed B.named
  have hnm : meth.name = yJ7_copyOf_6403c.name := (name_of_methodNamed B.named B.method).1
  have hS : va_S (wA E) s.heap s.heap [] := va_S.rf
  have hl := lv_entry ([.ref (g ta), .int (nI mm), .ref mi]) (n := 4) (Nat.le_of_ble_eq_true rfl)
  rw [lg_entry_eq]
  generalize (lg_sl ([.ref (g ta), .int (nI mm), .ref mi]) ++ List.replicate (4 - (lg_sl ([.ref (g ta), .int (nI mm), .ref mi])).length) Slot.unset).toArray = ls at hl ⊢
  have hl : lv_has ls 4 [(0, .ref (g ta)), (1, .int (nI mm)), (2, .ref mi)] := hl
  obtain ⟨H, eH⟩ : ∃ z, z = s.heap := ⟨_, rfl⟩
  have hH : wH E.1 E.2.2 g live F H := by rw [eH]; exact hH
  have hS : va_S (wA E) s.heap H [] := by rw [eH]; exact hS
  refine W.heapTo eH ?_
  refine lv_aload_n hx hb dJ7_copyOf_6403c_0 rfl (lv_at hl 2 rfl) ?_
  refine va_ldcM hx hb hown (hts (.classLink RJ7 110 "[Ljava/lang/Object;") (by decide +kernel)) hmi dJ7_copyOf_6403c_1 ?_
  refine lv_acmp_ne (rx := some mi) (ry := some mi) (tgt := 13) hx hb dJ7_copyOf_6403c_3 (by decide) (fun hq => absurd rfl hq) (fun _ => ?_)
  refine lv_iload_n hx hb dJ7_copyOf_6403c_6 rfl (lv_at hl 1 rfl) ?_
  refine wr_newq (N' := mm) (C := "java/lang/Object") hx hb hown (hts (.classLink RJ7 2 "java/lang/Object") (by decide +kernel)) hDD.2.1 hK hH hS hz (nI_pos (by omega)) (nI_clamp (by omega)) (by omega) 950 hn950 (by decide) (by show 0 + 1 ≤ 1; omega) (by show 0 + mm ≤ 100; omega) dJ7_copyOf_6403c_7 (fun q9 ca H hk hH hS => ?_)
  obtain rfl : ca = E.2.1.1 3 := va_K_one hk 3 rfl
  refine W.widen (k := 1) (n := 100) (by omega) (by omega) ?_
  obtain ⟨g9, eg9⟩ : ∃ z, z = va_up g 950 q9 := ⟨_, rfl⟩
  rw [← eg9] at hH
  have hq9 : g9 950 = q9 := by rw [eg9, va_up_self]
  have n9 : ta ≠ 950 := fun q => hn950 (q ▸ hta)
  have hga : g9 ta = g ta := by rw [eg9, va_up_ne _ _ n9]
  refine lv_goto (tgt := 24) hx hb dJ7_copyOf_6403c_10 (by decide) ?_
  refine lv_astore_n (lv' := [(3, .ref q9), (0, .ref (g ta)), (1, .int (nI mm)), (2, .ref mi)]) hx hb dJ7_copyOf_6403c_24 rfl hl (by decide) rfl (fun ls hl => ?_)
  refine lv_aload_n hx hb dJ7_copyOf_6403c_25 rfl (lv_at hl 1 rfl) ?_
  refine lv_iconst (v := 0) hx hb dJ7_copyOf_6403c_26 (by decide) ?_
  refine lv_aload_n hx hb dJ7_copyOf_6403c_27 rfl (lv_at hl 0 rfl) ?_
  refine lv_iconst (v := 0) hx hb dJ7_copyOf_6403c_28 (by decide) ?_
  refine lv_aload_n hx hb dJ7_copyOf_6403c_29 rfl (lv_at hl 1 rfl) ?_
  rw [← hga, ← hq9] at hl
  refine W.eq (g2 := F0 m 30 ls [.ref (g9 ta), .int 0, .ref (g9 950), .int 0, .ref (g9 ta)]) (by rw [hga, hq9]) ?_
  refine wr_alen (v := nI n) (t := ta) hx hb hK hH (Or.inl hta) ((va_up_ne _ _ n9).trans hFa) 3 rfl rfl dJ7_copyOf_6403c_30 ?_
  refine lv_iload_n hx hb dJ7_copyOf_6403c_31 rfl (lv_at hl 2 rfl) ?_
  refine va_mmin hx hb (hml.trans hl.1.symm) hown (hts (.methodLink RJ7 304 Lib.Math.min.name) (by decide +kernel)) (hts (.static Lib.Math.min.name) (by decide +kernel)) (hts (.initialized "java/lang/Math") (by decide +kernel)) (hts (.code Lib.Math.min.name Lib.Math.min.code 2 (some .int)) (by decide +kernel)) (Nat.le_of_ble_eq_true rfl) (Nat.le_of_ble_eq_true rfl) (Nat.le_of_ble_eq_true rfl) (Nat.le_of_ble_eq_true rfl) dJ7_copyOf_6403c_32 ?_
  refine W.eq (g2 := F0 m 35 ls [.int (nI n), .int 0, .ref (g9 950), .int 0, .ref (g9 ta)]) (by congr 3; first | rw [if_neg (fun q => absurd ((nI_ltI (a := mm) (b := n) (by omega) (by omega)).mp q) (by omega))] | (split <;> rename_i h9 <;> first | rfl | (exfalso; have := (nI_ltI (a := mm) (b := n) (by omega) (by omega)).mp h9; omega) | (exfalso; exact h9 ((nI_ltI (a := n) (b := mm) (by omega) (by omega)).mpr (by omega))))) ?_
  refine wr_copyM (ta := ta) (tb := 950) hx hb (hml.trans hl.1.symm) hown (hts (.methodLink RJ7 150 arraycopyName) (by decide +kernel)) (hts (.native arraycopyName) (by decide +kernel)) (hts (.static arraycopyName) (by decide +kernel)) (hts (.initialized "java/lang/System") (by decide +kernel)) hK hH hS (Or.inl hta) (Or.inr rfl) 3 3 ((va_up_ne _ _ n9).trans hFa) (va_up_self _ _ _) rfl rfl (by decide) (by decide) (nI_pos (by omega)) (by rw [nI_clamp (by omega)]; show 0 + n ≤ n; omega) (by rw [nI_clamp (by omega)]; show 0 + n ≤ mm; omega) ?_ (Nat.le_of_ble_eq_true rfl) (Nat.le_of_ble_eq_true rfl) dJ7_copyOf_6403c_35 (fun H locs hH hS => ?_)
  · intro i hi y hy
    rw [nI_clamp (by omega)] at hi
    have hy : (if 0 + i < n then some (f (0 + i)) else none) = some y := hy
    rw [Nat.zero_add, if_pos hi] at hy
    obtain ⟨tv, ci, vs, r, e1, e2, e3, e4, e5, e6⟩ := hel i hi
    have n8 : tv ≠ 950 := fun q => hn950 (q ▸ e1)
    rw [← Option.some.inj hy, e3, show g tv = g9 tv by rw [eg9, va_up_ne _ _ n8]]
    exact wr_any hK hH (Or.inl e1) ((va_up_ne _ _ n8).trans e4) e5 (hC.2.2.2.1 (r.1, "java/lang/Object") e6)
  rw [upup, copy_eq hnmm (by omega)] at hH
  refine lv_aload_n hx hb dJ7_copyOf_6403c_38 rfl (lv_at hl 0 rfl) ?_
  refine W.widen (k := 1) (n := 100) (by omega) (by omega) ?_
  have hgg : va_up g 950 (g9 950) = g9 := by rw [hq9, eg9]
  exact W.aret (v := .ref (g9 950)) hx hb hr (Or.inr ⟨_, rfl⟩) (Or.inr ⟨_, rfl⟩) (fun t ht hW => ⟨⟨(), g9 950, rfl, trivial, by show wH E.1 E.2.2 (va_up g 950 (g9 950)) _ _ t.heap; rw [hgg]; exact wG_t ht hH⟩, hS.F ht⟩) hS.2.2 dJ7_copyOf_6403c_39
