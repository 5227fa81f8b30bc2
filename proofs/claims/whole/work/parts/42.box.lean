/-! ===== the box, made ===== -/
/-- the cells of a box that is made, by their tags 900 .. 919 -/
def bxF (q : wQ) (g : Nat → Nat) (n sh ta : Int32) (t : Nat) : va_E :=
  if t = 900 then .inr (3, [.int n, .int sh, .int ta, .ref (g 901), .ref (g 902), .ref (g 903), .int 0, .int 0, .int 0, .int 0, .int 0, .int (-1), .int 0, .int 0, .int 0])
  else if t = 901 then .inl (q.1 2, 10, .inr (.inr (.inr (.inr (fun i => some (g (910 + i)))))))
  else if t = 902 then .inr (2, [.int 0, .ref q.2, .int 0])
  else if t = 903 then .inl (q.1 0, 100, .inl (fun _ => 0))
  else .inr (5, [.int (nI (t - 910)), .null, .int 0])
set_option maxHeartbeats 4000000 in
set_option maxRecDepth 100000 in
theorem met_X0_init (l : Launch) (E : wE) (g : Nat → Nat) (live : Nat → Prop) (F : Nat → va_E) (n sh ta : Int32) (hnl : ∀ t, 900 < t → ¬ live t) (h900 : live 900) (hF : F 900 = .inr (3, [.int 0, .int 0, .int 0, .null, .null, .null, .int 0, .int 0, .int 0, .int 0, .int 0, .int 0, .int 0, .int 0, .int 0])) : Met l yX0_init wsX0_init ({ frames := 6, cells := 13, slots := 143, locals := 600 } : Room) (va_Pc [.ref (g 900), .int n, .int sh, .int ta] (wPreY E g live F)) (va_Qv (fun (_ : Unit) => True) (fun (_ : Unit) t => ∃ g9 : Nat → Nat, (∀ t9, t9 < 901 → g9 t9 = g t9) ∧ wH E.1 E.2.2 g9 (fun t9 => live t9 ∨ (901 ≤ t9 ∧ t9 < 904) ∨ (910 ≤ t9 ∧ t9 < 920)) (fun t9 => if t9 < 900 then F t9 else bxF E.2.1 g9 n sh ta t9) t.heap) (wA E)) 13 143 (wA E) := by
  refine Met.ofW (cc := cX0_init) (maxL := 5) (ret := none) (by decide) rfl ?_
  intro p e s m args below meth c s₁ B hml hv
  obtain ⟨rfl, ⟨hz, hH, hK⟩, hC, hDD⟩ := hv
  have hx := B.exec
  have hb := B.bytes
  have hr := B.returns
  have hts := atoms_spec (ws := wsX0_init) B.pre
  have hown : s.vm.findClass RX0 = some m.cls := findClass_of_methodNamed B.named
  have hnm : meth.name = yX0_init.name := (name_of_methodNamed B.named B.method).1
  have hS : va_S (wA E) s.heap s.heap [] := va_S.rf
  have hinX0 : ∀ w ∈ wsX00, w ∈ wsX0_init := fun w h => List.mem_cons_of_mem _ (List.mem_append_left _ (List.mem_append_left _ (List.mem_append_right _ h)))
  have hinJx4a65c : ∀ w ∈ wsJx4a65c0, w ∈ wsX0_init := fun w h => List.mem_cons_of_mem _ (List.mem_append_left _ (List.mem_append_right _ h))
  have hinX3 : ∀ w ∈ wsX30, w ∈ wsX0_init := fun w h => List.mem_cons_of_mem _ (List.mem_append_right _ h)
  have hl := lv_entry ([.ref (g 900), .int n, .int sh, .int ta]) (n := 5) (Nat.le_of_ble_eq_true rfl)
  rw [lg_entry_eq]
  generalize (lg_sl ([.ref (g 900), .int n, .int sh, .int ta]) ++ List.replicate (5 - (lg_sl ([.ref (g 900), .int n, .int sh, .int ta])).length) Slot.unset).toArray = ls at hl ⊢
  have hl : lv_has ls 5 [(0, .ref (g 900)), (1, .int n), (2, .int sh), (3, .int ta)] := hl
  obtain ⟨H, eH⟩ : ∃ z, z = s.heap := ⟨_, rfl⟩
  have hH : wH E.1 E.2.2 g live F H := by rw [eH]; exact hH
  have hS : va_S (wA E) s.heap H [] := by rw [eH]; exact hS
  refine W.heapTo eH ?_
  refine lv_aload_n hx hb dX0_init_0 rfl (lv_at hl 0 rfl) ?_
  refine W.objInit hx hb hown (hts (.methodLink RX0 3 objectInit) (by decide +kernel)) (hts (.instanceMethod objectInit) (by decide +kernel)) (hts (.code objectInit ⟨#[0xb1]⟩ 1 none) (by decide +kernel)) rfl (hl.1.trans hml.symm) rfl dX0_init_1 (Nat.le_of_ble_eq_true rfl) (Nat.le_of_ble_eq_true rfl) ?_
  refine W.eq (g2 := F0 m 4 ls []) rfl ?_
  refine lv_aload_n hx hb dX0_init_4 rfl (lv_at hl 0 rfl) ?_
  refine lv_bipush (v := 10) hx hb dX0_init_5 (by decide) ?_
  refine wr_newq (N' := 10) (C := RX3) hx hb hown (hts (.classLink RX0 9 RX3) (by decide +kernel)) hDD.2.2.1 hK hH hS hz (by decide) (by decide) (by decide) 901 (hnl 901 (by decide)) (by omega) (by first | exact Nat.le_of_ble_eq_true rfl | omega) (by first | exact Nat.le_of_ble_eq_true rfl | omega) dX0_init_7 (fun q1 ca2 H hk3 hH hS => ?_)
  obtain rfl : ca2 = E.2.1.1 2 := va_K_one hk3 2 rfl
  refine wr_putF (T := TX0) (N := 15) (ci := 3) (v := .ref q1) (t := 900) hx hb hts hinX0 tyX0 tyX0_ok nmX0 hown hK hH hS (Or.inl h900) (fs := [.int 0, .int 0, .int 0, .null, .null, .null, .int 0, .int 0, .int 0, .int 0, .int 0, .int 0, .int 0, .int 0, .int 0]) hF rfl 3 (by decide) (hts (.fieldLink RX0 11 "SelectoRoute$Box" "slots" "[LSelectoRoute$Slot;") (by decide +kernel)) (fun _ h => h) rfl (hnm.trans rfl) rfl (ty := (.array (.object "SelectoRoute$Slot"))) (by decide +kernel) rfl rfl (Nat.le_of_ble_eq_true rfl) dX0_init_10 (fun H locs hH hS => ?_)
  refine lv_aload_n hx hb dX0_init_13 rfl (lv_at hl 0 rfl) ?_
  refine wr_new (C := RJx4a65c) (T := TJx4a65c) (N := 3) (ci := 2) (fs := [.int 0, .null, .int 0]) hx hb hts hinJx4a65c tyJx4a65c tyJx4a65c_ok hown (hts (.classLink RX0 17 RJx4a65c) (by decide +kernel)) (hts (.instantiable RJx4a65c 3) (by decide +kernel)) (hts (.initialized RJx4a65c) (by decide +kernel)) hK hH hS hz rfl (by decide) 902 (by rintro (h | h) <;> first | exact absurd h (hnl 902 (by decide)) | (exact absurd h (by decide)) | omega) (by omega) (by first | exact Nat.le_of_ble_eq_true rfl | omega) (by first | exact Nat.le_of_ble_eq_true rfl | omega) dX0_init_14 (fun q4 H hH hS => ?_)
  refine lv_dup hx hb dX0_init_17 rfl ?_
  refine va_callv (va_runI (As := []) (rest := [.ref q4, .ref (g 900)]) ⟨hx, hb, hml, hown, hts⟩ (met_AL_init l E _ _ _ 902 (Or.inr rfl) rfl) (cwI 0 hts gX0_init_Jx4a65c_init_da8c8 rfl rfl rfl (hts (.initialized RJx4a65c) (by decide +kernel)) (hts (.methodLink RX0 19 yJx4a65c_init_da8c8) (by decide +kernel)) (hts (.instanceMethod yJx4a65c_init_da8c8) (by decide +kernel)) rfl (by decide +kernel) ⟨Nat.le_of_ble_eq_true rfl, Nat.le_of_ble_eq_true rfl⟩) ⟨fun a U f mk q => ⟨q.1, wPreY.calling q.2 a f mk⟩, fun U hU hW => ⟨rfl, wPreY_at hz hS hH hK hC hDD U hU hW⟩⟩ rfl rfl hl.1 rfl (lv_room (Nat.le_of_ble_eq_true rfl)) dX0_init_18 ⟨by first | exact Nat.le_of_ble_eq_true rfl | omega, by first | exact Nat.le_of_ble_eq_true rfl | omega⟩) hS (fun q _ h => h) (fun q h => h) (fun u t H locs ht hvm hw hB hz1 hk1 hS => ?_)
  have hH := wG_h ht hB
  refine wr_putF (T := TX0) (N := 15) (ci := 3) (v := .ref q4) (t := 900) hx hb hts hinX0 tyX0 tyX0_ok nmX0 hown hK hH hS (Or.inl (Or.inl h900)) (fs := [.int 0, .int 0, .int 0, .ref q1, .null, .null, .int 0, .int 0, .int 0, .int 0, .int 0, .int 0, .int 0, .int 0, .int 0]) rfl rfl 4 (by decide) (hts (.fieldLink RX0 20 "SelectoRoute$Box" "queue" "Ljava/util/ArrayList;") (by decide +kernel)) (fun _ h => h) rfl (hnm.trans rfl) rfl (ty := (.object "java/util/ArrayList")) (by decide +kernel) rfl rfl (Nat.le_of_ble_eq_true rfl) dX0_init_21 (fun H locs hH hS => ?_)
  refine lv_aload_n hx hb dX0_init_24 rfl (lv_at hl 0 rfl) ?_
  refine lv_bipush (v := 100) hx hb dX0_init_25 (by decide) ?_
  refine wr_newa (atype := .int) (N' := 100) (a0 := (100, .inl (fun _ => 0))) hx hb (hts (.arrayClass .int) (by decide +kernel)) (ty := .int) rfl hK hH hS hz (fun _ => rfl) (by decide) (by decide) (by decide) 903 (by rintro ((h | h) | h) <;> first | exact absurd h (hnl 903 (by decide)) | (exact absurd h (by decide)) | omega) (by omega) (by first | exact Nat.le_of_ble_eq_true rfl | omega) (by first | exact Nat.le_of_ble_eq_true rfl | omega) dX0_init_27 (fun q5 ca6 H hk7 hH hS => ?_)
  obtain rfl : ca6 = E.2.1.1 0 := va_K_one hk7 0 rfl
  refine wr_putF (T := TX0) (N := 15) (ci := 3) (v := .ref q5) (t := 900) hx hb hts hinX0 tyX0 tyX0_ok nmX0 hown hK hH hS (Or.inl (Or.inl (Or.inl h900))) (fs := [.int 0, .int 0, .int 0, .ref q1, .ref q4, .null, .int 0, .int 0, .int 0, .int 0, .int 0, .int 0, .int 0, .int 0, .int 0]) rfl rfl 5 (by decide) (hts (.fieldLink RX0 24 "SelectoRoute$Box" "asked" "[I") (by decide +kernel)) (fun _ h => h) rfl (hnm.trans rfl) rfl (ty := (.array .int)) (by decide +kernel) rfl rfl (Nat.le_of_ble_eq_true rfl) dX0_init_29 (fun H locs hH hS => ?_)
  refine lv_aload_n hx hb dX0_init_32 rfl (lv_at hl 0 rfl) ?_
  refine lv_iconst (v := (-1)) hx hb dX0_init_33 (by decide) ?_
  refine wr_put (T := TX0) (N := 15) (ci := 3) (v := .int (-1)) (t := 900) hx hb hts hinX0 tyX0 tyX0_ok nmX0 hown hK hH hS (Or.inl (Or.inl (Or.inl h900))) (fs := [.int 0, .int 0, .int 0, .ref q1, .ref q4, .ref q5, .int 0, .int 0, .int 0, .int 0, .int 0, .int 0, .int 0, .int 0, .int 0]) rfl rfl 11 (by decide) (hts (.fieldLink RX0 28 "SelectoRoute$Box" "visitWeek" "I") (by decide +kernel)) (fun _ h => h) rfl (ty := .int) (by decide +kernel) rfl rfl (Nat.le_of_ble_eq_true rfl) dX0_init_34 (fun H locs hH hS => ?_)
  refine lv_aload_n hx hb dX0_init_37 rfl (lv_at hl 0 rfl) ?_
  refine lv_iload_n hx hb dX0_init_38 rfl (lv_at hl 1 rfl) ?_
  refine wr_putF (T := TX0) (N := 15) (ci := 3) (v := .int n) (t := 900) hx hb hts hinX0 tyX0 tyX0_ok nmX0 hown hK hH hS (Or.inl (Or.inl (Or.inl h900))) (fs := [.int 0, .int 0, .int 0, .ref q1, .ref q4, .ref q5, .int 0, .int 0, .int 0, .int 0, .int 0, .int (-1), .int 0, .int 0, .int 0]) rfl rfl 0 (by decide) (hts (.fieldLink RX0 32 "SelectoRoute$Box" "number" "I") (by decide +kernel)) (fun _ h => h) rfl (hnm.trans rfl) rfl (ty := .int) (by decide +kernel) rfl rfl (Nat.le_of_ble_eq_true rfl) dX0_init_39 (fun H locs hH hS => ?_)
  refine lv_aload_n hx hb dX0_init_42 rfl (lv_at hl 0 rfl) ?_
  refine lv_iload_n hx hb dX0_init_43 rfl (lv_at hl 2 rfl) ?_
  refine wr_putF (T := TX0) (N := 15) (ci := 3) (v := .int sh) (t := 900) hx hb hts hinX0 tyX0 tyX0_ok nmX0 hown hK hH hS (Or.inl (Or.inl (Or.inl h900))) (fs := [.int n, .int 0, .int 0, .ref q1, .ref q4, .ref q5, .int 0, .int 0, .int 0, .int 0, .int 0, .int (-1), .int 0, .int 0, .int 0]) rfl rfl 1 (by decide) (hts (.fieldLink RX0 35 "SelectoRoute$Box" "share" "I") (by decide +kernel)) (fun _ h => h) rfl (hnm.trans rfl) rfl (ty := .int) (by decide +kernel) rfl rfl (Nat.le_of_ble_eq_true rfl) dX0_init_44 (fun H locs hH hS => ?_)
  refine lv_aload_n hx hb dX0_init_47 rfl (lv_at hl 0 rfl) ?_
  refine lv_iload_n hx hb dX0_init_48 rfl (lv_at hl 3 rfl) ?_
  refine wr_putF (T := TX0) (N := 15) (ci := 3) (v := .int ta) (t := 900) hx hb hts hinX0 tyX0 tyX0_ok nmX0 hown hK hH hS (Or.inl (Or.inl (Or.inl h900))) (fs := [.int n, .int sh, .int 0, .ref q1, .ref q4, .ref q5, .int 0, .int 0, .int 0, .int 0, .int 0, .int (-1), .int 0, .int 0, .int 0]) rfl rfl 2 (by decide) (hts (.fieldLink RX0 38 "SelectoRoute$Box" "taste" "I") (by decide +kernel)) (fun _ h => h) rfl (hnm.trans rfl) rfl (ty := .int) (by decide +kernel) rfl rfl (Nat.le_of_ble_eq_true rfl) dX0_init_49 (fun H locs hH hS => ?_)
  refine lv_iconst (v := 0) hx hb dX0_init_52 (by decide) ?_
  refine lv_istore (lv' := [(4, .int 0), (0, .ref (g 900)), (1, .int n), (2, .int sh), (3, .int ta)]) hx hb dX0_init_53 hl (by decide) rfl (fun ls hl => ?_)
  refine lv_iload hx hb dX0_init_55 (lv_at hl 0 rfl) ?_
  refine lv_aload_n hx hb dX0_init_57 rfl (lv_at hl 1 rfl) ?_
  refine wr_get (T := TX0) (N := 15) (ci := 3) (v := .ref q1) (t := 900) hx hb hts hinX0 hown hK hH (Or.inl (Or.inl (Or.inl h900))) (fs := [.int n, .int sh, .int ta, .ref q1, .ref q4, .ref q5, .int 0, .int 0, .int 0, .int 0, .int 0, .int (-1), .int 0, .int 0, .int 0]) rfl rfl 3 (by decide) (hts (.fieldLink RX0 11 "SelectoRoute$Box" "slots" "[LSelectoRoute$Slot;") (by decide +kernel)) (fun _ h => h) rfl dX0_init_58 ?_
  refine wr_alen (v := 10) (t := 901) hx hb hK hH (Or.inl (Or.inl (Or.inr rfl))) rfl 2 rfl rfl dX0_init_61 ?_
  refine lv_icmp_ge (tgt := 87) hx hb dX0_init_62 (by decide) (fun hq => absurd hq (show ¬ (10 : Int32) ≤ 0 by decide)) (fun _ => ?_)
  refine lv_aload_n hx hb dX0_init_65 rfl (lv_at hl 1 rfl) ?_
  refine wr_get (T := TX0) (N := 15) (ci := 3) (v := .ref q1) (t := 900) hx hb hts hinX0 hown hK hH (Or.inl (Or.inl (Or.inl h900))) (fs := [.int n, .int sh, .int ta, .ref q1, .ref q4, .ref q5, .int 0, .int 0, .int 0, .int 0, .int 0, .int (-1), .int 0, .int 0, .int 0]) rfl rfl 3 (by decide) (hts (.fieldLink RX0 11 "SelectoRoute$Box" "slots" "[LSelectoRoute$Slot;") (by decide +kernel)) (fun _ h => h) rfl dX0_init_66 ?_
  refine lv_iload hx hb dX0_init_69 (lv_at hl 0 rfl) ?_
  refine wr_new (C := RX3) (T := TX3) (N := 3) (ci := 5) (fs := [.int 0, .null, .int 0]) hx hb hts hinX3 tyX3 tyX3_ok hown (hts (.classLink RX0 9 RX3) (by decide +kernel)) (hts (.instantiable RX3 3) (by decide +kernel)) (hts (.initialized RX3) (by decide +kernel)) hK hH hS hz rfl (by decide) 910 (by rintro (((h | h) | h) | h) <;> first | exact absurd h (hnl 910 (by decide)) | (exact absurd h (by decide)) | omega) (by omega) (by first | exact Nat.le_of_ble_eq_true rfl | omega) (by first | exact Nat.le_of_ble_eq_true rfl | omega) dX0_init_71 (fun q8 H hH hS => ?_)
  refine lv_dup hx hb dX0_init_74 rfl ?_
  refine lv_iload hx hb dX0_init_75 (lv_at hl 0 rfl) ?_
  refine va_callv (va_runI (As := [.int 0]) (rest := [.ref q8, .int 0, .ref q1]) ⟨hx, hb, hml, hown, hts⟩ (met_X3_init l E _ _ _ 910 0 (Or.inr rfl) rfl) (cwI 1 hts gX0_init_X3_init rfl rfl rfl (hts (.initialized RX3) (by decide +kernel)) (hts (.methodLink RX0 41 yX3_init) (by decide +kernel)) (hts (.instanceMethod yX3_init) (by decide +kernel)) rfl (by decide +kernel) ⟨Nat.le_of_ble_eq_true rfl, Nat.le_of_ble_eq_true rfl⟩) ⟨fun a U f mk q => ⟨q.1, wPreG.calling q.2 a f mk⟩, fun U hU hW => ⟨rfl, wPreG_at hz hS hH hK U hU hW⟩⟩ rfl rfl hl.1 rfl (lv_room (Nat.le_of_ble_eq_true rfl)) dX0_init_77 ⟨by first | exact Nat.le_of_ble_eq_true rfl | omega, by first | exact Nat.le_of_ble_eq_true rfl | omega⟩) hS (fun q _ h => h) (fun q h => h) (fun u t H locs ht hvm hw hB hz1 hk1 hS => ?_)
  have hH := wG_h ht hB
  refine wr_astq (t := 901) (tv := 910) (ci := 5) (r := (RX3, TX3, 3)) hx hb hK hH hS (Or.inl (Or.inl (Or.inl (Or.inr rfl)))) rfl 2 rfl (Or.inr rfl) rfl rfl (by unfold vp_in; decide) dX0_init_80 (fun H locs hH hS => ?_)
  refine lv_iinc (v := 1) (lv' := [(4, .int 1), (0, .ref (g 900)), (1, .int n), (2, .int sh), (3, .int ta)]) hx hb dX0_init_81 hl (k := 0) rfl rfl (by decide) rfl (fun ls hl => ?_)
  refine lv_goto (tgt := 55) hx hb dX0_init_84 (by decide) ?_
  refine lv_iload hx hb dX0_init_55 (lv_at hl 0 rfl) ?_
  refine lv_aload_n hx hb dX0_init_57 rfl (lv_at hl 1 rfl) ?_
  refine wr_get (T := TX0) (N := 15) (ci := 3) (v := .ref q1) (t := 900) hx hb hts hinX0 hown hK hH (Or.inl (Or.inl (Or.inl (Or.inl h900)))) (fs := [.int n, .int sh, .int ta, .ref q1, .ref q4, .ref q5, .int 0, .int 0, .int 0, .int 0, .int 0, .int (-1), .int 0, .int 0, .int 0]) rfl rfl 3 (by decide) (hts (.fieldLink RX0 11 "SelectoRoute$Box" "slots" "[LSelectoRoute$Slot;") (by decide +kernel)) (fun _ h => h) rfl dX0_init_58 ?_
  refine wr_alen (v := 10) (t := 901) hx hb hK hH (Or.inl (Or.inl (Or.inl (Or.inr rfl)))) rfl 2 rfl rfl dX0_init_61 ?_
  refine lv_icmp_ge (tgt := 87) hx hb dX0_init_62 (by decide) (fun hq => absurd hq (show ¬ (10 : Int32) ≤ 1 by decide)) (fun _ => ?_)
  refine lv_aload_n hx hb dX0_init_65 rfl (lv_at hl 1 rfl) ?_
  refine wr_get (T := TX0) (N := 15) (ci := 3) (v := .ref q1) (t := 900) hx hb hts hinX0 hown hK hH (Or.inl (Or.inl (Or.inl (Or.inl h900)))) (fs := [.int n, .int sh, .int ta, .ref q1, .ref q4, .ref q5, .int 0, .int 0, .int 0, .int 0, .int 0, .int (-1), .int 0, .int 0, .int 0]) rfl rfl 3 (by decide) (hts (.fieldLink RX0 11 "SelectoRoute$Box" "slots" "[LSelectoRoute$Slot;") (by decide +kernel)) (fun _ h => h) rfl dX0_init_66 ?_
  refine lv_iload hx hb dX0_init_69 (lv_at hl 0 rfl) ?_
  refine wr_new (C := RX3) (T := TX3) (N := 3) (ci := 5) (fs := [.int 0, .null, .int 0]) hx hb hts hinX3 tyX3 tyX3_ok hown (hts (.classLink RX0 9 RX3) (by decide +kernel)) (hts (.instantiable RX3 3) (by decide +kernel)) (hts (.initialized RX3) (by decide +kernel)) hK hH hS hz rfl (by decide) 911 (by rintro ((((h | h) | h) | h) | h) <;> first | exact absurd h (hnl 911 (by decide)) | (exact absurd h (by decide)) | omega) (by omega) (by first | exact Nat.le_of_ble_eq_true rfl | omega) (by first | exact Nat.le_of_ble_eq_true rfl | omega) dX0_init_71 (fun q9 H hH hS => ?_)
  refine lv_dup hx hb dX0_init_74 rfl ?_
  refine lv_iload hx hb dX0_init_75 (lv_at hl 0 rfl) ?_
  refine va_callv (va_runI (As := [.int 1]) (rest := [.ref q9, .int 1, .ref q1]) ⟨hx, hb, hml, hown, hts⟩ (met_X3_init l E _ _ _ 911 1 (Or.inr rfl) rfl) (cwI 1 hts gX0_init_X3_init rfl rfl rfl (hts (.initialized RX3) (by decide +kernel)) (hts (.methodLink RX0 41 yX3_init) (by decide +kernel)) (hts (.instanceMethod yX3_init) (by decide +kernel)) rfl (by decide +kernel) ⟨Nat.le_of_ble_eq_true rfl, Nat.le_of_ble_eq_true rfl⟩) ⟨fun a U f mk q => ⟨q.1, wPreG.calling q.2 a f mk⟩, fun U hU hW => ⟨rfl, wPreG_at hz hS hH hK U hU hW⟩⟩ rfl rfl hl.1 rfl (lv_room (Nat.le_of_ble_eq_true rfl)) dX0_init_77 ⟨by first | exact Nat.le_of_ble_eq_true rfl | omega, by first | exact Nat.le_of_ble_eq_true rfl | omega⟩) hS (fun q _ h => h) (fun q h => h) (fun u t H locs ht hvm hw hB hz1 hk1 hS => ?_)
  have hH := wG_h ht hB
  refine wr_astq (t := 901) (tv := 911) (ci := 5) (r := (RX3, TX3, 3)) hx hb hK hH hS (Or.inl (Or.inl (Or.inl (Or.inl (Or.inr rfl))))) rfl 2 rfl (Or.inr rfl) rfl rfl (by unfold vp_in; decide) dX0_init_80 (fun H locs hH hS => ?_)
  refine lv_iinc (v := 2) (lv' := [(4, .int 2), (0, .ref (g 900)), (1, .int n), (2, .int sh), (3, .int ta)]) hx hb dX0_init_81 hl (k := 0) rfl rfl (by decide) rfl (fun ls hl => ?_)
  refine lv_goto (tgt := 55) hx hb dX0_init_84 (by decide) ?_
  refine lv_iload hx hb dX0_init_55 (lv_at hl 0 rfl) ?_
  refine lv_aload_n hx hb dX0_init_57 rfl (lv_at hl 1 rfl) ?_
  refine wr_get (T := TX0) (N := 15) (ci := 3) (v := .ref q1) (t := 900) hx hb hts hinX0 hown hK hH (Or.inl (Or.inl (Or.inl (Or.inl (Or.inl h900))))) (fs := [.int n, .int sh, .int ta, .ref q1, .ref q4, .ref q5, .int 0, .int 0, .int 0, .int 0, .int 0, .int (-1), .int 0, .int 0, .int 0]) rfl rfl 3 (by decide) (hts (.fieldLink RX0 11 "SelectoRoute$Box" "slots" "[LSelectoRoute$Slot;") (by decide +kernel)) (fun _ h => h) rfl dX0_init_58 ?_
  refine wr_alen (v := 10) (t := 901) hx hb hK hH (Or.inl (Or.inl (Or.inl (Or.inl (Or.inr rfl))))) rfl 2 rfl rfl dX0_init_61 ?_
  refine lv_icmp_ge (tgt := 87) hx hb dX0_init_62 (by decide) (fun hq => absurd hq (show ¬ (10 : Int32) ≤ 2 by decide)) (fun _ => ?_)
  refine lv_aload_n hx hb dX0_init_65 rfl (lv_at hl 1 rfl) ?_
  refine wr_get (T := TX0) (N := 15) (ci := 3) (v := .ref q1) (t := 900) hx hb hts hinX0 hown hK hH (Or.inl (Or.inl (Or.inl (Or.inl (Or.inl h900))))) (fs := [.int n, .int sh, .int ta, .ref q1, .ref q4, .ref q5, .int 0, .int 0, .int 0, .int 0, .int 0, .int (-1), .int 0, .int 0, .int 0]) rfl rfl 3 (by decide) (hts (.fieldLink RX0 11 "SelectoRoute$Box" "slots" "[LSelectoRoute$Slot;") (by decide +kernel)) (fun _ h => h) rfl dX0_init_66 ?_
  refine lv_iload hx hb dX0_init_69 (lv_at hl 0 rfl) ?_
  refine wr_new (C := RX3) (T := TX3) (N := 3) (ci := 5) (fs := [.int 0, .null, .int 0]) hx hb hts hinX3 tyX3 tyX3_ok hown (hts (.classLink RX0 9 RX3) (by decide +kernel)) (hts (.instantiable RX3 3) (by decide +kernel)) (hts (.initialized RX3) (by decide +kernel)) hK hH hS hz rfl (by decide) 912 (by rintro (((((h | h) | h) | h) | h) | h) <;> first | exact absurd h (hnl 912 (by decide)) | (exact absurd h (by decide)) | omega) (by omega) (by first | exact Nat.le_of_ble_eq_true rfl | omega) (by first | exact Nat.le_of_ble_eq_true rfl | omega) dX0_init_71 (fun q10 H hH hS => ?_)
  refine lv_dup hx hb dX0_init_74 rfl ?_
  refine lv_iload hx hb dX0_init_75 (lv_at hl 0 rfl) ?_
  refine va_callv (va_runI (As := [.int 2]) (rest := [.ref q10, .int 2, .ref q1]) ⟨hx, hb, hml, hown, hts⟩ (met_X3_init l E _ _ _ 912 2 (Or.inr rfl) rfl) (cwI 1 hts gX0_init_X3_init rfl rfl rfl (hts (.initialized RX3) (by decide +kernel)) (hts (.methodLink RX0 41 yX3_init) (by decide +kernel)) (hts (.instanceMethod yX3_init) (by decide +kernel)) rfl (by decide +kernel) ⟨Nat.le_of_ble_eq_true rfl, Nat.le_of_ble_eq_true rfl⟩) ⟨fun a U f mk q => ⟨q.1, wPreG.calling q.2 a f mk⟩, fun U hU hW => ⟨rfl, wPreG_at hz hS hH hK U hU hW⟩⟩ rfl rfl hl.1 rfl (lv_room (Nat.le_of_ble_eq_true rfl)) dX0_init_77 ⟨by first | exact Nat.le_of_ble_eq_true rfl | omega, by first | exact Nat.le_of_ble_eq_true rfl | omega⟩) hS (fun q _ h => h) (fun q h => h) (fun u t H locs ht hvm hw hB hz1 hk1 hS => ?_)
  have hH := wG_h ht hB
  refine wr_astq (t := 901) (tv := 912) (ci := 5) (r := (RX3, TX3, 3)) hx hb hK hH hS (Or.inl (Or.inl (Or.inl (Or.inl (Or.inl (Or.inr rfl)))))) rfl 2 rfl (Or.inr rfl) rfl rfl (by unfold vp_in; decide) dX0_init_80 (fun H locs hH hS => ?_)
  refine lv_iinc (v := 3) (lv' := [(4, .int 3), (0, .ref (g 900)), (1, .int n), (2, .int sh), (3, .int ta)]) hx hb dX0_init_81 hl (k := 0) rfl rfl (by decide) rfl (fun ls hl => ?_)
  refine lv_goto (tgt := 55) hx hb dX0_init_84 (by decide) ?_
  refine lv_iload hx hb dX0_init_55 (lv_at hl 0 rfl) ?_
  refine lv_aload_n hx hb dX0_init_57 rfl (lv_at hl 1 rfl) ?_
  refine wr_get (T := TX0) (N := 15) (ci := 3) (v := .ref q1) (t := 900) hx hb hts hinX0 hown hK hH (Or.inl (Or.inl (Or.inl (Or.inl (Or.inl (Or.inl h900)))))) (fs := [.int n, .int sh, .int ta, .ref q1, .ref q4, .ref q5, .int 0, .int 0, .int 0, .int 0, .int 0, .int (-1), .int 0, .int 0, .int 0]) rfl rfl 3 (by decide) (hts (.fieldLink RX0 11 "SelectoRoute$Box" "slots" "[LSelectoRoute$Slot;") (by decide +kernel)) (fun _ h => h) rfl dX0_init_58 ?_
  refine wr_alen (v := 10) (t := 901) hx hb hK hH (Or.inl (Or.inl (Or.inl (Or.inl (Or.inl (Or.inr rfl)))))) rfl 2 rfl rfl dX0_init_61 ?_
  refine lv_icmp_ge (tgt := 87) hx hb dX0_init_62 (by decide) (fun hq => absurd hq (show ¬ (10 : Int32) ≤ 3 by decide)) (fun _ => ?_)
  refine lv_aload_n hx hb dX0_init_65 rfl (lv_at hl 1 rfl) ?_
  refine wr_get (T := TX0) (N := 15) (ci := 3) (v := .ref q1) (t := 900) hx hb hts hinX0 hown hK hH (Or.inl (Or.inl (Or.inl (Or.inl (Or.inl (Or.inl h900)))))) (fs := [.int n, .int sh, .int ta, .ref q1, .ref q4, .ref q5, .int 0, .int 0, .int 0, .int 0, .int 0, .int (-1), .int 0, .int 0, .int 0]) rfl rfl 3 (by decide) (hts (.fieldLink RX0 11 "SelectoRoute$Box" "slots" "[LSelectoRoute$Slot;") (by decide +kernel)) (fun _ h => h) rfl dX0_init_66 ?_
  refine lv_iload hx hb dX0_init_69 (lv_at hl 0 rfl) ?_
  refine wr_new (C := RX3) (T := TX3) (N := 3) (ci := 5) (fs := [.int 0, .null, .int 0]) hx hb hts hinX3 tyX3 tyX3_ok hown (hts (.classLink RX0 9 RX3) (by decide +kernel)) (hts (.instantiable RX3 3) (by decide +kernel)) (hts (.initialized RX3) (by decide +kernel)) hK hH hS hz rfl (by decide) 913 (by rintro ((((((h | h) | h) | h) | h) | h) | h) <;> first | exact absurd h (hnl 913 (by decide)) | (exact absurd h (by decide)) | omega) (by omega) (by first | exact Nat.le_of_ble_eq_true rfl | omega) (by first | exact Nat.le_of_ble_eq_true rfl | omega) dX0_init_71 (fun q11 H hH hS => ?_)
  refine lv_dup hx hb dX0_init_74 rfl ?_
  refine lv_iload hx hb dX0_init_75 (lv_at hl 0 rfl) ?_
  refine va_callv (va_runI (As := [.int 3]) (rest := [.ref q11, .int 3, .ref q1]) ⟨hx, hb, hml, hown, hts⟩ (met_X3_init l E _ _ _ 913 3 (Or.inr rfl) rfl) (cwI 1 hts gX0_init_X3_init rfl rfl rfl (hts (.initialized RX3) (by decide +kernel)) (hts (.methodLink RX0 41 yX3_init) (by decide +kernel)) (hts (.instanceMethod yX3_init) (by decide +kernel)) rfl (by decide +kernel) ⟨Nat.le_of_ble_eq_true rfl, Nat.le_of_ble_eq_true rfl⟩) ⟨fun a U f mk q => ⟨q.1, wPreG.calling q.2 a f mk⟩, fun U hU hW => ⟨rfl, wPreG_at hz hS hH hK U hU hW⟩⟩ rfl rfl hl.1 rfl (lv_room (Nat.le_of_ble_eq_true rfl)) dX0_init_77 ⟨by first | exact Nat.le_of_ble_eq_true rfl | omega, by first | exact Nat.le_of_ble_eq_true rfl | omega⟩) hS (fun q _ h => h) (fun q h => h) (fun u t H locs ht hvm hw hB hz1 hk1 hS => ?_)
  have hH := wG_h ht hB
  refine wr_astq (t := 901) (tv := 913) (ci := 5) (r := (RX3, TX3, 3)) hx hb hK hH hS (Or.inl (Or.inl (Or.inl (Or.inl (Or.inl (Or.inl (Or.inr rfl))))))) rfl 2 rfl (Or.inr rfl) rfl rfl (by unfold vp_in; decide) dX0_init_80 (fun H locs hH hS => ?_)
  refine lv_iinc (v := 4) (lv' := [(4, .int 4), (0, .ref (g 900)), (1, .int n), (2, .int sh), (3, .int ta)]) hx hb dX0_init_81 hl (k := 0) rfl rfl (by decide) rfl (fun ls hl => ?_)
  refine lv_goto (tgt := 55) hx hb dX0_init_84 (by decide) ?_
  refine lv_iload hx hb dX0_init_55 (lv_at hl 0 rfl) ?_
  refine lv_aload_n hx hb dX0_init_57 rfl (lv_at hl 1 rfl) ?_
  refine wr_get (T := TX0) (N := 15) (ci := 3) (v := .ref q1) (t := 900) hx hb hts hinX0 hown hK hH (Or.inl (Or.inl (Or.inl (Or.inl (Or.inl (Or.inl (Or.inl h900))))))) (fs := [.int n, .int sh, .int ta, .ref q1, .ref q4, .ref q5, .int 0, .int 0, .int 0, .int 0, .int 0, .int (-1), .int 0, .int 0, .int 0]) rfl rfl 3 (by decide) (hts (.fieldLink RX0 11 "SelectoRoute$Box" "slots" "[LSelectoRoute$Slot;") (by decide +kernel)) (fun _ h => h) rfl dX0_init_58 ?_
  refine wr_alen (v := 10) (t := 901) hx hb hK hH (Or.inl (Or.inl (Or.inl (Or.inl (Or.inl (Or.inl (Or.inr rfl))))))) rfl 2 rfl rfl dX0_init_61 ?_
  refine lv_icmp_ge (tgt := 87) hx hb dX0_init_62 (by decide) (fun hq => absurd hq (show ¬ (10 : Int32) ≤ 4 by decide)) (fun _ => ?_)
  refine lv_aload_n hx hb dX0_init_65 rfl (lv_at hl 1 rfl) ?_
  refine wr_get (T := TX0) (N := 15) (ci := 3) (v := .ref q1) (t := 900) hx hb hts hinX0 hown hK hH (Or.inl (Or.inl (Or.inl (Or.inl (Or.inl (Or.inl (Or.inl h900))))))) (fs := [.int n, .int sh, .int ta, .ref q1, .ref q4, .ref q5, .int 0, .int 0, .int 0, .int 0, .int 0, .int (-1), .int 0, .int 0, .int 0]) rfl rfl 3 (by decide) (hts (.fieldLink RX0 11 "SelectoRoute$Box" "slots" "[LSelectoRoute$Slot;") (by decide +kernel)) (fun _ h => h) rfl dX0_init_66 ?_
  refine lv_iload hx hb dX0_init_69 (lv_at hl 0 rfl) ?_
  refine wr_new (C := RX3) (T := TX3) (N := 3) (ci := 5) (fs := [.int 0, .null, .int 0]) hx hb hts hinX3 tyX3 tyX3_ok hown (hts (.classLink RX0 9 RX3) (by decide +kernel)) (hts (.instantiable RX3 3) (by decide +kernel)) (hts (.initialized RX3) (by decide +kernel)) hK hH hS hz rfl (by decide) 914 (by rintro (((((((h | h) | h) | h) | h) | h) | h) | h) <;> first | exact absurd h (hnl 914 (by decide)) | (exact absurd h (by decide)) | omega) (by omega) (by first | exact Nat.le_of_ble_eq_true rfl | omega) (by first | exact Nat.le_of_ble_eq_true rfl | omega) dX0_init_71 (fun q12 H hH hS => ?_)
  refine lv_dup hx hb dX0_init_74 rfl ?_
  refine lv_iload hx hb dX0_init_75 (lv_at hl 0 rfl) ?_
  refine va_callv (va_runI (As := [.int 4]) (rest := [.ref q12, .int 4, .ref q1]) ⟨hx, hb, hml, hown, hts⟩ (met_X3_init l E _ _ _ 914 4 (Or.inr rfl) rfl) (cwI 1 hts gX0_init_X3_init rfl rfl rfl (hts (.initialized RX3) (by decide +kernel)) (hts (.methodLink RX0 41 yX3_init) (by decide +kernel)) (hts (.instanceMethod yX3_init) (by decide +kernel)) rfl (by decide +kernel) ⟨Nat.le_of_ble_eq_true rfl, Nat.le_of_ble_eq_true rfl⟩) ⟨fun a U f mk q => ⟨q.1, wPreG.calling q.2 a f mk⟩, fun U hU hW => ⟨rfl, wPreG_at hz hS hH hK U hU hW⟩⟩ rfl rfl hl.1 rfl (lv_room (Nat.le_of_ble_eq_true rfl)) dX0_init_77 ⟨by first | exact Nat.le_of_ble_eq_true rfl | omega, by first | exact Nat.le_of_ble_eq_true rfl | omega⟩) hS (fun q _ h => h) (fun q h => h) (fun u t H locs ht hvm hw hB hz1 hk1 hS => ?_)
  have hH := wG_h ht hB
  refine wr_astq (t := 901) (tv := 914) (ci := 5) (r := (RX3, TX3, 3)) hx hb hK hH hS (Or.inl (Or.inl (Or.inl (Or.inl (Or.inl (Or.inl (Or.inl (Or.inr rfl)))))))) rfl 2 rfl (Or.inr rfl) rfl rfl (by unfold vp_in; decide) dX0_init_80 (fun H locs hH hS => ?_)
  refine lv_iinc (v := 5) (lv' := [(4, .int 5), (0, .ref (g 900)), (1, .int n), (2, .int sh), (3, .int ta)]) hx hb dX0_init_81 hl (k := 0) rfl rfl (by decide) rfl (fun ls hl => ?_)
  refine lv_goto (tgt := 55) hx hb dX0_init_84 (by decide) ?_
  refine lv_iload hx hb dX0_init_55 (lv_at hl 0 rfl) ?_
  refine lv_aload_n hx hb dX0_init_57 rfl (lv_at hl 1 rfl) ?_
  refine wr_get (T := TX0) (N := 15) (ci := 3) (v := .ref q1) (t := 900) hx hb hts hinX0 hown hK hH (Or.inl (Or.inl (Or.inl (Or.inl (Or.inl (Or.inl (Or.inl (Or.inl h900)))))))) (fs := [.int n, .int sh, .int ta, .ref q1, .ref q4, .ref q5, .int 0, .int 0, .int 0, .int 0, .int 0, .int (-1), .int 0, .int 0, .int 0]) rfl rfl 3 (by decide) (hts (.fieldLink RX0 11 "SelectoRoute$Box" "slots" "[LSelectoRoute$Slot;") (by decide +kernel)) (fun _ h => h) rfl dX0_init_58 ?_
  refine wr_alen (v := 10) (t := 901) hx hb hK hH (Or.inl (Or.inl (Or.inl (Or.inl (Or.inl (Or.inl (Or.inl (Or.inr rfl)))))))) rfl 2 rfl rfl dX0_init_61 ?_
  refine lv_icmp_ge (tgt := 87) hx hb dX0_init_62 (by decide) (fun hq => absurd hq (show ¬ (10 : Int32) ≤ 5 by decide)) (fun _ => ?_)
  refine lv_aload_n hx hb dX0_init_65 rfl (lv_at hl 1 rfl) ?_
  refine wr_get (T := TX0) (N := 15) (ci := 3) (v := .ref q1) (t := 900) hx hb hts hinX0 hown hK hH (Or.inl (Or.inl (Or.inl (Or.inl (Or.inl (Or.inl (Or.inl (Or.inl h900)))))))) (fs := [.int n, .int sh, .int ta, .ref q1, .ref q4, .ref q5, .int 0, .int 0, .int 0, .int 0, .int 0, .int (-1), .int 0, .int 0, .int 0]) rfl rfl 3 (by decide) (hts (.fieldLink RX0 11 "SelectoRoute$Box" "slots" "[LSelectoRoute$Slot;") (by decide +kernel)) (fun _ h => h) rfl dX0_init_66 ?_
  refine lv_iload hx hb dX0_init_69 (lv_at hl 0 rfl) ?_
  refine wr_new (C := RX3) (T := TX3) (N := 3) (ci := 5) (fs := [.int 0, .null, .int 0]) hx hb hts hinX3 tyX3 tyX3_ok hown (hts (.classLink RX0 9 RX3) (by decide +kernel)) (hts (.instantiable RX3 3) (by decide +kernel)) (hts (.initialized RX3) (by decide +kernel)) hK hH hS hz rfl (by decide) 915 (by rintro ((((((((h | h) | h) | h) | h) | h) | h) | h) | h) <;> first | exact absurd h (hnl 915 (by decide)) | (exact absurd h (by decide)) | omega) (by omega) (by first | exact Nat.le_of_ble_eq_true rfl | omega) (by first | exact Nat.le_of_ble_eq_true rfl | omega) dX0_init_71 (fun q13 H hH hS => ?_)
  refine lv_dup hx hb dX0_init_74 rfl ?_
  refine lv_iload hx hb dX0_init_75 (lv_at hl 0 rfl) ?_
  refine va_callv (va_runI (As := [.int 5]) (rest := [.ref q13, .int 5, .ref q1]) ⟨hx, hb, hml, hown, hts⟩ (met_X3_init l E _ _ _ 915 5 (Or.inr rfl) rfl) (cwI 1 hts gX0_init_X3_init rfl rfl rfl (hts (.initialized RX3) (by decide +kernel)) (hts (.methodLink RX0 41 yX3_init) (by decide +kernel)) (hts (.instanceMethod yX3_init) (by decide +kernel)) rfl (by decide +kernel) ⟨Nat.le_of_ble_eq_true rfl, Nat.le_of_ble_eq_true rfl⟩) ⟨fun a U f mk q => ⟨q.1, wPreG.calling q.2 a f mk⟩, fun U hU hW => ⟨rfl, wPreG_at hz hS hH hK U hU hW⟩⟩ rfl rfl hl.1 rfl (lv_room (Nat.le_of_ble_eq_true rfl)) dX0_init_77 ⟨by first | exact Nat.le_of_ble_eq_true rfl | omega, by first | exact Nat.le_of_ble_eq_true rfl | omega⟩) hS (fun q _ h => h) (fun q h => h) (fun u t H locs ht hvm hw hB hz1 hk1 hS => ?_)
  have hH := wG_h ht hB
  refine wr_astq (t := 901) (tv := 915) (ci := 5) (r := (RX3, TX3, 3)) hx hb hK hH hS (Or.inl (Or.inl (Or.inl (Or.inl (Or.inl (Or.inl (Or.inl (Or.inl (Or.inr rfl))))))))) rfl 2 rfl (Or.inr rfl) rfl rfl (by unfold vp_in; decide) dX0_init_80 (fun H locs hH hS => ?_)
  refine lv_iinc (v := 6) (lv' := [(4, .int 6), (0, .ref (g 900)), (1, .int n), (2, .int sh), (3, .int ta)]) hx hb dX0_init_81 hl (k := 0) rfl rfl (by decide) rfl (fun ls hl => ?_)
  refine lv_goto (tgt := 55) hx hb dX0_init_84 (by decide) ?_
  refine lv_iload hx hb dX0_init_55 (lv_at hl 0 rfl) ?_
  refine lv_aload_n hx hb dX0_init_57 rfl (lv_at hl 1 rfl) ?_
  refine wr_get (T := TX0) (N := 15) (ci := 3) (v := .ref q1) (t := 900) hx hb hts hinX0 hown hK hH (Or.inl (Or.inl (Or.inl (Or.inl (Or.inl (Or.inl (Or.inl (Or.inl (Or.inl h900))))))))) (fs := [.int n, .int sh, .int ta, .ref q1, .ref q4, .ref q5, .int 0, .int 0, .int 0, .int 0, .int 0, .int (-1), .int 0, .int 0, .int 0]) rfl rfl 3 (by decide) (hts (.fieldLink RX0 11 "SelectoRoute$Box" "slots" "[LSelectoRoute$Slot;") (by decide +kernel)) (fun _ h => h) rfl dX0_init_58 ?_
  refine wr_alen (v := 10) (t := 901) hx hb hK hH (Or.inl (Or.inl (Or.inl (Or.inl (Or.inl (Or.inl (Or.inl (Or.inl (Or.inr rfl))))))))) rfl 2 rfl rfl dX0_init_61 ?_
  refine lv_icmp_ge (tgt := 87) hx hb dX0_init_62 (by decide) (fun hq => absurd hq (show ¬ (10 : Int32) ≤ 6 by decide)) (fun _ => ?_)
  refine lv_aload_n hx hb dX0_init_65 rfl (lv_at hl 1 rfl) ?_
  refine wr_get (T := TX0) (N := 15) (ci := 3) (v := .ref q1) (t := 900) hx hb hts hinX0 hown hK hH (Or.inl (Or.inl (Or.inl (Or.inl (Or.inl (Or.inl (Or.inl (Or.inl (Or.inl h900))))))))) (fs := [.int n, .int sh, .int ta, .ref q1, .ref q4, .ref q5, .int 0, .int 0, .int 0, .int 0, .int 0, .int (-1), .int 0, .int 0, .int 0]) rfl rfl 3 (by decide) (hts (.fieldLink RX0 11 "SelectoRoute$Box" "slots" "[LSelectoRoute$Slot;") (by decide +kernel)) (fun _ h => h) rfl dX0_init_66 ?_
  refine lv_iload hx hb dX0_init_69 (lv_at hl 0 rfl) ?_
  refine wr_new (C := RX3) (T := TX3) (N := 3) (ci := 5) (fs := [.int 0, .null, .int 0]) hx hb hts hinX3 tyX3 tyX3_ok hown (hts (.classLink RX0 9 RX3) (by decide +kernel)) (hts (.instantiable RX3 3) (by decide +kernel)) (hts (.initialized RX3) (by decide +kernel)) hK hH hS hz rfl (by decide) 916 (by rintro (((((((((h | h) | h) | h) | h) | h) | h) | h) | h) | h) <;> first | exact absurd h (hnl 916 (by decide)) | (exact absurd h (by decide)) | omega) (by omega) (by first | exact Nat.le_of_ble_eq_true rfl | omega) (by first | exact Nat.le_of_ble_eq_true rfl | omega) dX0_init_71 (fun q14 H hH hS => ?_)
  refine lv_dup hx hb dX0_init_74 rfl ?_
  refine lv_iload hx hb dX0_init_75 (lv_at hl 0 rfl) ?_
  refine va_callv (va_runI (As := [.int 6]) (rest := [.ref q14, .int 6, .ref q1]) ⟨hx, hb, hml, hown, hts⟩ (met_X3_init l E _ _ _ 916 6 (Or.inr rfl) rfl) (cwI 1 hts gX0_init_X3_init rfl rfl rfl (hts (.initialized RX3) (by decide +kernel)) (hts (.methodLink RX0 41 yX3_init) (by decide +kernel)) (hts (.instanceMethod yX3_init) (by decide +kernel)) rfl (by decide +kernel) ⟨Nat.le_of_ble_eq_true rfl, Nat.le_of_ble_eq_true rfl⟩) ⟨fun a U f mk q => ⟨q.1, wPreG.calling q.2 a f mk⟩, fun U hU hW => ⟨rfl, wPreG_at hz hS hH hK U hU hW⟩⟩ rfl rfl hl.1 rfl (lv_room (Nat.le_of_ble_eq_true rfl)) dX0_init_77 ⟨by first | exact Nat.le_of_ble_eq_true rfl | omega, by first | exact Nat.le_of_ble_eq_true rfl | omega⟩) hS (fun q _ h => h) (fun q h => h) (fun u t H locs ht hvm hw hB hz1 hk1 hS => ?_)
  have hH := wG_h ht hB
  refine wr_astq (t := 901) (tv := 916) (ci := 5) (r := (RX3, TX3, 3)) hx hb hK hH hS (Or.inl (Or.inl (Or.inl (Or.inl (Or.inl (Or.inl (Or.inl (Or.inl (Or.inl (Or.inr rfl)))))))))) rfl 2 rfl (Or.inr rfl) rfl rfl (by unfold vp_in; decide) dX0_init_80 (fun H locs hH hS => ?_)
  refine lv_iinc (v := 7) (lv' := [(4, .int 7), (0, .ref (g 900)), (1, .int n), (2, .int sh), (3, .int ta)]) hx hb dX0_init_81 hl (k := 0) rfl rfl (by decide) rfl (fun ls hl => ?_)
  refine lv_goto (tgt := 55) hx hb dX0_init_84 (by decide) ?_
  refine lv_iload hx hb dX0_init_55 (lv_at hl 0 rfl) ?_
  refine lv_aload_n hx hb dX0_init_57 rfl (lv_at hl 1 rfl) ?_
  refine wr_get (T := TX0) (N := 15) (ci := 3) (v := .ref q1) (t := 900) hx hb hts hinX0 hown hK hH (Or.inl (Or.inl (Or.inl (Or.inl (Or.inl (Or.inl (Or.inl (Or.inl (Or.inl (Or.inl h900)))))))))) (fs := [.int n, .int sh, .int ta, .ref q1, .ref q4, .ref q5, .int 0, .int 0, .int 0, .int 0, .int 0, .int (-1), .int 0, .int 0, .int 0]) rfl rfl 3 (by decide) (hts (.fieldLink RX0 11 "SelectoRoute$Box" "slots" "[LSelectoRoute$Slot;") (by decide +kernel)) (fun _ h => h) rfl dX0_init_58 ?_
  refine wr_alen (v := 10) (t := 901) hx hb hK hH (Or.inl (Or.inl (Or.inl (Or.inl (Or.inl (Or.inl (Or.inl (Or.inl (Or.inl (Or.inr rfl)))))))))) rfl 2 rfl rfl dX0_init_61 ?_
  refine lv_icmp_ge (tgt := 87) hx hb dX0_init_62 (by decide) (fun hq => absurd hq (show ¬ (10 : Int32) ≤ 7 by decide)) (fun _ => ?_)
  refine lv_aload_n hx hb dX0_init_65 rfl (lv_at hl 1 rfl) ?_
  refine wr_get (T := TX0) (N := 15) (ci := 3) (v := .ref q1) (t := 900) hx hb hts hinX0 hown hK hH (Or.inl (Or.inl (Or.inl (Or.inl (Or.inl (Or.inl (Or.inl (Or.inl (Or.inl (Or.inl h900)))))))))) (fs := [.int n, .int sh, .int ta, .ref q1, .ref q4, .ref q5, .int 0, .int 0, .int 0, .int 0, .int 0, .int (-1), .int 0, .int 0, .int 0]) rfl rfl 3 (by decide) (hts (.fieldLink RX0 11 "SelectoRoute$Box" "slots" "[LSelectoRoute$Slot;") (by decide +kernel)) (fun _ h => h) rfl dX0_init_66 ?_
  refine lv_iload hx hb dX0_init_69 (lv_at hl 0 rfl) ?_
  refine wr_new (C := RX3) (T := TX3) (N := 3) (ci := 5) (fs := [.int 0, .null, .int 0]) hx hb hts hinX3 tyX3 tyX3_ok hown (hts (.classLink RX0 9 RX3) (by decide +kernel)) (hts (.instantiable RX3 3) (by decide +kernel)) (hts (.initialized RX3) (by decide +kernel)) hK hH hS hz rfl (by decide) 917 (by rintro ((((((((((h | h) | h) | h) | h) | h) | h) | h) | h) | h) | h) <;> first | exact absurd h (hnl 917 (by decide)) | (exact absurd h (by decide)) | omega) (by omega) (by first | exact Nat.le_of_ble_eq_true rfl | omega) (by first | exact Nat.le_of_ble_eq_true rfl | omega) dX0_init_71 (fun q15 H hH hS => ?_)
  refine lv_dup hx hb dX0_init_74 rfl ?_
  refine lv_iload hx hb dX0_init_75 (lv_at hl 0 rfl) ?_
  refine va_callv (va_runI (As := [.int 7]) (rest := [.ref q15, .int 7, .ref q1]) ⟨hx, hb, hml, hown, hts⟩ (met_X3_init l E _ _ _ 917 7 (Or.inr rfl) rfl) (cwI 1 hts gX0_init_X3_init rfl rfl rfl (hts (.initialized RX3) (by decide +kernel)) (hts (.methodLink RX0 41 yX3_init) (by decide +kernel)) (hts (.instanceMethod yX3_init) (by decide +kernel)) rfl (by decide +kernel) ⟨Nat.le_of_ble_eq_true rfl, Nat.le_of_ble_eq_true rfl⟩) ⟨fun a U f mk q => ⟨q.1, wPreG.calling q.2 a f mk⟩, fun U hU hW => ⟨rfl, wPreG_at hz hS hH hK U hU hW⟩⟩ rfl rfl hl.1 rfl (lv_room (Nat.le_of_ble_eq_true rfl)) dX0_init_77 ⟨by first | exact Nat.le_of_ble_eq_true rfl | omega, by first | exact Nat.le_of_ble_eq_true rfl | omega⟩) hS (fun q _ h => h) (fun q h => h) (fun u t H locs ht hvm hw hB hz1 hk1 hS => ?_)
  have hH := wG_h ht hB
  refine wr_astq (t := 901) (tv := 917) (ci := 5) (r := (RX3, TX3, 3)) hx hb hK hH hS (Or.inl (Or.inl (Or.inl (Or.inl (Or.inl (Or.inl (Or.inl (Or.inl (Or.inl (Or.inl (Or.inr rfl))))))))))) rfl 2 rfl (Or.inr rfl) rfl rfl (by unfold vp_in; decide) dX0_init_80 (fun H locs hH hS => ?_)
  refine lv_iinc (v := 8) (lv' := [(4, .int 8), (0, .ref (g 900)), (1, .int n), (2, .int sh), (3, .int ta)]) hx hb dX0_init_81 hl (k := 0) rfl rfl (by decide) rfl (fun ls hl => ?_)
  refine lv_goto (tgt := 55) hx hb dX0_init_84 (by decide) ?_
  refine lv_iload hx hb dX0_init_55 (lv_at hl 0 rfl) ?_
  refine lv_aload_n hx hb dX0_init_57 rfl (lv_at hl 1 rfl) ?_
  refine wr_get (T := TX0) (N := 15) (ci := 3) (v := .ref q1) (t := 900) hx hb hts hinX0 hown hK hH (Or.inl (Or.inl (Or.inl (Or.inl (Or.inl (Or.inl (Or.inl (Or.inl (Or.inl (Or.inl (Or.inl h900))))))))))) (fs := [.int n, .int sh, .int ta, .ref q1, .ref q4, .ref q5, .int 0, .int 0, .int 0, .int 0, .int 0, .int (-1), .int 0, .int 0, .int 0]) rfl rfl 3 (by decide) (hts (.fieldLink RX0 11 "SelectoRoute$Box" "slots" "[LSelectoRoute$Slot;") (by decide +kernel)) (fun _ h => h) rfl dX0_init_58 ?_
  refine wr_alen (v := 10) (t := 901) hx hb hK hH (Or.inl (Or.inl (Or.inl (Or.inl (Or.inl (Or.inl (Or.inl (Or.inl (Or.inl (Or.inl (Or.inr rfl))))))))))) rfl 2 rfl rfl dX0_init_61 ?_
  refine lv_icmp_ge (tgt := 87) hx hb dX0_init_62 (by decide) (fun hq => absurd hq (show ¬ (10 : Int32) ≤ 8 by decide)) (fun _ => ?_)
  refine lv_aload_n hx hb dX0_init_65 rfl (lv_at hl 1 rfl) ?_
  refine wr_get (T := TX0) (N := 15) (ci := 3) (v := .ref q1) (t := 900) hx hb hts hinX0 hown hK hH (Or.inl (Or.inl (Or.inl (Or.inl (Or.inl (Or.inl (Or.inl (Or.inl (Or.inl (Or.inl (Or.inl h900))))))))))) (fs := [.int n, .int sh, .int ta, .ref q1, .ref q4, .ref q5, .int 0, .int 0, .int 0, .int 0, .int 0, .int (-1), .int 0, .int 0, .int 0]) rfl rfl 3 (by decide) (hts (.fieldLink RX0 11 "SelectoRoute$Box" "slots" "[LSelectoRoute$Slot;") (by decide +kernel)) (fun _ h => h) rfl dX0_init_66 ?_
  refine lv_iload hx hb dX0_init_69 (lv_at hl 0 rfl) ?_
  refine wr_new (C := RX3) (T := TX3) (N := 3) (ci := 5) (fs := [.int 0, .null, .int 0]) hx hb hts hinX3 tyX3 tyX3_ok hown (hts (.classLink RX0 9 RX3) (by decide +kernel)) (hts (.instantiable RX3 3) (by decide +kernel)) (hts (.initialized RX3) (by decide +kernel)) hK hH hS hz rfl (by decide) 918 (by rintro (((((((((((h | h) | h) | h) | h) | h) | h) | h) | h) | h) | h) | h) <;> first | exact absurd h (hnl 918 (by decide)) | (exact absurd h (by decide)) | omega) (by omega) (by first | exact Nat.le_of_ble_eq_true rfl | omega) (by first | exact Nat.le_of_ble_eq_true rfl | omega) dX0_init_71 (fun q16 H hH hS => ?_)
  refine lv_dup hx hb dX0_init_74 rfl ?_
  refine lv_iload hx hb dX0_init_75 (lv_at hl 0 rfl) ?_
  refine va_callv (va_runI (As := [.int 8]) (rest := [.ref q16, .int 8, .ref q1]) ⟨hx, hb, hml, hown, hts⟩ (met_X3_init l E _ _ _ 918 8 (Or.inr rfl) rfl) (cwI 1 hts gX0_init_X3_init rfl rfl rfl (hts (.initialized RX3) (by decide +kernel)) (hts (.methodLink RX0 41 yX3_init) (by decide +kernel)) (hts (.instanceMethod yX3_init) (by decide +kernel)) rfl (by decide +kernel) ⟨Nat.le_of_ble_eq_true rfl, Nat.le_of_ble_eq_true rfl⟩) ⟨fun a U f mk q => ⟨q.1, wPreG.calling q.2 a f mk⟩, fun U hU hW => ⟨rfl, wPreG_at hz hS hH hK U hU hW⟩⟩ rfl rfl hl.1 rfl (lv_room (Nat.le_of_ble_eq_true rfl)) dX0_init_77 ⟨by first | exact Nat.le_of_ble_eq_true rfl | omega, by first | exact Nat.le_of_ble_eq_true rfl | omega⟩) hS (fun q _ h => h) (fun q h => h) (fun u t H locs ht hvm hw hB hz1 hk1 hS => ?_)
  have hH := wG_h ht hB
  refine wr_astq (t := 901) (tv := 918) (ci := 5) (r := (RX3, TX3, 3)) hx hb hK hH hS (Or.inl (Or.inl (Or.inl (Or.inl (Or.inl (Or.inl (Or.inl (Or.inl (Or.inl (Or.inl (Or.inl (Or.inr rfl)))))))))))) rfl 2 rfl (Or.inr rfl) rfl rfl (by unfold vp_in; decide) dX0_init_80 (fun H locs hH hS => ?_)
  refine lv_iinc (v := 9) (lv' := [(4, .int 9), (0, .ref (g 900)), (1, .int n), (2, .int sh), (3, .int ta)]) hx hb dX0_init_81 hl (k := 0) rfl rfl (by decide) rfl (fun ls hl => ?_)
  refine lv_goto (tgt := 55) hx hb dX0_init_84 (by decide) ?_
  refine lv_iload hx hb dX0_init_55 (lv_at hl 0 rfl) ?_
  refine lv_aload_n hx hb dX0_init_57 rfl (lv_at hl 1 rfl) ?_
  refine wr_get (T := TX0) (N := 15) (ci := 3) (v := .ref q1) (t := 900) hx hb hts hinX0 hown hK hH (Or.inl (Or.inl (Or.inl (Or.inl (Or.inl (Or.inl (Or.inl (Or.inl (Or.inl (Or.inl (Or.inl (Or.inl h900)))))))))))) (fs := [.int n, .int sh, .int ta, .ref q1, .ref q4, .ref q5, .int 0, .int 0, .int 0, .int 0, .int 0, .int (-1), .int 0, .int 0, .int 0]) rfl rfl 3 (by decide) (hts (.fieldLink RX0 11 "SelectoRoute$Box" "slots" "[LSelectoRoute$Slot;") (by decide +kernel)) (fun _ h => h) rfl dX0_init_58 ?_
  refine wr_alen (v := 10) (t := 901) hx hb hK hH (Or.inl (Or.inl (Or.inl (Or.inl (Or.inl (Or.inl (Or.inl (Or.inl (Or.inl (Or.inl (Or.inl (Or.inr rfl)))))))))))) rfl 2 rfl rfl dX0_init_61 ?_
  refine lv_icmp_ge (tgt := 87) hx hb dX0_init_62 (by decide) (fun hq => absurd hq (show ¬ (10 : Int32) ≤ 9 by decide)) (fun _ => ?_)
  refine lv_aload_n hx hb dX0_init_65 rfl (lv_at hl 1 rfl) ?_
  refine wr_get (T := TX0) (N := 15) (ci := 3) (v := .ref q1) (t := 900) hx hb hts hinX0 hown hK hH (Or.inl (Or.inl (Or.inl (Or.inl (Or.inl (Or.inl (Or.inl (Or.inl (Or.inl (Or.inl (Or.inl (Or.inl h900)))))))))))) (fs := [.int n, .int sh, .int ta, .ref q1, .ref q4, .ref q5, .int 0, .int 0, .int 0, .int 0, .int 0, .int (-1), .int 0, .int 0, .int 0]) rfl rfl 3 (by decide) (hts (.fieldLink RX0 11 "SelectoRoute$Box" "slots" "[LSelectoRoute$Slot;") (by decide +kernel)) (fun _ h => h) rfl dX0_init_66 ?_
  refine lv_iload hx hb dX0_init_69 (lv_at hl 0 rfl) ?_
  refine wr_new (C := RX3) (T := TX3) (N := 3) (ci := 5) (fs := [.int 0, .null, .int 0]) hx hb hts hinX3 tyX3 tyX3_ok hown (hts (.classLink RX0 9 RX3) (by decide +kernel)) (hts (.instantiable RX3 3) (by decide +kernel)) (hts (.initialized RX3) (by decide +kernel)) hK hH hS hz rfl (by decide) 919 (by rintro ((((((((((((h | h) | h) | h) | h) | h) | h) | h) | h) | h) | h) | h) | h) <;> first | exact absurd h (hnl 919 (by decide)) | (exact absurd h (by decide)) | omega) (by omega) (by first | exact Nat.le_of_ble_eq_true rfl | omega) (by first | exact Nat.le_of_ble_eq_true rfl | omega) dX0_init_71 (fun q17 H hH hS => ?_)
  refine lv_dup hx hb dX0_init_74 rfl ?_
  refine lv_iload hx hb dX0_init_75 (lv_at hl 0 rfl) ?_
  refine va_callv (va_runI (As := [.int 9]) (rest := [.ref q17, .int 9, .ref q1]) ⟨hx, hb, hml, hown, hts⟩ (met_X3_init l E _ _ _ 919 9 (Or.inr rfl) rfl) (cwI 1 hts gX0_init_X3_init rfl rfl rfl (hts (.initialized RX3) (by decide +kernel)) (hts (.methodLink RX0 41 yX3_init) (by decide +kernel)) (hts (.instanceMethod yX3_init) (by decide +kernel)) rfl (by decide +kernel) ⟨Nat.le_of_ble_eq_true rfl, Nat.le_of_ble_eq_true rfl⟩) ⟨fun a U f mk q => ⟨q.1, wPreG.calling q.2 a f mk⟩, fun U hU hW => ⟨rfl, wPreG_at hz hS hH hK U hU hW⟩⟩ rfl rfl hl.1 rfl (lv_room (Nat.le_of_ble_eq_true rfl)) dX0_init_77 ⟨by first | exact Nat.le_of_ble_eq_true rfl | omega, by first | exact Nat.le_of_ble_eq_true rfl | omega⟩) hS (fun q _ h => h) (fun q h => h) (fun u t H locs ht hvm hw hB hz1 hk1 hS => ?_)
  have hH := wG_h ht hB
  refine wr_astq (t := 901) (tv := 919) (ci := 5) (r := (RX3, TX3, 3)) hx hb hK hH hS (Or.inl (Or.inl (Or.inl (Or.inl (Or.inl (Or.inl (Or.inl (Or.inl (Or.inl (Or.inl (Or.inl (Or.inl (Or.inr rfl))))))))))))) rfl 2 rfl (Or.inr rfl) rfl rfl (by unfold vp_in; decide) dX0_init_80 (fun H locs hH hS => ?_)
  refine lv_iinc (v := 10) (lv' := [(4, .int 10), (0, .ref (g 900)), (1, .int n), (2, .int sh), (3, .int ta)]) hx hb dX0_init_81 hl (k := 0) rfl rfl (by decide) rfl (fun ls hl => ?_)
  refine lv_goto (tgt := 55) hx hb dX0_init_84 (by decide) ?_
  refine lv_iload hx hb dX0_init_55 (lv_at hl 0 rfl) ?_
  refine lv_aload_n hx hb dX0_init_57 rfl (lv_at hl 1 rfl) ?_
  refine wr_get (T := TX0) (N := 15) (ci := 3) (v := .ref q1) (t := 900) hx hb hts hinX0 hown hK hH (Or.inl (Or.inl (Or.inl (Or.inl (Or.inl (Or.inl (Or.inl (Or.inl (Or.inl (Or.inl (Or.inl (Or.inl (Or.inl h900))))))))))))) (fs := [.int n, .int sh, .int ta, .ref q1, .ref q4, .ref q5, .int 0, .int 0, .int 0, .int 0, .int 0, .int (-1), .int 0, .int 0, .int 0]) rfl rfl 3 (by decide) (hts (.fieldLink RX0 11 "SelectoRoute$Box" "slots" "[LSelectoRoute$Slot;") (by decide +kernel)) (fun _ h => h) rfl dX0_init_58 ?_
  refine wr_alen (v := 10) (t := 901) hx hb hK hH (Or.inl (Or.inl (Or.inl (Or.inl (Or.inl (Or.inl (Or.inl (Or.inl (Or.inl (Or.inl (Or.inl (Or.inl (Or.inr rfl))))))))))))) rfl 2 rfl rfl dX0_init_61 ?_
  refine lv_icmp_ge (tgt := 87) hx hb dX0_init_62 (by decide) (fun _ => ?_) (fun hq => absurd (show (10 : Int32) ≤ 10 by decide) hq)
  refine W.widen (k := 13) (n := 143) (by omega) (by omega) ?_
  have hfin : ∃ g9 : Nat → Nat, (∀ t9, t9 < 901 → g9 t9 = g t9) ∧ wH E.1 E.2.2 g9 (fun t9 => live t9 ∨ (901 ≤ t9 ∧ t9 < 904) ∨ (910 ≤ t9 ∧ t9 < 920)) (fun t9 => if t9 < 900 then F t9 else bxF E.2.1 g9 n sh ta t9) H := by
    refine ⟨_, ?_, wH_fin hH ?_⟩
    · intro t9 h9
      have n901 : ¬ t9 = 901 := by omega
      have n902 : ¬ t9 = 902 := by omega
      have n903 : ¬ t9 = 903 := by omega
      have n910 : ¬ t9 = 910 := by omega
      have n911 : ¬ t9 = 911 := by omega
      have n912 : ¬ t9 = 912 := by omega
      have n913 : ¬ t9 = 913 := by omega
      have n914 : ¬ t9 = 914 := by omega
      have n915 : ¬ t9 = 915 := by omega
      have n916 : ¬ t9 = 916 := by omega
      have n917 : ¬ t9 = 917 := by omega
      have n918 : ¬ t9 = 918 := by omega
      have n919 : ¬ t9 = 919 := by omega
      simp only [va_up, n901, n902, n903, n910, n911, n912, n913, n914, n915, n916, n917, n918, n919, ↓reduceIte]
    · intro t9 h9
      rcases h9 with h9 | h9 | h9
      · have h901 : ¬ 900 < t9 := fun q => hnl t9 q h9
        by_cases e9 : t9 = 900
        · subst e9
          exact ⟨(Or.inl (Or.inl (Or.inl (Or.inl (Or.inl (Or.inl (Or.inl (Or.inl (Or.inl (Or.inl (Or.inl (Or.inl (Or.inl h9))))))))))))), Or.inl rfl⟩
        · have l9 : t9 < 900 := by omega
          have n900 : ¬ t9 = 900 := by omega
          have n901 : ¬ t9 = 901 := by omega
          have n902 : ¬ t9 = 902 := by omega
          have n903 : ¬ t9 = 903 := by omega
          have n910 : ¬ t9 = 910 := by omega
          have n911 : ¬ t9 = 911 := by omega
          have n912 : ¬ t9 = 912 := by omega
          have n913 : ¬ t9 = 913 := by omega
          have n914 : ¬ t9 = 914 := by omega
          have n915 : ¬ t9 = 915 := by omega
          have n916 : ¬ t9 = 916 := by omega
          have n917 : ¬ t9 = 917 := by omega
          have n918 : ¬ t9 = 918 := by omega
          have n919 : ¬ t9 = 919 := by omega
          refine ⟨(Or.inl (Or.inl (Or.inl (Or.inl (Or.inl (Or.inl (Or.inl (Or.inl (Or.inl (Or.inl (Or.inl (Or.inl (Or.inl h9))))))))))))), Or.inl ?_⟩
          simp only [va_up, l9, n900, n901, n902, n903, n910, n911, n912, n913, n914, n915, n916, n917, n918, n919, ↓reduceIte]
      · have c9 : t9 = 901 ∨ t9 = 902 ∨ t9 = 903 := by omega
        rcases c9 with rfl | rfl | rfl
        · refine ⟨(Or.inl (Or.inl (Or.inl (Or.inl (Or.inl (Or.inl (Or.inl (Or.inl (Or.inl (Or.inl (Or.inl (Or.inl (Or.inr rfl))))))))))))), Or.inr ⟨E.2.1.1 2, 10, _, _, rfl, rfl, fun i hi => ?_⟩⟩
          have ci : i = 0 ∨ i = 1 ∨ i = 2 ∨ i = 3 ∨ i = 4 ∨ i = 5 ∨ i = 6 ∨ i = 7 ∨ i = 8 ∨ i = 9 := by omega
          rcases ci with rfl | rfl | rfl | rfl | rfl | rfl | rfl | rfl | rfl | rfl <;> rfl
        · exact ⟨(Or.inl (Or.inl (Or.inl (Or.inl (Or.inl (Or.inl (Or.inl (Or.inl (Or.inl (Or.inl (Or.inl (Or.inr rfl)))))))))))), Or.inl rfl⟩
        · exact ⟨(Or.inl (Or.inl (Or.inl (Or.inl (Or.inl (Or.inl (Or.inl (Or.inl (Or.inl (Or.inl (Or.inr rfl))))))))))), Or.inl rfl⟩
      · have c9 : t9 = 910 ∨ t9 = 911 ∨ t9 = 912 ∨ t9 = 913 ∨ t9 = 914 ∨ t9 = 915 ∨ t9 = 916 ∨ t9 = 917 ∨ t9 = 918 ∨ t9 = 919 := by omega
        rcases c9 with rfl | rfl | rfl | rfl | rfl | rfl | rfl | rfl | rfl | rfl
        · exact ⟨(Or.inl (Or.inl (Or.inl (Or.inl (Or.inl (Or.inl (Or.inl (Or.inl (Or.inl (Or.inr rfl)))))))))), Or.inl rfl⟩
        · exact ⟨(Or.inl (Or.inl (Or.inl (Or.inl (Or.inl (Or.inl (Or.inl (Or.inl (Or.inr rfl))))))))), Or.inl rfl⟩
        · exact ⟨(Or.inl (Or.inl (Or.inl (Or.inl (Or.inl (Or.inl (Or.inl (Or.inr rfl)))))))), Or.inl rfl⟩
        · exact ⟨(Or.inl (Or.inl (Or.inl (Or.inl (Or.inl (Or.inl (Or.inr rfl))))))), Or.inl rfl⟩
        · exact ⟨(Or.inl (Or.inl (Or.inl (Or.inl (Or.inl (Or.inr rfl)))))), Or.inl rfl⟩
        · exact ⟨(Or.inl (Or.inl (Or.inl (Or.inl (Or.inr rfl))))), Or.inl rfl⟩
        · exact ⟨(Or.inl (Or.inl (Or.inl (Or.inr rfl)))), Or.inl rfl⟩
        · exact ⟨(Or.inl (Or.inl (Or.inr rfl))), Or.inl rfl⟩
        · exact ⟨(Or.inl (Or.inr rfl)), Or.inl rfl⟩
        · exact ⟨(Or.inr rfl), Or.inl rfl⟩
  exact W.vret hx hb hr (fun t ht hW => ⟨⟨(), rfl, trivial, by obtain ⟨g9, a9, b9⟩ := hfin; exact ⟨g9, a9, wG_t ht b9⟩⟩, hS.F ht⟩) hS.2.2 dX0_init_87
