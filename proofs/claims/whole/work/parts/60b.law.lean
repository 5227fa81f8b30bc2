set_option maxHeartbeats 4000000 in
set_option maxRecDepth 100000 in
theorem lc_getQueued {p : Program} {l : Launch} {e : Env} {s : State} {m : MethodId} {below : List Frame} {meth : Method} {c : Code} {E : wE} {b L : Nat} {xs : Nat → Int32} {Q : State → Prop} (hE : lwE p l s m meth c E b L xs) (i : Nat) (hi : 4 * i + 4 ≤ L) {o : wO} {g : Nat → Nat} {x y : St} (hR : Rel i x y) {H : Heap} {locs : List Loc} {ls : Array Slot} {cells slots : Nat} (hl : lv_has ls 9 (lwL b g i)) (hH : wHS E o g x y H) (hS : va_S (wA E) s.heap H locs) (hroom : cells + 40 ≤ 603072 ∧ slots + 500 ≤ 7219306)
    (kont : ∀ (o : wO) (g : Nat → Nat) (x y : St) (H : Heap) (locs : List Loc) (ls : Array Slot) (cells2 slots2 : Nat), cells2 ≤ cells + 40 → slots2 ≤ slots + 500 → Rel (i + 1) x y → lv_has ls 9 (lwL b g i) → wHS E o g x y H → va_S (wA E) s.heap H locs → W p l e room_1 s m #[Value.ref b] below meth c H locs cells2 slots2 Q (F0 m 2262 ls [])) : W p l e room_1 s m #[Value.ref b] below meth c H locs cells slots Q (F0 m 730 ls []) := by
  obtain ⟨hx, hb, hml, hown, hts, hr, hlocks, hX, hbl, hbA, hz, hK, hC, hDD, hNc, hlt, hL⟩ := hE
  obtain ⟨hI, hJ, hKK, hQ, hFrD, hFrB, hMI, hBK, hCS, hEQ⟩ := id hR
  have hl : lv_has ls 9 [(5, .int (nI (4 * i))), (0, .ref b), (1, .ref (g 0)), (2, .ref (g 10)), (3, .ref (g 40)), (4, .ref (g 41))] := hl
  refine lv_aload_n hx hb dL_law_730 rfl (lv_at hl 2 rfl) ?_
  refine lv_aload_n hx hb dL_law_731 rfl (lv_at hl 1 rfl) ?_
  refine lv_iload hx hb dL_law_732 (lv_at hl 0 rfl) ?_
  refine lv_iconst (v := 1) hx hb dL_law_734 (by decide) ?_
  refine lv_iadd hx hb dL_law_735 ?_
  refine lv_tope (nI_add (4 * i) 1) ?_
  refine va_sld hx hb hX hbl hbA hS (vp_in_nI (n := ((4 * i) + 1)) (N := L) (by omega) (by omega)) dL_law_736 ?_
  refine lv_aload_n hx hb dL_law_737 rfl (lv_at hl 4 rfl) ?_
  have hsim := sim_getQueued hR (by omega) (xs (nI ((4 * i) + 1)).toNatClampNeg)
  refine va_calli (vx_runSW (As := [.ref (g 0), .int (xs (nI ((4 * i) + 1)).toNatClampNeg), .ref (g 40)]) (rest := []) ⟨hx, hb, hml, hown, hts⟩ (met_L_getQueued l E o g x y (xs (nI ((4 * i) + 1)).toNatClampNeg) hlt hI) (vx_cwSW 3 hts gL_law_L_getQueued rfl rfl rfl (by decide +kernel) ⟨Nat.le_of_ble_eq_true rfl, Nat.le_of_ble_eq_true rfl⟩) ⟨fun a U f mk q => ⟨q.1, wPreL.calling q.2 a f mk⟩, fun U hU hW => ⟨rfl, wPreL_at hz hS hH hK hC hDD hNc U hU hW⟩⟩ rfl rfl hl.1 rfl (lv_room (Nat.le_of_ble_eq_true rfl)) dL_law_738 ⟨by show _ ≤ 603072; omega, by show _ ≤ 7219306; omega⟩) hS (fun q _ h => h) (fun q h => h) (fun r9 u t H locs ht hvm hw hB hz1 hk1 hS => ?_)
  obtain ⟨hgE, hB⟩ := hB
  obtain ⟨o, g⟩ := u
  have hH : wHS E o g (cp_getQueued x (xs (nI ((4 * i) + 1)).toNatClampNeg)).2.2 y H := wHS_h ht hB
  rw [← hgE 0 (by decide) (by decide) (by decide), ← hgE 10 (by decide) (by decide) (by decide), ← hgE 40 (by decide) (by decide) (by decide), ← hgE 41 (by decide) (by decide) (by decide)] at hl
  have hl : lv_has ls 9 [(5, .int (nI (4 * i))), (0, .ref b), (1, .ref (g 0)), (2, .ref (g 10)), (3, .ref (g 40)), (4, .ref (g 41))] := hl
  have hkr := sim_r hsim hw.1 hw.2
  have hR2 := hsim.2.2.2
  refine lv_istore (lv' := [(6, .int r9), (5, .int (nI (4 * i))), (0, .ref b), (1, .ref (g 0)), (2, .ref (g 10)), (3, .ref (g 40)), (4, .ref (g 41))]) hx hb dL_law_741 hl (by decide) rfl (fun ls hl => ?_)
  refine lv_aload_n hx hb dL_law_743 rfl (lv_at hl 4 rfl) ?_
  refine lv_aload_n hx hb dL_law_744 rfl (lv_at hl 2 rfl) ?_
  refine lv_iload hx hb dL_law_745 (lv_at hl 1 rfl) ?_
  refine lv_iconst (v := 1) hx hb dL_law_747 (by decide) ?_
  refine lv_iadd hx hb dL_law_748 ?_
  refine lv_tope (nI_add (4 * i) 1) ?_
  refine va_sld hx hb hX hbl hbA hS (vp_in_nI (n := ((4 * i) + 1)) (N := L) (by omega) (by omega)) dL_law_749 ?_
  refine va_calli (va_runV (As := [.int (xs (nI ((4 * i) + 1)).toNatClampNeg)]) (rest := []) ⟨hx, hb, hml, hown, hts⟩ (met_X5_getQueued l E o g (cp_getQueued x (xs (nI ((4 * i) + 1)).toNatClampNeg)).2.2 y (xs (nI ((4 * i) + 1)).toNatClampNeg) hMI) (cwV 1 hts gL_law_X5_getQueued rfl rfl rfl (by decide +kernel) ⟨Nat.le_of_ble_eq_true rfl, Nat.le_of_ble_eq_true rfl⟩) ⟨fun a U f mk q => ⟨q.1, wPre.calling q.2 a f mk⟩, (va_recv hK (wH_one hH (lv_md (by decide) (by decide)) (cel_md (by decide) (by decide))) (ci := 7) (q0 := 0) rfl rfl), fun U hU hW => ⟨rfl, wPre_at hz hS hH hK U hU hW⟩⟩ rfl rfl hl.1 rfl (lv_room (Nat.le_of_ble_eq_true rfl)) dL_law_750 ⟨by show _ ≤ 603072; omega, by show _ ≤ 7219306; omega⟩) hS (fun q _ h => h) (fun q h => h) (fun r8 u t H locs ht hvm hw8 hB hz1 hk1 hS => ?_)
  have hH : wHS E o g (cp_getQueued x (xs (nI ((4 * i) + 1)).toNatClampNeg)).2.2 (mp_getQueued y (xs (nI ((4 * i) + 1)).toNatClampNeg)).2 H := wHS_h ht hB
  obtain rfl := hw8
  refine lv_istore (lv' := [(7, .int ((mp_getQueued y (xs (nI ((4 * i) + 1)).toNatClampNeg)).1)), (6, .int r9), (5, .int (nI (4 * i))), (0, .ref b), (1, .ref (g 0)), (2, .ref (g 10)), (3, .ref (g 40)), (4, .ref (g 41))]) hx hb dL_law_753 hl (by decide) rfl (fun ls hl => ?_)
  refine lv_aload_n hx hb dL_law_755 rfl (lv_at hl 5 rfl) ?_
  refine va_calli (va_runV (As := []) (rest := []) ⟨hx, hb, hml, hown, hts⟩ (met_X5_thrown l E o g (cp_getQueued x (xs (nI ((4 * i) + 1)).toNatClampNeg)).2.2 (mp_getQueued y (xs (nI ((4 * i) + 1)).toNatClampNeg)).2 hR2.2.2.2.2.2.2.1) (cwV 0 hts gL_law_X5_thrown rfl rfl rfl (by decide +kernel) ⟨Nat.le_of_ble_eq_true rfl, Nat.le_of_ble_eq_true rfl⟩) ⟨fun a U f mk q => ⟨q.1, wPre.calling q.2 a f mk⟩, (va_recv hK (wH_one hH (lv_md (by decide) (by decide)) (cel_md (by decide) (by decide))) (ci := 7) (q0 := 0) rfl rfl), fun U hU hW => ⟨rfl, wPre_at hz hS hH hK U hU hW⟩⟩ rfl rfl hl.1 rfl (lv_room (Nat.le_of_ble_eq_true rfl)) dL_law_756 ⟨by show _ ≤ 603072; omega, by show _ ≤ 7219306; omega⟩) hS (fun q _ h => h) (fun q h => h) (fun r8 u t H locs ht hvm hw8 hB hz1 hk1 hS => ?_)
  have hH : wHS E o g (cp_getQueued x (xs (nI ((4 * i) + 1)).toNatClampNeg)).2.2 (mp_getQueued y (xs (nI ((4 * i) + 1)).toNatClampNeg)).2 H := wHS_h ht hB
  have hw8 : r8 = (mp_getQueued y (xs (nI ((4 * i) + 1)).toNatClampNeg)).2.2 28 0 := hw8
  obtain rfl := hw8
  refine lv_iload hx hb dL_law_759 (lv_at hl 1 rfl) ?_
  refine lv_icmp_eq (tgt := 766) hx hb dL_law_761 (by decide) (fun _ => ?_) (fun hq => absurd hkr hq)
  refine lv_iload hx hb dL_law_766 (lv_at hl 1 rfl) ?_
  refine lv_if_ne (tgt := 783) hx hb dL_law_768 (by decide) (fun h9 => ?_) (fun h9 => ?_)
  · skip
    refine lv_goto (tgt := 2262) hx hb dL_law_783 (by decide) ?_
    exact kont _ _ _ _ _ _ _ _ _ (by omega) (by omega) hR2 (lv_sub hl [2, 3, 4, 5, 6, 7] rfl) hH hS
  · obtain ⟨hnn, hval⟩ := sim_n (by decide) hw.1 hw.2 h9
    have hres := hsim.2.2.1 hnn
    rw [hres] at hval
    refine lv_aload_n hx hb dL_law_771 rfl (lv_at hl 6 rfl) ?_
    refine lv_iconst (v := 0) hx hb dL_law_772 (by decide) ?_
    refine wr_lald (t := 40) (v := ((mp_getQueued y (xs (nI ((4 * i) + 1)).toNatClampNeg)).1).toInt64) hx hb hK hH lv_o1 rfl 4 rfl (by unfold vp_in; decide) (by rw [show (0 : Int32).toNatClampNeg = 0 from rfl]; exact hval) dL_law_773 ?_
    refine lv_iload hx hb dL_law_774 (lv_at hl 0 rfl) ?_
    refine lv_i2l hx hb dL_law_776 rfl ?_
    refine W.lcmp hx hb dL_law_777 ?_
    refine lv_tope (lgc_self _) ?_
    refine lv_if_eq (tgt := 783) hx hb dL_law_778 (by decide) (fun _ => ?_) (fun hq => absurd (show (0 : Int32) = 0 by decide) hq)
    refine lv_goto (tgt := 2262) hx hb dL_law_783 (by decide) ?_
    exact kont _ _ _ _ _ _ _ _ _ (by omega) (by omega) hR2 (lv_sub hl [2, 3, 4, 5, 6, 7] rfl) hH hS
set_option maxHeartbeats 4000000 in
set_option maxRecDepth 100000 in
theorem lc_getCents {p : Program} {l : Launch} {e : Env} {s : State} {m : MethodId} {below : List Frame} {meth : Method} {c : Code} {E : wE} {b L : Nat} {xs : Nat → Int32} {Q : State → Prop} (hE : lwE p l s m meth c E b L xs) (i : Nat) (hi : 4 * i + 4 ≤ L) {o : wO} {g : Nat → Nat} {x y : St} (hR : Rel i x y) {H : Heap} {locs : List Loc} {ls : Array Slot} {cells slots : Nat} (hl : lv_has ls 9 (lwL b g i)) (hH : wHS E o g x y H) (hS : va_S (wA E) s.heap H locs) (hroom : cells + 40 ≤ 603072 ∧ slots + 500 ≤ 7219306)
    (kont : ∀ (o : wO) (g : Nat → Nat) (x y : St) (H : Heap) (locs : List Loc) (ls : Array Slot) (cells2 slots2 : Nat), cells2 ≤ cells + 40 → slots2 ≤ slots + 500 → Rel (i + 1) x y → lv_has ls 9 (lwL b g i) → wHS E o g x y H → va_S (wA E) s.heap H locs → W p l e room_1 s m #[Value.ref b] below meth c H locs cells2 slots2 Q (F0 m 2262 ls [])) : W p l e room_1 s m #[Value.ref b] below meth c H locs cells slots Q (F0 m 786 ls []) := by
  obtain ⟨hx, hb, hml, hown, hts, hr, hlocks, hX, hbl, hbA, hz, hK, hC, hDD, hNc, hlt, hL⟩ := hE
  obtain ⟨hI, hJ, hKK, hQ, hFrD, hFrB, hMI, hBK, hCS, hEQ⟩ := id hR
  have hl : lv_has ls 9 [(5, .int (nI (4 * i))), (0, .ref b), (1, .ref (g 0)), (2, .ref (g 10)), (3, .ref (g 40)), (4, .ref (g 41))] := hl
  refine lv_aload_n hx hb dL_law_786 rfl (lv_at hl 2 rfl) ?_
  refine lv_aload_n hx hb dL_law_787 rfl (lv_at hl 1 rfl) ?_
  refine lv_iload hx hb dL_law_788 (lv_at hl 0 rfl) ?_
  refine lv_iconst (v := 1) hx hb dL_law_790 (by decide) ?_
  refine lv_iadd hx hb dL_law_791 ?_
  refine lv_tope (nI_add (4 * i) 1) ?_
  refine va_sld hx hb hX hbl hbA hS (vp_in_nI (n := ((4 * i) + 1)) (N := L) (by omega) (by omega)) dL_law_792 ?_
  refine lv_aload_n hx hb dL_law_793 rfl (lv_at hl 4 rfl) ?_
  have hsim := sim_getCents hR (by omega) (xs (nI ((4 * i) + 1)).toNatClampNeg)
  refine va_calli (vx_runSW (As := [.ref (g 0), .int (xs (nI ((4 * i) + 1)).toNatClampNeg), .ref (g 40)]) (rest := []) ⟨hx, hb, hml, hown, hts⟩ (met_L_getCents l E o g x y (xs (nI ((4 * i) + 1)).toNatClampNeg) hlt hI) (vx_cwSW 3 hts gL_law_L_getCents rfl rfl rfl (by decide +kernel) ⟨Nat.le_of_ble_eq_true rfl, Nat.le_of_ble_eq_true rfl⟩) ⟨fun a U f mk q => ⟨q.1, wPreL.calling q.2 a f mk⟩, fun U hU hW => ⟨rfl, wPreL_at hz hS hH hK hC hDD hNc U hU hW⟩⟩ rfl rfl hl.1 rfl (lv_room (Nat.le_of_ble_eq_true rfl)) dL_law_794 ⟨by show _ ≤ 603072; omega, by show _ ≤ 7219306; omega⟩) hS (fun q _ h => h) (fun q h => h) (fun r9 u t H locs ht hvm hw hB hz1 hk1 hS => ?_)
  obtain ⟨hgE, hB⟩ := hB
  obtain ⟨o, g⟩ := u
  have hH : wHS E o g (cp_getCents x (xs (nI ((4 * i) + 1)).toNatClampNeg)).2.2 y H := wHS_h ht hB
  rw [← hgE 0 (by decide) (by decide) (by decide), ← hgE 10 (by decide) (by decide) (by decide), ← hgE 40 (by decide) (by decide) (by decide), ← hgE 41 (by decide) (by decide) (by decide)] at hl
  have hl : lv_has ls 9 [(5, .int (nI (4 * i))), (0, .ref b), (1, .ref (g 0)), (2, .ref (g 10)), (3, .ref (g 40)), (4, .ref (g 41))] := hl
  have hkr := sim_r hsim hw.1 hw.2
  have hR2 := hsim.2.2.2
  refine lv_istore (lv' := [(6, .int r9), (5, .int (nI (4 * i))), (0, .ref b), (1, .ref (g 0)), (2, .ref (g 10)), (3, .ref (g 40)), (4, .ref (g 41))]) hx hb dL_law_797 hl (by decide) rfl (fun ls hl => ?_)
  refine lv_aload_n hx hb dL_law_799 rfl (lv_at hl 4 rfl) ?_
  refine lv_aload_n hx hb dL_law_800 rfl (lv_at hl 2 rfl) ?_
  refine lv_iload hx hb dL_law_801 (lv_at hl 1 rfl) ?_
  refine lv_iconst (v := 1) hx hb dL_law_803 (by decide) ?_
  refine lv_iadd hx hb dL_law_804 ?_
  refine lv_tope (nI_add (4 * i) 1) ?_
  refine va_sld hx hb hX hbl hbA hS (vp_in_nI (n := ((4 * i) + 1)) (N := L) (by omega) (by omega)) dL_law_805 ?_
  refine va_calli (va_runV (As := [.int (xs (nI ((4 * i) + 1)).toNatClampNeg)]) (rest := []) ⟨hx, hb, hml, hown, hts⟩ (met_X5_getCents l E o g (cp_getCents x (xs (nI ((4 * i) + 1)).toNatClampNeg)).2.2 y (xs (nI ((4 * i) + 1)).toNatClampNeg) hMI) (cwV 1 hts gL_law_X5_getCents rfl rfl rfl (by decide +kernel) ⟨Nat.le_of_ble_eq_true rfl, Nat.le_of_ble_eq_true rfl⟩) ⟨fun a U f mk q => ⟨q.1, wPre.calling q.2 a f mk⟩, (va_recv hK (wH_one hH (lv_md (by decide) (by decide)) (cel_md (by decide) (by decide))) (ci := 7) (q0 := 0) rfl rfl), fun U hU hW => ⟨rfl, wPre_at hz hS hH hK U hU hW⟩⟩ rfl rfl hl.1 rfl (lv_room (Nat.le_of_ble_eq_true rfl)) dL_law_806 ⟨by show _ ≤ 603072; omega, by show _ ≤ 7219306; omega⟩) hS (fun q _ h => h) (fun q h => h) (fun r8 u t H locs ht hvm hw8 hB hz1 hk1 hS => ?_)
  have hH : wHS E o g (cp_getCents x (xs (nI ((4 * i) + 1)).toNatClampNeg)).2.2 (mp_getCents y (xs (nI ((4 * i) + 1)).toNatClampNeg)).2 H := wHS_h ht hB
  obtain rfl := hw8
  refine lv_istore (lv' := [(7, .int ((mp_getCents y (xs (nI ((4 * i) + 1)).toNatClampNeg)).1)), (6, .int r9), (5, .int (nI (4 * i))), (0, .ref b), (1, .ref (g 0)), (2, .ref (g 10)), (3, .ref (g 40)), (4, .ref (g 41))]) hx hb dL_law_809 hl (by decide) rfl (fun ls hl => ?_)
  refine lv_aload_n hx hb dL_law_811 rfl (lv_at hl 5 rfl) ?_
  refine va_calli (va_runV (As := []) (rest := []) ⟨hx, hb, hml, hown, hts⟩ (met_X5_thrown l E o g (cp_getCents x (xs (nI ((4 * i) + 1)).toNatClampNeg)).2.2 (mp_getCents y (xs (nI ((4 * i) + 1)).toNatClampNeg)).2 hR2.2.2.2.2.2.2.1) (cwV 0 hts gL_law_X5_thrown rfl rfl rfl (by decide +kernel) ⟨Nat.le_of_ble_eq_true rfl, Nat.le_of_ble_eq_true rfl⟩) ⟨fun a U f mk q => ⟨q.1, wPre.calling q.2 a f mk⟩, (va_recv hK (wH_one hH (lv_md (by decide) (by decide)) (cel_md (by decide) (by decide))) (ci := 7) (q0 := 0) rfl rfl), fun U hU hW => ⟨rfl, wPre_at hz hS hH hK U hU hW⟩⟩ rfl rfl hl.1 rfl (lv_room (Nat.le_of_ble_eq_true rfl)) dL_law_812 ⟨by show _ ≤ 603072; omega, by show _ ≤ 7219306; omega⟩) hS (fun q _ h => h) (fun q h => h) (fun r8 u t H locs ht hvm hw8 hB hz1 hk1 hS => ?_)
  have hH : wHS E o g (cp_getCents x (xs (nI ((4 * i) + 1)).toNatClampNeg)).2.2 (mp_getCents y (xs (nI ((4 * i) + 1)).toNatClampNeg)).2 H := wHS_h ht hB
  have hw8 : r8 = (mp_getCents y (xs (nI ((4 * i) + 1)).toNatClampNeg)).2.2 28 0 := hw8
  obtain rfl := hw8
  refine lv_iload hx hb dL_law_815 (lv_at hl 1 rfl) ?_
  refine lv_icmp_eq (tgt := 822) hx hb dL_law_817 (by decide) (fun _ => ?_) (fun hq => absurd hkr hq)
  refine lv_iload hx hb dL_law_822 (lv_at hl 1 rfl) ?_
  refine lv_if_ne (tgt := 839) hx hb dL_law_824 (by decide) (fun h9 => ?_) (fun h9 => ?_)
  · skip
    refine lv_goto (tgt := 2262) hx hb dL_law_839 (by decide) ?_
    exact kont _ _ _ _ _ _ _ _ _ (by omega) (by omega) hR2 (lv_sub hl [2, 3, 4, 5, 6, 7] rfl) hH hS
  · obtain ⟨hnn, hval⟩ := sim_n (by decide) hw.1 hw.2 h9
    have hres := hsim.2.2.1 hnn
    rw [hres] at hval
    refine lv_aload_n hx hb dL_law_827 rfl (lv_at hl 6 rfl) ?_
    refine lv_iconst (v := 0) hx hb dL_law_828 (by decide) ?_
    refine wr_lald (t := 40) (v := ((mp_getCents y (xs (nI ((4 * i) + 1)).toNatClampNeg)).1).toInt64) hx hb hK hH lv_o1 rfl 4 rfl (by unfold vp_in; decide) (by rw [show (0 : Int32).toNatClampNeg = 0 from rfl]; exact hval) dL_law_829 ?_
    refine lv_iload hx hb dL_law_830 (lv_at hl 0 rfl) ?_
    refine lv_i2l hx hb dL_law_832 rfl ?_
    refine W.lcmp hx hb dL_law_833 ?_
    refine lv_tope (lgc_self _) ?_
    refine lv_if_eq (tgt := 839) hx hb dL_law_834 (by decide) (fun _ => ?_) (fun hq => absurd (show (0 : Int32) = 0 by decide) hq)
    refine lv_goto (tgt := 2262) hx hb dL_law_839 (by decide) ?_
    exact kont _ _ _ _ _ _ _ _ _ (by omega) (by omega) hR2 (lv_sub hl [2, 3, 4, 5, 6, 7] rfl) hH hS
set_option maxHeartbeats 4000000 in
set_option maxRecDepth 100000 in
theorem lc_isJammed {p : Program} {l : Launch} {e : Env} {s : State} {m : MethodId} {below : List Frame} {meth : Method} {c : Code} {E : wE} {b L : Nat} {xs : Nat → Int32} {Q : State → Prop} (hE : lwE p l s m meth c E b L xs) (i : Nat) (hi : 4 * i + 4 ≤ L) {o : wO} {g : Nat → Nat} {x y : St} (hR : Rel i x y) {H : Heap} {locs : List Loc} {ls : Array Slot} {cells slots : Nat} (hl : lv_has ls 9 (lwL b g i)) (hH : wHS E o g x y H) (hS : va_S (wA E) s.heap H locs) (hroom : cells + 40 ≤ 603072 ∧ slots + 500 ≤ 7219306)
    (kont : ∀ (o : wO) (g : Nat → Nat) (x y : St) (H : Heap) (locs : List Loc) (ls : Array Slot) (cells2 slots2 : Nat), cells2 ≤ cells + 40 → slots2 ≤ slots + 500 → Rel (i + 1) x y → lv_has ls 9 (lwL b g i) → wHS E o g x y H → va_S (wA E) s.heap H locs → W p l e room_1 s m #[Value.ref b] below meth c H locs cells2 slots2 Q (F0 m 2262 ls [])) : W p l e room_1 s m #[Value.ref b] below meth c H locs cells slots Q (F0 m 842 ls []) := by
  obtain ⟨hx, hb, hml, hown, hts, hr, hlocks, hX, hbl, hbA, hz, hK, hC, hDD, hNc, hlt, hL⟩ := hE
  obtain ⟨hI, hJ, hKK, hQ, hFrD, hFrB, hMI, hBK, hCS, hEQ⟩ := id hR
  have hl : lv_has ls 9 [(5, .int (nI (4 * i))), (0, .ref b), (1, .ref (g 0)), (2, .ref (g 10)), (3, .ref (g 40)), (4, .ref (g 41))] := hl
  refine lv_aload_n hx hb dL_law_842 rfl (lv_at hl 2 rfl) ?_
  refine lv_aload_n hx hb dL_law_843 rfl (lv_at hl 1 rfl) ?_
  refine lv_iload hx hb dL_law_844 (lv_at hl 0 rfl) ?_
  refine lv_iconst (v := 1) hx hb dL_law_846 (by decide) ?_
  refine lv_iadd hx hb dL_law_847 ?_
  refine lv_tope (nI_add (4 * i) 1) ?_
  refine va_sld hx hb hX hbl hbA hS (vp_in_nI (n := ((4 * i) + 1)) (N := L) (by omega) (by omega)) dL_law_848 ?_
  refine lv_aload_n hx hb dL_law_849 rfl (lv_at hl 4 rfl) ?_
  have hsim := sim_isJammed hR (by omega) (xs (nI ((4 * i) + 1)).toNatClampNeg)
  refine va_calli (vx_runSW (As := [.ref (g 0), .int (xs (nI ((4 * i) + 1)).toNatClampNeg), .ref (g 40)]) (rest := []) ⟨hx, hb, hml, hown, hts⟩ (met_L_isJammed l E o g x y (xs (nI ((4 * i) + 1)).toNatClampNeg) hlt hI) (vx_cwSW 3 hts gL_law_L_isJammed rfl rfl rfl (by decide +kernel) ⟨Nat.le_of_ble_eq_true rfl, Nat.le_of_ble_eq_true rfl⟩) ⟨fun a U f mk q => ⟨q.1, wPreL.calling q.2 a f mk⟩, fun U hU hW => ⟨rfl, wPreL_at hz hS hH hK hC hDD hNc U hU hW⟩⟩ rfl rfl hl.1 rfl (lv_room (Nat.le_of_ble_eq_true rfl)) dL_law_850 ⟨by show _ ≤ 603072; omega, by show _ ≤ 7219306; omega⟩) hS (fun q _ h => h) (fun q h => h) (fun r9 u t H locs ht hvm hw hB hz1 hk1 hS => ?_)
  obtain ⟨hgE, hB⟩ := hB
  obtain ⟨o, g⟩ := u
  have hH : wHS E o g (cp_isJammed x (xs (nI ((4 * i) + 1)).toNatClampNeg)).2.2 y H := wHS_h ht hB
  rw [← hgE 0 (by decide) (by decide) (by decide), ← hgE 10 (by decide) (by decide) (by decide), ← hgE 40 (by decide) (by decide) (by decide), ← hgE 41 (by decide) (by decide) (by decide)] at hl
  have hl : lv_has ls 9 [(5, .int (nI (4 * i))), (0, .ref b), (1, .ref (g 0)), (2, .ref (g 10)), (3, .ref (g 40)), (4, .ref (g 41))] := hl
  have hkr := sim_r hsim hw.1 hw.2
  have hR2 := hsim.2.2.2
  refine lv_istore (lv' := [(6, .int r9), (5, .int (nI (4 * i))), (0, .ref b), (1, .ref (g 0)), (2, .ref (g 10)), (3, .ref (g 40)), (4, .ref (g 41))]) hx hb dL_law_853 hl (by decide) rfl (fun ls hl => ?_)
  refine lv_aload_n hx hb dL_law_855 rfl (lv_at hl 4 rfl) ?_
  refine lv_aload_n hx hb dL_law_856 rfl (lv_at hl 2 rfl) ?_
  refine lv_iload hx hb dL_law_857 (lv_at hl 1 rfl) ?_
  refine lv_iconst (v := 1) hx hb dL_law_859 (by decide) ?_
  refine lv_iadd hx hb dL_law_860 ?_
  refine lv_tope (nI_add (4 * i) 1) ?_
  refine va_sld hx hb hX hbl hbA hS (vp_in_nI (n := ((4 * i) + 1)) (N := L) (by omega) (by omega)) dL_law_861 ?_
  refine va_calli (va_runV (As := [.int (xs (nI ((4 * i) + 1)).toNatClampNeg)]) (rest := []) ⟨hx, hb, hml, hown, hts⟩ (met_X5_isJammed l E o g (cp_isJammed x (xs (nI ((4 * i) + 1)).toNatClampNeg)).2.2 y (xs (nI ((4 * i) + 1)).toNatClampNeg) hMI) (cwV 1 hts gL_law_X5_isJammed rfl rfl rfl (by decide +kernel) ⟨Nat.le_of_ble_eq_true rfl, Nat.le_of_ble_eq_true rfl⟩) ⟨fun a U f mk q => ⟨q.1, wPre.calling q.2 a f mk⟩, (va_recv hK (wH_one hH (lv_md (by decide) (by decide)) (cel_md (by decide) (by decide))) (ci := 7) (q0 := 0) rfl rfl), fun U hU hW => ⟨rfl, wPre_at hz hS hH hK U hU hW⟩⟩ rfl rfl hl.1 rfl (lv_room (Nat.le_of_ble_eq_true rfl)) dL_law_862 ⟨by show _ ≤ 603072; omega, by show _ ≤ 7219306; omega⟩) hS (fun q _ h => h) (fun q h => h) (fun r8 u t H locs ht hvm hw8 hB hz1 hk1 hS => ?_)
  have hH : wHS E o g (cp_isJammed x (xs (nI ((4 * i) + 1)).toNatClampNeg)).2.2 (mp_isJammed y (xs (nI ((4 * i) + 1)).toNatClampNeg)).2 H := wHS_h ht hB
  obtain rfl := hw8
  refine lv_istore (lv' := [(7, .int ((mp_isJammed y (xs (nI ((4 * i) + 1)).toNatClampNeg)).1)), (6, .int r9), (5, .int (nI (4 * i))), (0, .ref b), (1, .ref (g 0)), (2, .ref (g 10)), (3, .ref (g 40)), (4, .ref (g 41))]) hx hb dL_law_865 hl (by decide) rfl (fun ls hl => ?_)
  refine lv_aload_n hx hb dL_law_867 rfl (lv_at hl 5 rfl) ?_
  refine va_calli (va_runV (As := []) (rest := []) ⟨hx, hb, hml, hown, hts⟩ (met_X5_thrown l E o g (cp_isJammed x (xs (nI ((4 * i) + 1)).toNatClampNeg)).2.2 (mp_isJammed y (xs (nI ((4 * i) + 1)).toNatClampNeg)).2 hR2.2.2.2.2.2.2.1) (cwV 0 hts gL_law_X5_thrown rfl rfl rfl (by decide +kernel) ⟨Nat.le_of_ble_eq_true rfl, Nat.le_of_ble_eq_true rfl⟩) ⟨fun a U f mk q => ⟨q.1, wPre.calling q.2 a f mk⟩, (va_recv hK (wH_one hH (lv_md (by decide) (by decide)) (cel_md (by decide) (by decide))) (ci := 7) (q0 := 0) rfl rfl), fun U hU hW => ⟨rfl, wPre_at hz hS hH hK U hU hW⟩⟩ rfl rfl hl.1 rfl (lv_room (Nat.le_of_ble_eq_true rfl)) dL_law_868 ⟨by show _ ≤ 603072; omega, by show _ ≤ 7219306; omega⟩) hS (fun q _ h => h) (fun q h => h) (fun r8 u t H locs ht hvm hw8 hB hz1 hk1 hS => ?_)
  have hH : wHS E o g (cp_isJammed x (xs (nI ((4 * i) + 1)).toNatClampNeg)).2.2 (mp_isJammed y (xs (nI ((4 * i) + 1)).toNatClampNeg)).2 H := wHS_h ht hB
  have hw8 : r8 = (mp_isJammed y (xs (nI ((4 * i) + 1)).toNatClampNeg)).2.2 28 0 := hw8
  obtain rfl := hw8
  refine lv_iload hx hb dL_law_871 (lv_at hl 1 rfl) ?_
  refine lv_icmp_eq (tgt := 878) hx hb dL_law_873 (by decide) (fun _ => ?_) (fun hq => absurd hkr hq)
  refine lv_iload hx hb dL_law_878 (lv_at hl 1 rfl) ?_
  refine lv_if_ne (tgt := 902) hx hb dL_law_880 (by decide) (fun h9 => ?_) (fun h9 => ?_)
  · skip
    refine lv_goto (tgt := 2262) hx hb dL_law_902 (by decide) ?_
    exact kont _ _ _ _ _ _ _ _ _ (by omega) (by omega) hR2 (lv_sub hl [2, 3, 4, 5, 6, 7] rfl) hH hS
  · obtain ⟨hnn, hval⟩ := sim_n (by decide) hw.1 hw.2 h9
    have hres := hsim.2.2.1 hnn
    rw [hres] at hval
    refine lv_aload_n hx hb dL_law_883 rfl (lv_at hl 6 rfl) ?_
    refine lv_iconst (v := 0) hx hb dL_law_884 (by decide) ?_
    refine wr_lald (t := 40) (v := if ((mp_isJammed y (xs (nI ((4 * i) + 1)).toNatClampNeg)).1) = 0 then 0 else 1) hx hb hK hH lv_o1 rfl 4 rfl (by unfold vp_in; decide) (by rw [show (0 : Int32).toNatClampNeg = 0 from rfl]; exact hval) dL_law_885 ?_
    refine lv_iload hx hb dL_law_886 (lv_at hl 0 rfl) ?_
    refine lv_if_eq (tgt := 895) hx hb dL_law_888 (by decide) (fun c1 => ?_) (fun c1 => ?_)
    · skip
      refine lv_lconst (v := 0) hx hb dL_law_895 (by decide) ?_
      refine W.lcmp hx hb dL_law_896 ?_
      refine lv_tope (by rw [if_pos c1]) ?_
      refine lv_if_eq (tgt := 902) hx hb dL_law_897 (by decide) (fun _ => ?_) (fun hq => absurd (show (0 : Int32) = 0 by decide) hq)
      refine lv_goto (tgt := 2262) hx hb dL_law_902 (by decide) ?_
      exact kont _ _ _ _ _ _ _ _ _ (by omega) (by omega) hR2 (lv_sub hl [2, 3, 4, 5, 6, 7] rfl) hH hS
    · skip
      refine lv_lconst (v := 1) hx hb dL_law_891 (by decide) ?_
      refine lv_goto (tgt := 896) hx hb dL_law_892 (by decide) ?_
      refine W.lcmp hx hb dL_law_896 ?_
      refine lv_tope (by rw [if_neg c1]) ?_
      refine lv_if_eq (tgt := 902) hx hb dL_law_897 (by decide) (fun _ => ?_) (fun hq => absurd (show (0 : Int32) = 0 by decide) hq)
      refine lv_goto (tgt := 2262) hx hb dL_law_902 (by decide) ?_
      exact kont _ _ _ _ _ _ _ _ _ (by omega) (by omega) hR2 (lv_sub hl [2, 3, 4, 5, 6, 7] rfl) hH hS
set_option maxHeartbeats 4000000 in
set_option maxRecDepth 100000 in
theorem lc_getWheel {p : Program} {l : Launch} {e : Env} {s : State} {m : MethodId} {below : List Frame} {meth : Method} {c : Code} {E : wE} {b L : Nat} {xs : Nat → Int32} {Q : State → Prop} (hE : lwE p l s m meth c E b L xs) (i : Nat) (hi : 4 * i + 4 ≤ L) {o : wO} {g : Nat → Nat} {x y : St} (hR : Rel i x y) {H : Heap} {locs : List Loc} {ls : Array Slot} {cells slots : Nat} (hl : lv_has ls 9 (lwL b g i)) (hH : wHS E o g x y H) (hS : va_S (wA E) s.heap H locs) (hroom : cells + 40 ≤ 603072 ∧ slots + 500 ≤ 7219306)
    (kont : ∀ (o : wO) (g : Nat → Nat) (x y : St) (H : Heap) (locs : List Loc) (ls : Array Slot) (cells2 slots2 : Nat), cells2 ≤ cells + 40 → slots2 ≤ slots + 500 → Rel (i + 1) x y → lv_has ls 9 (lwL b g i) → wHS E o g x y H → va_S (wA E) s.heap H locs → W p l e room_1 s m #[Value.ref b] below meth c H locs cells2 slots2 Q (F0 m 2262 ls [])) : W p l e room_1 s m #[Value.ref b] below meth c H locs cells slots Q (F0 m 905 ls []) := by
  obtain ⟨hx, hb, hml, hown, hts, hr, hlocks, hX, hbl, hbA, hz, hK, hC, hDD, hNc, hlt, hL⟩ := hE
  obtain ⟨hI, hJ, hKK, hQ, hFrD, hFrB, hMI, hBK, hCS, hEQ⟩ := id hR
  have hl : lv_has ls 9 [(5, .int (nI (4 * i))), (0, .ref b), (1, .ref (g 0)), (2, .ref (g 10)), (3, .ref (g 40)), (4, .ref (g 41))] := hl
  refine lv_aload_n hx hb dL_law_905 rfl (lv_at hl 2 rfl) ?_
  refine lv_aload_n hx hb dL_law_906 rfl (lv_at hl 1 rfl) ?_
  refine lv_iload hx hb dL_law_907 (lv_at hl 0 rfl) ?_
  refine lv_iconst (v := 1) hx hb dL_law_909 (by decide) ?_
  refine lv_iadd hx hb dL_law_910 ?_
  refine lv_tope (nI_add (4 * i) 1) ?_
  refine va_sld hx hb hX hbl hbA hS (vp_in_nI (n := ((4 * i) + 1)) (N := L) (by omega) (by omega)) dL_law_911 ?_
  refine lv_aload_n hx hb dL_law_912 rfl (lv_at hl 1 rfl) ?_
  refine lv_iload hx hb dL_law_913 (lv_at hl 0 rfl) ?_
  refine lv_iconst (v := 2) hx hb dL_law_915 (by decide) ?_
  refine lv_iadd hx hb dL_law_916 ?_
  refine lv_tope (nI_add (4 * i) 2) ?_
  refine va_sld hx hb hX hbl hbA hS (vp_in_nI (n := ((4 * i) + 2)) (N := L) (by omega) (by omega)) dL_law_917 ?_
  refine lv_aload_n hx hb dL_law_918 rfl (lv_at hl 4 rfl) ?_
  have hsim := sim_getWheel hR (by omega) (xs (nI ((4 * i) + 1)).toNatClampNeg) (xs (nI ((4 * i) + 2)).toNatClampNeg)
  refine va_calli (vx_runSW (As := [.ref (g 0), .int (xs (nI ((4 * i) + 1)).toNatClampNeg), .int (xs (nI ((4 * i) + 2)).toNatClampNeg), .ref (g 40)]) (rest := []) ⟨hx, hb, hml, hown, hts⟩ (met_L_getWheel l E o g x y (xs (nI ((4 * i) + 1)).toNatClampNeg) (xs (nI ((4 * i) + 2)).toNatClampNeg) hlt hI) (vx_cwSW 4 hts gL_law_L_getWheel rfl rfl rfl (by decide +kernel) ⟨Nat.le_of_ble_eq_true rfl, Nat.le_of_ble_eq_true rfl⟩) ⟨fun a U f mk q => ⟨q.1, wPreL.calling q.2 a f mk⟩, fun U hU hW => ⟨rfl, wPreL_at hz hS hH hK hC hDD hNc U hU hW⟩⟩ rfl rfl hl.1 rfl (lv_room (Nat.le_of_ble_eq_true rfl)) dL_law_919 ⟨by show _ ≤ 603072; omega, by show _ ≤ 7219306; omega⟩) hS (fun q _ h => h) (fun q h => h) (fun r9 u t H locs ht hvm hw hB hz1 hk1 hS => ?_)
  obtain ⟨hgE, hB⟩ := hB
  obtain ⟨o, g⟩ := u
  have hH : wHS E o g (cp_getWheel x (xs (nI ((4 * i) + 1)).toNatClampNeg) (xs (nI ((4 * i) + 2)).toNatClampNeg)).2.2 y H := wHS_h ht hB
  rw [← hgE 0 (by decide) (by decide) (by decide), ← hgE 10 (by decide) (by decide) (by decide), ← hgE 40 (by decide) (by decide) (by decide), ← hgE 41 (by decide) (by decide) (by decide)] at hl
  have hl : lv_has ls 9 [(5, .int (nI (4 * i))), (0, .ref b), (1, .ref (g 0)), (2, .ref (g 10)), (3, .ref (g 40)), (4, .ref (g 41))] := hl
  have hkr := sim_r hsim hw.1 hw.2
  have hR2 := hsim.2.2.2
  refine lv_istore (lv' := [(6, .int r9), (5, .int (nI (4 * i))), (0, .ref b), (1, .ref (g 0)), (2, .ref (g 10)), (3, .ref (g 40)), (4, .ref (g 41))]) hx hb dL_law_922 hl (by decide) rfl (fun ls hl => ?_)
  refine lv_aload_n hx hb dL_law_924 rfl (lv_at hl 4 rfl) ?_
  refine lv_aload_n hx hb dL_law_925 rfl (lv_at hl 2 rfl) ?_
  refine lv_iload hx hb dL_law_926 (lv_at hl 1 rfl) ?_
  refine lv_iconst (v := 1) hx hb dL_law_928 (by decide) ?_
  refine lv_iadd hx hb dL_law_929 ?_
  refine lv_tope (nI_add (4 * i) 1) ?_
  refine va_sld hx hb hX hbl hbA hS (vp_in_nI (n := ((4 * i) + 1)) (N := L) (by omega) (by omega)) dL_law_930 ?_
  refine lv_aload_n hx hb dL_law_931 rfl (lv_at hl 2 rfl) ?_
  refine lv_iload hx hb dL_law_932 (lv_at hl 1 rfl) ?_
  refine lv_iconst (v := 2) hx hb dL_law_934 (by decide) ?_
  refine lv_iadd hx hb dL_law_935 ?_
  refine lv_tope (nI_add (4 * i) 2) ?_
  refine va_sld hx hb hX hbl hbA hS (vp_in_nI (n := ((4 * i) + 2)) (N := L) (by omega) (by omega)) dL_law_936 ?_
  refine va_calli (va_runV (As := [.int (xs (nI ((4 * i) + 1)).toNatClampNeg), .int (xs (nI ((4 * i) + 2)).toNatClampNeg)]) (rest := []) ⟨hx, hb, hml, hown, hts⟩ (met_X5_getWheel l E o g (cp_getWheel x (xs (nI ((4 * i) + 1)).toNatClampNeg) (xs (nI ((4 * i) + 2)).toNatClampNeg)).2.2 y (xs (nI ((4 * i) + 1)).toNatClampNeg) (xs (nI ((4 * i) + 2)).toNatClampNeg) hMI) (cwV 2 hts gL_law_X5_getWheel rfl rfl rfl (by decide +kernel) ⟨Nat.le_of_ble_eq_true rfl, Nat.le_of_ble_eq_true rfl⟩) ⟨fun a U f mk q => ⟨q.1, wPre.calling q.2 a f mk⟩, (va_recv hK (wH_one hH (lv_md (by decide) (by decide)) (cel_md (by decide) (by decide))) (ci := 7) (q0 := 0) rfl rfl), fun U hU hW => ⟨rfl, wPre_at hz hS hH hK U hU hW⟩⟩ rfl rfl hl.1 rfl (lv_room (Nat.le_of_ble_eq_true rfl)) dL_law_937 ⟨by show _ ≤ 603072; omega, by show _ ≤ 7219306; omega⟩) hS (fun q _ h => h) (fun q h => h) (fun r8 u t H locs ht hvm hw8 hB hz1 hk1 hS => ?_)
  have hH : wHS E o g (cp_getWheel x (xs (nI ((4 * i) + 1)).toNatClampNeg) (xs (nI ((4 * i) + 2)).toNatClampNeg)).2.2 (mp_getWheel y (xs (nI ((4 * i) + 1)).toNatClampNeg) (xs (nI ((4 * i) + 2)).toNatClampNeg)).2 H := wHS_h ht hB
  obtain rfl := hw8
  refine lv_istore (lv' := [(7, .int ((mp_getWheel y (xs (nI ((4 * i) + 1)).toNatClampNeg) (xs (nI ((4 * i) + 2)).toNatClampNeg)).1)), (6, .int r9), (5, .int (nI (4 * i))), (0, .ref b), (1, .ref (g 0)), (2, .ref (g 10)), (3, .ref (g 40)), (4, .ref (g 41))]) hx hb dL_law_940 hl (by decide) rfl (fun ls hl => ?_)
  refine lv_aload_n hx hb dL_law_942 rfl (lv_at hl 5 rfl) ?_
  refine va_calli (va_runV (As := []) (rest := []) ⟨hx, hb, hml, hown, hts⟩ (met_X5_thrown l E o g (cp_getWheel x (xs (nI ((4 * i) + 1)).toNatClampNeg) (xs (nI ((4 * i) + 2)).toNatClampNeg)).2.2 (mp_getWheel y (xs (nI ((4 * i) + 1)).toNatClampNeg) (xs (nI ((4 * i) + 2)).toNatClampNeg)).2 hR2.2.2.2.2.2.2.1) (cwV 0 hts gL_law_X5_thrown rfl rfl rfl (by decide +kernel) ⟨Nat.le_of_ble_eq_true rfl, Nat.le_of_ble_eq_true rfl⟩) ⟨fun a U f mk q => ⟨q.1, wPre.calling q.2 a f mk⟩, (va_recv hK (wH_one hH (lv_md (by decide) (by decide)) (cel_md (by decide) (by decide))) (ci := 7) (q0 := 0) rfl rfl), fun U hU hW => ⟨rfl, wPre_at hz hS hH hK U hU hW⟩⟩ rfl rfl hl.1 rfl (lv_room (Nat.le_of_ble_eq_true rfl)) dL_law_943 ⟨by show _ ≤ 603072; omega, by show _ ≤ 7219306; omega⟩) hS (fun q _ h => h) (fun q h => h) (fun r8 u t H locs ht hvm hw8 hB hz1 hk1 hS => ?_)
  have hH : wHS E o g (cp_getWheel x (xs (nI ((4 * i) + 1)).toNatClampNeg) (xs (nI ((4 * i) + 2)).toNatClampNeg)).2.2 (mp_getWheel y (xs (nI ((4 * i) + 1)).toNatClampNeg) (xs (nI ((4 * i) + 2)).toNatClampNeg)).2 H := wHS_h ht hB
  have hw8 : r8 = (mp_getWheel y (xs (nI ((4 * i) + 1)).toNatClampNeg) (xs (nI ((4 * i) + 2)).toNatClampNeg)).2.2 28 0 := hw8
  obtain rfl := hw8
  refine lv_iload hx hb dL_law_946 (lv_at hl 1 rfl) ?_
  refine lv_icmp_eq (tgt := 953) hx hb dL_law_948 (by decide) (fun _ => ?_) (fun hq => absurd hkr hq)
  refine lv_iload hx hb dL_law_953 (lv_at hl 1 rfl) ?_
  refine lv_if_ne (tgt := 970) hx hb dL_law_955 (by decide) (fun h9 => ?_) (fun h9 => ?_)
  · skip
    refine lv_goto (tgt := 2262) hx hb dL_law_970 (by decide) ?_
    exact kont _ _ _ _ _ _ _ _ _ (by omega) (by omega) hR2 (lv_sub hl [2, 3, 4, 5, 6, 7] rfl) hH hS
  · obtain ⟨hnn, hval⟩ := sim_n (by decide) hw.1 hw.2 h9
    have hres := hsim.2.2.1 hnn
    rw [hres] at hval
    refine lv_aload_n hx hb dL_law_958 rfl (lv_at hl 6 rfl) ?_
    refine lv_iconst (v := 0) hx hb dL_law_959 (by decide) ?_
    refine wr_lald (t := 40) (v := ((mp_getWheel y (xs (nI ((4 * i) + 1)).toNatClampNeg) (xs (nI ((4 * i) + 2)).toNatClampNeg)).1).toInt64) hx hb hK hH lv_o1 rfl 4 rfl (by unfold vp_in; decide) (by rw [show (0 : Int32).toNatClampNeg = 0 from rfl]; exact hval) dL_law_960 ?_
    refine lv_iload hx hb dL_law_961 (lv_at hl 0 rfl) ?_
    refine lv_i2l hx hb dL_law_963 rfl ?_
    refine W.lcmp hx hb dL_law_964 ?_
    refine lv_tope (lgc_self _) ?_
    refine lv_if_eq (tgt := 970) hx hb dL_law_965 (by decide) (fun _ => ?_) (fun hq => absurd (show (0 : Int32) = 0 by decide) hq)
    refine lv_goto (tgt := 2262) hx hb dL_law_970 (by decide) ?_
    exact kont _ _ _ _ _ _ _ _ _ (by omega) (by omega) hR2 (lv_sub hl [2, 3, 4, 5, 6, 7] rfl) hH hS
set_option maxHeartbeats 4000000 in
set_option maxRecDepth 100000 in
theorem lc_getNeedle {p : Program} {l : Launch} {e : Env} {s : State} {m : MethodId} {below : List Frame} {meth : Method} {c : Code} {E : wE} {b L : Nat} {xs : Nat → Int32} {Q : State → Prop} (hE : lwE p l s m meth c E b L xs) (i : Nat) (hi : 4 * i + 4 ≤ L) {o : wO} {g : Nat → Nat} {x y : St} (hR : Rel i x y) {H : Heap} {locs : List Loc} {ls : Array Slot} {cells slots : Nat} (hl : lv_has ls 9 (lwL b g i)) (hH : wHS E o g x y H) (hS : va_S (wA E) s.heap H locs) (hroom : cells + 40 ≤ 603072 ∧ slots + 500 ≤ 7219306)
    (kont : ∀ (o : wO) (g : Nat → Nat) (x y : St) (H : Heap) (locs : List Loc) (ls : Array Slot) (cells2 slots2 : Nat), cells2 ≤ cells + 40 → slots2 ≤ slots + 500 → Rel (i + 1) x y → lv_has ls 9 (lwL b g i) → wHS E o g x y H → va_S (wA E) s.heap H locs → W p l e room_1 s m #[Value.ref b] below meth c H locs cells2 slots2 Q (F0 m 2262 ls [])) : W p l e room_1 s m #[Value.ref b] below meth c H locs cells slots Q (F0 m 973 ls []) := by
  obtain ⟨hx, hb, hml, hown, hts, hr, hlocks, hX, hbl, hbA, hz, hK, hC, hDD, hNc, hlt, hL⟩ := hE
  obtain ⟨hI, hJ, hKK, hQ, hFrD, hFrB, hMI, hBK, hCS, hEQ⟩ := id hR
  have hl : lv_has ls 9 [(5, .int (nI (4 * i))), (0, .ref b), (1, .ref (g 0)), (2, .ref (g 10)), (3, .ref (g 40)), (4, .ref (g 41))] := hl
  refine lv_aload_n hx hb dL_law_973 rfl (lv_at hl 2 rfl) ?_
  refine lv_aload_n hx hb dL_law_974 rfl (lv_at hl 1 rfl) ?_
  refine lv_iload hx hb dL_law_975 (lv_at hl 0 rfl) ?_
  refine lv_iconst (v := 1) hx hb dL_law_977 (by decide) ?_
  refine lv_iadd hx hb dL_law_978 ?_
  refine lv_tope (nI_add (4 * i) 1) ?_
  refine va_sld hx hb hX hbl hbA hS (vp_in_nI (n := ((4 * i) + 1)) (N := L) (by omega) (by omega)) dL_law_979 ?_
  refine lv_aload_n hx hb dL_law_980 rfl (lv_at hl 4 rfl) ?_
  have hsim := sim_getNeedle hR (by omega) (xs (nI ((4 * i) + 1)).toNatClampNeg)
  refine va_calli (vx_runSW (As := [.ref (g 0), .int (xs (nI ((4 * i) + 1)).toNatClampNeg), .ref (g 40)]) (rest := []) ⟨hx, hb, hml, hown, hts⟩ (met_L_getNeedle l E o g x y (xs (nI ((4 * i) + 1)).toNatClampNeg) hlt hI) (vx_cwSW 3 hts gL_law_L_getNeedle rfl rfl rfl (by decide +kernel) ⟨Nat.le_of_ble_eq_true rfl, Nat.le_of_ble_eq_true rfl⟩) ⟨fun a U f mk q => ⟨q.1, wPreL.calling q.2 a f mk⟩, fun U hU hW => ⟨rfl, wPreL_at hz hS hH hK hC hDD hNc U hU hW⟩⟩ rfl rfl hl.1 rfl (lv_room (Nat.le_of_ble_eq_true rfl)) dL_law_981 ⟨by show _ ≤ 603072; omega, by show _ ≤ 7219306; omega⟩) hS (fun q _ h => h) (fun q h => h) (fun r9 u t H locs ht hvm hw hB hz1 hk1 hS => ?_)
  obtain ⟨hgE, hB⟩ := hB
  obtain ⟨o, g⟩ := u
  have hH : wHS E o g (cp_getNeedle x (xs (nI ((4 * i) + 1)).toNatClampNeg)).2.2 y H := wHS_h ht hB
  rw [← hgE 0 (by decide) (by decide) (by decide), ← hgE 10 (by decide) (by decide) (by decide), ← hgE 40 (by decide) (by decide) (by decide), ← hgE 41 (by decide) (by decide) (by decide)] at hl
  have hl : lv_has ls 9 [(5, .int (nI (4 * i))), (0, .ref b), (1, .ref (g 0)), (2, .ref (g 10)), (3, .ref (g 40)), (4, .ref (g 41))] := hl
  have hkr := sim_r hsim hw.1 hw.2
  have hR2 := hsim.2.2.2
  refine lv_istore (lv' := [(6, .int r9), (5, .int (nI (4 * i))), (0, .ref b), (1, .ref (g 0)), (2, .ref (g 10)), (3, .ref (g 40)), (4, .ref (g 41))]) hx hb dL_law_984 hl (by decide) rfl (fun ls hl => ?_)
  refine lv_aload_n hx hb dL_law_986 rfl (lv_at hl 4 rfl) ?_
  refine lv_aload_n hx hb dL_law_987 rfl (lv_at hl 2 rfl) ?_
  refine lv_iload hx hb dL_law_988 (lv_at hl 1 rfl) ?_
  refine lv_iconst (v := 1) hx hb dL_law_990 (by decide) ?_
  refine lv_iadd hx hb dL_law_991 ?_
  refine lv_tope (nI_add (4 * i) 1) ?_
  refine va_sld hx hb hX hbl hbA hS (vp_in_nI (n := ((4 * i) + 1)) (N := L) (by omega) (by omega)) dL_law_992 ?_
  refine va_calli (va_runV (As := [.int (xs (nI ((4 * i) + 1)).toNatClampNeg)]) (rest := []) ⟨hx, hb, hml, hown, hts⟩ (met_X5_getNeedle l E o g (cp_getNeedle x (xs (nI ((4 * i) + 1)).toNatClampNeg)).2.2 y (xs (nI ((4 * i) + 1)).toNatClampNeg) hMI) (cwV 1 hts gL_law_X5_getNeedle rfl rfl rfl (by decide +kernel) ⟨Nat.le_of_ble_eq_true rfl, Nat.le_of_ble_eq_true rfl⟩) ⟨fun a U f mk q => ⟨q.1, wPre.calling q.2 a f mk⟩, (va_recv hK (wH_one hH (lv_md (by decide) (by decide)) (cel_md (by decide) (by decide))) (ci := 7) (q0 := 0) rfl rfl), fun U hU hW => ⟨rfl, wPre_at hz hS hH hK U hU hW⟩⟩ rfl rfl hl.1 rfl (lv_room (Nat.le_of_ble_eq_true rfl)) dL_law_993 ⟨by show _ ≤ 603072; omega, by show _ ≤ 7219306; omega⟩) hS (fun q _ h => h) (fun q h => h) (fun r8 u t H locs ht hvm hw8 hB hz1 hk1 hS => ?_)
  have hH : wHS E o g (cp_getNeedle x (xs (nI ((4 * i) + 1)).toNatClampNeg)).2.2 (mp_getNeedle y (xs (nI ((4 * i) + 1)).toNatClampNeg)).2 H := wHS_h ht hB
  obtain rfl := hw8
  refine lv_istore (lv' := [(7, .int ((mp_getNeedle y (xs (nI ((4 * i) + 1)).toNatClampNeg)).1)), (6, .int r9), (5, .int (nI (4 * i))), (0, .ref b), (1, .ref (g 0)), (2, .ref (g 10)), (3, .ref (g 40)), (4, .ref (g 41))]) hx hb dL_law_996 hl (by decide) rfl (fun ls hl => ?_)
  refine lv_aload_n hx hb dL_law_998 rfl (lv_at hl 5 rfl) ?_
  refine va_calli (va_runV (As := []) (rest := []) ⟨hx, hb, hml, hown, hts⟩ (met_X5_thrown l E o g (cp_getNeedle x (xs (nI ((4 * i) + 1)).toNatClampNeg)).2.2 (mp_getNeedle y (xs (nI ((4 * i) + 1)).toNatClampNeg)).2 hR2.2.2.2.2.2.2.1) (cwV 0 hts gL_law_X5_thrown rfl rfl rfl (by decide +kernel) ⟨Nat.le_of_ble_eq_true rfl, Nat.le_of_ble_eq_true rfl⟩) ⟨fun a U f mk q => ⟨q.1, wPre.calling q.2 a f mk⟩, (va_recv hK (wH_one hH (lv_md (by decide) (by decide)) (cel_md (by decide) (by decide))) (ci := 7) (q0 := 0) rfl rfl), fun U hU hW => ⟨rfl, wPre_at hz hS hH hK U hU hW⟩⟩ rfl rfl hl.1 rfl (lv_room (Nat.le_of_ble_eq_true rfl)) dL_law_999 ⟨by show _ ≤ 603072; omega, by show _ ≤ 7219306; omega⟩) hS (fun q _ h => h) (fun q h => h) (fun r8 u t H locs ht hvm hw8 hB hz1 hk1 hS => ?_)
  have hH : wHS E o g (cp_getNeedle x (xs (nI ((4 * i) + 1)).toNatClampNeg)).2.2 (mp_getNeedle y (xs (nI ((4 * i) + 1)).toNatClampNeg)).2 H := wHS_h ht hB
  have hw8 : r8 = (mp_getNeedle y (xs (nI ((4 * i) + 1)).toNatClampNeg)).2.2 28 0 := hw8
  obtain rfl := hw8
  refine lv_iload hx hb dL_law_1002 (lv_at hl 1 rfl) ?_
  refine lv_icmp_eq (tgt := 1009) hx hb dL_law_1004 (by decide) (fun _ => ?_) (fun hq => absurd hkr hq)
  refine lv_iload hx hb dL_law_1009 (lv_at hl 1 rfl) ?_
  refine lv_if_ne (tgt := 1026) hx hb dL_law_1011 (by decide) (fun h9 => ?_) (fun h9 => ?_)
  · skip
    refine lv_goto (tgt := 2262) hx hb dL_law_1026 (by decide) ?_
    exact kont _ _ _ _ _ _ _ _ _ (by omega) (by omega) hR2 (lv_sub hl [2, 3, 4, 5, 6, 7] rfl) hH hS
  · obtain ⟨hnn, hval⟩ := sim_n (by decide) hw.1 hw.2 h9
    have hres := hsim.2.2.1 hnn
    rw [hres] at hval
    refine lv_aload_n hx hb dL_law_1014 rfl (lv_at hl 6 rfl) ?_
    refine lv_iconst (v := 0) hx hb dL_law_1015 (by decide) ?_
    refine wr_lald (t := 40) (v := ((mp_getNeedle y (xs (nI ((4 * i) + 1)).toNatClampNeg)).1).toInt64) hx hb hK hH lv_o1 rfl 4 rfl (by unfold vp_in; decide) (by rw [show (0 : Int32).toNatClampNeg = 0 from rfl]; exact hval) dL_law_1016 ?_
    refine lv_iload hx hb dL_law_1017 (lv_at hl 0 rfl) ?_
    refine lv_i2l hx hb dL_law_1019 rfl ?_
    refine W.lcmp hx hb dL_law_1020 ?_
    refine lv_tope (lgc_self _) ?_
    refine lv_if_eq (tgt := 1026) hx hb dL_law_1021 (by decide) (fun _ => ?_) (fun hq => absurd (show (0 : Int32) = 0 by decide) hq)
    refine lv_goto (tgt := 2262) hx hb dL_law_1026 (by decide) ?_
    exact kont _ _ _ _ _ _ _ _ _ (by omega) (by omega) hR2 (lv_sub hl [2, 3, 4, 5, 6, 7] rfl) hH hS
set_option maxHeartbeats 4000000 in
set_option maxRecDepth 100000 in
theorem lc_getWear {p : Program} {l : Launch} {e : Env} {s : State} {m : MethodId} {below : List Frame} {meth : Method} {c : Code} {E : wE} {b L : Nat} {xs : Nat → Int32} {Q : State → Prop} (hE : lwE p l s m meth c E b L xs) (i : Nat) (hi : 4 * i + 4 ≤ L) {o : wO} {g : Nat → Nat} {x y : St} (hR : Rel i x y) {H : Heap} {locs : List Loc} {ls : Array Slot} {cells slots : Nat} (hl : lv_has ls 9 (lwL b g i)) (hH : wHS E o g x y H) (hS : va_S (wA E) s.heap H locs) (hroom : cells + 40 ≤ 603072 ∧ slots + 500 ≤ 7219306)
    (kont : ∀ (o : wO) (g : Nat → Nat) (x y : St) (H : Heap) (locs : List Loc) (ls : Array Slot) (cells2 slots2 : Nat), cells2 ≤ cells + 40 → slots2 ≤ slots + 500 → Rel (i + 1) x y → lv_has ls 9 (lwL b g i) → wHS E o g x y H → va_S (wA E) s.heap H locs → W p l e room_1 s m #[Value.ref b] below meth c H locs cells2 slots2 Q (F0 m 2262 ls [])) : W p l e room_1 s m #[Value.ref b] below meth c H locs cells slots Q (F0 m 1029 ls []) := by
  obtain ⟨hx, hb, hml, hown, hts, hr, hlocks, hX, hbl, hbA, hz, hK, hC, hDD, hNc, hlt, hL⟩ := hE
  obtain ⟨hI, hJ, hKK, hQ, hFrD, hFrB, hMI, hBK, hCS, hEQ⟩ := id hR
  have hl : lv_has ls 9 [(5, .int (nI (4 * i))), (0, .ref b), (1, .ref (g 0)), (2, .ref (g 10)), (3, .ref (g 40)), (4, .ref (g 41))] := hl
  refine lv_aload_n hx hb dL_law_1029 rfl (lv_at hl 2 rfl) ?_
  refine lv_aload_n hx hb dL_law_1030 rfl (lv_at hl 1 rfl) ?_
  refine lv_iload hx hb dL_law_1031 (lv_at hl 0 rfl) ?_
  refine lv_iconst (v := 1) hx hb dL_law_1033 (by decide) ?_
  refine lv_iadd hx hb dL_law_1034 ?_
  refine lv_tope (nI_add (4 * i) 1) ?_
  refine va_sld hx hb hX hbl hbA hS (vp_in_nI (n := ((4 * i) + 1)) (N := L) (by omega) (by omega)) dL_law_1035 ?_
  refine lv_aload_n hx hb dL_law_1036 rfl (lv_at hl 4 rfl) ?_
  have hsim := sim_getWear hR (by omega) (xs (nI ((4 * i) + 1)).toNatClampNeg)
  refine va_calli (vx_runSW (As := [.ref (g 0), .int (xs (nI ((4 * i) + 1)).toNatClampNeg), .ref (g 40)]) (rest := []) ⟨hx, hb, hml, hown, hts⟩ (met_L_getWear l E o g x y (xs (nI ((4 * i) + 1)).toNatClampNeg) hlt hI) (vx_cwSW 3 hts gL_law_L_getWear rfl rfl rfl (by decide +kernel) ⟨Nat.le_of_ble_eq_true rfl, Nat.le_of_ble_eq_true rfl⟩) ⟨fun a U f mk q => ⟨q.1, wPreL.calling q.2 a f mk⟩, fun U hU hW => ⟨rfl, wPreL_at hz hS hH hK hC hDD hNc U hU hW⟩⟩ rfl rfl hl.1 rfl (lv_room (Nat.le_of_ble_eq_true rfl)) dL_law_1037 ⟨by show _ ≤ 603072; omega, by show _ ≤ 7219306; omega⟩) hS (fun q _ h => h) (fun q h => h) (fun r9 u t H locs ht hvm hw hB hz1 hk1 hS => ?_)
  obtain ⟨hgE, hB⟩ := hB
  obtain ⟨o, g⟩ := u
  have hH : wHS E o g (cp_getWear x (xs (nI ((4 * i) + 1)).toNatClampNeg)).2.2 y H := wHS_h ht hB
  rw [← hgE 0 (by decide) (by decide) (by decide), ← hgE 10 (by decide) (by decide) (by decide), ← hgE 40 (by decide) (by decide) (by decide), ← hgE 41 (by decide) (by decide) (by decide)] at hl
  have hl : lv_has ls 9 [(5, .int (nI (4 * i))), (0, .ref b), (1, .ref (g 0)), (2, .ref (g 10)), (3, .ref (g 40)), (4, .ref (g 41))] := hl
  have hkr := sim_r hsim hw.1 hw.2
  have hR2 := hsim.2.2.2
  refine lv_istore (lv' := [(6, .int r9), (5, .int (nI (4 * i))), (0, .ref b), (1, .ref (g 0)), (2, .ref (g 10)), (3, .ref (g 40)), (4, .ref (g 41))]) hx hb dL_law_1040 hl (by decide) rfl (fun ls hl => ?_)
  refine lv_aload_n hx hb dL_law_1042 rfl (lv_at hl 4 rfl) ?_
  refine lv_aload_n hx hb dL_law_1043 rfl (lv_at hl 2 rfl) ?_
  refine lv_iload hx hb dL_law_1044 (lv_at hl 1 rfl) ?_
  refine lv_iconst (v := 1) hx hb dL_law_1046 (by decide) ?_
  refine lv_iadd hx hb dL_law_1047 ?_
  refine lv_tope (nI_add (4 * i) 1) ?_
  refine va_sld hx hb hX hbl hbA hS (vp_in_nI (n := ((4 * i) + 1)) (N := L) (by omega) (by omega)) dL_law_1048 ?_
  refine va_calli (va_runV (As := [.int (xs (nI ((4 * i) + 1)).toNatClampNeg)]) (rest := []) ⟨hx, hb, hml, hown, hts⟩ (met_X5_getWear l E o g (cp_getWear x (xs (nI ((4 * i) + 1)).toNatClampNeg)).2.2 y (xs (nI ((4 * i) + 1)).toNatClampNeg) hMI) (cwV 1 hts gL_law_X5_getWear rfl rfl rfl (by decide +kernel) ⟨Nat.le_of_ble_eq_true rfl, Nat.le_of_ble_eq_true rfl⟩) ⟨fun a U f mk q => ⟨q.1, wPre.calling q.2 a f mk⟩, (va_recv hK (wH_one hH (lv_md (by decide) (by decide)) (cel_md (by decide) (by decide))) (ci := 7) (q0 := 0) rfl rfl), fun U hU hW => ⟨rfl, wPre_at hz hS hH hK U hU hW⟩⟩ rfl rfl hl.1 rfl (lv_room (Nat.le_of_ble_eq_true rfl)) dL_law_1049 ⟨by show _ ≤ 603072; omega, by show _ ≤ 7219306; omega⟩) hS (fun q _ h => h) (fun q h => h) (fun r8 u t H locs ht hvm hw8 hB hz1 hk1 hS => ?_)
  have hH : wHS E o g (cp_getWear x (xs (nI ((4 * i) + 1)).toNatClampNeg)).2.2 (mp_getWear y (xs (nI ((4 * i) + 1)).toNatClampNeg)).2 H := wHS_h ht hB
  obtain rfl := hw8
  refine lv_istore (lv' := [(7, .int ((mp_getWear y (xs (nI ((4 * i) + 1)).toNatClampNeg)).1)), (6, .int r9), (5, .int (nI (4 * i))), (0, .ref b), (1, .ref (g 0)), (2, .ref (g 10)), (3, .ref (g 40)), (4, .ref (g 41))]) hx hb dL_law_1052 hl (by decide) rfl (fun ls hl => ?_)
  refine lv_aload_n hx hb dL_law_1054 rfl (lv_at hl 5 rfl) ?_
  refine va_calli (va_runV (As := []) (rest := []) ⟨hx, hb, hml, hown, hts⟩ (met_X5_thrown l E o g (cp_getWear x (xs (nI ((4 * i) + 1)).toNatClampNeg)).2.2 (mp_getWear y (xs (nI ((4 * i) + 1)).toNatClampNeg)).2 hR2.2.2.2.2.2.2.1) (cwV 0 hts gL_law_X5_thrown rfl rfl rfl (by decide +kernel) ⟨Nat.le_of_ble_eq_true rfl, Nat.le_of_ble_eq_true rfl⟩) ⟨fun a U f mk q => ⟨q.1, wPre.calling q.2 a f mk⟩, (va_recv hK (wH_one hH (lv_md (by decide) (by decide)) (cel_md (by decide) (by decide))) (ci := 7) (q0 := 0) rfl rfl), fun U hU hW => ⟨rfl, wPre_at hz hS hH hK U hU hW⟩⟩ rfl rfl hl.1 rfl (lv_room (Nat.le_of_ble_eq_true rfl)) dL_law_1055 ⟨by show _ ≤ 603072; omega, by show _ ≤ 7219306; omega⟩) hS (fun q _ h => h) (fun q h => h) (fun r8 u t H locs ht hvm hw8 hB hz1 hk1 hS => ?_)
  have hH : wHS E o g (cp_getWear x (xs (nI ((4 * i) + 1)).toNatClampNeg)).2.2 (mp_getWear y (xs (nI ((4 * i) + 1)).toNatClampNeg)).2 H := wHS_h ht hB
  have hw8 : r8 = (mp_getWear y (xs (nI ((4 * i) + 1)).toNatClampNeg)).2.2 28 0 := hw8
  obtain rfl := hw8
  refine lv_iload hx hb dL_law_1058 (lv_at hl 1 rfl) ?_
  refine lv_icmp_eq (tgt := 1065) hx hb dL_law_1060 (by decide) (fun _ => ?_) (fun hq => absurd hkr hq)
  refine lv_iload hx hb dL_law_1065 (lv_at hl 1 rfl) ?_
  refine lv_if_ne (tgt := 1082) hx hb dL_law_1067 (by decide) (fun h9 => ?_) (fun h9 => ?_)
  · skip
    refine lv_goto (tgt := 2262) hx hb dL_law_1082 (by decide) ?_
    exact kont _ _ _ _ _ _ _ _ _ (by omega) (by omega) hR2 (lv_sub hl [2, 3, 4, 5, 6, 7] rfl) hH hS
  · obtain ⟨hnn, hval⟩ := sim_n (by decide) hw.1 hw.2 h9
    have hres := hsim.2.2.1 hnn
    rw [hres] at hval
    refine lv_aload_n hx hb dL_law_1070 rfl (lv_at hl 6 rfl) ?_
    refine lv_iconst (v := 0) hx hb dL_law_1071 (by decide) ?_
    refine wr_lald (t := 40) (v := ((mp_getWear y (xs (nI ((4 * i) + 1)).toNatClampNeg)).1).toInt64) hx hb hK hH lv_o1 rfl 4 rfl (by unfold vp_in; decide) (by rw [show (0 : Int32).toNatClampNeg = 0 from rfl]; exact hval) dL_law_1072 ?_
    refine lv_iload hx hb dL_law_1073 (lv_at hl 0 rfl) ?_
    refine lv_i2l hx hb dL_law_1075 rfl ?_
    refine W.lcmp hx hb dL_law_1076 ?_
    refine lv_tope (lgc_self _) ?_
    refine lv_if_eq (tgt := 1082) hx hb dL_law_1077 (by decide) (fun _ => ?_) (fun hq => absurd (show (0 : Int32) = 0 by decide) hq)
    refine lv_goto (tgt := 2262) hx hb dL_law_1082 (by decide) ?_
    exact kont _ _ _ _ _ _ _ _ _ (by omega) (by omega) hR2 (lv_sub hl [2, 3, 4, 5, 6, 7] rfl) hH hS
set_option maxHeartbeats 4000000 in
set_option maxRecDepth 100000 in
theorem lc_getPlace {p : Program} {l : Launch} {e : Env} {s : State} {m : MethodId} {below : List Frame} {meth : Method} {c : Code} {E : wE} {b L : Nat} {xs : Nat → Int32} {Q : State → Prop} (hE : lwE p l s m meth c E b L xs) (i : Nat) (hi : 4 * i + 4 ≤ L) {o : wO} {g : Nat → Nat} {x y : St} (hR : Rel i x y) {H : Heap} {locs : List Loc} {ls : Array Slot} {cells slots : Nat} (hl : lv_has ls 9 (lwL b g i)) (hH : wHS E o g x y H) (hS : va_S (wA E) s.heap H locs) (hroom : cells + 40 ≤ 603072 ∧ slots + 500 ≤ 7219306)
    (kont : ∀ (o : wO) (g : Nat → Nat) (x y : St) (H : Heap) (locs : List Loc) (ls : Array Slot) (cells2 slots2 : Nat), cells2 ≤ cells + 40 → slots2 ≤ slots + 500 → Rel (i + 1) x y → lv_has ls 9 (lwL b g i) → wHS E o g x y H → va_S (wA E) s.heap H locs → W p l e room_1 s m #[Value.ref b] below meth c H locs cells2 slots2 Q (F0 m 2262 ls [])) : W p l e room_1 s m #[Value.ref b] below meth c H locs cells slots Q (F0 m 1085 ls []) := by
  obtain ⟨hx, hb, hml, hown, hts, hr, hlocks, hX, hbl, hbA, hz, hK, hC, hDD, hNc, hlt, hL⟩ := hE
  obtain ⟨hI, hJ, hKK, hQ, hFrD, hFrB, hMI, hBK, hCS, hEQ⟩ := id hR
  have hl : lv_has ls 9 [(5, .int (nI (4 * i))), (0, .ref b), (1, .ref (g 0)), (2, .ref (g 10)), (3, .ref (g 40)), (4, .ref (g 41))] := hl
  refine lv_aload_n hx hb dL_law_1085 rfl (lv_at hl 2 rfl) ?_
  refine lv_aload_n hx hb dL_law_1086 rfl (lv_at hl 1 rfl) ?_
  refine lv_iload hx hb dL_law_1087 (lv_at hl 0 rfl) ?_
  refine lv_iconst (v := 1) hx hb dL_law_1089 (by decide) ?_
  refine lv_iadd hx hb dL_law_1090 ?_
  refine lv_tope (nI_add (4 * i) 1) ?_
  refine va_sld hx hb hX hbl hbA hS (vp_in_nI (n := ((4 * i) + 1)) (N := L) (by omega) (by omega)) dL_law_1091 ?_
  refine lv_aload_n hx hb dL_law_1092 rfl (lv_at hl 4 rfl) ?_
  have hsim := sim_getPlace hR (by omega) (xs (nI ((4 * i) + 1)).toNatClampNeg)
  refine va_calli (vx_runSW (As := [.ref (g 0), .int (xs (nI ((4 * i) + 1)).toNatClampNeg), .ref (g 40)]) (rest := []) ⟨hx, hb, hml, hown, hts⟩ (met_L_getPlace l E o g x y (xs (nI ((4 * i) + 1)).toNatClampNeg) hlt hI) (vx_cwSW 3 hts gL_law_L_getPlace rfl rfl rfl (by decide +kernel) ⟨Nat.le_of_ble_eq_true rfl, Nat.le_of_ble_eq_true rfl⟩) ⟨fun a U f mk q => ⟨q.1, wPreL.calling q.2 a f mk⟩, fun U hU hW => ⟨rfl, wPreL_at hz hS hH hK hC hDD hNc U hU hW⟩⟩ rfl rfl hl.1 rfl (lv_room (Nat.le_of_ble_eq_true rfl)) dL_law_1093 ⟨by show _ ≤ 603072; omega, by show _ ≤ 7219306; omega⟩) hS (fun q _ h => h) (fun q h => h) (fun r9 u t H locs ht hvm hw hB hz1 hk1 hS => ?_)
  obtain ⟨hgE, hB⟩ := hB
  obtain ⟨o, g⟩ := u
  have hH : wHS E o g (cp_getPlace x (xs (nI ((4 * i) + 1)).toNatClampNeg)).2.2 y H := wHS_h ht hB
  rw [← hgE 0 (by decide) (by decide) (by decide), ← hgE 10 (by decide) (by decide) (by decide), ← hgE 40 (by decide) (by decide) (by decide), ← hgE 41 (by decide) (by decide) (by decide)] at hl
  have hl : lv_has ls 9 [(5, .int (nI (4 * i))), (0, .ref b), (1, .ref (g 0)), (2, .ref (g 10)), (3, .ref (g 40)), (4, .ref (g 41))] := hl
  have hkr := sim_r hsim hw.1 hw.2
  have hR2 := hsim.2.2.2
  refine lv_istore (lv' := [(6, .int r9), (5, .int (nI (4 * i))), (0, .ref b), (1, .ref (g 0)), (2, .ref (g 10)), (3, .ref (g 40)), (4, .ref (g 41))]) hx hb dL_law_1096 hl (by decide) rfl (fun ls hl => ?_)
  refine lv_aload_n hx hb dL_law_1098 rfl (lv_at hl 4 rfl) ?_
  refine lv_aload_n hx hb dL_law_1099 rfl (lv_at hl 2 rfl) ?_
  refine lv_iload hx hb dL_law_1100 (lv_at hl 1 rfl) ?_
  refine lv_iconst (v := 1) hx hb dL_law_1102 (by decide) ?_
  refine lv_iadd hx hb dL_law_1103 ?_
  refine lv_tope (nI_add (4 * i) 1) ?_
  refine va_sld hx hb hX hbl hbA hS (vp_in_nI (n := ((4 * i) + 1)) (N := L) (by omega) (by omega)) dL_law_1104 ?_
  refine va_calli (va_runV (As := [.int (xs (nI ((4 * i) + 1)).toNatClampNeg)]) (rest := []) ⟨hx, hb, hml, hown, hts⟩ (met_X5_getPlace l E o g (cp_getPlace x (xs (nI ((4 * i) + 1)).toNatClampNeg)).2.2 y (xs (nI ((4 * i) + 1)).toNatClampNeg) hMI) (cwV 1 hts gL_law_X5_getPlace rfl rfl rfl (by decide +kernel) ⟨Nat.le_of_ble_eq_true rfl, Nat.le_of_ble_eq_true rfl⟩) ⟨fun a U f mk q => ⟨q.1, wPre.calling q.2 a f mk⟩, (va_recv hK (wH_one hH (lv_md (by decide) (by decide)) (cel_md (by decide) (by decide))) (ci := 7) (q0 := 0) rfl rfl), fun U hU hW => ⟨rfl, wPre_at hz hS hH hK U hU hW⟩⟩ rfl rfl hl.1 rfl (lv_room (Nat.le_of_ble_eq_true rfl)) dL_law_1105 ⟨by show _ ≤ 603072; omega, by show _ ≤ 7219306; omega⟩) hS (fun q _ h => h) (fun q h => h) (fun r8 u t H locs ht hvm hw8 hB hz1 hk1 hS => ?_)
  have hH : wHS E o g (cp_getPlace x (xs (nI ((4 * i) + 1)).toNatClampNeg)).2.2 (mp_getPlace y (xs (nI ((4 * i) + 1)).toNatClampNeg)).2 H := wHS_h ht hB
  obtain rfl := hw8
  refine lv_istore (lv' := [(7, .int ((mp_getPlace y (xs (nI ((4 * i) + 1)).toNatClampNeg)).1)), (6, .int r9), (5, .int (nI (4 * i))), (0, .ref b), (1, .ref (g 0)), (2, .ref (g 10)), (3, .ref (g 40)), (4, .ref (g 41))]) hx hb dL_law_1108 hl (by decide) rfl (fun ls hl => ?_)
  refine lv_aload_n hx hb dL_law_1110 rfl (lv_at hl 5 rfl) ?_
  refine va_calli (va_runV (As := []) (rest := []) ⟨hx, hb, hml, hown, hts⟩ (met_X5_thrown l E o g (cp_getPlace x (xs (nI ((4 * i) + 1)).toNatClampNeg)).2.2 (mp_getPlace y (xs (nI ((4 * i) + 1)).toNatClampNeg)).2 hR2.2.2.2.2.2.2.1) (cwV 0 hts gL_law_X5_thrown rfl rfl rfl (by decide +kernel) ⟨Nat.le_of_ble_eq_true rfl, Nat.le_of_ble_eq_true rfl⟩) ⟨fun a U f mk q => ⟨q.1, wPre.calling q.2 a f mk⟩, (va_recv hK (wH_one hH (lv_md (by decide) (by decide)) (cel_md (by decide) (by decide))) (ci := 7) (q0 := 0) rfl rfl), fun U hU hW => ⟨rfl, wPre_at hz hS hH hK U hU hW⟩⟩ rfl rfl hl.1 rfl (lv_room (Nat.le_of_ble_eq_true rfl)) dL_law_1111 ⟨by show _ ≤ 603072; omega, by show _ ≤ 7219306; omega⟩) hS (fun q _ h => h) (fun q h => h) (fun r8 u t H locs ht hvm hw8 hB hz1 hk1 hS => ?_)
  have hH : wHS E o g (cp_getPlace x (xs (nI ((4 * i) + 1)).toNatClampNeg)).2.2 (mp_getPlace y (xs (nI ((4 * i) + 1)).toNatClampNeg)).2 H := wHS_h ht hB
  have hw8 : r8 = (mp_getPlace y (xs (nI ((4 * i) + 1)).toNatClampNeg)).2.2 28 0 := hw8
  obtain rfl := hw8
  refine lv_iload hx hb dL_law_1114 (lv_at hl 1 rfl) ?_
  refine lv_icmp_eq (tgt := 1121) hx hb dL_law_1116 (by decide) (fun _ => ?_) (fun hq => absurd hkr hq)
  refine lv_iload hx hb dL_law_1121 (lv_at hl 1 rfl) ?_
  refine lv_if_ne (tgt := 1138) hx hb dL_law_1123 (by decide) (fun h9 => ?_) (fun h9 => ?_)
  · skip
    refine lv_goto (tgt := 2262) hx hb dL_law_1138 (by decide) ?_
    exact kont _ _ _ _ _ _ _ _ _ (by omega) (by omega) hR2 (lv_sub hl [2, 3, 4, 5, 6, 7] rfl) hH hS
  · obtain ⟨hnn, hval⟩ := sim_n (by decide) hw.1 hw.2 h9
    have hres := hsim.2.2.1 hnn
    rw [hres] at hval
    refine lv_aload_n hx hb dL_law_1126 rfl (lv_at hl 6 rfl) ?_
    refine lv_iconst (v := 0) hx hb dL_law_1127 (by decide) ?_
    refine wr_lald (t := 40) (v := ((mp_getPlace y (xs (nI ((4 * i) + 1)).toNatClampNeg)).1).toInt64) hx hb hK hH lv_o1 rfl 4 rfl (by unfold vp_in; decide) (by rw [show (0 : Int32).toNatClampNeg = 0 from rfl]; exact hval) dL_law_1128 ?_
    refine lv_iload hx hb dL_law_1129 (lv_at hl 0 rfl) ?_
    refine lv_i2l hx hb dL_law_1131 rfl ?_
    refine W.lcmp hx hb dL_law_1132 ?_
    refine lv_tope (lgc_self _) ?_
    refine lv_if_eq (tgt := 1138) hx hb dL_law_1133 (by decide) (fun _ => ?_) (fun hq => absurd (show (0 : Int32) = 0 by decide) hq)
    refine lv_goto (tgt := 2262) hx hb dL_law_1138 (by decide) ?_
    exact kont _ _ _ _ _ _ _ _ _ (by omega) (by omega) hR2 (lv_sub hl [2, 3, 4, 5, 6, 7] rfl) hH hS
set_option maxHeartbeats 4000000 in
set_option maxRecDepth 100000 in
theorem lc_discAt {p : Program} {l : Launch} {e : Env} {s : State} {m : MethodId} {below : List Frame} {meth : Method} {c : Code} {E : wE} {b L : Nat} {xs : Nat → Int32} {Q : State → Prop} (hE : lwE p l s m meth c E b L xs) (i : Nat) (hi : 4 * i + 4 ≤ L) {o : wO} {g : Nat → Nat} {x y : St} (hR : Rel i x y) {H : Heap} {locs : List Loc} {ls : Array Slot} {cells slots : Nat} (hl : lv_has ls 9 (lwL b g i)) (hH : wHS E o g x y H) (hS : va_S (wA E) s.heap H locs) (hroom : cells + 40 ≤ 603072 ∧ slots + 500 ≤ 7219306)
    (kont : ∀ (o : wO) (g : Nat → Nat) (x y : St) (H : Heap) (locs : List Loc) (ls : Array Slot) (cells2 slots2 : Nat), cells2 ≤ cells + 40 → slots2 ≤ slots + 500 → Rel (i + 1) x y → lv_has ls 9 (lwL b g i) → wHS E o g x y H → va_S (wA E) s.heap H locs → W p l e room_1 s m #[Value.ref b] below meth c H locs cells2 slots2 Q (F0 m 2262 ls [])) : W p l e room_1 s m #[Value.ref b] below meth c H locs cells slots Q (F0 m 1141 ls []) := by
  obtain ⟨hx, hb, hml, hown, hts, hr, hlocks, hX, hbl, hbA, hz, hK, hC, hDD, hNc, hlt, hL⟩ := hE
  obtain ⟨hI, hJ, hKK, hQ, hFrD, hFrB, hMI, hBK, hCS, hEQ⟩ := id hR
  have hl : lv_has ls 9 [(5, .int (nI (4 * i))), (0, .ref b), (1, .ref (g 0)), (2, .ref (g 10)), (3, .ref (g 40)), (4, .ref (g 41))] := hl
  refine lv_aload_n hx hb dL_law_1141 rfl (lv_at hl 2 rfl) ?_
  refine lv_aload_n hx hb dL_law_1142 rfl (lv_at hl 1 rfl) ?_
  refine lv_iload hx hb dL_law_1143 (lv_at hl 0 rfl) ?_
  refine lv_iconst (v := 1) hx hb dL_law_1145 (by decide) ?_
  refine lv_iadd hx hb dL_law_1146 ?_
  refine lv_tope (nI_add (4 * i) 1) ?_
  refine va_sld hx hb hX hbl hbA hS (vp_in_nI (n := ((4 * i) + 1)) (N := L) (by omega) (by omega)) dL_law_1147 ?_
  refine lv_aload_n hx hb dL_law_1148 rfl (lv_at hl 1 rfl) ?_
  refine lv_iload hx hb dL_law_1149 (lv_at hl 0 rfl) ?_
  refine lv_iconst (v := 2) hx hb dL_law_1151 (by decide) ?_
  refine lv_iadd hx hb dL_law_1152 ?_
  refine lv_tope (nI_add (4 * i) 2) ?_
  refine va_sld hx hb hX hbl hbA hS (vp_in_nI (n := ((4 * i) + 2)) (N := L) (by omega) (by omega)) dL_law_1153 ?_
  refine lv_aload_n hx hb dL_law_1154 rfl (lv_at hl 4 rfl) ?_
  have hsim := sim_discAt hR (by omega) (xs (nI ((4 * i) + 1)).toNatClampNeg) (xs (nI ((4 * i) + 2)).toNatClampNeg)
  refine va_calli (vx_runSW (As := [.ref (g 0), .int (xs (nI ((4 * i) + 1)).toNatClampNeg), .int (xs (nI ((4 * i) + 2)).toNatClampNeg), .ref (g 40)]) (rest := []) ⟨hx, hb, hml, hown, hts⟩ (met_L_discAt l E o g x y (xs (nI ((4 * i) + 1)).toNatClampNeg) (xs (nI ((4 * i) + 2)).toNatClampNeg) hlt hI) (vx_cwSW 4 hts gL_law_L_discAt rfl rfl rfl (by decide +kernel) ⟨Nat.le_of_ble_eq_true rfl, Nat.le_of_ble_eq_true rfl⟩) ⟨fun a U f mk q => ⟨q.1, wPreL.calling q.2 a f mk⟩, fun U hU hW => ⟨rfl, wPreL_at hz hS hH hK hC hDD hNc U hU hW⟩⟩ rfl rfl hl.1 rfl (lv_room (Nat.le_of_ble_eq_true rfl)) dL_law_1155 ⟨by show _ ≤ 603072; omega, by show _ ≤ 7219306; omega⟩) hS (fun q _ h => h) (fun q h => h) (fun r9 u t H locs ht hvm hw hB hz1 hk1 hS => ?_)
  obtain ⟨hgE, hB⟩ := hB
  obtain ⟨o, g⟩ := u
  have hH : wHS E o g (cp_discAt x (xs (nI ((4 * i) + 1)).toNatClampNeg) (xs (nI ((4 * i) + 2)).toNatClampNeg)).2.2 y H := wHS_h ht hB
  rw [← hgE 0 (by decide) (by decide) (by decide), ← hgE 10 (by decide) (by decide) (by decide), ← hgE 40 (by decide) (by decide) (by decide), ← hgE 41 (by decide) (by decide) (by decide)] at hl
  have hl : lv_has ls 9 [(5, .int (nI (4 * i))), (0, .ref b), (1, .ref (g 0)), (2, .ref (g 10)), (3, .ref (g 40)), (4, .ref (g 41))] := hl
  have hkr := sim_r hsim hw.1 hw.2
  have hR2 := hsim.2.2.2
  refine lv_istore (lv' := [(6, .int r9), (5, .int (nI (4 * i))), (0, .ref b), (1, .ref (g 0)), (2, .ref (g 10)), (3, .ref (g 40)), (4, .ref (g 41))]) hx hb dL_law_1158 hl (by decide) rfl (fun ls hl => ?_)
  refine lv_aload_n hx hb dL_law_1160 rfl (lv_at hl 4 rfl) ?_
  refine lv_aload_n hx hb dL_law_1161 rfl (lv_at hl 2 rfl) ?_
  refine lv_iload hx hb dL_law_1162 (lv_at hl 1 rfl) ?_
  refine lv_iconst (v := 1) hx hb dL_law_1164 (by decide) ?_
  refine lv_iadd hx hb dL_law_1165 ?_
  refine lv_tope (nI_add (4 * i) 1) ?_
  refine va_sld hx hb hX hbl hbA hS (vp_in_nI (n := ((4 * i) + 1)) (N := L) (by omega) (by omega)) dL_law_1166 ?_
  refine lv_aload_n hx hb dL_law_1167 rfl (lv_at hl 2 rfl) ?_
  refine lv_iload hx hb dL_law_1168 (lv_at hl 1 rfl) ?_
  refine lv_iconst (v := 2) hx hb dL_law_1170 (by decide) ?_
  refine lv_iadd hx hb dL_law_1171 ?_
  refine lv_tope (nI_add (4 * i) 2) ?_
  refine va_sld hx hb hX hbl hbA hS (vp_in_nI (n := ((4 * i) + 2)) (N := L) (by omega) (by omega)) dL_law_1172 ?_
  refine va_calli (va_runV (As := [.int (xs (nI ((4 * i) + 1)).toNatClampNeg), .int (xs (nI ((4 * i) + 2)).toNatClampNeg)]) (rest := []) ⟨hx, hb, hml, hown, hts⟩ (met_X5_discAt l E o g (cp_discAt x (xs (nI ((4 * i) + 1)).toNatClampNeg) (xs (nI ((4 * i) + 2)).toNatClampNeg)).2.2 y (xs (nI ((4 * i) + 1)).toNatClampNeg) (xs (nI ((4 * i) + 2)).toNatClampNeg) hMI) (cwV 2 hts gL_law_X5_discAt rfl rfl rfl (by decide +kernel) ⟨Nat.le_of_ble_eq_true rfl, Nat.le_of_ble_eq_true rfl⟩) ⟨fun a U f mk q => ⟨q.1, wPre.calling q.2 a f mk⟩, (va_recv hK (wH_one hH (lv_md (by decide) (by decide)) (cel_md (by decide) (by decide))) (ci := 7) (q0 := 0) rfl rfl), fun U hU hW => ⟨rfl, wPre_at hz hS hH hK U hU hW⟩⟩ rfl rfl hl.1 rfl (lv_room (Nat.le_of_ble_eq_true rfl)) dL_law_1173 ⟨by show _ ≤ 603072; omega, by show _ ≤ 7219306; omega⟩) hS (fun q _ h => h) (fun q h => h) (fun r8 u t H locs ht hvm hw8 hB hz1 hk1 hS => ?_)
  have hH : wHS E o g (cp_discAt x (xs (nI ((4 * i) + 1)).toNatClampNeg) (xs (nI ((4 * i) + 2)).toNatClampNeg)).2.2 (mp_discAt y (xs (nI ((4 * i) + 1)).toNatClampNeg) (xs (nI ((4 * i) + 2)).toNatClampNeg)).2 H := wHS_h ht hB
  obtain rfl := hw8
  refine lv_istore (lv' := [(7, .int ((mp_discAt y (xs (nI ((4 * i) + 1)).toNatClampNeg) (xs (nI ((4 * i) + 2)).toNatClampNeg)).1)), (6, .int r9), (5, .int (nI (4 * i))), (0, .ref b), (1, .ref (g 0)), (2, .ref (g 10)), (3, .ref (g 40)), (4, .ref (g 41))]) hx hb dL_law_1176 hl (by decide) rfl (fun ls hl => ?_)
  refine lv_aload_n hx hb dL_law_1178 rfl (lv_at hl 5 rfl) ?_
  refine va_calli (va_runV (As := []) (rest := []) ⟨hx, hb, hml, hown, hts⟩ (met_X5_thrown l E o g (cp_discAt x (xs (nI ((4 * i) + 1)).toNatClampNeg) (xs (nI ((4 * i) + 2)).toNatClampNeg)).2.2 (mp_discAt y (xs (nI ((4 * i) + 1)).toNatClampNeg) (xs (nI ((4 * i) + 2)).toNatClampNeg)).2 hR2.2.2.2.2.2.2.1) (cwV 0 hts gL_law_X5_thrown rfl rfl rfl (by decide +kernel) ⟨Nat.le_of_ble_eq_true rfl, Nat.le_of_ble_eq_true rfl⟩) ⟨fun a U f mk q => ⟨q.1, wPre.calling q.2 a f mk⟩, (va_recv hK (wH_one hH (lv_md (by decide) (by decide)) (cel_md (by decide) (by decide))) (ci := 7) (q0 := 0) rfl rfl), fun U hU hW => ⟨rfl, wPre_at hz hS hH hK U hU hW⟩⟩ rfl rfl hl.1 rfl (lv_room (Nat.le_of_ble_eq_true rfl)) dL_law_1179 ⟨by show _ ≤ 603072; omega, by show _ ≤ 7219306; omega⟩) hS (fun q _ h => h) (fun q h => h) (fun r8 u t H locs ht hvm hw8 hB hz1 hk1 hS => ?_)
  have hH : wHS E o g (cp_discAt x (xs (nI ((4 * i) + 1)).toNatClampNeg) (xs (nI ((4 * i) + 2)).toNatClampNeg)).2.2 (mp_discAt y (xs (nI ((4 * i) + 1)).toNatClampNeg) (xs (nI ((4 * i) + 2)).toNatClampNeg)).2 H := wHS_h ht hB
  have hw8 : r8 = (mp_discAt y (xs (nI ((4 * i) + 1)).toNatClampNeg) (xs (nI ((4 * i) + 2)).toNatClampNeg)).2.2 28 0 := hw8
  obtain rfl := hw8
  refine lv_iload hx hb dL_law_1182 (lv_at hl 1 rfl) ?_
  refine lv_icmp_eq (tgt := 1189) hx hb dL_law_1184 (by decide) (fun _ => ?_) (fun hq => absurd hkr hq)
  refine lv_iload hx hb dL_law_1189 (lv_at hl 1 rfl) ?_
  refine lv_if_ne (tgt := 1206) hx hb dL_law_1191 (by decide) (fun h9 => ?_) (fun h9 => ?_)
  · skip
    refine lv_goto (tgt := 2262) hx hb dL_law_1206 (by decide) ?_
    exact kont _ _ _ _ _ _ _ _ _ (by omega) (by omega) hR2 (lv_sub hl [2, 3, 4, 5, 6, 7] rfl) hH hS
  · obtain ⟨hnn, hval⟩ := sim_n (by decide) hw.1 hw.2 h9
    have hres := hsim.2.2.1 hnn
    rw [hres] at hval
    refine lv_aload_n hx hb dL_law_1194 rfl (lv_at hl 6 rfl) ?_
    refine lv_iconst (v := 0) hx hb dL_law_1195 (by decide) ?_
    refine wr_lald (t := 40) (v := ((mp_discAt y (xs (nI ((4 * i) + 1)).toNatClampNeg) (xs (nI ((4 * i) + 2)).toNatClampNeg)).1).toInt64) hx hb hK hH lv_o1 rfl 4 rfl (by unfold vp_in; decide) (by rw [show (0 : Int32).toNatClampNeg = 0 from rfl]; exact hval) dL_law_1196 ?_
    refine lv_iload hx hb dL_law_1197 (lv_at hl 0 rfl) ?_
    refine lv_i2l hx hb dL_law_1199 rfl ?_
    refine W.lcmp hx hb dL_law_1200 ?_
    refine lv_tope (lgc_self _) ?_
    refine lv_if_eq (tgt := 1206) hx hb dL_law_1201 (by decide) (fun _ => ?_) (fun hq => absurd (show (0 : Int32) = 0 by decide) hq)
    refine lv_goto (tgt := 2262) hx hb dL_law_1206 (by decide) ?_
    exact kont _ _ _ _ _ _ _ _ _ (by omega) (by omega) hR2 (lv_sub hl [2, 3, 4, 5, 6, 7] rfl) hH hS
