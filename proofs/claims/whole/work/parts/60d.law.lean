set_option maxHeartbeats 4000000 in
set_option maxRecDepth 100000 in
theorem lc_getEarned {p : Program} {l : Launch} {e : Env} {s : State} {m : MethodId} {below : List Frame} {meth : Method} {c : Code} {E : wE} {b L : Nat} {xs : Nat → Int32} {Q : State → Prop} (hE : lwE p l s m meth c E b L xs) (i : Nat) (hi : 4 * i + 4 ≤ L) {o : wO} {g : Nat → Nat} {x y : St} (hR : Rel i x y) {H : Heap} {locs : List Loc} {ls : Array Slot} {cells slots : Nat} (hl : lv_has ls 9 (lwL b g i)) (hH : wHS E o g x y H) (hS : va_S (wA E) s.heap H locs) (hroom : cells + 40 ≤ 603072 ∧ slots + 500 ≤ 7219306)
    (kont : ∀ (o : wO) (g : Nat → Nat) (x y : St) (H : Heap) (locs : List Loc) (ls : Array Slot) (cells2 slots2 : Nat), cells2 ≤ cells + 40 → slots2 ≤ slots + 500 → Rel (i + 1) x y → lv_has ls 9 (lwL b g i) → wHS E o g x y H → va_S (wA E) s.heap H locs → W p l e room_1 s m #[Value.ref b] below meth c H locs cells2 slots2 Q (F0 m 2262 ls [])) : W p l e room_1 s m #[Value.ref b] below meth c H locs cells slots Q (F0 m 1571 ls []) := by
  obtain ⟨hx, hb, hml, hown, hts, hr, hlocks, hX, hbl, hbA, hz, hK, hC, hDD, hNc, hlt, hL⟩ := hE
  obtain ⟨hI, hJ, hKK, hQ, hFrD, hFrB, hMI, hBK, hCS, hEQ⟩ := id hR
  have hl : lv_has ls 9 [(5, .int (nI (4 * i))), (0, .ref b), (1, .ref (g 0)), (2, .ref (g 10)), (3, .ref (g 40)), (4, .ref (g 41))] := hl
  refine lv_aload_n hx hb dL_law_1571 rfl (lv_at hl 2 rfl) ?_
  have hsim := sim_getEarned hR (by omega)
  refine vx_calli (vx_runV (As := []) (rest := []) ⟨hx, hb, hml, hown, hts⟩ (met_X4_getEarned l E o g x y hlt hI) (cwV 0 hts gL_law_X4_getEarned rfl rfl rfl (by decide +kernel) ⟨Nat.le_of_ble_eq_true rfl, Nat.le_of_ble_eq_true rfl⟩) ⟨fun a U f mk q => ⟨q.1, wPreX.calling q.2 a f mk⟩, (va_recv hK (wH_one hH lv_r0 (cel_rt (by omega))) (ci := 6) (q0 := 0) rfl rfl), fun U hU hW => ⟨rfl, wPreX_at hz hS hH hK hC U hU hW⟩⟩ rfl rfl hl.1 rfl (lv_room (Nat.le_of_ble_eq_true rfl)) dL_law_1572 ⟨by show _ ≤ 603072; omega, by show _ ≤ 7219306; omega⟩) hS (fun q _ h => h) (fun q h => h) (fun q _ h => h) (fun E9 ce q9 u t H locs ht hvm hw hB hz1 hk1 hS hce hcv hcl => ?_) (fun r9 u t H locs ht hvm hw hB hz1 hk1 hS => ?_)
  · exact absurd (hB.1.symm.trans hsim.1) (by simp)
  obtain ⟨-, rfl⟩ := hw
  have hH : wHS E o g (cp_getEarned x).2.2 y H := wHS_h ht hB
  refine lv_aload_n hx hb dL_law_1575 rfl (lv_at hl 3 rfl) ?_
  refine va_calli (va_runV (As := []) (rest := [.int ((cp_getEarned x).2.1)]) ⟨hx, hb, hml, hown, hts⟩ (met_X5_getEarned l E o g (cp_getEarned x).2.2 y hMI) (cwV 0 hts gL_law_X5_getEarned rfl rfl rfl (by decide +kernel) ⟨Nat.le_of_ble_eq_true rfl, Nat.le_of_ble_eq_true rfl⟩) ⟨fun a U f mk q => ⟨q.1, wPre.calling q.2 a f mk⟩, (va_recv hK (wH_one hH (lv_md (by decide) (by decide)) (cel_md (by decide) (by decide))) (ci := 7) (q0 := 0) rfl rfl), fun U hU hW => ⟨rfl, wPre_at hz hS hH hK U hU hW⟩⟩ rfl rfl hl.1 rfl (lv_room (Nat.le_of_ble_eq_true rfl)) dL_law_1576 ⟨by show _ ≤ 603072; omega, by show _ ≤ 7219306; omega⟩) hS (fun q _ h => h) (fun q h => h) (fun r8 u t H locs ht hvm hw8 hB hz1 hk1 hS => ?_)
  have hH : wHS E o g (cp_getEarned x).2.2 (mp_getEarned y).2 H := wHS_h ht hB
  obtain rfl := hw8
  refine W.eq (g2 := F0 m 1579 ls [.int ((mp_getEarned y).1), .int ((mp_getEarned y).1)]) (by rw [hsim.2.1]) ?_
  refine lv_icmp_eq (tgt := 2262) hx hb dL_law_1579 (by decide) (fun _ => ?_) (fun hq => absurd (rfl : ((mp_getEarned y).1) = ((mp_getEarned y).1)) hq)
  exact kont _ _ _ _ _ _ _ _ _ (by omega) (by omega) hsim.2.2 (lv_sub hl [0, 1, 2, 3, 4, 5] rfl) hH hS
set_option maxHeartbeats 4000000 in
set_option maxRecDepth 100000 in
theorem lc_change {p : Program} {l : Launch} {e : Env} {s : State} {m : MethodId} {below : List Frame} {meth : Method} {c : Code} {E : wE} {b L : Nat} {xs : Nat → Int32} {Q : State → Prop} (hE : lwE p l s m meth c E b L xs) (i : Nat) (hi : 4 * i + 4 ≤ L) {o : wO} {g : Nat → Nat} {x y : St} (hR : Rel i x y) {H : Heap} {locs : List Loc} {ls : Array Slot} {cells slots : Nat} (hl : lv_has ls 9 (lwL b g i)) (hH : wHS E o g x y H) (hS : va_S (wA E) s.heap H locs) (hroom : cells + 40 ≤ 603072 ∧ slots + 500 ≤ 7219306)
    (kont : ∀ (o : wO) (g : Nat → Nat) (x y : St) (H : Heap) (locs : List Loc) (ls : Array Slot) (cells2 slots2 : Nat), cells2 ≤ cells + 40 → slots2 ≤ slots + 500 → Rel (i + 1) x y → lv_has ls 9 (lwL b g i) → wHS E o g x y H → va_S (wA E) s.heap H locs → W p l e room_1 s m #[Value.ref b] below meth c H locs cells2 slots2 Q (F0 m 2262 ls [])) : W p l e room_1 s m #[Value.ref b] below meth c H locs cells slots Q (F0 m 1584 ls []) := by
  obtain ⟨hx, hb, hml, hown, hts, hr, hlocks, hX, hbl, hbA, hz, hK, hC, hDD, hNc, hlt, hL⟩ := hE
  obtain ⟨hI, hJ, hKK, hQ, hFrD, hFrB, hMI, hBK, hCS, hEQ⟩ := id hR
  have hl : lv_has ls 9 [(5, .int (nI (4 * i))), (0, .ref b), (1, .ref (g 0)), (2, .ref (g 10)), (3, .ref (g 40)), (4, .ref (g 41))] := hl
  refine lv_aload_n hx hb dL_law_1584 rfl (lv_at hl 2 rfl) ?_
  refine lv_aload_n hx hb dL_law_1585 rfl (lv_at hl 1 rfl) ?_
  refine lv_iload hx hb dL_law_1586 (lv_at hl 0 rfl) ?_
  refine lv_iconst (v := 1) hx hb dL_law_1588 (by decide) ?_
  refine lv_iadd hx hb dL_law_1589 ?_
  refine lv_tope (nI_add (4 * i) 1) ?_
  refine va_sld hx hb hX hbl hbA hS (vp_in_nI (n := ((4 * i) + 1)) (N := L) (by omega) (by omega)) dL_law_1590 ?_
  refine lv_aload_n hx hb dL_law_1591 rfl (lv_at hl 1 rfl) ?_
  refine lv_iload hx hb dL_law_1592 (lv_at hl 0 rfl) ?_
  refine lv_iconst (v := 2) hx hb dL_law_1594 (by decide) ?_
  refine lv_iadd hx hb dL_law_1595 ?_
  refine lv_tope (nI_add (4 * i) 2) ?_
  refine va_sld hx hb hX hbl hbA hS (vp_in_nI (n := ((4 * i) + 2)) (N := L) (by omega) (by omega)) dL_law_1596 ?_
  refine lv_aload_n hx hb dL_law_1597 rfl (lv_at hl 1 rfl) ?_
  refine lv_iload hx hb dL_law_1598 (lv_at hl 0 rfl) ?_
  refine lv_iconst (v := 3) hx hb dL_law_1600 (by decide) ?_
  refine lv_iadd hx hb dL_law_1601 ?_
  refine lv_tope (nI_add (4 * i) 3) ?_
  refine va_sld hx hb hX hbl hbA hS (vp_in_nI (n := ((4 * i) + 3)) (N := L) (by omega) (by omega)) dL_law_1602 ?_
  refine lv_aload_n hx hb dL_law_1603 rfl (lv_at hl 4 rfl) ?_
  have hsim := sim_change hR (by omega) (xs (nI ((4 * i) + 1)).toNatClampNeg) (xs (nI ((4 * i) + 2)).toNatClampNeg) (xs (nI ((4 * i) + 3)).toNatClampNeg)
  refine va_calli (vx_runSW (As := [.ref (g 0), .int (xs (nI ((4 * i) + 1)).toNatClampNeg), .int (xs (nI ((4 * i) + 2)).toNatClampNeg), .int (xs (nI ((4 * i) + 3)).toNatClampNeg), .ref (g 40)]) (rest := []) ⟨hx, hb, hml, hown, hts⟩ (met_L_change l E o g x y (xs (nI ((4 * i) + 1)).toNatClampNeg) (xs (nI ((4 * i) + 2)).toNatClampNeg) (xs (nI ((4 * i) + 3)).toNatClampNeg) hlt hI hJ) (vx_cwSW 5 hts gL_law_L_change rfl rfl rfl (by decide +kernel) ⟨Nat.le_of_ble_eq_true rfl, Nat.le_of_ble_eq_true rfl⟩) ⟨fun a U f mk q => ⟨q.1, wPreL.calling q.2 a f mk⟩, fun U hU hW => ⟨rfl, wPreL_at hz hS hH hK hC hDD hNc U hU hW⟩⟩ rfl rfl hl.1 rfl (lv_room (Nat.le_of_ble_eq_true rfl)) dL_law_1604 ⟨by show _ ≤ 603072; omega, by show _ ≤ 7219306; omega⟩) hS (fun q _ h => h) (fun q h => h) (fun r9 u t H locs ht hvm hw hB hz1 hk1 hS => ?_)
  obtain ⟨hgE, hB⟩ := hB
  obtain ⟨o, g⟩ := u
  have hH : wHS E o g (cp_change x (xs (nI ((4 * i) + 1)).toNatClampNeg) (xs (nI ((4 * i) + 2)).toNatClampNeg) (xs (nI ((4 * i) + 3)).toNatClampNeg)).2.2 y H := wHS_h ht hB
  rw [← hgE 0 (by decide) (by decide) (by decide), ← hgE 10 (by decide) (by decide) (by decide), ← hgE 40 (by decide) (by decide) (by decide), ← hgE 41 (by decide) (by decide) (by decide)] at hl
  have hl : lv_has ls 9 [(5, .int (nI (4 * i))), (0, .ref b), (1, .ref (g 0)), (2, .ref (g 10)), (3, .ref (g 40)), (4, .ref (g 41))] := hl
  have hkr := sim_r hsim hw.1 hw.2
  have hR2 := hsim.2.2.2
  refine lv_istore (lv' := [(6, .int r9), (5, .int (nI (4 * i))), (0, .ref b), (1, .ref (g 0)), (2, .ref (g 10)), (3, .ref (g 40)), (4, .ref (g 41))]) hx hb dL_law_1607 hl (by decide) rfl (fun ls hl => ?_)
  refine lv_aload_n hx hb dL_law_1609 rfl (lv_at hl 4 rfl) ?_
  refine lv_aload_n hx hb dL_law_1610 rfl (lv_at hl 2 rfl) ?_
  refine lv_iload hx hb dL_law_1611 (lv_at hl 1 rfl) ?_
  refine lv_iconst (v := 1) hx hb dL_law_1613 (by decide) ?_
  refine lv_iadd hx hb dL_law_1614 ?_
  refine lv_tope (nI_add (4 * i) 1) ?_
  refine va_sld hx hb hX hbl hbA hS (vp_in_nI (n := ((4 * i) + 1)) (N := L) (by omega) (by omega)) dL_law_1615 ?_
  refine lv_aload_n hx hb dL_law_1616 rfl (lv_at hl 2 rfl) ?_
  refine lv_iload hx hb dL_law_1617 (lv_at hl 1 rfl) ?_
  refine lv_iconst (v := 2) hx hb dL_law_1619 (by decide) ?_
  refine lv_iadd hx hb dL_law_1620 ?_
  refine lv_tope (nI_add (4 * i) 2) ?_
  refine va_sld hx hb hX hbl hbA hS (vp_in_nI (n := ((4 * i) + 2)) (N := L) (by omega) (by omega)) dL_law_1621 ?_
  refine lv_aload_n hx hb dL_law_1622 rfl (lv_at hl 2 rfl) ?_
  refine lv_iload hx hb dL_law_1623 (lv_at hl 1 rfl) ?_
  refine lv_iconst (v := 3) hx hb dL_law_1625 (by decide) ?_
  refine lv_iadd hx hb dL_law_1626 ?_
  refine lv_tope (nI_add (4 * i) 3) ?_
  refine va_sld hx hb hX hbl hbA hS (vp_in_nI (n := ((4 * i) + 3)) (N := L) (by omega) (by omega)) dL_law_1627 ?_
  refine va_calli (va_runV (As := [.int (xs (nI ((4 * i) + 1)).toNatClampNeg), .int (xs (nI ((4 * i) + 2)).toNatClampNeg), .int (xs (nI ((4 * i) + 3)).toNatClampNeg)]) (rest := []) ⟨hx, hb, hml, hown, hts⟩ (met_X5_change l E o g (cp_change x (xs (nI ((4 * i) + 1)).toNatClampNeg) (xs (nI ((4 * i) + 2)).toNatClampNeg) (xs (nI ((4 * i) + 3)).toNatClampNeg)).2.2 y (xs (nI ((4 * i) + 1)).toNatClampNeg) (xs (nI ((4 * i) + 2)).toNatClampNeg) (xs (nI ((4 * i) + 3)).toNatClampNeg) hMI) (cwV 3 hts gL_law_X5_change rfl rfl rfl (by decide +kernel) ⟨Nat.le_of_ble_eq_true rfl, Nat.le_of_ble_eq_true rfl⟩) ⟨fun a U f mk q => ⟨q.1, wPre.calling q.2 a f mk⟩, (va_recv hK (wH_one hH (lv_md (by decide) (by decide)) (cel_md (by decide) (by decide))) (ci := 7) (q0 := 0) rfl rfl), fun U hU hW => ⟨rfl, wPre_at hz hS hH hK U hU hW⟩⟩ rfl rfl hl.1 rfl (lv_room (Nat.le_of_ble_eq_true rfl)) dL_law_1628 ⟨by show _ ≤ 603072; omega, by show _ ≤ 7219306; omega⟩) hS (fun q _ h => h) (fun q h => h) (fun r8 u t H locs ht hvm hw8 hB hz1 hk1 hS => ?_)
  have hH : wHS E o g (cp_change x (xs (nI ((4 * i) + 1)).toNatClampNeg) (xs (nI ((4 * i) + 2)).toNatClampNeg) (xs (nI ((4 * i) + 3)).toNatClampNeg)).2.2 (mp_change y (xs (nI ((4 * i) + 1)).toNatClampNeg) (xs (nI ((4 * i) + 2)).toNatClampNeg) (xs (nI ((4 * i) + 3)).toNatClampNeg)).2 H := wHS_h ht hB
  obtain rfl := hw8
  refine lv_istore (lv' := [(7, .int ((mp_change y (xs (nI ((4 * i) + 1)).toNatClampNeg) (xs (nI ((4 * i) + 2)).toNatClampNeg) (xs (nI ((4 * i) + 3)).toNatClampNeg)).1)), (6, .int r9), (5, .int (nI (4 * i))), (0, .ref b), (1, .ref (g 0)), (2, .ref (g 10)), (3, .ref (g 40)), (4, .ref (g 41))]) hx hb dL_law_1631 hl (by decide) rfl (fun ls hl => ?_)
  refine lv_aload_n hx hb dL_law_1633 rfl (lv_at hl 5 rfl) ?_
  refine va_calli (va_runV (As := []) (rest := []) ⟨hx, hb, hml, hown, hts⟩ (met_X5_thrown l E o g (cp_change x (xs (nI ((4 * i) + 1)).toNatClampNeg) (xs (nI ((4 * i) + 2)).toNatClampNeg) (xs (nI ((4 * i) + 3)).toNatClampNeg)).2.2 (mp_change y (xs (nI ((4 * i) + 1)).toNatClampNeg) (xs (nI ((4 * i) + 2)).toNatClampNeg) (xs (nI ((4 * i) + 3)).toNatClampNeg)).2 hR2.2.2.2.2.2.2.1) (cwV 0 hts gL_law_X5_thrown rfl rfl rfl (by decide +kernel) ⟨Nat.le_of_ble_eq_true rfl, Nat.le_of_ble_eq_true rfl⟩) ⟨fun a U f mk q => ⟨q.1, wPre.calling q.2 a f mk⟩, (va_recv hK (wH_one hH (lv_md (by decide) (by decide)) (cel_md (by decide) (by decide))) (ci := 7) (q0 := 0) rfl rfl), fun U hU hW => ⟨rfl, wPre_at hz hS hH hK U hU hW⟩⟩ rfl rfl hl.1 rfl (lv_room (Nat.le_of_ble_eq_true rfl)) dL_law_1634 ⟨by show _ ≤ 603072; omega, by show _ ≤ 7219306; omega⟩) hS (fun q _ h => h) (fun q h => h) (fun r8 u t H locs ht hvm hw8 hB hz1 hk1 hS => ?_)
  have hH : wHS E o g (cp_change x (xs (nI ((4 * i) + 1)).toNatClampNeg) (xs (nI ((4 * i) + 2)).toNatClampNeg) (xs (nI ((4 * i) + 3)).toNatClampNeg)).2.2 (mp_change y (xs (nI ((4 * i) + 1)).toNatClampNeg) (xs (nI ((4 * i) + 2)).toNatClampNeg) (xs (nI ((4 * i) + 3)).toNatClampNeg)).2 H := wHS_h ht hB
  have hw8 : r8 = (mp_change y (xs (nI ((4 * i) + 1)).toNatClampNeg) (xs (nI ((4 * i) + 2)).toNatClampNeg) (xs (nI ((4 * i) + 3)).toNatClampNeg)).2.2 28 0 := hw8
  obtain rfl := hw8
  refine lv_iload hx hb dL_law_1637 (lv_at hl 1 rfl) ?_
  refine lv_icmp_eq (tgt := 1644) hx hb dL_law_1639 (by decide) (fun _ => ?_) (fun hq => absurd hkr hq)
  refine lv_iload hx hb dL_law_1644 (lv_at hl 1 rfl) ?_
  refine lv_if_ne (tgt := 1661) hx hb dL_law_1646 (by decide) (fun h9 => ?_) (fun h9 => ?_)
  · skip
    refine lv_goto (tgt := 2262) hx hb dL_law_1661 (by decide) ?_
    exact kont _ _ _ _ _ _ _ _ _ (by omega) (by omega) hR2 (lv_sub hl [2, 3, 4, 5, 6, 7] rfl) hH hS
  · obtain ⟨hnn, hval⟩ := sim_n (by decide) hw.1 hw.2 h9
    have hres := hsim.2.2.1 hnn
    rw [hres] at hval
    refine lv_aload_n hx hb dL_law_1649 rfl (lv_at hl 6 rfl) ?_
    refine lv_iconst (v := 0) hx hb dL_law_1650 (by decide) ?_
    refine wr_lald (t := 40) (v := ((mp_change y (xs (nI ((4 * i) + 1)).toNatClampNeg) (xs (nI ((4 * i) + 2)).toNatClampNeg) (xs (nI ((4 * i) + 3)).toNatClampNeg)).1).toInt64) hx hb hK hH lv_o1 rfl 4 rfl (by unfold vp_in; decide) (by rw [show (0 : Int32).toNatClampNeg = 0 from rfl]; exact hval) dL_law_1651 ?_
    refine lv_iload hx hb dL_law_1652 (lv_at hl 0 rfl) ?_
    refine lv_i2l hx hb dL_law_1654 rfl ?_
    refine W.lcmp hx hb dL_law_1655 ?_
    refine lv_tope (lgc_self _) ?_
    refine lv_if_eq (tgt := 1661) hx hb dL_law_1656 (by decide) (fun _ => ?_) (fun hq => absurd (show (0 : Int32) = 0 by decide) hq)
    refine lv_goto (tgt := 2262) hx hb dL_law_1661 (by decide) ?_
    exact kont _ _ _ _ _ _ _ _ _ (by omega) (by omega) hR2 (lv_sub hl [2, 3, 4, 5, 6, 7] rfl) hH hS
set_option maxHeartbeats 4000000 in
set_option maxRecDepth 100000 in
theorem lc_changeNeedle {p : Program} {l : Launch} {e : Env} {s : State} {m : MethodId} {below : List Frame} {meth : Method} {c : Code} {E : wE} {b L : Nat} {xs : Nat → Int32} {Q : State → Prop} (hE : lwE p l s m meth c E b L xs) (i : Nat) (hi : 4 * i + 4 ≤ L) {o : wO} {g : Nat → Nat} {x y : St} (hR : Rel i x y) {H : Heap} {locs : List Loc} {ls : Array Slot} {cells slots : Nat} (hl : lv_has ls 9 (lwL b g i)) (hH : wHS E o g x y H) (hS : va_S (wA E) s.heap H locs) (hroom : cells + 40 ≤ 603072 ∧ slots + 500 ≤ 7219306)
    (kont : ∀ (o : wO) (g : Nat → Nat) (x y : St) (H : Heap) (locs : List Loc) (ls : Array Slot) (cells2 slots2 : Nat), cells2 ≤ cells + 40 → slots2 ≤ slots + 500 → Rel (i + 1) x y → lv_has ls 9 (lwL b g i) → wHS E o g x y H → va_S (wA E) s.heap H locs → W p l e room_1 s m #[Value.ref b] below meth c H locs cells2 slots2 Q (F0 m 2262 ls [])) : W p l e room_1 s m #[Value.ref b] below meth c H locs cells slots Q (F0 m 1664 ls []) := by
  obtain ⟨hx, hb, hml, hown, hts, hr, hlocks, hX, hbl, hbA, hz, hK, hC, hDD, hNc, hlt, hL⟩ := hE
  obtain ⟨hI, hJ, hKK, hQ, hFrD, hFrB, hMI, hBK, hCS, hEQ⟩ := id hR
  have hl : lv_has ls 9 [(5, .int (nI (4 * i))), (0, .ref b), (1, .ref (g 0)), (2, .ref (g 10)), (3, .ref (g 40)), (4, .ref (g 41))] := hl
  refine lv_aload_n hx hb dL_law_1664 rfl (lv_at hl 2 rfl) ?_
  refine lv_aload_n hx hb dL_law_1665 rfl (lv_at hl 1 rfl) ?_
  refine lv_iload hx hb dL_law_1666 (lv_at hl 0 rfl) ?_
  refine lv_iconst (v := 1) hx hb dL_law_1668 (by decide) ?_
  refine lv_iadd hx hb dL_law_1669 ?_
  refine lv_tope (nI_add (4 * i) 1) ?_
  refine va_sld hx hb hX hbl hbA hS (vp_in_nI (n := ((4 * i) + 1)) (N := L) (by omega) (by omega)) dL_law_1670 ?_
  refine lv_aload_n hx hb dL_law_1671 rfl (lv_at hl 4 rfl) ?_
  have hsim := sim_changeNeedle hR (by omega) (xs (nI ((4 * i) + 1)).toNatClampNeg)
  refine va_calli (vx_runSW (As := [.ref (g 0), .int (xs (nI ((4 * i) + 1)).toNatClampNeg), .ref (g 40)]) (rest := []) ⟨hx, hb, hml, hown, hts⟩ (met_L_changeNeedle l E o g x y (xs (nI ((4 * i) + 1)).toNatClampNeg) hlt hI) (vx_cwSW 3 hts gL_law_L_changeNeedle rfl rfl rfl (by decide +kernel) ⟨Nat.le_of_ble_eq_true rfl, Nat.le_of_ble_eq_true rfl⟩) ⟨fun a U f mk q => ⟨q.1, wPreL.calling q.2 a f mk⟩, fun U hU hW => ⟨rfl, wPreL_at hz hS hH hK hC hDD hNc U hU hW⟩⟩ rfl rfl hl.1 rfl (lv_room (Nat.le_of_ble_eq_true rfl)) dL_law_1672 ⟨by show _ ≤ 603072; omega, by show _ ≤ 7219306; omega⟩) hS (fun q _ h => h) (fun q h => h) (fun r9 u t H locs ht hvm hw hB hz1 hk1 hS => ?_)
  obtain ⟨hgE, hB⟩ := hB
  obtain ⟨o, g⟩ := u
  have hH : wHS E o g (cp_changeNeedle x (xs (nI ((4 * i) + 1)).toNatClampNeg)).2.2 y H := wHS_h ht hB
  rw [← hgE 0 (by decide) (by decide) (by decide), ← hgE 10 (by decide) (by decide) (by decide), ← hgE 40 (by decide) (by decide) (by decide), ← hgE 41 (by decide) (by decide) (by decide)] at hl
  have hl : lv_has ls 9 [(5, .int (nI (4 * i))), (0, .ref b), (1, .ref (g 0)), (2, .ref (g 10)), (3, .ref (g 40)), (4, .ref (g 41))] := hl
  have hkr := sim_r hsim hw.1 hw.2
  have hR2 := hsim.2.2.2
  refine lv_istore (lv' := [(6, .int r9), (5, .int (nI (4 * i))), (0, .ref b), (1, .ref (g 0)), (2, .ref (g 10)), (3, .ref (g 40)), (4, .ref (g 41))]) hx hb dL_law_1675 hl (by decide) rfl (fun ls hl => ?_)
  refine lv_aload_n hx hb dL_law_1677 rfl (lv_at hl 4 rfl) ?_
  refine lv_aload_n hx hb dL_law_1678 rfl (lv_at hl 2 rfl) ?_
  refine lv_iload hx hb dL_law_1679 (lv_at hl 1 rfl) ?_
  refine lv_iconst (v := 1) hx hb dL_law_1681 (by decide) ?_
  refine lv_iadd hx hb dL_law_1682 ?_
  refine lv_tope (nI_add (4 * i) 1) ?_
  refine va_sld hx hb hX hbl hbA hS (vp_in_nI (n := ((4 * i) + 1)) (N := L) (by omega) (by omega)) dL_law_1683 ?_
  refine va_calli (va_runV (As := [.int (xs (nI ((4 * i) + 1)).toNatClampNeg)]) (rest := []) ⟨hx, hb, hml, hown, hts⟩ (met_X5_changeNeedle l E o g (cp_changeNeedle x (xs (nI ((4 * i) + 1)).toNatClampNeg)).2.2 y (xs (nI ((4 * i) + 1)).toNatClampNeg) hMI) (cwV 1 hts gL_law_X5_changeNeedle rfl rfl rfl (by decide +kernel) ⟨Nat.le_of_ble_eq_true rfl, Nat.le_of_ble_eq_true rfl⟩) ⟨fun a U f mk q => ⟨q.1, wPre.calling q.2 a f mk⟩, (va_recv hK (wH_one hH (lv_md (by decide) (by decide)) (cel_md (by decide) (by decide))) (ci := 7) (q0 := 0) rfl rfl), fun U hU hW => ⟨rfl, wPre_at hz hS hH hK U hU hW⟩⟩ rfl rfl hl.1 rfl (lv_room (Nat.le_of_ble_eq_true rfl)) dL_law_1684 ⟨by show _ ≤ 603072; omega, by show _ ≤ 7219306; omega⟩) hS (fun q _ h => h) (fun q h => h) (fun r8 u t H locs ht hvm hw8 hB hz1 hk1 hS => ?_)
  have hH : wHS E o g (cp_changeNeedle x (xs (nI ((4 * i) + 1)).toNatClampNeg)).2.2 (mp_changeNeedle y (xs (nI ((4 * i) + 1)).toNatClampNeg)).2 H := wHS_h ht hB
  obtain rfl := hw8
  refine lv_istore (lv' := [(7, .int ((mp_changeNeedle y (xs (nI ((4 * i) + 1)).toNatClampNeg)).1)), (6, .int r9), (5, .int (nI (4 * i))), (0, .ref b), (1, .ref (g 0)), (2, .ref (g 10)), (3, .ref (g 40)), (4, .ref (g 41))]) hx hb dL_law_1687 hl (by decide) rfl (fun ls hl => ?_)
  refine lv_aload_n hx hb dL_law_1689 rfl (lv_at hl 5 rfl) ?_
  refine va_calli (va_runV (As := []) (rest := []) ⟨hx, hb, hml, hown, hts⟩ (met_X5_thrown l E o g (cp_changeNeedle x (xs (nI ((4 * i) + 1)).toNatClampNeg)).2.2 (mp_changeNeedle y (xs (nI ((4 * i) + 1)).toNatClampNeg)).2 hR2.2.2.2.2.2.2.1) (cwV 0 hts gL_law_X5_thrown rfl rfl rfl (by decide +kernel) ⟨Nat.le_of_ble_eq_true rfl, Nat.le_of_ble_eq_true rfl⟩) ⟨fun a U f mk q => ⟨q.1, wPre.calling q.2 a f mk⟩, (va_recv hK (wH_one hH (lv_md (by decide) (by decide)) (cel_md (by decide) (by decide))) (ci := 7) (q0 := 0) rfl rfl), fun U hU hW => ⟨rfl, wPre_at hz hS hH hK U hU hW⟩⟩ rfl rfl hl.1 rfl (lv_room (Nat.le_of_ble_eq_true rfl)) dL_law_1690 ⟨by show _ ≤ 603072; omega, by show _ ≤ 7219306; omega⟩) hS (fun q _ h => h) (fun q h => h) (fun r8 u t H locs ht hvm hw8 hB hz1 hk1 hS => ?_)
  have hH : wHS E o g (cp_changeNeedle x (xs (nI ((4 * i) + 1)).toNatClampNeg)).2.2 (mp_changeNeedle y (xs (nI ((4 * i) + 1)).toNatClampNeg)).2 H := wHS_h ht hB
  have hw8 : r8 = (mp_changeNeedle y (xs (nI ((4 * i) + 1)).toNatClampNeg)).2.2 28 0 := hw8
  obtain rfl := hw8
  refine lv_iload hx hb dL_law_1693 (lv_at hl 1 rfl) ?_
  refine lv_icmp_eq (tgt := 1700) hx hb dL_law_1695 (by decide) (fun _ => ?_) (fun hq => absurd hkr hq)
  refine lv_iload hx hb dL_law_1700 (lv_at hl 1 rfl) ?_
  refine lv_if_ne (tgt := 1717) hx hb dL_law_1702 (by decide) (fun h9 => ?_) (fun h9 => ?_)
  · skip
    refine lv_goto (tgt := 2262) hx hb dL_law_1717 (by decide) ?_
    exact kont _ _ _ _ _ _ _ _ _ (by omega) (by omega) hR2 (lv_sub hl [2, 3, 4, 5, 6, 7] rfl) hH hS
  · obtain ⟨hnn, hval⟩ := sim_n (by decide) hw.1 hw.2 h9
    have hres := hsim.2.2.1 hnn
    rw [hres] at hval
    refine lv_aload_n hx hb dL_law_1705 rfl (lv_at hl 6 rfl) ?_
    refine lv_iconst (v := 0) hx hb dL_law_1706 (by decide) ?_
    refine wr_lald (t := 40) (v := ((mp_changeNeedle y (xs (nI ((4 * i) + 1)).toNatClampNeg)).1).toInt64) hx hb hK hH lv_o1 rfl 4 rfl (by unfold vp_in; decide) (by rw [show (0 : Int32).toNatClampNeg = 0 from rfl]; exact hval) dL_law_1707 ?_
    refine lv_iload hx hb dL_law_1708 (lv_at hl 0 rfl) ?_
    refine lv_i2l hx hb dL_law_1710 rfl ?_
    refine W.lcmp hx hb dL_law_1711 ?_
    refine lv_tope (lgc_self _) ?_
    refine lv_if_eq (tgt := 1717) hx hb dL_law_1712 (by decide) (fun _ => ?_) (fun hq => absurd (show (0 : Int32) = 0 by decide) hq)
    refine lv_goto (tgt := 2262) hx hb dL_law_1717 (by decide) ?_
    exact kont _ _ _ _ _ _ _ _ _ (by omega) (by omega) hR2 (lv_sub hl [2, 3, 4, 5, 6, 7] rfl) hH hS
set_option maxHeartbeats 4000000 in
set_option maxRecDepth 100000 in
theorem lc_burn {p : Program} {l : Launch} {e : Env} {s : State} {m : MethodId} {below : List Frame} {meth : Method} {c : Code} {E : wE} {b L : Nat} {xs : Nat → Int32} {Q : State → Prop} (hE : lwE p l s m meth c E b L xs) (i : Nat) (hi : 4 * i + 4 ≤ L) {o : wO} {g : Nat → Nat} {x y : St} (hR : Rel i x y) {H : Heap} {locs : List Loc} {ls : Array Slot} {cells slots : Nat} (hl : lv_has ls 9 (lwL b g i)) (hH : wHS E o g x y H) (hS : va_S (wA E) s.heap H locs) (hroom : cells + 40 ≤ 603072 ∧ slots + 500 ≤ 7219306)
    (kont : ∀ (o : wO) (g : Nat → Nat) (x y : St) (H : Heap) (locs : List Loc) (ls : Array Slot) (cells2 slots2 : Nat), cells2 ≤ cells + 40 → slots2 ≤ slots + 500 → Rel (i + 1) x y → lv_has ls 9 (lwL b g i) → wHS E o g x y H → va_S (wA E) s.heap H locs → W p l e room_1 s m #[Value.ref b] below meth c H locs cells2 slots2 Q (F0 m 2262 ls [])) : W p l e room_1 s m #[Value.ref b] below meth c H locs cells slots Q (F0 m 1720 ls []) := by
  obtain ⟨hx, hb, hml, hown, hts, hr, hlocks, hX, hbl, hbA, hz, hK, hC, hDD, hNc, hlt, hL⟩ := hE
  obtain ⟨hI, hJ, hKK, hQ, hFrD, hFrB, hMI, hBK, hCS, hEQ⟩ := id hR
  have hl : lv_has ls 9 [(5, .int (nI (4 * i))), (0, .ref b), (1, .ref (g 0)), (2, .ref (g 10)), (3, .ref (g 40)), (4, .ref (g 41))] := hl
  refine lv_aload_n hx hb dL_law_1720 rfl (lv_at hl 2 rfl) ?_
  refine lv_aload_n hx hb dL_law_1721 rfl (lv_at hl 1 rfl) ?_
  refine lv_iload hx hb dL_law_1722 (lv_at hl 0 rfl) ?_
  refine lv_iconst (v := 1) hx hb dL_law_1724 (by decide) ?_
  refine lv_iadd hx hb dL_law_1725 ?_
  refine lv_tope (nI_add (4 * i) 1) ?_
  refine va_sld hx hb hX hbl hbA hS (vp_in_nI (n := ((4 * i) + 1)) (N := L) (by omega) (by omega)) dL_law_1726 ?_
  refine lv_aload_n hx hb dL_law_1727 rfl (lv_at hl 4 rfl) ?_
  have hsim := sim_burn hR (by omega) (xs (nI ((4 * i) + 1)).toNatClampNeg)
  refine va_calli (vx_runSW (As := [.ref (g 0), .int (xs (nI ((4 * i) + 1)).toNatClampNeg), .ref (g 40)]) (rest := []) ⟨hx, hb, hml, hown, hts⟩ (met_L_burn l E o g x y (xs (nI ((4 * i) + 1)).toNatClampNeg) hlt hI) (vx_cwSW 3 hts gL_law_L_burn rfl rfl rfl (by decide +kernel) ⟨Nat.le_of_ble_eq_true rfl, Nat.le_of_ble_eq_true rfl⟩) ⟨fun a U f mk q => ⟨q.1, wPreL.calling q.2 a f mk⟩, fun U hU hW => ⟨rfl, wPreL_at hz hS hH hK hC hDD hNc U hU hW⟩⟩ rfl rfl hl.1 rfl (lv_room (Nat.le_of_ble_eq_true rfl)) dL_law_1728 ⟨by show _ ≤ 603072; omega, by show _ ≤ 7219306; omega⟩) hS (fun q _ h => h) (fun q h => h) (fun r9 u t H locs ht hvm hw hB hz1 hk1 hS => ?_)
  obtain ⟨hgE, hB⟩ := hB
  obtain ⟨o, g⟩ := u
  have hH : wHS E o g (cp_burn x (xs (nI ((4 * i) + 1)).toNatClampNeg)).2.2 y H := wHS_h ht hB
  rw [← hgE 0 (by decide) (by decide) (by decide), ← hgE 10 (by decide) (by decide) (by decide), ← hgE 40 (by decide) (by decide) (by decide), ← hgE 41 (by decide) (by decide) (by decide)] at hl
  have hl : lv_has ls 9 [(5, .int (nI (4 * i))), (0, .ref b), (1, .ref (g 0)), (2, .ref (g 10)), (3, .ref (g 40)), (4, .ref (g 41))] := hl
  have hkr := sim_r hsim hw.1 hw.2
  have hR2 := hsim.2.2.2
  refine lv_istore (lv' := [(6, .int r9), (5, .int (nI (4 * i))), (0, .ref b), (1, .ref (g 0)), (2, .ref (g 10)), (3, .ref (g 40)), (4, .ref (g 41))]) hx hb dL_law_1731 hl (by decide) rfl (fun ls hl => ?_)
  refine lv_aload_n hx hb dL_law_1733 rfl (lv_at hl 4 rfl) ?_
  refine lv_aload_n hx hb dL_law_1734 rfl (lv_at hl 2 rfl) ?_
  refine lv_iload hx hb dL_law_1735 (lv_at hl 1 rfl) ?_
  refine lv_iconst (v := 1) hx hb dL_law_1737 (by decide) ?_
  refine lv_iadd hx hb dL_law_1738 ?_
  refine lv_tope (nI_add (4 * i) 1) ?_
  refine va_sld hx hb hX hbl hbA hS (vp_in_nI (n := ((4 * i) + 1)) (N := L) (by omega) (by omega)) dL_law_1739 ?_
  refine va_calli (va_runV (As := [.int (xs (nI ((4 * i) + 1)).toNatClampNeg)]) (rest := []) ⟨hx, hb, hml, hown, hts⟩ (met_X5_burn l E o g (cp_burn x (xs (nI ((4 * i) + 1)).toNatClampNeg)).2.2 y (xs (nI ((4 * i) + 1)).toNatClampNeg) hMI) (cwV 1 hts gL_law_X5_burn rfl rfl rfl (by decide +kernel) ⟨Nat.le_of_ble_eq_true rfl, Nat.le_of_ble_eq_true rfl⟩) ⟨fun a U f mk q => ⟨q.1, wPre.calling q.2 a f mk⟩, (va_recv hK (wH_one hH (lv_md (by decide) (by decide)) (cel_md (by decide) (by decide))) (ci := 7) (q0 := 0) rfl rfl), fun U hU hW => ⟨rfl, wPre_at hz hS hH hK U hU hW⟩⟩ rfl rfl hl.1 rfl (lv_room (Nat.le_of_ble_eq_true rfl)) dL_law_1740 ⟨by show _ ≤ 603072; omega, by show _ ≤ 7219306; omega⟩) hS (fun q _ h => h) (fun q h => h) (fun r8 u t H locs ht hvm hw8 hB hz1 hk1 hS => ?_)
  have hH : wHS E o g (cp_burn x (xs (nI ((4 * i) + 1)).toNatClampNeg)).2.2 (mp_burn y (xs (nI ((4 * i) + 1)).toNatClampNeg)).2 H := wHS_h ht hB
  obtain rfl := hw8
  refine lv_istore (lv' := [(7, .int ((mp_burn y (xs (nI ((4 * i) + 1)).toNatClampNeg)).1)), (6, .int r9), (5, .int (nI (4 * i))), (0, .ref b), (1, .ref (g 0)), (2, .ref (g 10)), (3, .ref (g 40)), (4, .ref (g 41))]) hx hb dL_law_1743 hl (by decide) rfl (fun ls hl => ?_)
  refine lv_aload_n hx hb dL_law_1745 rfl (lv_at hl 5 rfl) ?_
  refine va_calli (va_runV (As := []) (rest := []) ⟨hx, hb, hml, hown, hts⟩ (met_X5_thrown l E o g (cp_burn x (xs (nI ((4 * i) + 1)).toNatClampNeg)).2.2 (mp_burn y (xs (nI ((4 * i) + 1)).toNatClampNeg)).2 hR2.2.2.2.2.2.2.1) (cwV 0 hts gL_law_X5_thrown rfl rfl rfl (by decide +kernel) ⟨Nat.le_of_ble_eq_true rfl, Nat.le_of_ble_eq_true rfl⟩) ⟨fun a U f mk q => ⟨q.1, wPre.calling q.2 a f mk⟩, (va_recv hK (wH_one hH (lv_md (by decide) (by decide)) (cel_md (by decide) (by decide))) (ci := 7) (q0 := 0) rfl rfl), fun U hU hW => ⟨rfl, wPre_at hz hS hH hK U hU hW⟩⟩ rfl rfl hl.1 rfl (lv_room (Nat.le_of_ble_eq_true rfl)) dL_law_1746 ⟨by show _ ≤ 603072; omega, by show _ ≤ 7219306; omega⟩) hS (fun q _ h => h) (fun q h => h) (fun r8 u t H locs ht hvm hw8 hB hz1 hk1 hS => ?_)
  have hH : wHS E o g (cp_burn x (xs (nI ((4 * i) + 1)).toNatClampNeg)).2.2 (mp_burn y (xs (nI ((4 * i) + 1)).toNatClampNeg)).2 H := wHS_h ht hB
  have hw8 : r8 = (mp_burn y (xs (nI ((4 * i) + 1)).toNatClampNeg)).2.2 28 0 := hw8
  obtain rfl := hw8
  refine lv_iload hx hb dL_law_1749 (lv_at hl 1 rfl) ?_
  refine lv_icmp_eq (tgt := 1756) hx hb dL_law_1751 (by decide) (fun _ => ?_) (fun hq => absurd hkr hq)
  refine lv_iload hx hb dL_law_1756 (lv_at hl 1 rfl) ?_
  refine lv_if_ne (tgt := 1773) hx hb dL_law_1758 (by decide) (fun h9 => ?_) (fun h9 => ?_)
  · skip
    refine lv_goto (tgt := 2262) hx hb dL_law_1773 (by decide) ?_
    exact kont _ _ _ _ _ _ _ _ _ (by omega) (by omega) hR2 (lv_sub hl [2, 3, 4, 5, 6, 7] rfl) hH hS
  · obtain ⟨hnn, hval⟩ := sim_n (by decide) hw.1 hw.2 h9
    have hres := hsim.2.2.1 hnn
    rw [hres] at hval
    refine lv_aload_n hx hb dL_law_1761 rfl (lv_at hl 6 rfl) ?_
    refine lv_iconst (v := 0) hx hb dL_law_1762 (by decide) ?_
    refine wr_lald (t := 40) (v := ((mp_burn y (xs (nI ((4 * i) + 1)).toNatClampNeg)).1).toInt64) hx hb hK hH lv_o1 rfl 4 rfl (by unfold vp_in; decide) (by rw [show (0 : Int32).toNatClampNeg = 0 from rfl]; exact hval) dL_law_1763 ?_
    refine lv_iload hx hb dL_law_1764 (lv_at hl 0 rfl) ?_
    refine lv_i2l hx hb dL_law_1766 rfl ?_
    refine W.lcmp hx hb dL_law_1767 ?_
    refine lv_tope (lgc_self _) ?_
    refine lv_if_eq (tgt := 1773) hx hb dL_law_1768 (by decide) (fun _ => ?_) (fun hq => absurd (show (0 : Int32) = 0 by decide) hq)
    refine lv_goto (tgt := 2262) hx hb dL_law_1773 (by decide) ?_
    exact kont _ _ _ _ _ _ _ _ _ (by omega) (by omega) hR2 (lv_sub hl [2, 3, 4, 5, 6, 7] rfl) hH hS
set_option maxHeartbeats 4000000 in
set_option maxRecDepth 100000 in
theorem lc_ask {p : Program} {l : Launch} {e : Env} {s : State} {m : MethodId} {below : List Frame} {meth : Method} {c : Code} {E : wE} {b L : Nat} {xs : Nat → Int32} {Q : State → Prop} (hE : lwE p l s m meth c E b L xs) (i : Nat) (hi : 4 * i + 4 ≤ L) {o : wO} {g : Nat → Nat} {x y : St} (hR : Rel i x y) {H : Heap} {locs : List Loc} {ls : Array Slot} {cells slots : Nat} (hl : lv_has ls 9 (lwL b g i)) (hH : wHS E o g x y H) (hS : va_S (wA E) s.heap H locs) (hroom : cells + 40 ≤ 603072 ∧ slots + 500 ≤ 7219306)
    (kont : ∀ (o : wO) (g : Nat → Nat) (x y : St) (H : Heap) (locs : List Loc) (ls : Array Slot) (cells2 slots2 : Nat), cells2 ≤ cells + 40 → slots2 ≤ slots + 500 → Rel (i + 1) x y → lv_has ls 9 (lwL b g i) → wHS E o g x y H → va_S (wA E) s.heap H locs → W p l e room_1 s m #[Value.ref b] below meth c H locs cells2 slots2 Q (F0 m 2262 ls [])) : W p l e room_1 s m #[Value.ref b] below meth c H locs cells slots Q (F0 m 1776 ls []) := by
  obtain ⟨hx, hb, hml, hown, hts, hr, hlocks, hX, hbl, hbA, hz, hK, hC, hDD, hNc, hlt, hL⟩ := hE
  obtain ⟨hI, hJ, hKK, hQ, hFrD, hFrB, hMI, hBK, hCS, hEQ⟩ := id hR
  have hl : lv_has ls 9 [(5, .int (nI (4 * i))), (0, .ref b), (1, .ref (g 0)), (2, .ref (g 10)), (3, .ref (g 40)), (4, .ref (g 41))] := hl
  refine lv_aload_n hx hb dL_law_1776 rfl (lv_at hl 2 rfl) ?_
  refine lv_aload_n hx hb dL_law_1777 rfl (lv_at hl 1 rfl) ?_
  refine lv_iload hx hb dL_law_1778 (lv_at hl 0 rfl) ?_
  refine lv_iconst (v := 1) hx hb dL_law_1780 (by decide) ?_
  refine lv_iadd hx hb dL_law_1781 ?_
  refine lv_tope (nI_add (4 * i) 1) ?_
  refine va_sld hx hb hX hbl hbA hS (vp_in_nI (n := ((4 * i) + 1)) (N := L) (by omega) (by omega)) dL_law_1782 ?_
  refine lv_aload_n hx hb dL_law_1783 rfl (lv_at hl 1 rfl) ?_
  refine lv_iload hx hb dL_law_1784 (lv_at hl 0 rfl) ?_
  refine lv_iconst (v := 2) hx hb dL_law_1786 (by decide) ?_
  refine lv_iadd hx hb dL_law_1787 ?_
  refine lv_tope (nI_add (4 * i) 2) ?_
  refine va_sld hx hb hX hbl hbA hS (vp_in_nI (n := ((4 * i) + 2)) (N := L) (by omega) (by omega)) dL_law_1788 ?_
  refine lv_aload_n hx hb dL_law_1789 rfl (lv_at hl 4 rfl) ?_
  have hsim := sim_ask hR (by omega) (xs (nI ((4 * i) + 1)).toNatClampNeg) (xs (nI ((4 * i) + 2)).toNatClampNeg)
  refine va_calli (vx_runSW (As := [.ref (g 0), .int (xs (nI ((4 * i) + 1)).toNatClampNeg), .int (xs (nI ((4 * i) + 2)).toNatClampNeg), .ref (g 40)]) (rest := []) ⟨hx, hb, hml, hown, hts⟩ (met_L_ask l E o g x y (xs (nI ((4 * i) + 1)).toNatClampNeg) (xs (nI ((4 * i) + 2)).toNatClampNeg) hlt hI) (vx_cwSW 4 hts gL_law_L_ask rfl rfl rfl (by decide +kernel) ⟨Nat.le_of_ble_eq_true rfl, Nat.le_of_ble_eq_true rfl⟩) ⟨fun a U f mk q => ⟨q.1, wPreL.calling q.2 a f mk⟩, fun U hU hW => ⟨rfl, wPreL_at hz hS hH hK hC hDD hNc U hU hW⟩⟩ rfl rfl hl.1 rfl (lv_room (Nat.le_of_ble_eq_true rfl)) dL_law_1790 ⟨by show _ ≤ 603072; omega, by show _ ≤ 7219306; omega⟩) hS (fun q _ h => h) (fun q h => h) (fun r9 u t H locs ht hvm hw hB hz1 hk1 hS => ?_)
  obtain ⟨hgE, hB⟩ := hB
  obtain ⟨o, g⟩ := u
  have hH : wHS E o g (cp_ask x (xs (nI ((4 * i) + 1)).toNatClampNeg) (xs (nI ((4 * i) + 2)).toNatClampNeg)).2.2 y H := wHS_h ht hB
  rw [← hgE 0 (by decide) (by decide) (by decide), ← hgE 10 (by decide) (by decide) (by decide), ← hgE 40 (by decide) (by decide) (by decide), ← hgE 41 (by decide) (by decide) (by decide)] at hl
  have hl : lv_has ls 9 [(5, .int (nI (4 * i))), (0, .ref b), (1, .ref (g 0)), (2, .ref (g 10)), (3, .ref (g 40)), (4, .ref (g 41))] := hl
  have hkr := sim_r hsim hw.1 hw.2
  have hR2 := hsim.2.2.2
  refine lv_istore (lv' := [(6, .int r9), (5, .int (nI (4 * i))), (0, .ref b), (1, .ref (g 0)), (2, .ref (g 10)), (3, .ref (g 40)), (4, .ref (g 41))]) hx hb dL_law_1793 hl (by decide) rfl (fun ls hl => ?_)
  refine lv_aload_n hx hb dL_law_1795 rfl (lv_at hl 4 rfl) ?_
  refine lv_aload_n hx hb dL_law_1796 rfl (lv_at hl 2 rfl) ?_
  refine lv_iload hx hb dL_law_1797 (lv_at hl 1 rfl) ?_
  refine lv_iconst (v := 1) hx hb dL_law_1799 (by decide) ?_
  refine lv_iadd hx hb dL_law_1800 ?_
  refine lv_tope (nI_add (4 * i) 1) ?_
  refine va_sld hx hb hX hbl hbA hS (vp_in_nI (n := ((4 * i) + 1)) (N := L) (by omega) (by omega)) dL_law_1801 ?_
  refine lv_aload_n hx hb dL_law_1802 rfl (lv_at hl 2 rfl) ?_
  refine lv_iload hx hb dL_law_1803 (lv_at hl 1 rfl) ?_
  refine lv_iconst (v := 2) hx hb dL_law_1805 (by decide) ?_
  refine lv_iadd hx hb dL_law_1806 ?_
  refine lv_tope (nI_add (4 * i) 2) ?_
  refine va_sld hx hb hX hbl hbA hS (vp_in_nI (n := ((4 * i) + 2)) (N := L) (by omega) (by omega)) dL_law_1807 ?_
  refine va_calli (va_runV (As := [.int (xs (nI ((4 * i) + 1)).toNatClampNeg), .int (xs (nI ((4 * i) + 2)).toNatClampNeg)]) (rest := []) ⟨hx, hb, hml, hown, hts⟩ (met_X5_ask l E o g (cp_ask x (xs (nI ((4 * i) + 1)).toNatClampNeg) (xs (nI ((4 * i) + 2)).toNatClampNeg)).2.2 y (xs (nI ((4 * i) + 1)).toNatClampNeg) (xs (nI ((4 * i) + 2)).toNatClampNeg) hMI) (cwV 2 hts gL_law_X5_ask rfl rfl rfl (by decide +kernel) ⟨Nat.le_of_ble_eq_true rfl, Nat.le_of_ble_eq_true rfl⟩) ⟨fun a U f mk q => ⟨q.1, wPre.calling q.2 a f mk⟩, (va_recv hK (wH_one hH (lv_md (by decide) (by decide)) (cel_md (by decide) (by decide))) (ci := 7) (q0 := 0) rfl rfl), fun U hU hW => ⟨rfl, wPre_at hz hS hH hK U hU hW⟩⟩ rfl rfl hl.1 rfl (lv_room (Nat.le_of_ble_eq_true rfl)) dL_law_1808 ⟨by show _ ≤ 603072; omega, by show _ ≤ 7219306; omega⟩) hS (fun q _ h => h) (fun q h => h) (fun r8 u t H locs ht hvm hw8 hB hz1 hk1 hS => ?_)
  have hH : wHS E o g (cp_ask x (xs (nI ((4 * i) + 1)).toNatClampNeg) (xs (nI ((4 * i) + 2)).toNatClampNeg)).2.2 (mp_ask y (xs (nI ((4 * i) + 1)).toNatClampNeg) (xs (nI ((4 * i) + 2)).toNatClampNeg)).2 H := wHS_h ht hB
  obtain rfl := hw8
  refine lv_istore (lv' := [(7, .int ((mp_ask y (xs (nI ((4 * i) + 1)).toNatClampNeg) (xs (nI ((4 * i) + 2)).toNatClampNeg)).1)), (6, .int r9), (5, .int (nI (4 * i))), (0, .ref b), (1, .ref (g 0)), (2, .ref (g 10)), (3, .ref (g 40)), (4, .ref (g 41))]) hx hb dL_law_1811 hl (by decide) rfl (fun ls hl => ?_)
  refine lv_aload_n hx hb dL_law_1813 rfl (lv_at hl 5 rfl) ?_
  refine va_calli (va_runV (As := []) (rest := []) ⟨hx, hb, hml, hown, hts⟩ (met_X5_thrown l E o g (cp_ask x (xs (nI ((4 * i) + 1)).toNatClampNeg) (xs (nI ((4 * i) + 2)).toNatClampNeg)).2.2 (mp_ask y (xs (nI ((4 * i) + 1)).toNatClampNeg) (xs (nI ((4 * i) + 2)).toNatClampNeg)).2 hR2.2.2.2.2.2.2.1) (cwV 0 hts gL_law_X5_thrown rfl rfl rfl (by decide +kernel) ⟨Nat.le_of_ble_eq_true rfl, Nat.le_of_ble_eq_true rfl⟩) ⟨fun a U f mk q => ⟨q.1, wPre.calling q.2 a f mk⟩, (va_recv hK (wH_one hH (lv_md (by decide) (by decide)) (cel_md (by decide) (by decide))) (ci := 7) (q0 := 0) rfl rfl), fun U hU hW => ⟨rfl, wPre_at hz hS hH hK U hU hW⟩⟩ rfl rfl hl.1 rfl (lv_room (Nat.le_of_ble_eq_true rfl)) dL_law_1814 ⟨by show _ ≤ 603072; omega, by show _ ≤ 7219306; omega⟩) hS (fun q _ h => h) (fun q h => h) (fun r8 u t H locs ht hvm hw8 hB hz1 hk1 hS => ?_)
  have hH : wHS E o g (cp_ask x (xs (nI ((4 * i) + 1)).toNatClampNeg) (xs (nI ((4 * i) + 2)).toNatClampNeg)).2.2 (mp_ask y (xs (nI ((4 * i) + 1)).toNatClampNeg) (xs (nI ((4 * i) + 2)).toNatClampNeg)).2 H := wHS_h ht hB
  have hw8 : r8 = (mp_ask y (xs (nI ((4 * i) + 1)).toNatClampNeg) (xs (nI ((4 * i) + 2)).toNatClampNeg)).2.2 28 0 := hw8
  obtain rfl := hw8
  refine lv_iload hx hb dL_law_1817 (lv_at hl 1 rfl) ?_
  refine lv_icmp_eq (tgt := 1824) hx hb dL_law_1819 (by decide) (fun _ => ?_) (fun hq => absurd hkr hq)
  refine lv_iload hx hb dL_law_1824 (lv_at hl 1 rfl) ?_
  refine lv_if_ne (tgt := 1841) hx hb dL_law_1826 (by decide) (fun h9 => ?_) (fun h9 => ?_)
  · skip
    refine lv_goto (tgt := 2262) hx hb dL_law_1841 (by decide) ?_
    exact kont _ _ _ _ _ _ _ _ _ (by omega) (by omega) hR2 (lv_sub hl [2, 3, 4, 5, 6, 7] rfl) hH hS
  · obtain ⟨hnn, hval⟩ := sim_n (by decide) hw.1 hw.2 h9
    have hres := hsim.2.2.1 hnn
    rw [hres] at hval
    refine lv_aload_n hx hb dL_law_1829 rfl (lv_at hl 6 rfl) ?_
    refine lv_iconst (v := 0) hx hb dL_law_1830 (by decide) ?_
    refine wr_lald (t := 40) (v := ((mp_ask y (xs (nI ((4 * i) + 1)).toNatClampNeg) (xs (nI ((4 * i) + 2)).toNatClampNeg)).1).toInt64) hx hb hK hH lv_o1 rfl 4 rfl (by unfold vp_in; decide) (by rw [show (0 : Int32).toNatClampNeg = 0 from rfl]; exact hval) dL_law_1831 ?_
    refine lv_iload hx hb dL_law_1832 (lv_at hl 0 rfl) ?_
    refine lv_i2l hx hb dL_law_1834 rfl ?_
    refine W.lcmp hx hb dL_law_1835 ?_
    refine lv_tope (lgc_self _) ?_
    refine lv_if_eq (tgt := 1841) hx hb dL_law_1836 (by decide) (fun _ => ?_) (fun hq => absurd (show (0 : Int32) = 0 by decide) hq)
    refine lv_goto (tgt := 2262) hx hb dL_law_1841 (by decide) ?_
    exact kont _ _ _ _ _ _ _ _ _ (by omega) (by omega) hR2 (lv_sub hl [2, 3, 4, 5, 6, 7] rfl) hH hS
set_option maxHeartbeats 4000000 in
set_option maxRecDepth 100000 in
theorem lc_mostAsked {p : Program} {l : Launch} {e : Env} {s : State} {m : MethodId} {below : List Frame} {meth : Method} {c : Code} {E : wE} {b L : Nat} {xs : Nat → Int32} {Q : State → Prop} (hE : lwE p l s m meth c E b L xs) (i : Nat) (hi : 4 * i + 4 ≤ L) {o : wO} {g : Nat → Nat} {x y : St} (hR : Rel i x y) {H : Heap} {locs : List Loc} {ls : Array Slot} {cells slots : Nat} (hl : lv_has ls 9 (lwL b g i)) (hH : wHS E o g x y H) (hS : va_S (wA E) s.heap H locs) (hroom : cells + 40 ≤ 603072 ∧ slots + 500 ≤ 7219306)
    (kont : ∀ (o : wO) (g : Nat → Nat) (x y : St) (H : Heap) (locs : List Loc) (ls : Array Slot) (cells2 slots2 : Nat), cells2 ≤ cells + 40 → slots2 ≤ slots + 500 → Rel (i + 1) x y → lv_has ls 9 (lwL b g i) → wHS E o g x y H → va_S (wA E) s.heap H locs → W p l e room_1 s m #[Value.ref b] below meth c H locs cells2 slots2 Q (F0 m 2262 ls [])) : W p l e room_1 s m #[Value.ref b] below meth c H locs cells slots Q (F0 m 1844 ls []) := by
  obtain ⟨hx, hb, hml, hown, hts, hr, hlocks, hX, hbl, hbA, hz, hK, hC, hDD, hNc, hlt, hL⟩ := hE
  obtain ⟨hI, hJ, hKK, hQ, hFrD, hFrB, hMI, hBK, hCS, hEQ⟩ := id hR
  have hl : lv_has ls 9 [(5, .int (nI (4 * i))), (0, .ref b), (1, .ref (g 0)), (2, .ref (g 10)), (3, .ref (g 40)), (4, .ref (g 41))] := hl
  refine lv_aload_n hx hb dL_law_1844 rfl (lv_at hl 2 rfl) ?_
  refine lv_aload_n hx hb dL_law_1845 rfl (lv_at hl 1 rfl) ?_
  refine lv_iload hx hb dL_law_1846 (lv_at hl 0 rfl) ?_
  refine lv_iconst (v := 1) hx hb dL_law_1848 (by decide) ?_
  refine lv_iadd hx hb dL_law_1849 ?_
  refine lv_tope (nI_add (4 * i) 1) ?_
  refine va_sld hx hb hX hbl hbA hS (vp_in_nI (n := ((4 * i) + 1)) (N := L) (by omega) (by omega)) dL_law_1850 ?_
  refine lv_aload_n hx hb dL_law_1851 rfl (lv_at hl 4 rfl) ?_
  have hsim := sim_mostAsked hR (by omega) (xs (nI ((4 * i) + 1)).toNatClampNeg)
  refine va_calli (vx_runSW (As := [.ref (g 0), .int (xs (nI ((4 * i) + 1)).toNatClampNeg), .ref (g 40)]) (rest := []) ⟨hx, hb, hml, hown, hts⟩ (met_L_mostAsked l E o g x y (xs (nI ((4 * i) + 1)).toNatClampNeg) hlt hI) (vx_cwSW 3 hts gL_law_L_mostAsked rfl rfl rfl (by decide +kernel) ⟨Nat.le_of_ble_eq_true rfl, Nat.le_of_ble_eq_true rfl⟩) ⟨fun a U f mk q => ⟨q.1, wPreL.calling q.2 a f mk⟩, fun U hU hW => ⟨rfl, wPreL_at hz hS hH hK hC hDD hNc U hU hW⟩⟩ rfl rfl hl.1 rfl (lv_room (Nat.le_of_ble_eq_true rfl)) dL_law_1852 ⟨by show _ ≤ 603072; omega, by show _ ≤ 7219306; omega⟩) hS (fun q _ h => h) (fun q h => h) (fun r9 u t H locs ht hvm hw hB hz1 hk1 hS => ?_)
  obtain ⟨hgE, hB⟩ := hB
  obtain ⟨o, g⟩ := u
  have hH : wHS E o g (cp_mostAsked x (xs (nI ((4 * i) + 1)).toNatClampNeg)).2.2 y H := wHS_h ht hB
  rw [← hgE 0 (by decide) (by decide) (by decide), ← hgE 10 (by decide) (by decide) (by decide), ← hgE 40 (by decide) (by decide) (by decide), ← hgE 41 (by decide) (by decide) (by decide)] at hl
  have hl : lv_has ls 9 [(5, .int (nI (4 * i))), (0, .ref b), (1, .ref (g 0)), (2, .ref (g 10)), (3, .ref (g 40)), (4, .ref (g 41))] := hl
  have hkr := sim_r hsim hw.1 hw.2
  have hR2 := hsim.2.2.2
  refine lv_istore (lv' := [(6, .int r9), (5, .int (nI (4 * i))), (0, .ref b), (1, .ref (g 0)), (2, .ref (g 10)), (3, .ref (g 40)), (4, .ref (g 41))]) hx hb dL_law_1855 hl (by decide) rfl (fun ls hl => ?_)
  refine lv_aload_n hx hb dL_law_1857 rfl (lv_at hl 4 rfl) ?_
  refine lv_aload_n hx hb dL_law_1858 rfl (lv_at hl 2 rfl) ?_
  refine lv_iload hx hb dL_law_1859 (lv_at hl 1 rfl) ?_
  refine lv_iconst (v := 1) hx hb dL_law_1861 (by decide) ?_
  refine lv_iadd hx hb dL_law_1862 ?_
  refine lv_tope (nI_add (4 * i) 1) ?_
  refine va_sld hx hb hX hbl hbA hS (vp_in_nI (n := ((4 * i) + 1)) (N := L) (by omega) (by omega)) dL_law_1863 ?_
  refine va_calli (va_runV (As := [.int (xs (nI ((4 * i) + 1)).toNatClampNeg)]) (rest := []) ⟨hx, hb, hml, hown, hts⟩ (met_X5_mostAsked l E o g (cp_mostAsked x (xs (nI ((4 * i) + 1)).toNatClampNeg)).2.2 y (xs (nI ((4 * i) + 1)).toNatClampNeg) hMI) (cwV 1 hts gL_law_X5_mostAsked rfl rfl rfl (by decide +kernel) ⟨Nat.le_of_ble_eq_true rfl, Nat.le_of_ble_eq_true rfl⟩) ⟨fun a U f mk q => ⟨q.1, wPre.calling q.2 a f mk⟩, (va_recv hK (wH_one hH (lv_md (by decide) (by decide)) (cel_md (by decide) (by decide))) (ci := 7) (q0 := 0) rfl rfl), fun U hU hW => ⟨rfl, wPre_at hz hS hH hK U hU hW⟩⟩ rfl rfl hl.1 rfl (lv_room (Nat.le_of_ble_eq_true rfl)) dL_law_1864 ⟨by show _ ≤ 603072; omega, by show _ ≤ 7219306; omega⟩) hS (fun q _ h => h) (fun q h => h) (fun r8 u t H locs ht hvm hw8 hB hz1 hk1 hS => ?_)
  have hH : wHS E o g (cp_mostAsked x (xs (nI ((4 * i) + 1)).toNatClampNeg)).2.2 (mp_mostAsked y (xs (nI ((4 * i) + 1)).toNatClampNeg)).2 H := wHS_h ht hB
  obtain rfl := hw8
  refine lv_istore (lv' := [(7, .int ((mp_mostAsked y (xs (nI ((4 * i) + 1)).toNatClampNeg)).1)), (6, .int r9), (5, .int (nI (4 * i))), (0, .ref b), (1, .ref (g 0)), (2, .ref (g 10)), (3, .ref (g 40)), (4, .ref (g 41))]) hx hb dL_law_1867 hl (by decide) rfl (fun ls hl => ?_)
  refine lv_aload_n hx hb dL_law_1869 rfl (lv_at hl 5 rfl) ?_
  refine va_calli (va_runV (As := []) (rest := []) ⟨hx, hb, hml, hown, hts⟩ (met_X5_thrown l E o g (cp_mostAsked x (xs (nI ((4 * i) + 1)).toNatClampNeg)).2.2 (mp_mostAsked y (xs (nI ((4 * i) + 1)).toNatClampNeg)).2 hR2.2.2.2.2.2.2.1) (cwV 0 hts gL_law_X5_thrown rfl rfl rfl (by decide +kernel) ⟨Nat.le_of_ble_eq_true rfl, Nat.le_of_ble_eq_true rfl⟩) ⟨fun a U f mk q => ⟨q.1, wPre.calling q.2 a f mk⟩, (va_recv hK (wH_one hH (lv_md (by decide) (by decide)) (cel_md (by decide) (by decide))) (ci := 7) (q0 := 0) rfl rfl), fun U hU hW => ⟨rfl, wPre_at hz hS hH hK U hU hW⟩⟩ rfl rfl hl.1 rfl (lv_room (Nat.le_of_ble_eq_true rfl)) dL_law_1870 ⟨by show _ ≤ 603072; omega, by show _ ≤ 7219306; omega⟩) hS (fun q _ h => h) (fun q h => h) (fun r8 u t H locs ht hvm hw8 hB hz1 hk1 hS => ?_)
  have hH : wHS E o g (cp_mostAsked x (xs (nI ((4 * i) + 1)).toNatClampNeg)).2.2 (mp_mostAsked y (xs (nI ((4 * i) + 1)).toNatClampNeg)).2 H := wHS_h ht hB
  have hw8 : r8 = (mp_mostAsked y (xs (nI ((4 * i) + 1)).toNatClampNeg)).2.2 28 0 := hw8
  obtain rfl := hw8
  refine lv_iload hx hb dL_law_1873 (lv_at hl 1 rfl) ?_
  refine lv_icmp_eq (tgt := 1880) hx hb dL_law_1875 (by decide) (fun _ => ?_) (fun hq => absurd hkr hq)
  refine lv_iload hx hb dL_law_1880 (lv_at hl 1 rfl) ?_
  refine lv_if_ne (tgt := 1897) hx hb dL_law_1882 (by decide) (fun h9 => ?_) (fun h9 => ?_)
  · skip
    refine lv_goto (tgt := 2262) hx hb dL_law_1897 (by decide) ?_
    exact kont _ _ _ _ _ _ _ _ _ (by omega) (by omega) hR2 (lv_sub hl [2, 3, 4, 5, 6, 7] rfl) hH hS
  · obtain ⟨hnn, hval⟩ := sim_n (by decide) hw.1 hw.2 h9
    have hres := hsim.2.2.1 hnn
    rw [hres] at hval
    refine lv_aload_n hx hb dL_law_1885 rfl (lv_at hl 6 rfl) ?_
    refine lv_iconst (v := 0) hx hb dL_law_1886 (by decide) ?_
    refine wr_lald (t := 40) (v := ((mp_mostAsked y (xs (nI ((4 * i) + 1)).toNatClampNeg)).1).toInt64) hx hb hK hH lv_o1 rfl 4 rfl (by unfold vp_in; decide) (by rw [show (0 : Int32).toNatClampNeg = 0 from rfl]; exact hval) dL_law_1887 ?_
    refine lv_iload hx hb dL_law_1888 (lv_at hl 0 rfl) ?_
    refine lv_i2l hx hb dL_law_1890 rfl ?_
    refine W.lcmp hx hb dL_law_1891 ?_
    refine lv_tope (lgc_self _) ?_
    refine lv_if_eq (tgt := 1897) hx hb dL_law_1892 (by decide) (fun _ => ?_) (fun hq => absurd (show (0 : Int32) = 0 by decide) hq)
    refine lv_goto (tgt := 2262) hx hb dL_law_1897 (by decide) ?_
    exact kont _ _ _ _ _ _ _ _ _ (by omega) (by omega) hR2 (lv_sub hl [2, 3, 4, 5, 6, 7] rfl) hH hS
set_option maxHeartbeats 4000000 in
set_option maxRecDepth 100000 in
theorem lc_least {p : Program} {l : Launch} {e : Env} {s : State} {m : MethodId} {below : List Frame} {meth : Method} {c : Code} {E : wE} {b L : Nat} {xs : Nat → Int32} {Q : State → Prop} (hE : lwE p l s m meth c E b L xs) (i : Nat) (hi : 4 * i + 4 ≤ L) {o : wO} {g : Nat → Nat} {x y : St} (hR : Rel i x y) {H : Heap} {locs : List Loc} {ls : Array Slot} {cells slots : Nat} (hl : lv_has ls 9 (lwL b g i)) (hH : wHS E o g x y H) (hS : va_S (wA E) s.heap H locs) (hroom : cells + 40 ≤ 603072 ∧ slots + 500 ≤ 7219306)
    (kont : ∀ (o : wO) (g : Nat → Nat) (x y : St) (H : Heap) (locs : List Loc) (ls : Array Slot) (cells2 slots2 : Nat), cells2 ≤ cells + 40 → slots2 ≤ slots + 500 → Rel (i + 1) x y → lv_has ls 9 (lwL b g i) → wHS E o g x y H → va_S (wA E) s.heap H locs → W p l e room_1 s m #[Value.ref b] below meth c H locs cells2 slots2 Q (F0 m 2262 ls [])) : W p l e room_1 s m #[Value.ref b] below meth c H locs cells slots Q (F0 m 1900 ls []) := by
  obtain ⟨hx, hb, hml, hown, hts, hr, hlocks, hX, hbl, hbA, hz, hK, hC, hDD, hNc, hlt, hL⟩ := hE
  obtain ⟨hI, hJ, hKK, hQ, hFrD, hFrB, hMI, hBK, hCS, hEQ⟩ := id hR
  have hl : lv_has ls 9 [(5, .int (nI (4 * i))), (0, .ref b), (1, .ref (g 0)), (2, .ref (g 10)), (3, .ref (g 40)), (4, .ref (g 41))] := hl
  refine lv_aload_n hx hb dL_law_1900 rfl (lv_at hl 2 rfl) ?_
  refine lv_aload_n hx hb dL_law_1901 rfl (lv_at hl 1 rfl) ?_
  refine lv_iload hx hb dL_law_1902 (lv_at hl 0 rfl) ?_
  refine lv_iconst (v := 1) hx hb dL_law_1904 (by decide) ?_
  refine lv_iadd hx hb dL_law_1905 ?_
  refine lv_tope (nI_add (4 * i) 1) ?_
  refine va_sld hx hb hX hbl hbA hS (vp_in_nI (n := ((4 * i) + 1)) (N := L) (by omega) (by omega)) dL_law_1906 ?_
  refine lv_aload_n hx hb dL_law_1907 rfl (lv_at hl 4 rfl) ?_
  have hsim := sim_least hR (by omega) (xs (nI ((4 * i) + 1)).toNatClampNeg)
  refine va_calli (vx_runSW (As := [.ref (g 0), .int (xs (nI ((4 * i) + 1)).toNatClampNeg), .ref (g 40)]) (rest := []) ⟨hx, hb, hml, hown, hts⟩ (met_L_least l E o g x y (xs (nI ((4 * i) + 1)).toNatClampNeg) hlt hI) (vx_cwSW 3 hts gL_law_L_least rfl rfl rfl (by decide +kernel) ⟨Nat.le_of_ble_eq_true rfl, Nat.le_of_ble_eq_true rfl⟩) ⟨fun a U f mk q => ⟨q.1, wPreL.calling q.2 a f mk⟩, fun U hU hW => ⟨rfl, wPreL_at hz hS hH hK hC hDD hNc U hU hW⟩⟩ rfl rfl hl.1 rfl (lv_room (Nat.le_of_ble_eq_true rfl)) dL_law_1908 ⟨by show _ ≤ 603072; omega, by show _ ≤ 7219306; omega⟩) hS (fun q _ h => h) (fun q h => h) (fun r9 u t H locs ht hvm hw hB hz1 hk1 hS => ?_)
  obtain ⟨hgE, hB⟩ := hB
  obtain ⟨o, g⟩ := u
  have hH : wHS E o g (cp_least x (xs (nI ((4 * i) + 1)).toNatClampNeg)).2.2 y H := wHS_h ht hB
  rw [← hgE 0 (by decide) (by decide) (by decide), ← hgE 10 (by decide) (by decide) (by decide), ← hgE 40 (by decide) (by decide) (by decide), ← hgE 41 (by decide) (by decide) (by decide)] at hl
  have hl : lv_has ls 9 [(5, .int (nI (4 * i))), (0, .ref b), (1, .ref (g 0)), (2, .ref (g 10)), (3, .ref (g 40)), (4, .ref (g 41))] := hl
  have hkr := sim_r hsim hw.1 hw.2
  have hR2 := hsim.2.2.2
  refine lv_istore (lv' := [(6, .int r9), (5, .int (nI (4 * i))), (0, .ref b), (1, .ref (g 0)), (2, .ref (g 10)), (3, .ref (g 40)), (4, .ref (g 41))]) hx hb dL_law_1911 hl (by decide) rfl (fun ls hl => ?_)
  refine lv_aload_n hx hb dL_law_1913 rfl (lv_at hl 4 rfl) ?_
  refine lv_aload_n hx hb dL_law_1914 rfl (lv_at hl 2 rfl) ?_
  refine lv_iload hx hb dL_law_1915 (lv_at hl 1 rfl) ?_
  refine lv_iconst (v := 1) hx hb dL_law_1917 (by decide) ?_
  refine lv_iadd hx hb dL_law_1918 ?_
  refine lv_tope (nI_add (4 * i) 1) ?_
  refine va_sld hx hb hX hbl hbA hS (vp_in_nI (n := ((4 * i) + 1)) (N := L) (by omega) (by omega)) dL_law_1919 ?_
  refine va_calli (va_runV (As := [.int (xs (nI ((4 * i) + 1)).toNatClampNeg)]) (rest := []) ⟨hx, hb, hml, hown, hts⟩ (met_X5_least l E o g (cp_least x (xs (nI ((4 * i) + 1)).toNatClampNeg)).2.2 y (xs (nI ((4 * i) + 1)).toNatClampNeg) hMI) (cwV 1 hts gL_law_X5_least rfl rfl rfl (by decide +kernel) ⟨Nat.le_of_ble_eq_true rfl, Nat.le_of_ble_eq_true rfl⟩) ⟨fun a U f mk q => ⟨q.1, wPre.calling q.2 a f mk⟩, (va_recv hK (wH_one hH (lv_md (by decide) (by decide)) (cel_md (by decide) (by decide))) (ci := 7) (q0 := 0) rfl rfl), fun U hU hW => ⟨rfl, wPre_at hz hS hH hK U hU hW⟩⟩ rfl rfl hl.1 rfl (lv_room (Nat.le_of_ble_eq_true rfl)) dL_law_1920 ⟨by show _ ≤ 603072; omega, by show _ ≤ 7219306; omega⟩) hS (fun q _ h => h) (fun q h => h) (fun r8 u t H locs ht hvm hw8 hB hz1 hk1 hS => ?_)
  have hH : wHS E o g (cp_least x (xs (nI ((4 * i) + 1)).toNatClampNeg)).2.2 (mp_least y (xs (nI ((4 * i) + 1)).toNatClampNeg)).2 H := wHS_h ht hB
  obtain rfl := hw8
  refine lv_istore (lv' := [(7, .int ((mp_least y (xs (nI ((4 * i) + 1)).toNatClampNeg)).1)), (6, .int r9), (5, .int (nI (4 * i))), (0, .ref b), (1, .ref (g 0)), (2, .ref (g 10)), (3, .ref (g 40)), (4, .ref (g 41))]) hx hb dL_law_1923 hl (by decide) rfl (fun ls hl => ?_)
  refine lv_aload_n hx hb dL_law_1925 rfl (lv_at hl 5 rfl) ?_
  refine va_calli (va_runV (As := []) (rest := []) ⟨hx, hb, hml, hown, hts⟩ (met_X5_thrown l E o g (cp_least x (xs (nI ((4 * i) + 1)).toNatClampNeg)).2.2 (mp_least y (xs (nI ((4 * i) + 1)).toNatClampNeg)).2 hR2.2.2.2.2.2.2.1) (cwV 0 hts gL_law_X5_thrown rfl rfl rfl (by decide +kernel) ⟨Nat.le_of_ble_eq_true rfl, Nat.le_of_ble_eq_true rfl⟩) ⟨fun a U f mk q => ⟨q.1, wPre.calling q.2 a f mk⟩, (va_recv hK (wH_one hH (lv_md (by decide) (by decide)) (cel_md (by decide) (by decide))) (ci := 7) (q0 := 0) rfl rfl), fun U hU hW => ⟨rfl, wPre_at hz hS hH hK U hU hW⟩⟩ rfl rfl hl.1 rfl (lv_room (Nat.le_of_ble_eq_true rfl)) dL_law_1926 ⟨by show _ ≤ 603072; omega, by show _ ≤ 7219306; omega⟩) hS (fun q _ h => h) (fun q h => h) (fun r8 u t H locs ht hvm hw8 hB hz1 hk1 hS => ?_)
  have hH : wHS E o g (cp_least x (xs (nI ((4 * i) + 1)).toNatClampNeg)).2.2 (mp_least y (xs (nI ((4 * i) + 1)).toNatClampNeg)).2 H := wHS_h ht hB
  have hw8 : r8 = (mp_least y (xs (nI ((4 * i) + 1)).toNatClampNeg)).2.2 28 0 := hw8
  obtain rfl := hw8
  refine lv_iload hx hb dL_law_1929 (lv_at hl 1 rfl) ?_
  refine lv_icmp_eq (tgt := 1936) hx hb dL_law_1931 (by decide) (fun _ => ?_) (fun hq => absurd hkr hq)
  refine lv_iload hx hb dL_law_1936 (lv_at hl 1 rfl) ?_
  refine lv_if_ne (tgt := 1953) hx hb dL_law_1938 (by decide) (fun h9 => ?_) (fun h9 => ?_)
  · skip
    refine lv_goto (tgt := 2262) hx hb dL_law_1953 (by decide) ?_
    exact kont _ _ _ _ _ _ _ _ _ (by omega) (by omega) hR2 (lv_sub hl [2, 3, 4, 5, 6, 7] rfl) hH hS
  · obtain ⟨hnn, hval⟩ := sim_n (by decide) hw.1 hw.2 h9
    have hres := hsim.2.2.1 hnn
    rw [hres] at hval
    refine lv_aload_n hx hb dL_law_1941 rfl (lv_at hl 6 rfl) ?_
    refine lv_iconst (v := 0) hx hb dL_law_1942 (by decide) ?_
    refine wr_lald (t := 40) (v := ((mp_least y (xs (nI ((4 * i) + 1)).toNatClampNeg)).1).toInt64) hx hb hK hH lv_o1 rfl 4 rfl (by unfold vp_in; decide) (by rw [show (0 : Int32).toNatClampNeg = 0 from rfl]; exact hval) dL_law_1943 ?_
    refine lv_iload hx hb dL_law_1944 (lv_at hl 0 rfl) ?_
    refine lv_i2l hx hb dL_law_1946 rfl ?_
    refine W.lcmp hx hb dL_law_1947 ?_
    refine lv_tope (lgc_self _) ?_
    refine lv_if_eq (tgt := 1953) hx hb dL_law_1948 (by decide) (fun _ => ?_) (fun hq => absurd (show (0 : Int32) = 0 by decide) hq)
    refine lv_goto (tgt := 2262) hx hb dL_law_1953 (by decide) ?_
    exact kont _ _ _ _ _ _ _ _ _ (by omega) (by omega) hR2 (lv_sub hl [2, 3, 4, 5, 6, 7] rfl) hH hS
set_option maxHeartbeats 4000000 in
set_option maxRecDepth 100000 in
theorem lc_worth {p : Program} {l : Launch} {e : Env} {s : State} {m : MethodId} {below : List Frame} {meth : Method} {c : Code} {E : wE} {b L : Nat} {xs : Nat → Int32} {Q : State → Prop} (hE : lwE p l s m meth c E b L xs) (i : Nat) (hi : 4 * i + 4 ≤ L) {o : wO} {g : Nat → Nat} {x y : St} (hR : Rel i x y) {H : Heap} {locs : List Loc} {ls : Array Slot} {cells slots : Nat} (hl : lv_has ls 9 (lwL b g i)) (hH : wHS E o g x y H) (hS : va_S (wA E) s.heap H locs) (hroom : cells + 40 ≤ 603072 ∧ slots + 500 ≤ 7219306)
    (kont : ∀ (o : wO) (g : Nat → Nat) (x y : St) (H : Heap) (locs : List Loc) (ls : Array Slot) (cells2 slots2 : Nat), cells2 ≤ cells + 40 → slots2 ≤ slots + 500 → Rel (i + 1) x y → lv_has ls 9 (lwL b g i) → wHS E o g x y H → va_S (wA E) s.heap H locs → W p l e room_1 s m #[Value.ref b] below meth c H locs cells2 slots2 Q (F0 m 2262 ls [])) : W p l e room_1 s m #[Value.ref b] below meth c H locs cells slots Q (F0 m 1956 ls []) := by
  obtain ⟨hx, hb, hml, hown, hts, hr, hlocks, hX, hbl, hbA, hz, hK, hC, hDD, hNc, hlt, hL⟩ := hE
  obtain ⟨hI, hJ, hKK, hQ, hFrD, hFrB, hMI, hBK, hCS, hEQ⟩ := id hR
  have hl : lv_has ls 9 [(5, .int (nI (4 * i))), (0, .ref b), (1, .ref (g 0)), (2, .ref (g 10)), (3, .ref (g 40)), (4, .ref (g 41))] := hl
  refine lv_aload_n hx hb dL_law_1956 rfl (lv_at hl 2 rfl) ?_
  refine lv_aload_n hx hb dL_law_1957 rfl (lv_at hl 1 rfl) ?_
  refine lv_iload hx hb dL_law_1958 (lv_at hl 0 rfl) ?_
  refine lv_iconst (v := 1) hx hb dL_law_1960 (by decide) ?_
  refine lv_iadd hx hb dL_law_1961 ?_
  refine lv_tope (nI_add (4 * i) 1) ?_
  refine va_sld hx hb hX hbl hbA hS (vp_in_nI (n := ((4 * i) + 1)) (N := L) (by omega) (by omega)) dL_law_1962 ?_
  refine lv_aload_n hx hb dL_law_1963 rfl (lv_at hl 1 rfl) ?_
  refine lv_iload hx hb dL_law_1964 (lv_at hl 0 rfl) ?_
  refine lv_iconst (v := 2) hx hb dL_law_1966 (by decide) ?_
  refine lv_iadd hx hb dL_law_1967 ?_
  refine lv_tope (nI_add (4 * i) 2) ?_
  refine va_sld hx hb hX hbl hbA hS (vp_in_nI (n := ((4 * i) + 2)) (N := L) (by omega) (by omega)) dL_law_1968 ?_
  refine lv_aload_n hx hb dL_law_1969 rfl (lv_at hl 1 rfl) ?_
  refine lv_iload hx hb dL_law_1970 (lv_at hl 0 rfl) ?_
  refine lv_iconst (v := 3) hx hb dL_law_1972 (by decide) ?_
  refine lv_iadd hx hb dL_law_1973 ?_
  refine lv_tope (nI_add (4 * i) 3) ?_
  refine va_sld hx hb hX hbl hbA hS (vp_in_nI (n := ((4 * i) + 3)) (N := L) (by omega) (by omega)) dL_law_1974 ?_
  refine lv_aload_n hx hb dL_law_1975 rfl (lv_at hl 4 rfl) ?_
  have hsim := sim_worth hR (by omega) (xs (nI ((4 * i) + 1)).toNatClampNeg) (xs (nI ((4 * i) + 2)).toNatClampNeg) (xs (nI ((4 * i) + 3)).toNatClampNeg)
  refine va_calli (vx_runSW (As := [.ref (g 0), .int (xs (nI ((4 * i) + 1)).toNatClampNeg), .int (xs (nI ((4 * i) + 2)).toNatClampNeg), .int (xs (nI ((4 * i) + 3)).toNatClampNeg), .ref (g 40)]) (rest := []) ⟨hx, hb, hml, hown, hts⟩ (met_L_worth l E o g x y (xs (nI ((4 * i) + 1)).toNatClampNeg) (xs (nI ((4 * i) + 2)).toNatClampNeg) (xs (nI ((4 * i) + 3)).toNatClampNeg) hlt hI) (vx_cwSW 5 hts gL_law_L_worth rfl rfl rfl (by decide +kernel) ⟨Nat.le_of_ble_eq_true rfl, Nat.le_of_ble_eq_true rfl⟩) ⟨fun a U f mk q => ⟨q.1, wPreL.calling q.2 a f mk⟩, fun U hU hW => ⟨rfl, wPreL_at hz hS hH hK hC hDD hNc U hU hW⟩⟩ rfl rfl hl.1 rfl (lv_room (Nat.le_of_ble_eq_true rfl)) dL_law_1976 ⟨by show _ ≤ 603072; omega, by show _ ≤ 7219306; omega⟩) hS (fun q _ h => h) (fun q h => h) (fun r9 u t H locs ht hvm hw hB hz1 hk1 hS => ?_)
  obtain ⟨hgE, hB⟩ := hB
  obtain ⟨o, g⟩ := u
  have hH : wHS E o g (cp_worth x (xs (nI ((4 * i) + 1)).toNatClampNeg) (xs (nI ((4 * i) + 2)).toNatClampNeg) (xs (nI ((4 * i) + 3)).toNatClampNeg)).2.2 y H := wHS_h ht hB
  rw [← hgE 0 (by decide) (by decide) (by decide), ← hgE 10 (by decide) (by decide) (by decide), ← hgE 40 (by decide) (by decide) (by decide), ← hgE 41 (by decide) (by decide) (by decide)] at hl
  have hl : lv_has ls 9 [(5, .int (nI (4 * i))), (0, .ref b), (1, .ref (g 0)), (2, .ref (g 10)), (3, .ref (g 40)), (4, .ref (g 41))] := hl
  have hkr := sim_r hsim hw.1 hw.2
  have hR2 := hsim.2.2.2
  refine lv_istore (lv' := [(6, .int r9), (5, .int (nI (4 * i))), (0, .ref b), (1, .ref (g 0)), (2, .ref (g 10)), (3, .ref (g 40)), (4, .ref (g 41))]) hx hb dL_law_1979 hl (by decide) rfl (fun ls hl => ?_)
  refine lv_aload_n hx hb dL_law_1981 rfl (lv_at hl 4 rfl) ?_
  refine lv_aload_n hx hb dL_law_1982 rfl (lv_at hl 2 rfl) ?_
  refine lv_iload hx hb dL_law_1983 (lv_at hl 1 rfl) ?_
  refine lv_iconst (v := 1) hx hb dL_law_1985 (by decide) ?_
  refine lv_iadd hx hb dL_law_1986 ?_
  refine lv_tope (nI_add (4 * i) 1) ?_
  refine va_sld hx hb hX hbl hbA hS (vp_in_nI (n := ((4 * i) + 1)) (N := L) (by omega) (by omega)) dL_law_1987 ?_
  refine lv_aload_n hx hb dL_law_1988 rfl (lv_at hl 2 rfl) ?_
  refine lv_iload hx hb dL_law_1989 (lv_at hl 1 rfl) ?_
  refine lv_iconst (v := 2) hx hb dL_law_1991 (by decide) ?_
  refine lv_iadd hx hb dL_law_1992 ?_
  refine lv_tope (nI_add (4 * i) 2) ?_
  refine va_sld hx hb hX hbl hbA hS (vp_in_nI (n := ((4 * i) + 2)) (N := L) (by omega) (by omega)) dL_law_1993 ?_
  refine lv_aload_n hx hb dL_law_1994 rfl (lv_at hl 2 rfl) ?_
  refine lv_iload hx hb dL_law_1995 (lv_at hl 1 rfl) ?_
  refine lv_iconst (v := 3) hx hb dL_law_1997 (by decide) ?_
  refine lv_iadd hx hb dL_law_1998 ?_
  refine lv_tope (nI_add (4 * i) 3) ?_
  refine va_sld hx hb hX hbl hbA hS (vp_in_nI (n := ((4 * i) + 3)) (N := L) (by omega) (by omega)) dL_law_1999 ?_
  refine va_calli (va_runV (As := [.int (xs (nI ((4 * i) + 1)).toNatClampNeg), .int (xs (nI ((4 * i) + 2)).toNatClampNeg), .int (xs (nI ((4 * i) + 3)).toNatClampNeg)]) (rest := []) ⟨hx, hb, hml, hown, hts⟩ (met_X5_worth l E o g (cp_worth x (xs (nI ((4 * i) + 1)).toNatClampNeg) (xs (nI ((4 * i) + 2)).toNatClampNeg) (xs (nI ((4 * i) + 3)).toNatClampNeg)).2.2 y (xs (nI ((4 * i) + 1)).toNatClampNeg) (xs (nI ((4 * i) + 2)).toNatClampNeg) (xs (nI ((4 * i) + 3)).toNatClampNeg) hMI) (cwV 3 hts gL_law_X5_worth rfl rfl rfl (by decide +kernel) ⟨Nat.le_of_ble_eq_true rfl, Nat.le_of_ble_eq_true rfl⟩) ⟨fun a U f mk q => ⟨q.1, wPre.calling q.2 a f mk⟩, (va_recv hK (wH_one hH (lv_md (by decide) (by decide)) (cel_md (by decide) (by decide))) (ci := 7) (q0 := 0) rfl rfl), fun U hU hW => ⟨rfl, wPre_at hz hS hH hK U hU hW⟩⟩ rfl rfl hl.1 rfl (lv_room (Nat.le_of_ble_eq_true rfl)) dL_law_2000 ⟨by show _ ≤ 603072; omega, by show _ ≤ 7219306; omega⟩) hS (fun q _ h => h) (fun q h => h) (fun r8 u t H locs ht hvm hw8 hB hz1 hk1 hS => ?_)
  have hH : wHS E o g (cp_worth x (xs (nI ((4 * i) + 1)).toNatClampNeg) (xs (nI ((4 * i) + 2)).toNatClampNeg) (xs (nI ((4 * i) + 3)).toNatClampNeg)).2.2 (mp_worth y (xs (nI ((4 * i) + 1)).toNatClampNeg) (xs (nI ((4 * i) + 2)).toNatClampNeg) (xs (nI ((4 * i) + 3)).toNatClampNeg)).2 H := wHS_h ht hB
  obtain rfl := hw8
  refine lv_istore (lv' := [(7, .int ((mp_worth y (xs (nI ((4 * i) + 1)).toNatClampNeg) (xs (nI ((4 * i) + 2)).toNatClampNeg) (xs (nI ((4 * i) + 3)).toNatClampNeg)).1)), (6, .int r9), (5, .int (nI (4 * i))), (0, .ref b), (1, .ref (g 0)), (2, .ref (g 10)), (3, .ref (g 40)), (4, .ref (g 41))]) hx hb dL_law_2003 hl (by decide) rfl (fun ls hl => ?_)
  refine lv_aload_n hx hb dL_law_2005 rfl (lv_at hl 5 rfl) ?_
  refine va_calli (va_runV (As := []) (rest := []) ⟨hx, hb, hml, hown, hts⟩ (met_X5_thrown l E o g (cp_worth x (xs (nI ((4 * i) + 1)).toNatClampNeg) (xs (nI ((4 * i) + 2)).toNatClampNeg) (xs (nI ((4 * i) + 3)).toNatClampNeg)).2.2 (mp_worth y (xs (nI ((4 * i) + 1)).toNatClampNeg) (xs (nI ((4 * i) + 2)).toNatClampNeg) (xs (nI ((4 * i) + 3)).toNatClampNeg)).2 hR2.2.2.2.2.2.2.1) (cwV 0 hts gL_law_X5_thrown rfl rfl rfl (by decide +kernel) ⟨Nat.le_of_ble_eq_true rfl, Nat.le_of_ble_eq_true rfl⟩) ⟨fun a U f mk q => ⟨q.1, wPre.calling q.2 a f mk⟩, (va_recv hK (wH_one hH (lv_md (by decide) (by decide)) (cel_md (by decide) (by decide))) (ci := 7) (q0 := 0) rfl rfl), fun U hU hW => ⟨rfl, wPre_at hz hS hH hK U hU hW⟩⟩ rfl rfl hl.1 rfl (lv_room (Nat.le_of_ble_eq_true rfl)) dL_law_2006 ⟨by show _ ≤ 603072; omega, by show _ ≤ 7219306; omega⟩) hS (fun q _ h => h) (fun q h => h) (fun r8 u t H locs ht hvm hw8 hB hz1 hk1 hS => ?_)
  have hH : wHS E o g (cp_worth x (xs (nI ((4 * i) + 1)).toNatClampNeg) (xs (nI ((4 * i) + 2)).toNatClampNeg) (xs (nI ((4 * i) + 3)).toNatClampNeg)).2.2 (mp_worth y (xs (nI ((4 * i) + 1)).toNatClampNeg) (xs (nI ((4 * i) + 2)).toNatClampNeg) (xs (nI ((4 * i) + 3)).toNatClampNeg)).2 H := wHS_h ht hB
  have hw8 : r8 = (mp_worth y (xs (nI ((4 * i) + 1)).toNatClampNeg) (xs (nI ((4 * i) + 2)).toNatClampNeg) (xs (nI ((4 * i) + 3)).toNatClampNeg)).2.2 28 0 := hw8
  obtain rfl := hw8
  refine lv_iload hx hb dL_law_2009 (lv_at hl 1 rfl) ?_
  refine lv_icmp_eq (tgt := 2016) hx hb dL_law_2011 (by decide) (fun _ => ?_) (fun hq => absurd hkr hq)
  refine lv_iload hx hb dL_law_2016 (lv_at hl 1 rfl) ?_
  refine lv_if_ne (tgt := 2033) hx hb dL_law_2018 (by decide) (fun h9 => ?_) (fun h9 => ?_)
  · skip
    refine lv_goto (tgt := 2262) hx hb dL_law_2033 (by decide) ?_
    exact kont _ _ _ _ _ _ _ _ _ (by omega) (by omega) hR2 (lv_sub hl [2, 3, 4, 5, 6, 7] rfl) hH hS
  · obtain ⟨hnn, hval⟩ := sim_n (by decide) hw.1 hw.2 h9
    have hres := hsim.2.2.1 hnn
    rw [hres] at hval
    refine lv_aload_n hx hb dL_law_2021 rfl (lv_at hl 6 rfl) ?_
    refine lv_iconst (v := 0) hx hb dL_law_2022 (by decide) ?_
    refine wr_lald (t := 40) (v := ((mp_worth y (xs (nI ((4 * i) + 1)).toNatClampNeg) (xs (nI ((4 * i) + 2)).toNatClampNeg) (xs (nI ((4 * i) + 3)).toNatClampNeg)).1).toInt64) hx hb hK hH lv_o1 rfl 4 rfl (by unfold vp_in; decide) (by rw [show (0 : Int32).toNatClampNeg = 0 from rfl]; exact hval) dL_law_2023 ?_
    refine lv_iload hx hb dL_law_2024 (lv_at hl 0 rfl) ?_
    refine lv_i2l hx hb dL_law_2026 rfl ?_
    refine W.lcmp hx hb dL_law_2027 ?_
    refine lv_tope (lgc_self _) ?_
    refine lv_if_eq (tgt := 2033) hx hb dL_law_2028 (by decide) (fun _ => ?_) (fun hq => absurd (show (0 : Int32) = 0 by decide) hq)
    refine lv_goto (tgt := 2262) hx hb dL_law_2033 (by decide) ?_
    exact kont _ _ _ _ _ _ _ _ _ (by omega) (by omega) hR2 (lv_sub hl [2, 3, 4, 5, 6, 7] rfl) hH hS
