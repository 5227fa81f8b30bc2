set_option maxHeartbeats 4000000 in
set_option maxRecDepth 100000 in
theorem lc_bestWorth {p : Program} {l : Launch} {e : Env} {s : State} {m : MethodId} {below : List Frame} {meth : Method} {c : Code} {E : wE} {b L : Nat} {xs : Nat → Int32} {Q : State → Prop} (hE : lwE p l s m meth c E b L xs) (i : Nat) (hi : 4 * i + 4 ≤ L) {o : wO} {g : Nat → Nat} {x y : St} (hR : Rel i x y) {H : Heap} {locs : List Loc} {ls : Array Slot} {cells slots : Nat} (hl : lv_has ls 9 (lwL b g i)) (hH : wHS E o g x y H) (hS : va_S (wA E) s.heap H locs) (hroom : cells + 40 ≤ 603072 ∧ slots + 500 ≤ 7219306)
    (kont : ∀ (o : wO) (g : Nat → Nat) (x y : St) (H : Heap) (locs : List Loc) (ls : Array Slot) (cells2 slots2 : Nat), cells2 ≤ cells + 40 → slots2 ≤ slots + 500 → Rel (i + 1) x y → lv_has ls 9 (lwL b g i) → wHS E o g x y H → va_S (wA E) s.heap H locs → W p l e room_1 s m #[Value.ref b] below meth c H locs cells2 slots2 Q (F0 m 2262 ls [])) : W p l e room_1 s m #[Value.ref b] below meth c H locs cells slots Q (F0 m 2036 ls []) := by
  obtain ⟨hx, hb, hml, hown, hts, hr, hlocks, hX, hbl, hbA, hz, hK, hC, hDD, hNc, hlt, hL⟩ := hE
  obtain ⟨hI, hJ, hKK, hQ, hFrD, hFrB, hMI, hBK, hCS, hEQ⟩ := id hR
  have hl : lv_has ls 9 [(5, .int (nI (4 * i))), (0, .ref b), (1, .ref (g 0)), (2, .ref (g 10)), (3, .ref (g 40)), (4, .ref (g 41))] := hl
  refine lv_aload_n hx hb dL_law_2036 rfl (lv_at hl 2 rfl) ?_
  refine lv_aload_n hx hb dL_law_2037 rfl (lv_at hl 1 rfl) ?_
  refine lv_iload hx hb dL_law_2038 (lv_at hl 0 rfl) ?_
  refine lv_iconst (v := 1) hx hb dL_law_2040 (by decide) ?_
  refine lv_iadd hx hb dL_law_2041 ?_
  refine lv_tope (nI_add (4 * i) 1) ?_
  refine va_sld hx hb hX hbl hbA hS (vp_in_nI (n := ((4 * i) + 1)) (N := L) (by omega) (by omega)) dL_law_2042 ?_
  refine lv_aload_n hx hb dL_law_2043 rfl (lv_at hl 1 rfl) ?_
  refine lv_iload hx hb dL_law_2044 (lv_at hl 0 rfl) ?_
  refine lv_iconst (v := 2) hx hb dL_law_2046 (by decide) ?_
  refine lv_iadd hx hb dL_law_2047 ?_
  refine lv_tope (nI_add (4 * i) 2) ?_
  refine va_sld hx hb hX hbl hbA hS (vp_in_nI (n := ((4 * i) + 2)) (N := L) (by omega) (by omega)) dL_law_2048 ?_
  refine lv_aload_n hx hb dL_law_2049 rfl (lv_at hl 4 rfl) ?_
  have hsim := sim_bestWorth hR (by omega) (xs (nI ((4 * i) + 1)).toNatClampNeg) (xs (nI ((4 * i) + 2)).toNatClampNeg)
  refine va_calli (vx_runSW (As := [.ref (g 0), .int (xs (nI ((4 * i) + 1)).toNatClampNeg), .int (xs (nI ((4 * i) + 2)).toNatClampNeg), .ref (g 40)]) (rest := []) ⟨hx, hb, hml, hown, hts⟩ (met_L_bestWorth l E o g x y (xs (nI ((4 * i) + 1)).toNatClampNeg) (xs (nI ((4 * i) + 2)).toNatClampNeg) hlt hI) (vx_cwSW 4 hts gL_law_L_bestWorth rfl rfl rfl (by decide +kernel) ⟨Nat.le_of_ble_eq_true rfl, Nat.le_of_ble_eq_true rfl⟩) ⟨fun a U f mk q => ⟨q.1, wPreL.calling q.2 a f mk⟩, fun U hU hW => ⟨rfl, wPreL_at hz hS hH hK hC hDD hNc U hU hW⟩⟩ rfl rfl hl.1 rfl (lv_room (Nat.le_of_ble_eq_true rfl)) dL_law_2050 ⟨by show _ ≤ 603072; omega, by show _ ≤ 7219306; omega⟩) hS (fun q _ h => h) (fun q h => h) (fun r9 u t H locs ht hvm hw hB hz1 hk1 hS => ?_)
  obtain ⟨hgE, hB⟩ := hB
  obtain ⟨o, g⟩ := u
  have hH : wHS E o g (cp_bestWorth x (xs (nI ((4 * i) + 1)).toNatClampNeg) (xs (nI ((4 * i) + 2)).toNatClampNeg)).2.2 y H := wHS_h ht hB
  rw [← hgE 0 (by decide) (by decide) (by decide), ← hgE 10 (by decide) (by decide) (by decide), ← hgE 40 (by decide) (by decide) (by decide), ← hgE 41 (by decide) (by decide) (by decide)] at hl
  have hl : lv_has ls 9 [(5, .int (nI (4 * i))), (0, .ref b), (1, .ref (g 0)), (2, .ref (g 10)), (3, .ref (g 40)), (4, .ref (g 41))] := hl
  have hkr := sim_r hsim hw.1 hw.2
  have hR2 := hsim.2.2.2
  refine lv_istore (lv' := [(6, .int r9), (5, .int (nI (4 * i))), (0, .ref b), (1, .ref (g 0)), (2, .ref (g 10)), (3, .ref (g 40)), (4, .ref (g 41))]) hx hb dL_law_2053 hl (by decide) rfl (fun ls hl => ?_)
  refine lv_aload_n hx hb dL_law_2055 rfl (lv_at hl 4 rfl) ?_
  refine lv_aload_n hx hb dL_law_2056 rfl (lv_at hl 2 rfl) ?_
  refine lv_iload hx hb dL_law_2057 (lv_at hl 1 rfl) ?_
  refine lv_iconst (v := 1) hx hb dL_law_2059 (by decide) ?_
  refine lv_iadd hx hb dL_law_2060 ?_
  refine lv_tope (nI_add (4 * i) 1) ?_
  refine va_sld hx hb hX hbl hbA hS (vp_in_nI (n := ((4 * i) + 1)) (N := L) (by omega) (by omega)) dL_law_2061 ?_
  refine lv_aload_n hx hb dL_law_2062 rfl (lv_at hl 2 rfl) ?_
  refine lv_iload hx hb dL_law_2063 (lv_at hl 1 rfl) ?_
  refine lv_iconst (v := 2) hx hb dL_law_2065 (by decide) ?_
  refine lv_iadd hx hb dL_law_2066 ?_
  refine lv_tope (nI_add (4 * i) 2) ?_
  refine va_sld hx hb hX hbl hbA hS (vp_in_nI (n := ((4 * i) + 2)) (N := L) (by omega) (by omega)) dL_law_2067 ?_
  refine va_calli (va_runV (As := [.int (xs (nI ((4 * i) + 1)).toNatClampNeg), .int (xs (nI ((4 * i) + 2)).toNatClampNeg)]) (rest := []) ⟨hx, hb, hml, hown, hts⟩ (met_X5_bestWorth l E o g (cp_bestWorth x (xs (nI ((4 * i) + 1)).toNatClampNeg) (xs (nI ((4 * i) + 2)).toNatClampNeg)).2.2 y (xs (nI ((4 * i) + 1)).toNatClampNeg) (xs (nI ((4 * i) + 2)).toNatClampNeg) hMI) (cwV 2 hts gL_law_X5_bestWorth rfl rfl rfl (by decide +kernel) ⟨Nat.le_of_ble_eq_true rfl, Nat.le_of_ble_eq_true rfl⟩) ⟨fun a U f mk q => ⟨q.1, wPre.calling q.2 a f mk⟩, (va_recv hK (wH_one hH (lv_md (by decide) (by decide)) (cel_md (by decide) (by decide))) (ci := 7) (q0 := 0) rfl rfl), fun U hU hW => ⟨rfl, wPre_at hz hS hH hK U hU hW⟩⟩ rfl rfl hl.1 rfl (lv_room (Nat.le_of_ble_eq_true rfl)) dL_law_2068 ⟨by show _ ≤ 603072; omega, by show _ ≤ 7219306; omega⟩) hS (fun q _ h => h) (fun q h => h) (fun r8 u t H locs ht hvm hw8 hB hz1 hk1 hS => ?_)
  have hH : wHS E o g (cp_bestWorth x (xs (nI ((4 * i) + 1)).toNatClampNeg) (xs (nI ((4 * i) + 2)).toNatClampNeg)).2.2 (mp_bestWorth y (xs (nI ((4 * i) + 1)).toNatClampNeg) (xs (nI ((4 * i) + 2)).toNatClampNeg)).2 H := wHS_h ht hB
  obtain rfl := hw8
  refine lv_istore (lv' := [(7, .int ((mp_bestWorth y (xs (nI ((4 * i) + 1)).toNatClampNeg) (xs (nI ((4 * i) + 2)).toNatClampNeg)).1)), (6, .int r9), (5, .int (nI (4 * i))), (0, .ref b), (1, .ref (g 0)), (2, .ref (g 10)), (3, .ref (g 40)), (4, .ref (g 41))]) hx hb dL_law_2071 hl (by decide) rfl (fun ls hl => ?_)
  refine lv_aload_n hx hb dL_law_2073 rfl (lv_at hl 5 rfl) ?_
  refine va_calli (va_runV (As := []) (rest := []) ⟨hx, hb, hml, hown, hts⟩ (met_X5_thrown l E o g (cp_bestWorth x (xs (nI ((4 * i) + 1)).toNatClampNeg) (xs (nI ((4 * i) + 2)).toNatClampNeg)).2.2 (mp_bestWorth y (xs (nI ((4 * i) + 1)).toNatClampNeg) (xs (nI ((4 * i) + 2)).toNatClampNeg)).2 hR2.2.2.2.2.2.2.1) (cwV 0 hts gL_law_X5_thrown rfl rfl rfl (by decide +kernel) ⟨Nat.le_of_ble_eq_true rfl, Nat.le_of_ble_eq_true rfl⟩) ⟨fun a U f mk q => ⟨q.1, wPre.calling q.2 a f mk⟩, (va_recv hK (wH_one hH (lv_md (by decide) (by decide)) (cel_md (by decide) (by decide))) (ci := 7) (q0 := 0) rfl rfl), fun U hU hW => ⟨rfl, wPre_at hz hS hH hK U hU hW⟩⟩ rfl rfl hl.1 rfl (lv_room (Nat.le_of_ble_eq_true rfl)) dL_law_2074 ⟨by show _ ≤ 603072; omega, by show _ ≤ 7219306; omega⟩) hS (fun q _ h => h) (fun q h => h) (fun r8 u t H locs ht hvm hw8 hB hz1 hk1 hS => ?_)
  have hH : wHS E o g (cp_bestWorth x (xs (nI ((4 * i) + 1)).toNatClampNeg) (xs (nI ((4 * i) + 2)).toNatClampNeg)).2.2 (mp_bestWorth y (xs (nI ((4 * i) + 1)).toNatClampNeg) (xs (nI ((4 * i) + 2)).toNatClampNeg)).2 H := wHS_h ht hB
  have hw8 : r8 = (mp_bestWorth y (xs (nI ((4 * i) + 1)).toNatClampNeg) (xs (nI ((4 * i) + 2)).toNatClampNeg)).2.2 28 0 := hw8
  obtain rfl := hw8
  refine lv_iload hx hb dL_law_2077 (lv_at hl 1 rfl) ?_
  refine lv_icmp_eq (tgt := 2084) hx hb dL_law_2079 (by decide) (fun _ => ?_) (fun hq => absurd hkr hq)
  refine lv_iload hx hb dL_law_2084 (lv_at hl 1 rfl) ?_
  refine lv_if_ne (tgt := 2101) hx hb dL_law_2086 (by decide) (fun h9 => ?_) (fun h9 => ?_)
  · skip
    refine lv_goto (tgt := 2262) hx hb dL_law_2101 (by decide) ?_
    exact kont _ _ _ _ _ _ _ _ _ (by omega) (by omega) hR2 (lv_sub hl [2, 3, 4, 5, 6, 7] rfl) hH hS
  · obtain ⟨hnn, hval⟩ := sim_n (by decide) hw.1 hw.2 h9
    have hres := hsim.2.2.1 hnn
    rw [hres] at hval
    refine lv_aload_n hx hb dL_law_2089 rfl (lv_at hl 6 rfl) ?_
    refine lv_iconst (v := 0) hx hb dL_law_2090 (by decide) ?_
    refine wr_lald (t := 40) (v := ((mp_bestWorth y (xs (nI ((4 * i) + 1)).toNatClampNeg) (xs (nI ((4 * i) + 2)).toNatClampNeg)).1).toInt64) hx hb hK hH lv_o1 rfl 4 rfl (by unfold vp_in; decide) (by rw [show (0 : Int32).toNatClampNeg = 0 from rfl]; exact hval) dL_law_2091 ?_
    refine lv_iload hx hb dL_law_2092 (lv_at hl 0 rfl) ?_
    refine lv_i2l hx hb dL_law_2094 rfl ?_
    refine W.lcmp hx hb dL_law_2095 ?_
    refine lv_tope (lgc_self _) ?_
    refine lv_if_eq (tgt := 2101) hx hb dL_law_2096 (by decide) (fun _ => ?_) (fun hq => absurd (show (0 : Int32) = 0 by decide) hq)
    refine lv_goto (tgt := 2262) hx hb dL_law_2101 (by decide) ?_
    exact kont _ _ _ _ _ _ _ _ _ (by omega) (by omega) hR2 (lv_sub hl [2, 3, 4, 5, 6, 7] rfl) hH hS
set_option maxHeartbeats 4000000 in
set_option maxRecDepth 100000 in
theorem lc_wornShare {p : Program} {l : Launch} {e : Env} {s : State} {m : MethodId} {below : List Frame} {meth : Method} {c : Code} {E : wE} {b L : Nat} {xs : Nat → Int32} {Q : State → Prop} (hE : lwE p l s m meth c E b L xs) (i : Nat) (hi : 4 * i + 4 ≤ L) {o : wO} {g : Nat → Nat} {x y : St} (hR : Rel i x y) {H : Heap} {locs : List Loc} {ls : Array Slot} {cells slots : Nat} (hl : lv_has ls 9 (lwL b g i)) (hH : wHS E o g x y H) (hS : va_S (wA E) s.heap H locs) (hroom : cells + 40 ≤ 603072 ∧ slots + 500 ≤ 7219306)
    (kont : ∀ (o : wO) (g : Nat → Nat) (x y : St) (H : Heap) (locs : List Loc) (ls : Array Slot) (cells2 slots2 : Nat), cells2 ≤ cells + 40 → slots2 ≤ slots + 500 → Rel (i + 1) x y → lv_has ls 9 (lwL b g i) → wHS E o g x y H → va_S (wA E) s.heap H locs → W p l e room_1 s m #[Value.ref b] below meth c H locs cells2 slots2 Q (F0 m 2262 ls [])) : W p l e room_1 s m #[Value.ref b] below meth c H locs cells slots Q (F0 m 2104 ls []) := by
  obtain ⟨hx, hb, hml, hown, hts, hr, hlocks, hX, hbl, hbA, hz, hK, hC, hDD, hNc, hlt, hL⟩ := hE
  obtain ⟨hI, hJ, hKK, hQ, hFrD, hFrB, hMI, hBK, hCS, hEQ⟩ := id hR
  have hl : lv_has ls 9 [(5, .int (nI (4 * i))), (0, .ref b), (1, .ref (g 0)), (2, .ref (g 10)), (3, .ref (g 40)), (4, .ref (g 41))] := hl
  refine lv_aload_n hx hb dL_law_2104 rfl (lv_at hl 2 rfl) ?_
  refine lv_aload hx hb dL_law_2105 (lv_at hl 5 rfl) ?_
  have hsim := sim_wornShare hR (by omega)
  refine va_calli (vx_runSW (As := [.ref (g 0), .ref (g 41)]) (rest := []) ⟨hx, hb, hml, hown, hts⟩ (met_L_wornShare l E o g x y hlt hI (nan_ws hR)) (vx_cwSW 2 hts gL_law_L_wornShare rfl rfl rfl (by decide +kernel) ⟨Nat.le_of_ble_eq_true rfl, Nat.le_of_ble_eq_true rfl⟩) ⟨fun a U f mk q => ⟨q.1, wPreL.calling q.2 a f mk⟩, fun U hU hW => ⟨rfl, wPreL_at hz hS hH hK hC hDD hNc U hU hW⟩⟩ rfl rfl hl.1 rfl (lv_room (Nat.le_of_ble_eq_true rfl)) dL_law_2107 ⟨by show _ ≤ 603072; omega, by show _ ≤ 7219306; omega⟩) hS (fun q _ h => h) (fun q h => h) (fun r9 u t H locs ht hvm hw hB hz1 hk1 hS => ?_)
  obtain ⟨hgE, hB⟩ := hB
  obtain ⟨o, g⟩ := u
  have hH : wHS E o g (cp_wornShare x).2.2 y H := wHS_h ht hB
  rw [← hgE 0 (by decide) (by decide) (by decide), ← hgE 10 (by decide) (by decide) (by decide), ← hgE 40 (by decide) (by decide) (by decide), ← hgE 41 (by decide) (by decide) (by decide)] at hl
  have hl : lv_has ls 9 [(5, .int (nI (4 * i))), (0, .ref b), (1, .ref (g 0)), (2, .ref (g 10)), (3, .ref (g 40)), (4, .ref (g 41))] := hl
  have hkr := sim_r hsim hw.1 hw.2
  have hR2 := hsim.2.2.2
  refine lv_istore (lv' := [(6, .int r9), (5, .int (nI (4 * i))), (0, .ref b), (1, .ref (g 0)), (2, .ref (g 10)), (3, .ref (g 40)), (4, .ref (g 41))]) hx hb dL_law_2110 hl (by decide) rfl (fun ls hl => ?_)
  refine lv_aload_n hx hb dL_law_2112 rfl (lv_at hl 4 rfl) ?_
  refine va_callf (va_runV (As := []) (rest := []) ⟨hx, hb, hml, hown, hts⟩ (met_X5_wornShare l E o g (cp_wornShare x).2.2 y hMI) (cwV 0 hts gL_law_X5_wornShare rfl rfl rfl (by decide +kernel) ⟨Nat.le_of_ble_eq_true rfl, Nat.le_of_ble_eq_true rfl⟩) ⟨fun a U f mk q => ⟨q.1, wPre.calling q.2 a f mk⟩, (va_recv hK (wH_one hH (lv_md (by decide) (by decide)) (cel_md (by decide) (by decide))) (ci := 7) (q0 := 0) rfl rfl), fun U hU hW => ⟨rfl, wPre_at hz hS hH hK U hU hW⟩⟩ rfl rfl hl.1 rfl (lv_room (Nat.le_of_ble_eq_true rfl)) dL_law_2113 ⟨by show _ ≤ 603072; omega, by show _ ≤ 7219306; omega⟩) hS (fun q _ h => h) (fun q h => h) (fun r8 u t H locs ht hvm hw8 hB hz1 hk1 hS => ?_)
  have hH : wHS E o g (cp_wornShare x).2.2 (mp_wornShare y).2 H := wHS_h ht hB
  obtain rfl := hw8
  refine lv_fstore (lv' := [(7, .float ((mp_wornShare y).1)), (6, .int r9), (5, .int (nI (4 * i))), (0, .ref b), (1, .ref (g 0)), (2, .ref (g 10)), (3, .ref (g 40)), (4, .ref (g 41))]) hx hb dL_law_2116 hl (by decide) rfl (fun ls hl => ?_)
  refine lv_aload_n hx hb dL_law_2118 rfl (lv_at hl 5 rfl) ?_
  refine va_calli (va_runV (As := []) (rest := []) ⟨hx, hb, hml, hown, hts⟩ (met_X5_thrown l E o g (cp_wornShare x).2.2 (mp_wornShare y).2 hR2.2.2.2.2.2.2.1) (cwV 0 hts gL_law_X5_thrown rfl rfl rfl (by decide +kernel) ⟨Nat.le_of_ble_eq_true rfl, Nat.le_of_ble_eq_true rfl⟩) ⟨fun a U f mk q => ⟨q.1, wPre.calling q.2 a f mk⟩, (va_recv hK (wH_one hH (lv_md (by decide) (by decide)) (cel_md (by decide) (by decide))) (ci := 7) (q0 := 0) rfl rfl), fun U hU hW => ⟨rfl, wPre_at hz hS hH hK U hU hW⟩⟩ rfl rfl hl.1 rfl (lv_room (Nat.le_of_ble_eq_true rfl)) dL_law_2119 ⟨by show _ ≤ 603072; omega, by show _ ≤ 7219306; omega⟩) hS (fun q _ h => h) (fun q h => h) (fun r8 u t H locs ht hvm hw8 hB hz1 hk1 hS => ?_)
  have hH : wHS E o g (cp_wornShare x).2.2 (mp_wornShare y).2 H := wHS_h ht hB
  have hw8 : r8 = (mp_wornShare y).2.2 28 0 := hw8
  obtain rfl := hw8
  refine lv_iload hx hb dL_law_2122 (lv_at hl 1 rfl) ?_
  refine lv_icmp_eq (tgt := 2129) hx hb dL_law_2124 (by decide) (fun _ => ?_) (fun hq => absurd hkr hq)
  refine lv_iload hx hb dL_law_2129 (lv_at hl 1 rfl) ?_
  refine lv_if_ne (tgt := 2167) hx hb dL_law_2131 (by decide) (fun h9 => ?_) (fun h9 => ?_)
  · skip
    refine lv_goto (tgt := 2262) hx hb dL_law_2167 (by decide) ?_
    exact kont _ _ _ _ _ _ _ _ _ (by omega) (by omega) hR2 (lv_sub hl [2, 3, 4, 5, 6, 7] rfl) hH hS
  · obtain ⟨hnn, hval⟩ := sim_n (by decide) hw.1 hw.2 h9
    have hres := hsim.2.2.1 hnn
    have hnanb : vf_n64 (FP.f2d ((mp_wornShare y).1)) := by rw [← hres]; exact nan_ws hR hnn
    have hself : Op.cmpValue (FP.dcmp (FP.f2d ((mp_wornShare y).1)) (FP.f2d ((mp_wornShare y).1))) .l = 0 := by rw [← hres]; exact eq_ws hR hnn
    rw [hres] at hval
    refine lv_aload hx hb dL_law_2134 (lv_at hl 7 rfl) ?_
    refine lv_iconst (v := 0) hx hb dL_law_2136 (by decide) ?_
    refine wr_dald (t := 41) (v := FP.f2d ((mp_wornShare y).1)) hx hb hK hH lv_o2 rfl 5 rfl (by unfold vp_in; decide) (by rw [show (0 : Int32).toNatClampNeg = 0 from rfl]; exact hval) dL_law_2137 ?_
    refine lv_fload hx hb dL_law_2138 (lv_at hl 0 rfl) ?_
    refine lv_f2d hx hb dL_law_2140 hnanb ?_
    refine lv_dcmp hx hb dL_law_2141 ?_
    refine lv_if_eq (tgt := 2167) hx hb dL_law_2142 (by decide) (fun _ => ?_) (fun hq => absurd hself hq)
    refine lv_goto (tgt := 2262) hx hb dL_law_2167 (by decide) ?_
    exact kont _ _ _ _ _ _ _ _ _ (by omega) (by omega) hR2 (lv_sub hl [2, 3, 4, 5, 6, 7] rfl) hH hS
set_option maxHeartbeats 4000000 in
set_option maxRecDepth 100000 in
theorem lc_meanPull {p : Program} {l : Launch} {e : Env} {s : State} {m : MethodId} {below : List Frame} {meth : Method} {c : Code} {E : wE} {b L : Nat} {xs : Nat → Int32} {Q : State → Prop} (hE : lwE p l s m meth c E b L xs) (i : Nat) (hi : 4 * i + 4 ≤ L) {o : wO} {g : Nat → Nat} {x y : St} (hR : Rel i x y) {H : Heap} {locs : List Loc} {ls : Array Slot} {cells slots : Nat} (hl : lv_has ls 9 (lwL b g i)) (hH : wHS E o g x y H) (hS : va_S (wA E) s.heap H locs) (hroom : cells + 40 ≤ 603072 ∧ slots + 500 ≤ 7219306)
    (kont : ∀ (o : wO) (g : Nat → Nat) (x y : St) (H : Heap) (locs : List Loc) (ls : Array Slot) (cells2 slots2 : Nat), cells2 ≤ cells + 40 → slots2 ≤ slots + 500 → Rel (i + 1) x y → lv_has ls 9 (lwL b g i) → wHS E o g x y H → va_S (wA E) s.heap H locs → W p l e room_1 s m #[Value.ref b] below meth c H locs cells2 slots2 Q (F0 m 2262 ls [])) : W p l e room_1 s m #[Value.ref b] below meth c H locs cells slots Q (F0 m 2170 ls []) := by
  obtain ⟨hx, hb, hml, hown, hts, hr, hlocks, hX, hbl, hbA, hz, hK, hC, hDD, hNc, hlt, hL⟩ := hE
  obtain ⟨hI, hJ, hKK, hQ, hFrD, hFrB, hMI, hBK, hCS, hEQ⟩ := id hR
  have hl : lv_has ls 9 [(5, .int (nI (4 * i))), (0, .ref b), (1, .ref (g 0)), (2, .ref (g 10)), (3, .ref (g 40)), (4, .ref (g 41))] := hl
  refine lv_aload_n hx hb dL_law_2170 rfl (lv_at hl 2 rfl) ?_
  refine lv_aload hx hb dL_law_2171 (lv_at hl 5 rfl) ?_
  have hsim := sim_meanPull hR (by omega)
  refine va_calli (vx_runSW (As := [.ref (g 0), .ref (g 41)]) (rest := []) ⟨hx, hb, hml, hown, hts⟩ (met_L_meanPull l E o g x y hlt hI (hNx hR)) (vx_cwSW 2 hts gL_law_L_meanPull rfl rfl rfl (by decide +kernel) ⟨Nat.le_of_ble_eq_true rfl, Nat.le_of_ble_eq_true rfl⟩) ⟨fun a U f mk q => ⟨q.1, wPreL.calling q.2 a f mk⟩, fun U hU hW => ⟨rfl, wPreL_at hz hS hH hK hC hDD hNc U hU hW⟩⟩ rfl rfl hl.1 rfl (lv_room (Nat.le_of_ble_eq_true rfl)) dL_law_2173 ⟨by show _ ≤ 603072; omega, by show _ ≤ 7219306; omega⟩) hS (fun q _ h => h) (fun q h => h) (fun r9 u t H locs ht hvm hw hB hz1 hk1 hS => ?_)
  obtain ⟨hgE, hB⟩ := hB
  obtain ⟨o, g⟩ := u
  have hH : wHS E o g (cp_meanPull x).2.2 y H := wHS_h ht hB
  rw [← hgE 0 (by decide) (by decide) (by decide), ← hgE 10 (by decide) (by decide) (by decide), ← hgE 40 (by decide) (by decide) (by decide), ← hgE 41 (by decide) (by decide) (by decide)] at hl
  have hl : lv_has ls 9 [(5, .int (nI (4 * i))), (0, .ref b), (1, .ref (g 0)), (2, .ref (g 10)), (3, .ref (g 40)), (4, .ref (g 41))] := hl
  have hkr := sim_r hsim hw.1 hw.2
  have hR2 := hsim.2.2.2
  refine lv_istore (lv' := [(6, .int r9), (5, .int (nI (4 * i))), (0, .ref b), (1, .ref (g 0)), (2, .ref (g 10)), (3, .ref (g 40)), (4, .ref (g 41))]) hx hb dL_law_2176 hl (by decide) rfl (fun ls hl => ?_)
  refine lv_aload_n hx hb dL_law_2178 rfl (lv_at hl 4 rfl) ?_
  refine va_calld (va_runV (As := []) (rest := []) ⟨hx, hb, hml, hown, hts⟩ (met_X5_meanPull l E o g (cp_meanPull x).2.2 y hMI (hNy hR)) (cwV 0 hts gL_law_X5_meanPull rfl rfl rfl (by decide +kernel) ⟨Nat.le_of_ble_eq_true rfl, Nat.le_of_ble_eq_true rfl⟩) ⟨fun a U f mk q => ⟨q.1, wPre.calling q.2 a f mk⟩, (va_recv hK (wH_one hH (lv_md (by decide) (by decide)) (cel_md (by decide) (by decide))) (ci := 7) (q0 := 0) rfl rfl), fun U hU hW => ⟨rfl, wPre_at hz hS hH hK U hU hW⟩⟩ rfl rfl hl.1 rfl (lv_room (Nat.le_of_ble_eq_true rfl)) dL_law_2179 ⟨by show _ ≤ 603072; omega, by show _ ≤ 7219306; omega⟩) hS (fun q _ h => h) (fun q h => h) (fun r8 u t H locs ht hvm hw8 hB hz1 hk1 hS => ?_)
  have hH : wHS E o g (cp_meanPull x).2.2 (mp_meanPull y).2 H := wHS_h ht hB
  obtain rfl := hw8
  refine lv_dstore (lv' := [(7, .double ((mp_meanPull y).1)), (6, .int r9), (5, .int (nI (4 * i))), (0, .ref b), (1, .ref (g 0)), (2, .ref (g 10)), (3, .ref (g 40)), (4, .ref (g 41))]) hx hb dL_law_2182 hl (by decide) rfl (fun ls hl => ?_)
  refine lv_aload_n hx hb dL_law_2184 rfl (lv_at hl 5 rfl) ?_
  refine va_calli (va_runV (As := []) (rest := []) ⟨hx, hb, hml, hown, hts⟩ (met_X5_thrown l E o g (cp_meanPull x).2.2 (mp_meanPull y).2 hR2.2.2.2.2.2.2.1) (cwV 0 hts gL_law_X5_thrown rfl rfl rfl (by decide +kernel) ⟨Nat.le_of_ble_eq_true rfl, Nat.le_of_ble_eq_true rfl⟩) ⟨fun a U f mk q => ⟨q.1, wPre.calling q.2 a f mk⟩, (va_recv hK (wH_one hH (lv_md (by decide) (by decide)) (cel_md (by decide) (by decide))) (ci := 7) (q0 := 0) rfl rfl), fun U hU hW => ⟨rfl, wPre_at hz hS hH hK U hU hW⟩⟩ rfl rfl hl.1 rfl (lv_room (Nat.le_of_ble_eq_true rfl)) dL_law_2185 ⟨by show _ ≤ 603072; omega, by show _ ≤ 7219306; omega⟩) hS (fun q _ h => h) (fun q h => h) (fun r8 u t H locs ht hvm hw8 hB hz1 hk1 hS => ?_)
  have hH : wHS E o g (cp_meanPull x).2.2 (mp_meanPull y).2 H := wHS_h ht hB
  have hw8 : r8 = (mp_meanPull y).2.2 28 0 := hw8
  obtain rfl := hw8
  refine lv_iload hx hb dL_law_2188 (lv_at hl 1 rfl) ?_
  refine lv_icmp_eq (tgt := 2195) hx hb dL_law_2190 (by decide) (fun _ => ?_) (fun hq => absurd hkr hq)
  refine lv_iload hx hb dL_law_2195 (lv_at hl 1 rfl) ?_
  refine lv_if_ne (tgt := 2232) hx hb dL_law_2197 (by decide) (fun h9 => ?_) (fun h9 => ?_)
  · skip
    refine lv_goto (tgt := 2262) hx hb dL_law_2232 (by decide) ?_
    exact kont _ _ _ _ _ _ _ _ _ (by omega) (by omega) hR2 (lv_sub hl [2, 3, 4, 5, 6, 7] rfl) hH hS
  · obtain ⟨hnn, hval⟩ := sim_n (by decide) hw.1 hw.2 h9
    have hres := hsim.2.2.1 hnn
    rw [hres] at hval
    refine lv_aload hx hb dL_law_2200 (lv_at hl 7 rfl) ?_
    refine lv_iconst (v := 0) hx hb dL_law_2202 (by decide) ?_
    refine wr_dald (t := 41) (v := (mp_meanPull y).1) hx hb hK hH lv_o2 rfl 5 rfl (by unfold vp_in; decide) (by rw [show (0 : Int32).toNatClampNeg = 0 from rfl]; exact hval) dL_law_2203 ?_
    refine lv_dload hx hb dL_law_2204 (lv_at hl 0 rfl) ?_
    refine lv_dcmp hx hb dL_law_2206 ?_
    refine lv_if_eq (tgt := 2232) hx hb dL_law_2207 (by decide) (fun c1 => ?_) (fun c1 => ?_)
    · skip
      refine lv_goto (tgt := 2262) hx hb dL_law_2232 (by decide) ?_
      exact kont _ _ _ _ _ _ _ _ _ (by omega) (by omega) hR2 (lv_sub hl [2, 3, 4, 5, 6, 7] rfl) hH hS
    · skip
      refine lv_aload hx hb dL_law_2210 (lv_at hl 7 rfl) ?_
      refine lv_iconst (v := 0) hx hb dL_law_2212 (by decide) ?_
      refine wr_dald (t := 41) (v := (mp_meanPull y).1) hx hb hK hH lv_o2 rfl 5 rfl (by unfold vp_in; decide) (by rw [show (0 : Int32).toNatClampNeg = 0 from rfl]; exact hval) dL_law_2213 ?_
      refine lv_aload hx hb dL_law_2214 (lv_at hl 7 rfl) ?_
      refine lv_iconst (v := 0) hx hb dL_law_2216 (by decide) ?_
      refine wr_dald (t := 41) (v := (mp_meanPull y).1) hx hb hK hH lv_o2 rfl 5 rfl (by unfold vp_in; decide) (by rw [show (0 : Int32).toNatClampNeg = 0 from rfl]; exact hval) dL_law_2217 ?_
      refine lv_dcmp hx hb dL_law_2218 ?_
      refine lv_if_eq (tgt := 2230) hx hb dL_law_2219 (by decide) (fun hq => absurd hq c1) (fun _ => ?_)
      refine lv_dload hx hb dL_law_2222 (lv_at hl 0 rfl) ?_
      refine lv_dload hx hb dL_law_2224 (lv_at hl 0 rfl) ?_
      refine lv_dcmp hx hb dL_law_2226 ?_
      refine lv_if_ne (tgt := 2232) hx hb dL_law_2227 (by decide) (fun _ => ?_) (fun hq => absurd hq c1)
      refine lv_goto (tgt := 2262) hx hb dL_law_2232 (by decide) ?_
      exact kont _ _ _ _ _ _ _ _ _ (by omega) (by omega) hR2 (lv_sub hl [2, 3, 4, 5, 6, 7] rfl) hH hS
set_option maxHeartbeats 4000000 in
set_option maxRecDepth 100000 in
theorem lc_checksum {p : Program} {l : Launch} {e : Env} {s : State} {m : MethodId} {below : List Frame} {meth : Method} {c : Code} {E : wE} {b L : Nat} {xs : Nat → Int32} {Q : State → Prop} (hE : lwE p l s m meth c E b L xs) (i : Nat) (hi : 4 * i + 4 ≤ L) {o : wO} {g : Nat → Nat} {x y : St} (hR : Rel i x y) {H : Heap} {locs : List Loc} {ls : Array Slot} {cells slots : Nat} (hl : lv_has ls 9 (lwL b g i)) (hH : wHS E o g x y H) (hS : va_S (wA E) s.heap H locs) (hroom : cells + 40 ≤ 603072 ∧ slots + 500 ≤ 7219306)
    (kont : ∀ (o : wO) (g : Nat → Nat) (x y : St) (H : Heap) (locs : List Loc) (ls : Array Slot) (cells2 slots2 : Nat), cells2 ≤ cells + 40 → slots2 ≤ slots + 500 → Rel (i + 1) x y → lv_has ls 9 (lwL b g i) → wHS E o g x y H → va_S (wA E) s.heap H locs → W p l e room_1 s m #[Value.ref b] below meth c H locs cells2 slots2 Q (F0 m 2262 ls [])) : W p l e room_1 s m #[Value.ref b] below meth c H locs cells slots Q (F0 m 2235 ls []) := by
  obtain ⟨hx, hb, hml, hown, hts, hr, hlocks, hX, hbl, hbA, hz, hK, hC, hDD, hNc, hlt, hL⟩ := hE
  obtain ⟨hI, hJ, hKK, hQ, hFrD, hFrB, hMI, hBK, hCS, hEQ⟩ := id hR
  have hl : lv_has ls 9 [(5, .int (nI (4 * i))), (0, .ref b), (1, .ref (g 0)), (2, .ref (g 10)), (3, .ref (g 40)), (4, .ref (g 41))] := hl
  refine lv_aload_n hx hb dL_law_2235 rfl (lv_at hl 2 rfl) ?_
  have hsim := sim_checksum hR (by omega)
  refine vx_calll (vx_runV (As := []) (rest := []) ⟨hx, hb, hml, hown, hts⟩ (met_X4_checksum l E o g x y hlt hI) (cwV 0 hts gL_law_X4_checksum rfl rfl rfl (by decide +kernel) ⟨Nat.le_of_ble_eq_true rfl, Nat.le_of_ble_eq_true rfl⟩) ⟨fun a U f mk q => ⟨q.1, wPreX.calling q.2 a f mk⟩, (va_recv hK (wH_one hH lv_r0 (cel_rt (by omega))) (ci := 6) (q0 := 0) rfl rfl), fun U hU hW => ⟨rfl, wPreX_at hz hS hH hK hC U hU hW⟩⟩ rfl rfl hl.1 rfl (lv_room (Nat.le_of_ble_eq_true rfl)) dL_law_2236 ⟨by show _ ≤ 603072; omega, by show _ ≤ 7219306; omega⟩) hS (fun q _ h => h) (fun q h => h) (fun q _ h => h) (fun E9 ce q9 u t H locs ht hvm hw hB hz1 hk1 hS hce hcv hcl => ?_) (fun r9 u t H locs ht hvm hw hB hz1 hk1 hS => ?_)
  · exact absurd (hB.1.symm.trans hsim.1) (by simp)
  obtain ⟨-, rfl⟩ := hw
  have hH : wHS E o g (cp_checksum x).2.2 y H := wHS_h ht hB
  refine lv_aload_n hx hb dL_law_2239 rfl (lv_at hl 3 rfl) ?_
  refine va_calll (va_runV (As := []) (rest := [.long ((cp_checksum x).2.1)]) ⟨hx, hb, hml, hown, hts⟩ (met_X5_checksum l E o g (cp_checksum x).2.2 y hMI) (cwV 0 hts gL_law_X5_checksum rfl rfl rfl (by decide +kernel) ⟨Nat.le_of_ble_eq_true rfl, Nat.le_of_ble_eq_true rfl⟩) ⟨fun a U f mk q => ⟨q.1, wPre.calling q.2 a f mk⟩, (va_recv hK (wH_one hH (lv_md (by decide) (by decide)) (cel_md (by decide) (by decide))) (ci := 7) (q0 := 0) rfl rfl), fun U hU hW => ⟨rfl, wPre_at hz hS hH hK U hU hW⟩⟩ rfl rfl hl.1 rfl (lv_room (Nat.le_of_ble_eq_true rfl)) dL_law_2240 ⟨by show _ ≤ 603072; omega, by show _ ≤ 7219306; omega⟩) hS (fun q _ h => h) (fun q h => h) (fun r8 u t H locs ht hvm hw8 hB hz1 hk1 hS => ?_)
  have hH : wHS E o g (cp_checksum x).2.2 (mp_checksum y).2 H := wHS_h ht hB
  obtain rfl := hw8
  refine W.eq (g2 := F0 m 2243 ls [.long ((mp_checksum y).1), .long ((mp_checksum y).1)]) (by rw [hsim.2.1]) ?_
  refine W.lcmp hx hb dL_law_2243 ?_
  refine lv_tope (lgc_self _) ?_
  refine lv_if_eq (tgt := 2262) hx hb dL_law_2244 (by decide) (fun _ => ?_) (fun hq => absurd (show (0 : Int32) = 0 by decide) hq)
  exact kont _ _ _ _ _ _ _ _ _ (by omega) (by omega) hsim.2.2 (lv_sub hl [0, 1, 2, 3, 4, 5] rfl) hH hS
set_option maxHeartbeats 4000000 in
set_option maxRecDepth 100000 in
theorem lc_isSound {p : Program} {l : Launch} {e : Env} {s : State} {m : MethodId} {below : List Frame} {meth : Method} {c : Code} {E : wE} {b L : Nat} {xs : Nat → Int32} {Q : State → Prop} (hE : lwE p l s m meth c E b L xs) (i : Nat) (hi : 4 * i + 4 ≤ L) {o : wO} {g : Nat → Nat} {x y : St} (hR : Rel i x y) {H : Heap} {locs : List Loc} {ls : Array Slot} {cells slots : Nat} (hl : lv_has ls 9 (lwL b g i)) (hH : wHS E o g x y H) (hS : va_S (wA E) s.heap H locs) (hroom : cells + 40 ≤ 603072 ∧ slots + 500 ≤ 7219306)
    (kont : ∀ (o : wO) (g : Nat → Nat) (x y : St) (H : Heap) (locs : List Loc) (ls : Array Slot) (cells2 slots2 : Nat), cells2 ≤ cells + 40 → slots2 ≤ slots + 500 → Rel (i + 1) x y → lv_has ls 9 (lwL b g i) → wHS E o g x y H → va_S (wA E) s.heap H locs → W p l e room_1 s m #[Value.ref b] below meth c H locs cells2 slots2 Q (F0 m 2262 ls [])) : W p l e room_1 s m #[Value.ref b] below meth c H locs cells slots Q (F0 m 2249 ls []) := by
  obtain ⟨hx, hb, hml, hown, hts, hr, hlocks, hX, hbl, hbA, hz, hK, hC, hDD, hNc, hlt, hL⟩ := hE
  obtain ⟨hI, hJ, hKK, hQ, hFrD, hFrB, hMI, hBK, hCS, hEQ⟩ := id hR
  have hl : lv_has ls 9 [(5, .int (nI (4 * i))), (0, .ref b), (1, .ref (g 0)), (2, .ref (g 10)), (3, .ref (g 40)), (4, .ref (g 41))] := hl
  refine lv_aload_n hx hb dL_law_2249 rfl (lv_at hl 2 rfl) ?_
  have hsim := sim_isSound hR (by omega)
  refine va_calli (va_runV (As := []) (rest := []) ⟨hx, hb, hml, hown, hts⟩ (met_X4_isSound l E o g x y hI hJ hCS (best_all hR)) (cwV 0 hts gL_law_X4_isSound rfl rfl rfl (by decide +kernel) ⟨Nat.le_of_ble_eq_true rfl, Nat.le_of_ble_eq_true rfl⟩) ⟨fun a U f mk q => ⟨q.1, wPre.calling q.2 a f mk⟩, (va_recv hK (wH_one hH lv_r0 (cel_rt (by omega))) (ci := 6) (q0 := 0) rfl rfl), fun U hU hW => ⟨rfl, wPre_at hz hS hH hK U hU hW⟩⟩ rfl rfl hl.1 rfl (lv_room (Nat.le_of_ble_eq_true rfl)) dL_law_2250 ⟨by show _ ≤ 603072; omega, by show _ ≤ 7219306; omega⟩) hS (fun q _ h => h) (fun q h => h) (fun r9 u t H locs ht hvm hw hB hz1 hk1 hS => ?_)
  obtain rfl := hw
  have hH : wHS E o g (cp_isSound x).2.2 y H := wHS_h ht hB
  refine W.eq (g2 := F0 m 2253 ls [.int (cp_isSound x).2.1]) rfl ?_
  refine lv_aload_n hx hb dL_law_2253 rfl (lv_at hl 3 rfl) ?_
  refine va_calli (va_runV (As := []) (rest := [.int ((cp_isSound x).2.1)]) ⟨hx, hb, hml, hown, hts⟩ (met_X5_isSound l E o g (cp_isSound x).2.2 y hMI) (cwV 0 hts gL_law_X5_isSound rfl rfl rfl (by decide +kernel) ⟨Nat.le_of_ble_eq_true rfl, Nat.le_of_ble_eq_true rfl⟩) ⟨fun a U f mk q => ⟨q.1, wPre.calling q.2 a f mk⟩, (va_recv hK (wH_one hH (lv_md (by decide) (by decide)) (cel_md (by decide) (by decide))) (ci := 7) (q0 := 0) rfl rfl), fun U hU hW => ⟨rfl, wPre_at hz hS hH hK U hU hW⟩⟩ rfl rfl hl.1 rfl (lv_room (Nat.le_of_ble_eq_true rfl)) dL_law_2254 ⟨by show _ ≤ 603072; omega, by show _ ≤ 7219306; omega⟩) hS (fun q _ h => h) (fun q h => h) (fun r8 u t H locs ht hvm hw8 hB hz1 hk1 hS => ?_)
  have hH : wHS E o g (cp_isSound x).2.2 (mp_isSound y).2 H := wHS_h ht hB
  obtain rfl := hw8
  refine W.eq (g2 := F0 m 2257 ls [.int ((mp_isSound y).1), .int ((mp_isSound y).1)]) (by rw [hsim.2.1]) ?_
  refine lv_icmp_eq (tgt := 2262) hx hb dL_law_2257 (by decide) (fun _ => ?_) (fun hq => absurd (rfl : ((mp_isSound y).1) = ((mp_isSound y).1)) hq)
  exact kont _ _ _ _ _ _ _ _ _ (by omega) (by omega) hsim.2.2 (lv_sub hl [0, 1, 2, 3, 4, 5] rfl) hH hS
