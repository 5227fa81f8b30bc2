set_option maxHeartbeats 4000000 in
set_option maxRecDepth 100000 in
theorem lc_pull {p : Program} {l : Launch} {e : Env} {s : State} {m : MethodId} {below : List Frame} {meth : Method} {c : Code} {E : wE} {b L : Nat} {xs : Nat → Int32} {Q : State → Prop} (hE : lwE p l s m meth c E b L xs) (i : Nat) (hi : 4 * i + 4 ≤ L) {o : wO} {g : Nat → Nat} {x y : St} (hR : Rel i x y) {H : Heap} {locs : List Loc} {ls : Array Slot} {cells slots : Nat} (hl : lv_has ls 9 (lwL b g i)) (hH : wHS E o g x y H) (hS : va_S (wA E) s.heap H locs) (hroom : cells + 40 ≤ 603072 ∧ slots + 500 ≤ 7219306)
    (kont : ∀ (o : wO) (g : Nat → Nat) (x y : St) (H : Heap) (locs : List Loc) (ls : Array Slot) (cells2 slots2 : Nat), cells2 ≤ cells + 40 → slots2 ≤ slots + 500 → Rel (i + 1) x y → lv_has ls 9 (lwL b g i) → wHS E o g x y H → va_S (wA E) s.heap H locs → W p l e room_1 s m #[Value.ref b] below meth c H locs cells2 slots2 Q (F0 m 2262 ls [])) : W p l e room_1 s m #[Value.ref b] below meth c H locs cells slots Q (F0 m 1209 ls []) := by
  obtain ⟨hx, hb, hml, hown, hts, hr, hlocks, hX, hbl, hbA, hz, hK, hC, hDD, hNc, hlt, hL⟩ := hE
  obtain ⟨hI, hJ, hKK, hQ, hFrD, hFrB, hMI, hBK, hCS, hEQ⟩ := id hR
  have hl : lv_has ls 9 [(5, .int (nI (4 * i))), (0, .ref b), (1, .ref (g 0)), (2, .ref (g 10)), (3, .ref (g 40)), (4, .ref (g 41))] := hl
  refine lv_aload_n hx hb dL_law_1209 rfl (lv_at hl 2 rfl) ?_
  refine lv_aload_n hx hb dL_law_1210 rfl (lv_at hl 1 rfl) ?_
  refine lv_iload hx hb dL_law_1211 (lv_at hl 0 rfl) ?_
  refine lv_iconst (v := 1) hx hb dL_law_1213 (by decide) ?_
  refine lv_iadd hx hb dL_law_1214 ?_
  refine lv_tope (nI_add (4 * i) 1) ?_
  refine va_sld hx hb hX hbl hbA hS (vp_in_nI (n := ((4 * i) + 1)) (N := L) (by omega) (by omega)) dL_law_1215 ?_
  refine lv_aload_n hx hb dL_law_1216 rfl (lv_at hl 4 rfl) ?_
  have hsim := sim_pull hR (by omega) (xs (nI ((4 * i) + 1)).toNatClampNeg)
  refine va_calli (vx_runSW (As := [.ref (g 0), .int (xs (nI ((4 * i) + 1)).toNatClampNeg), .ref (g 40)]) (rest := []) ⟨hx, hb, hml, hown, hts⟩ (met_L_pull l E o g x y (xs (nI ((4 * i) + 1)).toNatClampNeg) hlt hI) (vx_cwSW 3 hts gL_law_L_pull rfl rfl rfl (by decide +kernel) ⟨Nat.le_of_ble_eq_true rfl, Nat.le_of_ble_eq_true rfl⟩) ⟨fun a U f mk q => ⟨q.1, wPreL.calling q.2 a f mk⟩, fun U hU hW => ⟨rfl, wPreL_at hz hS hH hK hC hDD hNc U hU hW⟩⟩ rfl rfl hl.1 rfl (lv_room (Nat.le_of_ble_eq_true rfl)) dL_law_1217 ⟨by show _ ≤ 603072; omega, by show _ ≤ 7219306; omega⟩) hS (fun q _ h => h) (fun q h => h) (fun r9 u t H locs ht hvm hw hB hz1 hk1 hS => ?_)
  obtain ⟨hgE, hB⟩ := hB
  obtain ⟨o, g⟩ := u
  have hH : wHS E o g (cp_pull x (xs (nI ((4 * i) + 1)).toNatClampNeg)).2.2 y H := wHS_h ht hB
  rw [← hgE 0 (by decide) (by decide) (by decide), ← hgE 10 (by decide) (by decide) (by decide), ← hgE 40 (by decide) (by decide) (by decide), ← hgE 41 (by decide) (by decide) (by decide)] at hl
  have hl : lv_has ls 9 [(5, .int (nI (4 * i))), (0, .ref b), (1, .ref (g 0)), (2, .ref (g 10)), (3, .ref (g 40)), (4, .ref (g 41))] := hl
  have hkr := sim_r hsim hw.1 hw.2
  have hR2 := hsim.2.2.2
  refine lv_istore (lv' := [(6, .int r9), (5, .int (nI (4 * i))), (0, .ref b), (1, .ref (g 0)), (2, .ref (g 10)), (3, .ref (g 40)), (4, .ref (g 41))]) hx hb dL_law_1220 hl (by decide) rfl (fun ls hl => ?_)
  refine lv_aload_n hx hb dL_law_1222 rfl (lv_at hl 4 rfl) ?_
  refine lv_aload_n hx hb dL_law_1223 rfl (lv_at hl 2 rfl) ?_
  refine lv_iload hx hb dL_law_1224 (lv_at hl 1 rfl) ?_
  refine lv_iconst (v := 1) hx hb dL_law_1226 (by decide) ?_
  refine lv_iadd hx hb dL_law_1227 ?_
  refine lv_tope (nI_add (4 * i) 1) ?_
  refine va_sld hx hb hX hbl hbA hS (vp_in_nI (n := ((4 * i) + 1)) (N := L) (by omega) (by omega)) dL_law_1228 ?_
  refine va_calli (va_runV (As := [.int (xs (nI ((4 * i) + 1)).toNatClampNeg)]) (rest := []) ⟨hx, hb, hml, hown, hts⟩ (met_X5_pull l E o g (cp_pull x (xs (nI ((4 * i) + 1)).toNatClampNeg)).2.2 y (xs (nI ((4 * i) + 1)).toNatClampNeg) hMI) (cwV 1 hts gL_law_X5_pull rfl rfl rfl (by decide +kernel) ⟨Nat.le_of_ble_eq_true rfl, Nat.le_of_ble_eq_true rfl⟩) ⟨fun a U f mk q => ⟨q.1, wPre.calling q.2 a f mk⟩, (va_recv hK (wH_one hH (lv_md (by decide) (by decide)) (cel_md (by decide) (by decide))) (ci := 7) (q0 := 0) rfl rfl), fun U hU hW => ⟨rfl, wPre_at hz hS hH hK U hU hW⟩⟩ rfl rfl hl.1 rfl (lv_room (Nat.le_of_ble_eq_true rfl)) dL_law_1229 ⟨by show _ ≤ 603072; omega, by show _ ≤ 7219306; omega⟩) hS (fun q _ h => h) (fun q h => h) (fun r8 u t H locs ht hvm hw8 hB hz1 hk1 hS => ?_)
  have hH : wHS E o g (cp_pull x (xs (nI ((4 * i) + 1)).toNatClampNeg)).2.2 (mp_pull y (xs (nI ((4 * i) + 1)).toNatClampNeg)).2 H := wHS_h ht hB
  obtain rfl := hw8
  refine lv_istore (lv' := [(7, .int ((mp_pull y (xs (nI ((4 * i) + 1)).toNatClampNeg)).1)), (6, .int r9), (5, .int (nI (4 * i))), (0, .ref b), (1, .ref (g 0)), (2, .ref (g 10)), (3, .ref (g 40)), (4, .ref (g 41))]) hx hb dL_law_1232 hl (by decide) rfl (fun ls hl => ?_)
  refine lv_aload_n hx hb dL_law_1234 rfl (lv_at hl 5 rfl) ?_
  refine va_calli (va_runV (As := []) (rest := []) ⟨hx, hb, hml, hown, hts⟩ (met_X5_thrown l E o g (cp_pull x (xs (nI ((4 * i) + 1)).toNatClampNeg)).2.2 (mp_pull y (xs (nI ((4 * i) + 1)).toNatClampNeg)).2 hR2.2.2.2.2.2.2.1) (cwV 0 hts gL_law_X5_thrown rfl rfl rfl (by decide +kernel) ⟨Nat.le_of_ble_eq_true rfl, Nat.le_of_ble_eq_true rfl⟩) ⟨fun a U f mk q => ⟨q.1, wPre.calling q.2 a f mk⟩, (va_recv hK (wH_one hH (lv_md (by decide) (by decide)) (cel_md (by decide) (by decide))) (ci := 7) (q0 := 0) rfl rfl), fun U hU hW => ⟨rfl, wPre_at hz hS hH hK U hU hW⟩⟩ rfl rfl hl.1 rfl (lv_room (Nat.le_of_ble_eq_true rfl)) dL_law_1235 ⟨by show _ ≤ 603072; omega, by show _ ≤ 7219306; omega⟩) hS (fun q _ h => h) (fun q h => h) (fun r8 u t H locs ht hvm hw8 hB hz1 hk1 hS => ?_)
  have hH : wHS E o g (cp_pull x (xs (nI ((4 * i) + 1)).toNatClampNeg)).2.2 (mp_pull y (xs (nI ((4 * i) + 1)).toNatClampNeg)).2 H := wHS_h ht hB
  have hw8 : r8 = (mp_pull y (xs (nI ((4 * i) + 1)).toNatClampNeg)).2.2 28 0 := hw8
  obtain rfl := hw8
  refine lv_iload hx hb dL_law_1238 (lv_at hl 1 rfl) ?_
  refine lv_icmp_eq (tgt := 1245) hx hb dL_law_1240 (by decide) (fun _ => ?_) (fun hq => absurd hkr hq)
  refine lv_iload hx hb dL_law_1245 (lv_at hl 1 rfl) ?_
  refine lv_if_ne (tgt := 1262) hx hb dL_law_1247 (by decide) (fun h9 => ?_) (fun h9 => ?_)
  · skip
    refine lv_goto (tgt := 2262) hx hb dL_law_1262 (by decide) ?_
    exact kont _ _ _ _ _ _ _ _ _ (by omega) (by omega) hR2 (lv_sub hl [2, 3, 4, 5, 6, 7] rfl) hH hS
  · obtain ⟨hnn, hval⟩ := sim_n (by decide) hw.1 hw.2 h9
    have hres := hsim.2.2.1 hnn
    rw [hres] at hval
    refine lv_aload_n hx hb dL_law_1250 rfl (lv_at hl 6 rfl) ?_
    refine lv_iconst (v := 0) hx hb dL_law_1251 (by decide) ?_
    refine wr_lald (t := 40) (v := ((mp_pull y (xs (nI ((4 * i) + 1)).toNatClampNeg)).1).toInt64) hx hb hK hH lv_o1 rfl 4 rfl (by unfold vp_in; decide) (by rw [show (0 : Int32).toNatClampNeg = 0 from rfl]; exact hval) dL_law_1252 ?_
    refine lv_iload hx hb dL_law_1253 (lv_at hl 0 rfl) ?_
    refine lv_i2l hx hb dL_law_1255 rfl ?_
    refine W.lcmp hx hb dL_law_1256 ?_
    refine lv_tope (lgc_self _) ?_
    refine lv_if_eq (tgt := 1262) hx hb dL_law_1257 (by decide) (fun _ => ?_) (fun hq => absurd (show (0 : Int32) = 0 by decide) hq)
    refine lv_goto (tgt := 2262) hx hb dL_law_1262 (by decide) ?_
    exact kont _ _ _ _ _ _ _ _ _ (by omega) (by omega) hR2 (lv_sub hl [2, 3, 4, 5, 6, 7] rfl) hH hS
set_option maxHeartbeats 4000000 in
set_option maxRecDepth 100000 in
theorem lc_pullIn {p : Program} {l : Launch} {e : Env} {s : State} {m : MethodId} {below : List Frame} {meth : Method} {c : Code} {E : wE} {b L : Nat} {xs : Nat → Int32} {Q : State → Prop} (hE : lwE p l s m meth c E b L xs) (i : Nat) (hi : 4 * i + 4 ≤ L) {o : wO} {g : Nat → Nat} {x y : St} (hR : Rel i x y) {H : Heap} {locs : List Loc} {ls : Array Slot} {cells slots : Nat} (hl : lv_has ls 9 (lwL b g i)) (hH : wHS E o g x y H) (hS : va_S (wA E) s.heap H locs) (hroom : cells + 40 ≤ 603072 ∧ slots + 500 ≤ 7219306)
    (kont : ∀ (o : wO) (g : Nat → Nat) (x y : St) (H : Heap) (locs : List Loc) (ls : Array Slot) (cells2 slots2 : Nat), cells2 ≤ cells + 40 → slots2 ≤ slots + 500 → Rel (i + 1) x y → lv_has ls 9 (lwL b g i) → wHS E o g x y H → va_S (wA E) s.heap H locs → W p l e room_1 s m #[Value.ref b] below meth c H locs cells2 slots2 Q (F0 m 2262 ls [])) : W p l e room_1 s m #[Value.ref b] below meth c H locs cells slots Q (F0 m 1265 ls []) := by
  obtain ⟨hx, hb, hml, hown, hts, hr, hlocks, hX, hbl, hbA, hz, hK, hC, hDD, hNc, hlt, hL⟩ := hE
  obtain ⟨hI, hJ, hKK, hQ, hFrD, hFrB, hMI, hBK, hCS, hEQ⟩ := id hR
  have hl : lv_has ls 9 [(5, .int (nI (4 * i))), (0, .ref b), (1, .ref (g 0)), (2, .ref (g 10)), (3, .ref (g 40)), (4, .ref (g 41))] := hl
  refine lv_aload_n hx hb dL_law_1265 rfl (lv_at hl 2 rfl) ?_
  refine lv_aload_n hx hb dL_law_1266 rfl (lv_at hl 1 rfl) ?_
  refine lv_iload hx hb dL_law_1267 (lv_at hl 0 rfl) ?_
  refine lv_iconst (v := 1) hx hb dL_law_1269 (by decide) ?_
  refine lv_iadd hx hb dL_law_1270 ?_
  refine lv_tope (nI_add (4 * i) 1) ?_
  refine va_sld hx hb hX hbl hbA hS (vp_in_nI (n := ((4 * i) + 1)) (N := L) (by omega) (by omega)) dL_law_1271 ?_
  refine lv_aload_n hx hb dL_law_1272 rfl (lv_at hl 1 rfl) ?_
  refine lv_iload hx hb dL_law_1273 (lv_at hl 0 rfl) ?_
  refine lv_iconst (v := 2) hx hb dL_law_1275 (by decide) ?_
  refine lv_iadd hx hb dL_law_1276 ?_
  refine lv_tope (nI_add (4 * i) 2) ?_
  refine va_sld hx hb hX hbl hbA hS (vp_in_nI (n := ((4 * i) + 2)) (N := L) (by omega) (by omega)) dL_law_1277 ?_
  refine lv_aload_n hx hb dL_law_1278 rfl (lv_at hl 4 rfl) ?_
  have hsim := sim_pullIn hR (by omega) (xs (nI ((4 * i) + 1)).toNatClampNeg) (xs (nI ((4 * i) + 2)).toNatClampNeg)
  refine va_calli (vx_runSW (As := [.ref (g 0), .int (xs (nI ((4 * i) + 1)).toNatClampNeg), .int (xs (nI ((4 * i) + 2)).toNatClampNeg), .ref (g 40)]) (rest := []) ⟨hx, hb, hml, hown, hts⟩ (met_L_pullIn l E o g x y (xs (nI ((4 * i) + 1)).toNatClampNeg) (xs (nI ((4 * i) + 2)).toNatClampNeg) hlt hI) (vx_cwSW 4 hts gL_law_L_pullIn rfl rfl rfl (by decide +kernel) ⟨Nat.le_of_ble_eq_true rfl, Nat.le_of_ble_eq_true rfl⟩) ⟨fun a U f mk q => ⟨q.1, wPreL.calling q.2 a f mk⟩, fun U hU hW => ⟨rfl, wPreL_at hz hS hH hK hC hDD hNc U hU hW⟩⟩ rfl rfl hl.1 rfl (lv_room (Nat.le_of_ble_eq_true rfl)) dL_law_1279 ⟨by show _ ≤ 603072; omega, by show _ ≤ 7219306; omega⟩) hS (fun q _ h => h) (fun q h => h) (fun r9 u t H locs ht hvm hw hB hz1 hk1 hS => ?_)
  obtain ⟨hgE, hB⟩ := hB
  obtain ⟨o, g⟩ := u
  have hH : wHS E o g (cp_pullIn x (xs (nI ((4 * i) + 1)).toNatClampNeg) (xs (nI ((4 * i) + 2)).toNatClampNeg)).2.2 y H := wHS_h ht hB
  rw [← hgE 0 (by decide) (by decide) (by decide), ← hgE 10 (by decide) (by decide) (by decide), ← hgE 40 (by decide) (by decide) (by decide), ← hgE 41 (by decide) (by decide) (by decide)] at hl
  have hl : lv_has ls 9 [(5, .int (nI (4 * i))), (0, .ref b), (1, .ref (g 0)), (2, .ref (g 10)), (3, .ref (g 40)), (4, .ref (g 41))] := hl
  have hkr := sim_r hsim hw.1 hw.2
  have hR2 := hsim.2.2.2
  refine lv_istore (lv' := [(6, .int r9), (5, .int (nI (4 * i))), (0, .ref b), (1, .ref (g 0)), (2, .ref (g 10)), (3, .ref (g 40)), (4, .ref (g 41))]) hx hb dL_law_1282 hl (by decide) rfl (fun ls hl => ?_)
  refine lv_aload_n hx hb dL_law_1284 rfl (lv_at hl 4 rfl) ?_
  refine lv_aload_n hx hb dL_law_1285 rfl (lv_at hl 2 rfl) ?_
  refine lv_iload hx hb dL_law_1286 (lv_at hl 1 rfl) ?_
  refine lv_iconst (v := 1) hx hb dL_law_1288 (by decide) ?_
  refine lv_iadd hx hb dL_law_1289 ?_
  refine lv_tope (nI_add (4 * i) 1) ?_
  refine va_sld hx hb hX hbl hbA hS (vp_in_nI (n := ((4 * i) + 1)) (N := L) (by omega) (by omega)) dL_law_1290 ?_
  refine lv_aload_n hx hb dL_law_1291 rfl (lv_at hl 2 rfl) ?_
  refine lv_iload hx hb dL_law_1292 (lv_at hl 1 rfl) ?_
  refine lv_iconst (v := 2) hx hb dL_law_1294 (by decide) ?_
  refine lv_iadd hx hb dL_law_1295 ?_
  refine lv_tope (nI_add (4 * i) 2) ?_
  refine va_sld hx hb hX hbl hbA hS (vp_in_nI (n := ((4 * i) + 2)) (N := L) (by omega) (by omega)) dL_law_1296 ?_
  refine va_calli (va_runV (As := [.int (xs (nI ((4 * i) + 1)).toNatClampNeg), .int (xs (nI ((4 * i) + 2)).toNatClampNeg)]) (rest := []) ⟨hx, hb, hml, hown, hts⟩ (met_X5_pullIn l E o g (cp_pullIn x (xs (nI ((4 * i) + 1)).toNatClampNeg) (xs (nI ((4 * i) + 2)).toNatClampNeg)).2.2 y (xs (nI ((4 * i) + 1)).toNatClampNeg) (xs (nI ((4 * i) + 2)).toNatClampNeg) hMI) (cwV 2 hts gL_law_X5_pullIn rfl rfl rfl (by decide +kernel) ⟨Nat.le_of_ble_eq_true rfl, Nat.le_of_ble_eq_true rfl⟩) ⟨fun a U f mk q => ⟨q.1, wPre.calling q.2 a f mk⟩, (va_recv hK (wH_one hH (lv_md (by decide) (by decide)) (cel_md (by decide) (by decide))) (ci := 7) (q0 := 0) rfl rfl), fun U hU hW => ⟨rfl, wPre_at hz hS hH hK U hU hW⟩⟩ rfl rfl hl.1 rfl (lv_room (Nat.le_of_ble_eq_true rfl)) dL_law_1297 ⟨by show _ ≤ 603072; omega, by show _ ≤ 7219306; omega⟩) hS (fun q _ h => h) (fun q h => h) (fun r8 u t H locs ht hvm hw8 hB hz1 hk1 hS => ?_)
  have hH : wHS E o g (cp_pullIn x (xs (nI ((4 * i) + 1)).toNatClampNeg) (xs (nI ((4 * i) + 2)).toNatClampNeg)).2.2 (mp_pullIn y (xs (nI ((4 * i) + 1)).toNatClampNeg) (xs (nI ((4 * i) + 2)).toNatClampNeg)).2 H := wHS_h ht hB
  obtain rfl := hw8
  refine lv_istore (lv' := [(7, .int ((mp_pullIn y (xs (nI ((4 * i) + 1)).toNatClampNeg) (xs (nI ((4 * i) + 2)).toNatClampNeg)).1)), (6, .int r9), (5, .int (nI (4 * i))), (0, .ref b), (1, .ref (g 0)), (2, .ref (g 10)), (3, .ref (g 40)), (4, .ref (g 41))]) hx hb dL_law_1300 hl (by decide) rfl (fun ls hl => ?_)
  refine lv_aload_n hx hb dL_law_1302 rfl (lv_at hl 5 rfl) ?_
  refine va_calli (va_runV (As := []) (rest := []) ⟨hx, hb, hml, hown, hts⟩ (met_X5_thrown l E o g (cp_pullIn x (xs (nI ((4 * i) + 1)).toNatClampNeg) (xs (nI ((4 * i) + 2)).toNatClampNeg)).2.2 (mp_pullIn y (xs (nI ((4 * i) + 1)).toNatClampNeg) (xs (nI ((4 * i) + 2)).toNatClampNeg)).2 hR2.2.2.2.2.2.2.1) (cwV 0 hts gL_law_X5_thrown rfl rfl rfl (by decide +kernel) ⟨Nat.le_of_ble_eq_true rfl, Nat.le_of_ble_eq_true rfl⟩) ⟨fun a U f mk q => ⟨q.1, wPre.calling q.2 a f mk⟩, (va_recv hK (wH_one hH (lv_md (by decide) (by decide)) (cel_md (by decide) (by decide))) (ci := 7) (q0 := 0) rfl rfl), fun U hU hW => ⟨rfl, wPre_at hz hS hH hK U hU hW⟩⟩ rfl rfl hl.1 rfl (lv_room (Nat.le_of_ble_eq_true rfl)) dL_law_1303 ⟨by show _ ≤ 603072; omega, by show _ ≤ 7219306; omega⟩) hS (fun q _ h => h) (fun q h => h) (fun r8 u t H locs ht hvm hw8 hB hz1 hk1 hS => ?_)
  have hH : wHS E o g (cp_pullIn x (xs (nI ((4 * i) + 1)).toNatClampNeg) (xs (nI ((4 * i) + 2)).toNatClampNeg)).2.2 (mp_pullIn y (xs (nI ((4 * i) + 1)).toNatClampNeg) (xs (nI ((4 * i) + 2)).toNatClampNeg)).2 H := wHS_h ht hB
  have hw8 : r8 = (mp_pullIn y (xs (nI ((4 * i) + 1)).toNatClampNeg) (xs (nI ((4 * i) + 2)).toNatClampNeg)).2.2 28 0 := hw8
  obtain rfl := hw8
  refine lv_iload hx hb dL_law_1306 (lv_at hl 1 rfl) ?_
  refine lv_icmp_eq (tgt := 1313) hx hb dL_law_1308 (by decide) (fun _ => ?_) (fun hq => absurd hkr hq)
  refine lv_iload hx hb dL_law_1313 (lv_at hl 1 rfl) ?_
  refine lv_if_ne (tgt := 1330) hx hb dL_law_1315 (by decide) (fun h9 => ?_) (fun h9 => ?_)
  · skip
    refine lv_goto (tgt := 2262) hx hb dL_law_1330 (by decide) ?_
    exact kont _ _ _ _ _ _ _ _ _ (by omega) (by omega) hR2 (lv_sub hl [2, 3, 4, 5, 6, 7] rfl) hH hS
  · obtain ⟨hnn, hval⟩ := sim_n (by decide) hw.1 hw.2 h9
    have hres := hsim.2.2.1 hnn
    rw [hres] at hval
    refine lv_aload_n hx hb dL_law_1318 rfl (lv_at hl 6 rfl) ?_
    refine lv_iconst (v := 0) hx hb dL_law_1319 (by decide) ?_
    refine wr_lald (t := 40) (v := ((mp_pullIn y (xs (nI ((4 * i) + 1)).toNatClampNeg) (xs (nI ((4 * i) + 2)).toNatClampNeg)).1).toInt64) hx hb hK hH lv_o1 rfl 4 rfl (by unfold vp_in; decide) (by rw [show (0 : Int32).toNatClampNeg = 0 from rfl]; exact hval) dL_law_1320 ?_
    refine lv_iload hx hb dL_law_1321 (lv_at hl 0 rfl) ?_
    refine lv_i2l hx hb dL_law_1323 rfl ?_
    refine W.lcmp hx hb dL_law_1324 ?_
    refine lv_tope (lgc_self _) ?_
    refine lv_if_eq (tgt := 1330) hx hb dL_law_1325 (by decide) (fun _ => ?_) (fun hq => absurd (show (0 : Int32) = 0 by decide) hq)
    refine lv_goto (tgt := 2262) hx hb dL_law_1330 (by decide) ?_
    exact kont _ _ _ _ _ _ _ _ _ (by omega) (by omega) hR2 (lv_sub hl [2, 3, 4, 5, 6, 7] rfl) hH hS
set_option maxHeartbeats 4000000 in
set_option maxRecDepth 100000 in
theorem lc_pass {p : Program} {l : Launch} {e : Env} {s : State} {m : MethodId} {below : List Frame} {meth : Method} {c : Code} {E : wE} {b L : Nat} {xs : Nat → Int32} {Q : State → Prop} (hE : lwE p l s m meth c E b L xs) (i : Nat) (hi : 4 * i + 4 ≤ L) {o : wO} {g : Nat → Nat} {x y : St} (hR : Rel i x y) {H : Heap} {locs : List Loc} {ls : Array Slot} {cells slots : Nat} (hl : lv_has ls 9 (lwL b g i)) (hH : wHS E o g x y H) (hS : va_S (wA E) s.heap H locs) (hroom : cells + 40 ≤ 603072 ∧ slots + 500 ≤ 7219306)
    (kont : ∀ (o : wO) (g : Nat → Nat) (x y : St) (H : Heap) (locs : List Loc) (ls : Array Slot) (cells2 slots2 : Nat), cells2 ≤ cells + 40 → slots2 ≤ slots + 500 → Rel (i + 1) x y → lv_has ls 9 (lwL b g i) → wHS E o g x y H → va_S (wA E) s.heap H locs → W p l e room_1 s m #[Value.ref b] below meth c H locs cells2 slots2 Q (F0 m 2262 ls [])) : W p l e room_1 s m #[Value.ref b] below meth c H locs cells slots Q (F0 m 1333 ls []) := by
  obtain ⟨hx, hb, hml, hown, hts, hr, hlocks, hX, hbl, hbA, hz, hK, hC, hDD, hNc, hlt, hL⟩ := hE
  obtain ⟨hI, hJ, hKK, hQ, hFrD, hFrB, hMI, hBK, hCS, hEQ⟩ := id hR
  have hl : lv_has ls 9 [(5, .int (nI (4 * i))), (0, .ref b), (1, .ref (g 0)), (2, .ref (g 10)), (3, .ref (g 40)), (4, .ref (g 41))] := hl
  refine lv_aload_n hx hb dL_law_1333 rfl (lv_at hl 2 rfl) ?_
  refine lv_aload_n hx hb dL_law_1334 rfl (lv_at hl 4 rfl) ?_
  have hsim := sim_pass hR (by omega)
  refine va_calli (vx_runSW (As := [.ref (g 0), .ref (g 40)]) (rest := []) ⟨hx, hb, hml, hown, hts⟩ (met_L_pass l E o g x y hlt hI) (vx_cwSW 2 hts gL_law_L_pass rfl rfl rfl (by decide +kernel) ⟨Nat.le_of_ble_eq_true rfl, Nat.le_of_ble_eq_true rfl⟩) ⟨fun a U f mk q => ⟨q.1, wPreL.calling q.2 a f mk⟩, fun U hU hW => ⟨rfl, wPreL_at hz hS hH hK hC hDD hNc U hU hW⟩⟩ rfl rfl hl.1 rfl (lv_room (Nat.le_of_ble_eq_true rfl)) dL_law_1335 ⟨by show _ ≤ 603072; omega, by show _ ≤ 7219306; omega⟩) hS (fun q _ h => h) (fun q h => h) (fun r9 u t H locs ht hvm hw hB hz1 hk1 hS => ?_)
  obtain ⟨hgE, hB⟩ := hB
  obtain ⟨o, g⟩ := u
  have hH : wHS E o g (cp_pass x).2.2 y H := wHS_h ht hB
  rw [← hgE 0 (by decide) (by decide) (by decide), ← hgE 10 (by decide) (by decide) (by decide), ← hgE 40 (by decide) (by decide) (by decide), ← hgE 41 (by decide) (by decide) (by decide)] at hl
  have hl : lv_has ls 9 [(5, .int (nI (4 * i))), (0, .ref b), (1, .ref (g 0)), (2, .ref (g 10)), (3, .ref (g 40)), (4, .ref (g 41))] := hl
  have hkr := sim_r hsim hw.1 hw.2
  have hR2 := hsim.2.2.2
  refine lv_istore (lv' := [(6, .int r9), (5, .int (nI (4 * i))), (0, .ref b), (1, .ref (g 0)), (2, .ref (g 10)), (3, .ref (g 40)), (4, .ref (g 41))]) hx hb dL_law_1338 hl (by decide) rfl (fun ls hl => ?_)
  refine lv_aload_n hx hb dL_law_1340 rfl (lv_at hl 4 rfl) ?_
  refine va_calli (va_runV (As := []) (rest := []) ⟨hx, hb, hml, hown, hts⟩ (met_X5_pass l E o g (cp_pass x).2.2 y hMI) (cwV 0 hts gL_law_X5_pass rfl rfl rfl (by decide +kernel) ⟨Nat.le_of_ble_eq_true rfl, Nat.le_of_ble_eq_true rfl⟩) ⟨fun a U f mk q => ⟨q.1, wPre.calling q.2 a f mk⟩, (va_recv hK (wH_one hH (lv_md (by decide) (by decide)) (cel_md (by decide) (by decide))) (ci := 7) (q0 := 0) rfl rfl), fun U hU hW => ⟨rfl, wPre_at hz hS hH hK U hU hW⟩⟩ rfl rfl hl.1 rfl (lv_room (Nat.le_of_ble_eq_true rfl)) dL_law_1341 ⟨by show _ ≤ 603072; omega, by show _ ≤ 7219306; omega⟩) hS (fun q _ h => h) (fun q h => h) (fun r8 u t H locs ht hvm hw8 hB hz1 hk1 hS => ?_)
  have hH : wHS E o g (cp_pass x).2.2 (mp_pass y).2 H := wHS_h ht hB
  obtain rfl := hw8
  refine lv_istore (lv' := [(7, .int ((mp_pass y).1)), (6, .int r9), (5, .int (nI (4 * i))), (0, .ref b), (1, .ref (g 0)), (2, .ref (g 10)), (3, .ref (g 40)), (4, .ref (g 41))]) hx hb dL_law_1344 hl (by decide) rfl (fun ls hl => ?_)
  refine lv_aload_n hx hb dL_law_1346 rfl (lv_at hl 5 rfl) ?_
  refine va_calli (va_runV (As := []) (rest := []) ⟨hx, hb, hml, hown, hts⟩ (met_X5_thrown l E o g (cp_pass x).2.2 (mp_pass y).2 hR2.2.2.2.2.2.2.1) (cwV 0 hts gL_law_X5_thrown rfl rfl rfl (by decide +kernel) ⟨Nat.le_of_ble_eq_true rfl, Nat.le_of_ble_eq_true rfl⟩) ⟨fun a U f mk q => ⟨q.1, wPre.calling q.2 a f mk⟩, (va_recv hK (wH_one hH (lv_md (by decide) (by decide)) (cel_md (by decide) (by decide))) (ci := 7) (q0 := 0) rfl rfl), fun U hU hW => ⟨rfl, wPre_at hz hS hH hK U hU hW⟩⟩ rfl rfl hl.1 rfl (lv_room (Nat.le_of_ble_eq_true rfl)) dL_law_1347 ⟨by show _ ≤ 603072; omega, by show _ ≤ 7219306; omega⟩) hS (fun q _ h => h) (fun q h => h) (fun r8 u t H locs ht hvm hw8 hB hz1 hk1 hS => ?_)
  have hH : wHS E o g (cp_pass x).2.2 (mp_pass y).2 H := wHS_h ht hB
  have hw8 : r8 = (mp_pass y).2.2 28 0 := hw8
  obtain rfl := hw8
  refine lv_iload hx hb dL_law_1350 (lv_at hl 1 rfl) ?_
  refine lv_icmp_eq (tgt := 1357) hx hb dL_law_1352 (by decide) (fun _ => ?_) (fun hq => absurd hkr hq)
  refine lv_iload hx hb dL_law_1357 (lv_at hl 1 rfl) ?_
  refine lv_if_ne (tgt := 1374) hx hb dL_law_1359 (by decide) (fun h9 => ?_) (fun h9 => ?_)
  · skip
    refine lv_goto (tgt := 2262) hx hb dL_law_1374 (by decide) ?_
    exact kont _ _ _ _ _ _ _ _ _ (by omega) (by omega) hR2 (lv_sub hl [2, 3, 4, 5, 6, 7] rfl) hH hS
  · obtain ⟨hnn, hval⟩ := sim_n (by decide) hw.1 hw.2 h9
    have hres := hsim.2.2.1 hnn
    rw [hres] at hval
    refine lv_aload_n hx hb dL_law_1362 rfl (lv_at hl 6 rfl) ?_
    refine lv_iconst (v := 0) hx hb dL_law_1363 (by decide) ?_
    refine wr_lald (t := 40) (v := ((mp_pass y).1).toInt64) hx hb hK hH lv_o1 rfl 4 rfl (by unfold vp_in; decide) (by rw [show (0 : Int32).toNatClampNeg = 0 from rfl]; exact hval) dL_law_1364 ?_
    refine lv_iload hx hb dL_law_1365 (lv_at hl 0 rfl) ?_
    refine lv_i2l hx hb dL_law_1367 rfl ?_
    refine W.lcmp hx hb dL_law_1368 ?_
    refine lv_tope (lgc_self _) ?_
    refine lv_if_eq (tgt := 1374) hx hb dL_law_1369 (by decide) (fun _ => ?_) (fun hq => absurd (show (0 : Int32) = 0 by decide) hq)
    refine lv_goto (tgt := 2262) hx hb dL_law_1374 (by decide) ?_
    exact kont _ _ _ _ _ _ _ _ _ (by omega) (by omega) hR2 (lv_sub hl [2, 3, 4, 5, 6, 7] rfl) hH hS
set_option maxHeartbeats 4000000 in
set_option maxRecDepth 100000 in
theorem lc_getWeek {p : Program} {l : Launch} {e : Env} {s : State} {m : MethodId} {below : List Frame} {meth : Method} {c : Code} {E : wE} {b L : Nat} {xs : Nat → Int32} {Q : State → Prop} (hE : lwE p l s m meth c E b L xs) (i : Nat) (hi : 4 * i + 4 ≤ L) {o : wO} {g : Nat → Nat} {x y : St} (hR : Rel i x y) {H : Heap} {locs : List Loc} {ls : Array Slot} {cells slots : Nat} (hl : lv_has ls 9 (lwL b g i)) (hH : wHS E o g x y H) (hS : va_S (wA E) s.heap H locs) (hroom : cells + 40 ≤ 603072 ∧ slots + 500 ≤ 7219306)
    (kont : ∀ (o : wO) (g : Nat → Nat) (x y : St) (H : Heap) (locs : List Loc) (ls : Array Slot) (cells2 slots2 : Nat), cells2 ≤ cells + 40 → slots2 ≤ slots + 500 → Rel (i + 1) x y → lv_has ls 9 (lwL b g i) → wHS E o g x y H → va_S (wA E) s.heap H locs → W p l e room_1 s m #[Value.ref b] below meth c H locs cells2 slots2 Q (F0 m 2262 ls [])) : W p l e room_1 s m #[Value.ref b] below meth c H locs cells slots Q (F0 m 1377 ls []) := by
  obtain ⟨hx, hb, hml, hown, hts, hr, hlocks, hX, hbl, hbA, hz, hK, hC, hDD, hNc, hlt, hL⟩ := hE
  obtain ⟨hI, hJ, hKK, hQ, hFrD, hFrB, hMI, hBK, hCS, hEQ⟩ := id hR
  have hl : lv_has ls 9 [(5, .int (nI (4 * i))), (0, .ref b), (1, .ref (g 0)), (2, .ref (g 10)), (3, .ref (g 40)), (4, .ref (g 41))] := hl
  refine lv_aload_n hx hb dL_law_1377 rfl (lv_at hl 2 rfl) ?_
  have hsim := sim_getWeek hR (by omega)
  refine vx_calli (vx_runV (As := []) (rest := []) ⟨hx, hb, hml, hown, hts⟩ (met_X4_getWeek l E o g x y hlt hI) (cwV 0 hts gL_law_X4_getWeek rfl rfl rfl (by decide +kernel) ⟨Nat.le_of_ble_eq_true rfl, Nat.le_of_ble_eq_true rfl⟩) ⟨fun a U f mk q => ⟨q.1, wPreX.calling q.2 a f mk⟩, (va_recv hK (wH_one hH lv_r0 (cel_rt (by omega))) (ci := 6) (q0 := 0) rfl rfl), fun U hU hW => ⟨rfl, wPreX_at hz hS hH hK hC U hU hW⟩⟩ rfl rfl hl.1 rfl (lv_room (Nat.le_of_ble_eq_true rfl)) dL_law_1378 ⟨by show _ ≤ 603072; omega, by show _ ≤ 7219306; omega⟩) hS (fun q _ h => h) (fun q h => h) (fun q _ h => h) (fun E9 ce q9 u t H locs ht hvm hw hB hz1 hk1 hS hce hcv hcl => ?_) (fun r9 u t H locs ht hvm hw hB hz1 hk1 hS => ?_)
  · exact absurd (hB.1.symm.trans hsim.1) (by simp)
  obtain ⟨-, rfl⟩ := hw
  have hH : wHS E o g (cp_getWeek x).2.2 y H := wHS_h ht hB
  refine lv_aload_n hx hb dL_law_1381 rfl (lv_at hl 3 rfl) ?_
  refine va_calli (va_runV (As := []) (rest := [.int ((cp_getWeek x).2.1)]) ⟨hx, hb, hml, hown, hts⟩ (met_X5_getWeek l E o g (cp_getWeek x).2.2 y hMI) (cwV 0 hts gL_law_X5_getWeek rfl rfl rfl (by decide +kernel) ⟨Nat.le_of_ble_eq_true rfl, Nat.le_of_ble_eq_true rfl⟩) ⟨fun a U f mk q => ⟨q.1, wPre.calling q.2 a f mk⟩, (va_recv hK (wH_one hH (lv_md (by decide) (by decide)) (cel_md (by decide) (by decide))) (ci := 7) (q0 := 0) rfl rfl), fun U hU hW => ⟨rfl, wPre_at hz hS hH hK U hU hW⟩⟩ rfl rfl hl.1 rfl (lv_room (Nat.le_of_ble_eq_true rfl)) dL_law_1382 ⟨by show _ ≤ 603072; omega, by show _ ≤ 7219306; omega⟩) hS (fun q _ h => h) (fun q h => h) (fun r8 u t H locs ht hvm hw8 hB hz1 hk1 hS => ?_)
  have hH : wHS E o g (cp_getWeek x).2.2 (mp_getWeek y).2 H := wHS_h ht hB
  obtain rfl := hw8
  refine W.eq (g2 := F0 m 1385 ls [.int ((mp_getWeek y).1), .int ((mp_getWeek y).1)]) (by rw [hsim.2.1]) ?_
  refine lv_icmp_eq (tgt := 2262) hx hb dL_law_1385 (by decide) (fun _ => ?_) (fun hq => absurd (rfl : ((mp_getWeek y).1) = ((mp_getWeek y).1)) hq)
  exact kont _ _ _ _ _ _ _ _ _ (by omega) (by omega) hsim.2.2 (lv_sub hl [0, 1, 2, 3, 4, 5] rfl) hH hS
set_option maxHeartbeats 4000000 in
set_option maxRecDepth 100000 in
theorem lc_getMinutes {p : Program} {l : Launch} {e : Env} {s : State} {m : MethodId} {below : List Frame} {meth : Method} {c : Code} {E : wE} {b L : Nat} {xs : Nat → Int32} {Q : State → Prop} (hE : lwE p l s m meth c E b L xs) (i : Nat) (hi : 4 * i + 4 ≤ L) {o : wO} {g : Nat → Nat} {x y : St} (hR : Rel i x y) {H : Heap} {locs : List Loc} {ls : Array Slot} {cells slots : Nat} (hl : lv_has ls 9 (lwL b g i)) (hH : wHS E o g x y H) (hS : va_S (wA E) s.heap H locs) (hroom : cells + 40 ≤ 603072 ∧ slots + 500 ≤ 7219306)
    (kont : ∀ (o : wO) (g : Nat → Nat) (x y : St) (H : Heap) (locs : List Loc) (ls : Array Slot) (cells2 slots2 : Nat), cells2 ≤ cells + 40 → slots2 ≤ slots + 500 → Rel (i + 1) x y → lv_has ls 9 (lwL b g i) → wHS E o g x y H → va_S (wA E) s.heap H locs → W p l e room_1 s m #[Value.ref b] below meth c H locs cells2 slots2 Q (F0 m 2262 ls [])) : W p l e room_1 s m #[Value.ref b] below meth c H locs cells slots Q (F0 m 1390 ls []) := by
  obtain ⟨hx, hb, hml, hown, hts, hr, hlocks, hX, hbl, hbA, hz, hK, hC, hDD, hNc, hlt, hL⟩ := hE
  obtain ⟨hI, hJ, hKK, hQ, hFrD, hFrB, hMI, hBK, hCS, hEQ⟩ := id hR
  have hl : lv_has ls 9 [(5, .int (nI (4 * i))), (0, .ref b), (1, .ref (g 0)), (2, .ref (g 10)), (3, .ref (g 40)), (4, .ref (g 41))] := hl
  refine lv_aload_n hx hb dL_law_1390 rfl (lv_at hl 2 rfl) ?_
  have hsim := sim_getMinutes hR (by omega)
  refine vx_calli (vx_runV (As := []) (rest := []) ⟨hx, hb, hml, hown, hts⟩ (met_X4_getMinutes l E o g x y hlt hI) (cwV 0 hts gL_law_X4_getMinutes rfl rfl rfl (by decide +kernel) ⟨Nat.le_of_ble_eq_true rfl, Nat.le_of_ble_eq_true rfl⟩) ⟨fun a U f mk q => ⟨q.1, wPreX.calling q.2 a f mk⟩, (va_recv hK (wH_one hH lv_r0 (cel_rt (by omega))) (ci := 6) (q0 := 0) rfl rfl), fun U hU hW => ⟨rfl, wPreX_at hz hS hH hK hC U hU hW⟩⟩ rfl rfl hl.1 rfl (lv_room (Nat.le_of_ble_eq_true rfl)) dL_law_1391 ⟨by show _ ≤ 603072; omega, by show _ ≤ 7219306; omega⟩) hS (fun q _ h => h) (fun q h => h) (fun q _ h => h) (fun E9 ce q9 u t H locs ht hvm hw hB hz1 hk1 hS hce hcv hcl => ?_) (fun r9 u t H locs ht hvm hw hB hz1 hk1 hS => ?_)
  · exact absurd (hB.1.symm.trans hsim.1) (by simp)
  obtain ⟨-, rfl⟩ := hw
  have hH : wHS E o g (cp_getMinutes x).2.2 y H := wHS_h ht hB
  refine lv_aload_n hx hb dL_law_1394 rfl (lv_at hl 3 rfl) ?_
  refine va_calli (va_runV (As := []) (rest := [.int ((cp_getMinutes x).2.1)]) ⟨hx, hb, hml, hown, hts⟩ (met_X5_getMinutes l E o g (cp_getMinutes x).2.2 y hMI) (cwV 0 hts gL_law_X5_getMinutes rfl rfl rfl (by decide +kernel) ⟨Nat.le_of_ble_eq_true rfl, Nat.le_of_ble_eq_true rfl⟩) ⟨fun a U f mk q => ⟨q.1, wPre.calling q.2 a f mk⟩, (va_recv hK (wH_one hH (lv_md (by decide) (by decide)) (cel_md (by decide) (by decide))) (ci := 7) (q0 := 0) rfl rfl), fun U hU hW => ⟨rfl, wPre_at hz hS hH hK U hU hW⟩⟩ rfl rfl hl.1 rfl (lv_room (Nat.le_of_ble_eq_true rfl)) dL_law_1395 ⟨by show _ ≤ 603072; omega, by show _ ≤ 7219306; omega⟩) hS (fun q _ h => h) (fun q h => h) (fun r8 u t H locs ht hvm hw8 hB hz1 hk1 hS => ?_)
  have hH : wHS E o g (cp_getMinutes x).2.2 (mp_getMinutes y).2 H := wHS_h ht hB
  obtain rfl := hw8
  refine W.eq (g2 := F0 m 1398 ls [.int ((mp_getMinutes y).1), .int ((mp_getMinutes y).1)]) (by rw [hsim.2.1]) ?_
  refine lv_icmp_eq (tgt := 2262) hx hb dL_law_1398 (by decide) (fun _ => ?_) (fun hq => absurd (rfl : ((mp_getMinutes y).1) = ((mp_getMinutes y).1)) hq)
  exact kont _ _ _ _ _ _ _ _ _ (by omega) (by omega) hsim.2.2 (lv_sub hl [0, 1, 2, 3, 4, 5] rfl) hH hS
set_option maxHeartbeats 4000000 in
set_option maxRecDepth 100000 in
theorem lc_visit {p : Program} {l : Launch} {e : Env} {s : State} {m : MethodId} {below : List Frame} {meth : Method} {c : Code} {E : wE} {b L : Nat} {xs : Nat → Int32} {Q : State → Prop} (hE : lwE p l s m meth c E b L xs) (i : Nat) (hi : 4 * i + 4 ≤ L) {o : wO} {g : Nat → Nat} {x y : St} (hR : Rel i x y) {H : Heap} {locs : List Loc} {ls : Array Slot} {cells slots : Nat} (hl : lv_has ls 9 (lwL b g i)) (hH : wHS E o g x y H) (hS : va_S (wA E) s.heap H locs) (hroom : cells + 40 ≤ 603072 ∧ slots + 500 ≤ 7219306)
    (kont : ∀ (o : wO) (g : Nat → Nat) (x y : St) (H : Heap) (locs : List Loc) (ls : Array Slot) (cells2 slots2 : Nat), cells2 ≤ cells + 40 → slots2 ≤ slots + 500 → Rel (i + 1) x y → lv_has ls 9 (lwL b g i) → wHS E o g x y H → va_S (wA E) s.heap H locs → W p l e room_1 s m #[Value.ref b] below meth c H locs cells2 slots2 Q (F0 m 2262 ls [])) : W p l e room_1 s m #[Value.ref b] below meth c H locs cells slots Q (F0 m 1403 ls []) := by
  obtain ⟨hx, hb, hml, hown, hts, hr, hlocks, hX, hbl, hbA, hz, hK, hC, hDD, hNc, hlt, hL⟩ := hE
  obtain ⟨hI, hJ, hKK, hQ, hFrD, hFrB, hMI, hBK, hCS, hEQ⟩ := id hR
  have hl : lv_has ls 9 [(5, .int (nI (4 * i))), (0, .ref b), (1, .ref (g 0)), (2, .ref (g 10)), (3, .ref (g 40)), (4, .ref (g 41))] := hl
  refine lv_aload_n hx hb dL_law_1403 rfl (lv_at hl 2 rfl) ?_
  refine lv_aload_n hx hb dL_law_1404 rfl (lv_at hl 1 rfl) ?_
  refine lv_iload hx hb dL_law_1405 (lv_at hl 0 rfl) ?_
  refine lv_iconst (v := 1) hx hb dL_law_1407 (by decide) ?_
  refine lv_iadd hx hb dL_law_1408 ?_
  refine lv_tope (nI_add (4 * i) 1) ?_
  refine va_sld hx hb hX hbl hbA hS (vp_in_nI (n := ((4 * i) + 1)) (N := L) (by omega) (by omega)) dL_law_1409 ?_
  refine lv_aload_n hx hb dL_law_1410 rfl (lv_at hl 4 rfl) ?_
  have hsim := sim_visit hR (by omega) (xs (nI ((4 * i) + 1)).toNatClampNeg)
  refine va_calli (vx_runSW (As := [.ref (g 0), .int (xs (nI ((4 * i) + 1)).toNatClampNeg), .ref (g 40)]) (rest := []) ⟨hx, hb, hml, hown, hts⟩ (met_L_visit l E o g x y (xs (nI ((4 * i) + 1)).toNatClampNeg) hlt hI) (vx_cwSW 3 hts gL_law_L_visit rfl rfl rfl (by decide +kernel) ⟨Nat.le_of_ble_eq_true rfl, Nat.le_of_ble_eq_true rfl⟩) ⟨fun a U f mk q => ⟨q.1, wPreL.calling q.2 a f mk⟩, fun U hU hW => ⟨rfl, wPreL_at hz hS hH hK hC hDD hNc U hU hW⟩⟩ rfl rfl hl.1 rfl (lv_room (Nat.le_of_ble_eq_true rfl)) dL_law_1411 ⟨by show _ ≤ 603072; omega, by show _ ≤ 7219306; omega⟩) hS (fun q _ h => h) (fun q h => h) (fun r9 u t H locs ht hvm hw hB hz1 hk1 hS => ?_)
  obtain ⟨hgE, hB⟩ := hB
  obtain ⟨o, g⟩ := u
  have hH : wHS E o g (cp_visit x (xs (nI ((4 * i) + 1)).toNatClampNeg)).2.2 y H := wHS_h ht hB
  rw [← hgE 0 (by decide) (by decide) (by decide), ← hgE 10 (by decide) (by decide) (by decide), ← hgE 40 (by decide) (by decide) (by decide), ← hgE 41 (by decide) (by decide) (by decide)] at hl
  have hl : lv_has ls 9 [(5, .int (nI (4 * i))), (0, .ref b), (1, .ref (g 0)), (2, .ref (g 10)), (3, .ref (g 40)), (4, .ref (g 41))] := hl
  have hkr := sim_r hsim hw.1 hw.2
  have hR2 := hsim.2.2.2
  refine lv_istore (lv' := [(6, .int r9), (5, .int (nI (4 * i))), (0, .ref b), (1, .ref (g 0)), (2, .ref (g 10)), (3, .ref (g 40)), (4, .ref (g 41))]) hx hb dL_law_1414 hl (by decide) rfl (fun ls hl => ?_)
  refine lv_aload_n hx hb dL_law_1416 rfl (lv_at hl 4 rfl) ?_
  refine lv_aload_n hx hb dL_law_1417 rfl (lv_at hl 2 rfl) ?_
  refine lv_iload hx hb dL_law_1418 (lv_at hl 1 rfl) ?_
  refine lv_iconst (v := 1) hx hb dL_law_1420 (by decide) ?_
  refine lv_iadd hx hb dL_law_1421 ?_
  refine lv_tope (nI_add (4 * i) 1) ?_
  refine va_sld hx hb hX hbl hbA hS (vp_in_nI (n := ((4 * i) + 1)) (N := L) (by omega) (by omega)) dL_law_1422 ?_
  refine va_calli (va_runV (As := [.int (xs (nI ((4 * i) + 1)).toNatClampNeg)]) (rest := []) ⟨hx, hb, hml, hown, hts⟩ (met_X5_visit l E o g (cp_visit x (xs (nI ((4 * i) + 1)).toNatClampNeg)).2.2 y (xs (nI ((4 * i) + 1)).toNatClampNeg) hMI) (cwV 1 hts gL_law_X5_visit rfl rfl rfl (by decide +kernel) ⟨Nat.le_of_ble_eq_true rfl, Nat.le_of_ble_eq_true rfl⟩) ⟨fun a U f mk q => ⟨q.1, wPre.calling q.2 a f mk⟩, (va_recv hK (wH_one hH (lv_md (by decide) (by decide)) (cel_md (by decide) (by decide))) (ci := 7) (q0 := 0) rfl rfl), fun U hU hW => ⟨rfl, wPre_at hz hS hH hK U hU hW⟩⟩ rfl rfl hl.1 rfl (lv_room (Nat.le_of_ble_eq_true rfl)) dL_law_1423 ⟨by show _ ≤ 603072; omega, by show _ ≤ 7219306; omega⟩) hS (fun q _ h => h) (fun q h => h) (fun r8 u t H locs ht hvm hw8 hB hz1 hk1 hS => ?_)
  have hH : wHS E o g (cp_visit x (xs (nI ((4 * i) + 1)).toNatClampNeg)).2.2 (mp_visit y (xs (nI ((4 * i) + 1)).toNatClampNeg)).2 H := wHS_h ht hB
  obtain rfl := hw8
  refine lv_istore (lv' := [(7, .int ((mp_visit y (xs (nI ((4 * i) + 1)).toNatClampNeg)).1)), (6, .int r9), (5, .int (nI (4 * i))), (0, .ref b), (1, .ref (g 0)), (2, .ref (g 10)), (3, .ref (g 40)), (4, .ref (g 41))]) hx hb dL_law_1426 hl (by decide) rfl (fun ls hl => ?_)
  refine lv_aload_n hx hb dL_law_1428 rfl (lv_at hl 5 rfl) ?_
  refine va_calli (va_runV (As := []) (rest := []) ⟨hx, hb, hml, hown, hts⟩ (met_X5_thrown l E o g (cp_visit x (xs (nI ((4 * i) + 1)).toNatClampNeg)).2.2 (mp_visit y (xs (nI ((4 * i) + 1)).toNatClampNeg)).2 hR2.2.2.2.2.2.2.1) (cwV 0 hts gL_law_X5_thrown rfl rfl rfl (by decide +kernel) ⟨Nat.le_of_ble_eq_true rfl, Nat.le_of_ble_eq_true rfl⟩) ⟨fun a U f mk q => ⟨q.1, wPre.calling q.2 a f mk⟩, (va_recv hK (wH_one hH (lv_md (by decide) (by decide)) (cel_md (by decide) (by decide))) (ci := 7) (q0 := 0) rfl rfl), fun U hU hW => ⟨rfl, wPre_at hz hS hH hK U hU hW⟩⟩ rfl rfl hl.1 rfl (lv_room (Nat.le_of_ble_eq_true rfl)) dL_law_1429 ⟨by show _ ≤ 603072; omega, by show _ ≤ 7219306; omega⟩) hS (fun q _ h => h) (fun q h => h) (fun r8 u t H locs ht hvm hw8 hB hz1 hk1 hS => ?_)
  have hH : wHS E o g (cp_visit x (xs (nI ((4 * i) + 1)).toNatClampNeg)).2.2 (mp_visit y (xs (nI ((4 * i) + 1)).toNatClampNeg)).2 H := wHS_h ht hB
  have hw8 : r8 = (mp_visit y (xs (nI ((4 * i) + 1)).toNatClampNeg)).2.2 28 0 := hw8
  obtain rfl := hw8
  refine lv_iload hx hb dL_law_1432 (lv_at hl 1 rfl) ?_
  refine lv_icmp_eq (tgt := 1439) hx hb dL_law_1434 (by decide) (fun _ => ?_) (fun hq => absurd hkr hq)
  refine lv_iload hx hb dL_law_1439 (lv_at hl 1 rfl) ?_
  refine lv_if_ne (tgt := 1456) hx hb dL_law_1441 (by decide) (fun h9 => ?_) (fun h9 => ?_)
  · skip
    refine lv_goto (tgt := 2262) hx hb dL_law_1456 (by decide) ?_
    exact kont _ _ _ _ _ _ _ _ _ (by omega) (by omega) hR2 (lv_sub hl [2, 3, 4, 5, 6, 7] rfl) hH hS
  · obtain ⟨hnn, hval⟩ := sim_n (by decide) hw.1 hw.2 h9
    have hres := hsim.2.2.1 hnn
    rw [hres] at hval
    refine lv_aload_n hx hb dL_law_1444 rfl (lv_at hl 6 rfl) ?_
    refine lv_iconst (v := 0) hx hb dL_law_1445 (by decide) ?_
    refine wr_lald (t := 40) (v := ((mp_visit y (xs (nI ((4 * i) + 1)).toNatClampNeg)).1).toInt64) hx hb hK hH lv_o1 rfl 4 rfl (by unfold vp_in; decide) (by rw [show (0 : Int32).toNatClampNeg = 0 from rfl]; exact hval) dL_law_1446 ?_
    refine lv_iload hx hb dL_law_1447 (lv_at hl 0 rfl) ?_
    refine lv_i2l hx hb dL_law_1449 rfl ?_
    refine W.lcmp hx hb dL_law_1450 ?_
    refine lv_tope (lgc_self _) ?_
    refine lv_if_eq (tgt := 1456) hx hb dL_law_1451 (by decide) (fun _ => ?_) (fun hq => absurd (show (0 : Int32) = 0 by decide) hq)
    refine lv_goto (tgt := 2262) hx hb dL_law_1456 (by decide) ?_
    exact kont _ _ _ _ _ _ _ _ _ (by omega) (by omega) hR2 (lv_sub hl [2, 3, 4, 5, 6, 7] rfl) hH hS
set_option maxHeartbeats 4000000 in
set_option maxRecDepth 100000 in
theorem lc_getShort {p : Program} {l : Launch} {e : Env} {s : State} {m : MethodId} {below : List Frame} {meth : Method} {c : Code} {E : wE} {b L : Nat} {xs : Nat → Int32} {Q : State → Prop} (hE : lwE p l s m meth c E b L xs) (i : Nat) (hi : 4 * i + 4 ≤ L) {o : wO} {g : Nat → Nat} {x y : St} (hR : Rel i x y) {H : Heap} {locs : List Loc} {ls : Array Slot} {cells slots : Nat} (hl : lv_has ls 9 (lwL b g i)) (hH : wHS E o g x y H) (hS : va_S (wA E) s.heap H locs) (hroom : cells + 40 ≤ 603072 ∧ slots + 500 ≤ 7219306)
    (kont : ∀ (o : wO) (g : Nat → Nat) (x y : St) (H : Heap) (locs : List Loc) (ls : Array Slot) (cells2 slots2 : Nat), cells2 ≤ cells + 40 → slots2 ≤ slots + 500 → Rel (i + 1) x y → lv_has ls 9 (lwL b g i) → wHS E o g x y H → va_S (wA E) s.heap H locs → W p l e room_1 s m #[Value.ref b] below meth c H locs cells2 slots2 Q (F0 m 2262 ls [])) : W p l e room_1 s m #[Value.ref b] below meth c H locs cells slots Q (F0 m 1459 ls []) := by
  obtain ⟨hx, hb, hml, hown, hts, hr, hlocks, hX, hbl, hbA, hz, hK, hC, hDD, hNc, hlt, hL⟩ := hE
  obtain ⟨hI, hJ, hKK, hQ, hFrD, hFrB, hMI, hBK, hCS, hEQ⟩ := id hR
  have hl : lv_has ls 9 [(5, .int (nI (4 * i))), (0, .ref b), (1, .ref (g 0)), (2, .ref (g 10)), (3, .ref (g 40)), (4, .ref (g 41))] := hl
  refine lv_aload_n hx hb dL_law_1459 rfl (lv_at hl 2 rfl) ?_
  refine lv_aload_n hx hb dL_law_1460 rfl (lv_at hl 1 rfl) ?_
  refine lv_iload hx hb dL_law_1461 (lv_at hl 0 rfl) ?_
  refine lv_iconst (v := 1) hx hb dL_law_1463 (by decide) ?_
  refine lv_iadd hx hb dL_law_1464 ?_
  refine lv_tope (nI_add (4 * i) 1) ?_
  refine va_sld hx hb hX hbl hbA hS (vp_in_nI (n := ((4 * i) + 1)) (N := L) (by omega) (by omega)) dL_law_1465 ?_
  refine lv_aload_n hx hb dL_law_1466 rfl (lv_at hl 4 rfl) ?_
  have hsim := sim_getShort hR (by omega) (xs (nI ((4 * i) + 1)).toNatClampNeg)
  refine va_calli (vx_runSW (As := [.ref (g 0), .int (xs (nI ((4 * i) + 1)).toNatClampNeg), .ref (g 40)]) (rest := []) ⟨hx, hb, hml, hown, hts⟩ (met_L_getShort l E o g x y (xs (nI ((4 * i) + 1)).toNatClampNeg) hlt hI) (vx_cwSW 3 hts gL_law_L_getShort rfl rfl rfl (by decide +kernel) ⟨Nat.le_of_ble_eq_true rfl, Nat.le_of_ble_eq_true rfl⟩) ⟨fun a U f mk q => ⟨q.1, wPreL.calling q.2 a f mk⟩, fun U hU hW => ⟨rfl, wPreL_at hz hS hH hK hC hDD hNc U hU hW⟩⟩ rfl rfl hl.1 rfl (lv_room (Nat.le_of_ble_eq_true rfl)) dL_law_1467 ⟨by show _ ≤ 603072; omega, by show _ ≤ 7219306; omega⟩) hS (fun q _ h => h) (fun q h => h) (fun r9 u t H locs ht hvm hw hB hz1 hk1 hS => ?_)
  obtain ⟨hgE, hB⟩ := hB
  obtain ⟨o, g⟩ := u
  have hH : wHS E o g (cp_getShort x (xs (nI ((4 * i) + 1)).toNatClampNeg)).2.2 y H := wHS_h ht hB
  rw [← hgE 0 (by decide) (by decide) (by decide), ← hgE 10 (by decide) (by decide) (by decide), ← hgE 40 (by decide) (by decide) (by decide), ← hgE 41 (by decide) (by decide) (by decide)] at hl
  have hl : lv_has ls 9 [(5, .int (nI (4 * i))), (0, .ref b), (1, .ref (g 0)), (2, .ref (g 10)), (3, .ref (g 40)), (4, .ref (g 41))] := hl
  have hkr := sim_r hsim hw.1 hw.2
  have hR2 := hsim.2.2.2
  refine lv_istore (lv' := [(6, .int r9), (5, .int (nI (4 * i))), (0, .ref b), (1, .ref (g 0)), (2, .ref (g 10)), (3, .ref (g 40)), (4, .ref (g 41))]) hx hb dL_law_1470 hl (by decide) rfl (fun ls hl => ?_)
  refine lv_aload_n hx hb dL_law_1472 rfl (lv_at hl 4 rfl) ?_
  refine lv_aload_n hx hb dL_law_1473 rfl (lv_at hl 2 rfl) ?_
  refine lv_iload hx hb dL_law_1474 (lv_at hl 1 rfl) ?_
  refine lv_iconst (v := 1) hx hb dL_law_1476 (by decide) ?_
  refine lv_iadd hx hb dL_law_1477 ?_
  refine lv_tope (nI_add (4 * i) 1) ?_
  refine va_sld hx hb hX hbl hbA hS (vp_in_nI (n := ((4 * i) + 1)) (N := L) (by omega) (by omega)) dL_law_1478 ?_
  refine va_calli (va_runV (As := [.int (xs (nI ((4 * i) + 1)).toNatClampNeg)]) (rest := []) ⟨hx, hb, hml, hown, hts⟩ (met_X5_getShort l E o g (cp_getShort x (xs (nI ((4 * i) + 1)).toNatClampNeg)).2.2 y (xs (nI ((4 * i) + 1)).toNatClampNeg) hMI) (cwV 1 hts gL_law_X5_getShort rfl rfl rfl (by decide +kernel) ⟨Nat.le_of_ble_eq_true rfl, Nat.le_of_ble_eq_true rfl⟩) ⟨fun a U f mk q => ⟨q.1, wPre.calling q.2 a f mk⟩, (va_recv hK (wH_one hH (lv_md (by decide) (by decide)) (cel_md (by decide) (by decide))) (ci := 7) (q0 := 0) rfl rfl), fun U hU hW => ⟨rfl, wPre_at hz hS hH hK U hU hW⟩⟩ rfl rfl hl.1 rfl (lv_room (Nat.le_of_ble_eq_true rfl)) dL_law_1479 ⟨by show _ ≤ 603072; omega, by show _ ≤ 7219306; omega⟩) hS (fun q _ h => h) (fun q h => h) (fun r8 u t H locs ht hvm hw8 hB hz1 hk1 hS => ?_)
  have hH : wHS E o g (cp_getShort x (xs (nI ((4 * i) + 1)).toNatClampNeg)).2.2 (mp_getShort y (xs (nI ((4 * i) + 1)).toNatClampNeg)).2 H := wHS_h ht hB
  obtain rfl := hw8
  refine lv_istore (lv' := [(7, .int ((mp_getShort y (xs (nI ((4 * i) + 1)).toNatClampNeg)).1)), (6, .int r9), (5, .int (nI (4 * i))), (0, .ref b), (1, .ref (g 0)), (2, .ref (g 10)), (3, .ref (g 40)), (4, .ref (g 41))]) hx hb dL_law_1482 hl (by decide) rfl (fun ls hl => ?_)
  refine lv_aload_n hx hb dL_law_1484 rfl (lv_at hl 5 rfl) ?_
  refine va_calli (va_runV (As := []) (rest := []) ⟨hx, hb, hml, hown, hts⟩ (met_X5_thrown l E o g (cp_getShort x (xs (nI ((4 * i) + 1)).toNatClampNeg)).2.2 (mp_getShort y (xs (nI ((4 * i) + 1)).toNatClampNeg)).2 hR2.2.2.2.2.2.2.1) (cwV 0 hts gL_law_X5_thrown rfl rfl rfl (by decide +kernel) ⟨Nat.le_of_ble_eq_true rfl, Nat.le_of_ble_eq_true rfl⟩) ⟨fun a U f mk q => ⟨q.1, wPre.calling q.2 a f mk⟩, (va_recv hK (wH_one hH (lv_md (by decide) (by decide)) (cel_md (by decide) (by decide))) (ci := 7) (q0 := 0) rfl rfl), fun U hU hW => ⟨rfl, wPre_at hz hS hH hK U hU hW⟩⟩ rfl rfl hl.1 rfl (lv_room (Nat.le_of_ble_eq_true rfl)) dL_law_1485 ⟨by show _ ≤ 603072; omega, by show _ ≤ 7219306; omega⟩) hS (fun q _ h => h) (fun q h => h) (fun r8 u t H locs ht hvm hw8 hB hz1 hk1 hS => ?_)
  have hH : wHS E o g (cp_getShort x (xs (nI ((4 * i) + 1)).toNatClampNeg)).2.2 (mp_getShort y (xs (nI ((4 * i) + 1)).toNatClampNeg)).2 H := wHS_h ht hB
  have hw8 : r8 = (mp_getShort y (xs (nI ((4 * i) + 1)).toNatClampNeg)).2.2 28 0 := hw8
  obtain rfl := hw8
  refine lv_iload hx hb dL_law_1488 (lv_at hl 1 rfl) ?_
  refine lv_icmp_eq (tgt := 1495) hx hb dL_law_1490 (by decide) (fun _ => ?_) (fun hq => absurd hkr hq)
  refine lv_iload hx hb dL_law_1495 (lv_at hl 1 rfl) ?_
  refine lv_if_ne (tgt := 1512) hx hb dL_law_1497 (by decide) (fun h9 => ?_) (fun h9 => ?_)
  · skip
    refine lv_goto (tgt := 2262) hx hb dL_law_1512 (by decide) ?_
    exact kont _ _ _ _ _ _ _ _ _ (by omega) (by omega) hR2 (lv_sub hl [2, 3, 4, 5, 6, 7] rfl) hH hS
  · obtain ⟨hnn, hval⟩ := sim_n (by decide) hw.1 hw.2 h9
    have hres := hsim.2.2.1 hnn
    rw [hres] at hval
    refine lv_aload_n hx hb dL_law_1500 rfl (lv_at hl 6 rfl) ?_
    refine lv_iconst (v := 0) hx hb dL_law_1501 (by decide) ?_
    refine wr_lald (t := 40) (v := ((mp_getShort y (xs (nI ((4 * i) + 1)).toNatClampNeg)).1).toInt64) hx hb hK hH lv_o1 rfl 4 rfl (by unfold vp_in; decide) (by rw [show (0 : Int32).toNatClampNeg = 0 from rfl]; exact hval) dL_law_1502 ?_
    refine lv_iload hx hb dL_law_1503 (lv_at hl 0 rfl) ?_
    refine lv_i2l hx hb dL_law_1505 rfl ?_
    refine W.lcmp hx hb dL_law_1506 ?_
    refine lv_tope (lgc_self _) ?_
    refine lv_if_eq (tgt := 1512) hx hb dL_law_1507 (by decide) (fun _ => ?_) (fun hq => absurd (show (0 : Int32) = 0 by decide) hq)
    refine lv_goto (tgt := 2262) hx hb dL_law_1512 (by decide) ?_
    exact kont _ _ _ _ _ _ _ _ _ (by omega) (by omega) hR2 (lv_sub hl [2, 3, 4, 5, 6, 7] rfl) hH hS
set_option maxHeartbeats 4000000 in
set_option maxRecDepth 100000 in
theorem lc_getShare {p : Program} {l : Launch} {e : Env} {s : State} {m : MethodId} {below : List Frame} {meth : Method} {c : Code} {E : wE} {b L : Nat} {xs : Nat → Int32} {Q : State → Prop} (hE : lwE p l s m meth c E b L xs) (i : Nat) (hi : 4 * i + 4 ≤ L) {o : wO} {g : Nat → Nat} {x y : St} (hR : Rel i x y) {H : Heap} {locs : List Loc} {ls : Array Slot} {cells slots : Nat} (hl : lv_has ls 9 (lwL b g i)) (hH : wHS E o g x y H) (hS : va_S (wA E) s.heap H locs) (hroom : cells + 40 ≤ 603072 ∧ slots + 500 ≤ 7219306)
    (kont : ∀ (o : wO) (g : Nat → Nat) (x y : St) (H : Heap) (locs : List Loc) (ls : Array Slot) (cells2 slots2 : Nat), cells2 ≤ cells + 40 → slots2 ≤ slots + 500 → Rel (i + 1) x y → lv_has ls 9 (lwL b g i) → wHS E o g x y H → va_S (wA E) s.heap H locs → W p l e room_1 s m #[Value.ref b] below meth c H locs cells2 slots2 Q (F0 m 2262 ls [])) : W p l e room_1 s m #[Value.ref b] below meth c H locs cells slots Q (F0 m 1515 ls []) := by
  obtain ⟨hx, hb, hml, hown, hts, hr, hlocks, hX, hbl, hbA, hz, hK, hC, hDD, hNc, hlt, hL⟩ := hE
  obtain ⟨hI, hJ, hKK, hQ, hFrD, hFrB, hMI, hBK, hCS, hEQ⟩ := id hR
  have hl : lv_has ls 9 [(5, .int (nI (4 * i))), (0, .ref b), (1, .ref (g 0)), (2, .ref (g 10)), (3, .ref (g 40)), (4, .ref (g 41))] := hl
  refine lv_aload_n hx hb dL_law_1515 rfl (lv_at hl 2 rfl) ?_
  refine lv_aload_n hx hb dL_law_1516 rfl (lv_at hl 1 rfl) ?_
  refine lv_iload hx hb dL_law_1517 (lv_at hl 0 rfl) ?_
  refine lv_iconst (v := 1) hx hb dL_law_1519 (by decide) ?_
  refine lv_iadd hx hb dL_law_1520 ?_
  refine lv_tope (nI_add (4 * i) 1) ?_
  refine va_sld hx hb hX hbl hbA hS (vp_in_nI (n := ((4 * i) + 1)) (N := L) (by omega) (by omega)) dL_law_1521 ?_
  refine lv_aload_n hx hb dL_law_1522 rfl (lv_at hl 4 rfl) ?_
  have hsim := sim_getShare hR (by omega) (xs (nI ((4 * i) + 1)).toNatClampNeg)
  refine va_calli (vx_runSW (As := [.ref (g 0), .int (xs (nI ((4 * i) + 1)).toNatClampNeg), .ref (g 40)]) (rest := []) ⟨hx, hb, hml, hown, hts⟩ (met_L_getShare l E o g x y (xs (nI ((4 * i) + 1)).toNatClampNeg) hlt hI) (vx_cwSW 3 hts gL_law_L_getShare rfl rfl rfl (by decide +kernel) ⟨Nat.le_of_ble_eq_true rfl, Nat.le_of_ble_eq_true rfl⟩) ⟨fun a U f mk q => ⟨q.1, wPreL.calling q.2 a f mk⟩, fun U hU hW => ⟨rfl, wPreL_at hz hS hH hK hC hDD hNc U hU hW⟩⟩ rfl rfl hl.1 rfl (lv_room (Nat.le_of_ble_eq_true rfl)) dL_law_1523 ⟨by show _ ≤ 603072; omega, by show _ ≤ 7219306; omega⟩) hS (fun q _ h => h) (fun q h => h) (fun r9 u t H locs ht hvm hw hB hz1 hk1 hS => ?_)
  obtain ⟨hgE, hB⟩ := hB
  obtain ⟨o, g⟩ := u
  have hH : wHS E o g (cp_getShare x (xs (nI ((4 * i) + 1)).toNatClampNeg)).2.2 y H := wHS_h ht hB
  rw [← hgE 0 (by decide) (by decide) (by decide), ← hgE 10 (by decide) (by decide) (by decide), ← hgE 40 (by decide) (by decide) (by decide), ← hgE 41 (by decide) (by decide) (by decide)] at hl
  have hl : lv_has ls 9 [(5, .int (nI (4 * i))), (0, .ref b), (1, .ref (g 0)), (2, .ref (g 10)), (3, .ref (g 40)), (4, .ref (g 41))] := hl
  have hkr := sim_r hsim hw.1 hw.2
  have hR2 := hsim.2.2.2
  refine lv_istore (lv' := [(6, .int r9), (5, .int (nI (4 * i))), (0, .ref b), (1, .ref (g 0)), (2, .ref (g 10)), (3, .ref (g 40)), (4, .ref (g 41))]) hx hb dL_law_1526 hl (by decide) rfl (fun ls hl => ?_)
  refine lv_aload_n hx hb dL_law_1528 rfl (lv_at hl 4 rfl) ?_
  refine lv_aload_n hx hb dL_law_1529 rfl (lv_at hl 2 rfl) ?_
  refine lv_iload hx hb dL_law_1530 (lv_at hl 1 rfl) ?_
  refine lv_iconst (v := 1) hx hb dL_law_1532 (by decide) ?_
  refine lv_iadd hx hb dL_law_1533 ?_
  refine lv_tope (nI_add (4 * i) 1) ?_
  refine va_sld hx hb hX hbl hbA hS (vp_in_nI (n := ((4 * i) + 1)) (N := L) (by omega) (by omega)) dL_law_1534 ?_
  refine va_calli (va_runV (As := [.int (xs (nI ((4 * i) + 1)).toNatClampNeg)]) (rest := []) ⟨hx, hb, hml, hown, hts⟩ (met_X5_getShare l E o g (cp_getShare x (xs (nI ((4 * i) + 1)).toNatClampNeg)).2.2 y (xs (nI ((4 * i) + 1)).toNatClampNeg) hMI) (cwV 1 hts gL_law_X5_getShare rfl rfl rfl (by decide +kernel) ⟨Nat.le_of_ble_eq_true rfl, Nat.le_of_ble_eq_true rfl⟩) ⟨fun a U f mk q => ⟨q.1, wPre.calling q.2 a f mk⟩, (va_recv hK (wH_one hH (lv_md (by decide) (by decide)) (cel_md (by decide) (by decide))) (ci := 7) (q0 := 0) rfl rfl), fun U hU hW => ⟨rfl, wPre_at hz hS hH hK U hU hW⟩⟩ rfl rfl hl.1 rfl (lv_room (Nat.le_of_ble_eq_true rfl)) dL_law_1535 ⟨by show _ ≤ 603072; omega, by show _ ≤ 7219306; omega⟩) hS (fun q _ h => h) (fun q h => h) (fun r8 u t H locs ht hvm hw8 hB hz1 hk1 hS => ?_)
  have hH : wHS E o g (cp_getShare x (xs (nI ((4 * i) + 1)).toNatClampNeg)).2.2 (mp_getShare y (xs (nI ((4 * i) + 1)).toNatClampNeg)).2 H := wHS_h ht hB
  obtain rfl := hw8
  refine lv_istore (lv' := [(7, .int ((mp_getShare y (xs (nI ((4 * i) + 1)).toNatClampNeg)).1)), (6, .int r9), (5, .int (nI (4 * i))), (0, .ref b), (1, .ref (g 0)), (2, .ref (g 10)), (3, .ref (g 40)), (4, .ref (g 41))]) hx hb dL_law_1538 hl (by decide) rfl (fun ls hl => ?_)
  refine lv_aload_n hx hb dL_law_1540 rfl (lv_at hl 5 rfl) ?_
  refine va_calli (va_runV (As := []) (rest := []) ⟨hx, hb, hml, hown, hts⟩ (met_X5_thrown l E o g (cp_getShare x (xs (nI ((4 * i) + 1)).toNatClampNeg)).2.2 (mp_getShare y (xs (nI ((4 * i) + 1)).toNatClampNeg)).2 hR2.2.2.2.2.2.2.1) (cwV 0 hts gL_law_X5_thrown rfl rfl rfl (by decide +kernel) ⟨Nat.le_of_ble_eq_true rfl, Nat.le_of_ble_eq_true rfl⟩) ⟨fun a U f mk q => ⟨q.1, wPre.calling q.2 a f mk⟩, (va_recv hK (wH_one hH (lv_md (by decide) (by decide)) (cel_md (by decide) (by decide))) (ci := 7) (q0 := 0) rfl rfl), fun U hU hW => ⟨rfl, wPre_at hz hS hH hK U hU hW⟩⟩ rfl rfl hl.1 rfl (lv_room (Nat.le_of_ble_eq_true rfl)) dL_law_1541 ⟨by show _ ≤ 603072; omega, by show _ ≤ 7219306; omega⟩) hS (fun q _ h => h) (fun q h => h) (fun r8 u t H locs ht hvm hw8 hB hz1 hk1 hS => ?_)
  have hH : wHS E o g (cp_getShare x (xs (nI ((4 * i) + 1)).toNatClampNeg)).2.2 (mp_getShare y (xs (nI ((4 * i) + 1)).toNatClampNeg)).2 H := wHS_h ht hB
  have hw8 : r8 = (mp_getShare y (xs (nI ((4 * i) + 1)).toNatClampNeg)).2.2 28 0 := hw8
  obtain rfl := hw8
  refine lv_iload hx hb dL_law_1544 (lv_at hl 1 rfl) ?_
  refine lv_icmp_eq (tgt := 1551) hx hb dL_law_1546 (by decide) (fun _ => ?_) (fun hq => absurd hkr hq)
  refine lv_iload hx hb dL_law_1551 (lv_at hl 1 rfl) ?_
  refine lv_if_ne (tgt := 1568) hx hb dL_law_1553 (by decide) (fun h9 => ?_) (fun h9 => ?_)
  · skip
    refine lv_goto (tgt := 2262) hx hb dL_law_1568 (by decide) ?_
    exact kont _ _ _ _ _ _ _ _ _ (by omega) (by omega) hR2 (lv_sub hl [2, 3, 4, 5, 6, 7] rfl) hH hS
  · obtain ⟨hnn, hval⟩ := sim_n (by decide) hw.1 hw.2 h9
    have hres := hsim.2.2.1 hnn
    rw [hres] at hval
    refine lv_aload_n hx hb dL_law_1556 rfl (lv_at hl 6 rfl) ?_
    refine lv_iconst (v := 0) hx hb dL_law_1557 (by decide) ?_
    refine wr_lald (t := 40) (v := ((mp_getShare y (xs (nI ((4 * i) + 1)).toNatClampNeg)).1).toInt64) hx hb hK hH lv_o1 rfl 4 rfl (by unfold vp_in; decide) (by rw [show (0 : Int32).toNatClampNeg = 0 from rfl]; exact hval) dL_law_1558 ?_
    refine lv_iload hx hb dL_law_1559 (lv_at hl 0 rfl) ?_
    refine lv_i2l hx hb dL_law_1561 rfl ?_
    refine W.lcmp hx hb dL_law_1562 ?_
    refine lv_tope (lgc_self _) ?_
    refine lv_if_eq (tgt := 1568) hx hb dL_law_1563 (by decide) (fun _ => ?_) (fun hq => absurd (show (0 : Int32) = 0 by decide) hq)
    refine lv_goto (tgt := 2262) hx hb dL_law_1568 (by decide) ?_
    exact kont _ _ _ _ _ _ _ _ _ (by omega) (by omega) hR2 (lv_sub hl [2, 3, 4, 5, 6, 7] rfl) hH hS
