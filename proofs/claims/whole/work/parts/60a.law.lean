set_option maxHeartbeats 4000000 in
set_option maxRecDepth 100000 in
theorem lc_addDisc {p : Program} {l : Launch} {e : Env} {s : State} {m : MethodId} {below : List Frame} {meth : Method} {c : Code} {E : wE} {b L : Nat} {xs : Nat → Int32} {Q : State → Prop} (hE : lwE p l s m meth c E b L xs) (i : Nat) (hi : 4 * i + 4 ≤ L) {o : wO} {g : Nat → Nat} {x y : St} (hR : Rel i x y) {H : Heap} {locs : List Loc} {ls : Array Slot} {cells slots : Nat} (hl : lv_has ls 9 (lwL b g i)) (hH : wHS E o g x y H) (hS : va_S (wA E) s.heap H locs) (hroom : cells + 40 ≤ 603072 ∧ slots + 500 ≤ 7219306)
    (kont : ∀ (o : wO) (g : Nat → Nat) (x y : St) (H : Heap) (locs : List Loc) (ls : Array Slot) (cells2 slots2 : Nat), cells2 ≤ cells + 40 → slots2 ≤ slots + 500 → Rel (i + 1) x y → lv_has ls 9 (lwL b g i) → wHS E o g x y H → va_S (wA E) s.heap H locs → W p l e room_1 s m #[Value.ref b] below meth c H locs cells2 slots2 Q (F0 m 2262 ls [])) : W p l e room_1 s m #[Value.ref b] below meth c H locs cells slots Q (F0 m 208 ls []) := by
  obtain ⟨hx, hb, hml, hown, hts, hr, hlocks, hX, hbl, hbA, hz, hK, hC, hDD, hNc, hlt, hL⟩ := hE
  obtain ⟨hI, hJ, hKK, hQ, hFrD, hFrB, hMI, hBK, hCS, hEQ⟩ := id hR
  have hl : lv_has ls 9 [(5, .int (nI (4 * i))), (0, .ref b), (1, .ref (g 0)), (2, .ref (g 10)), (3, .ref (g 40)), (4, .ref (g 41))] := hl
  refine lv_aload_n hx hb dL_law_208 rfl (lv_at hl 2 rfl) ?_
  refine lv_aload_n hx hb dL_law_209 rfl (lv_at hl 1 rfl) ?_
  refine lv_iload hx hb dL_law_210 (lv_at hl 0 rfl) ?_
  refine lv_iconst (v := 1) hx hb dL_law_212 (by decide) ?_
  refine lv_iadd hx hb dL_law_213 ?_
  refine lv_tope (nI_add (4 * i) 1) ?_
  refine va_sld hx hb hX hbl hbA hS (vp_in_nI (n := ((4 * i) + 1)) (N := L) (by omega) (by omega)) dL_law_214 ?_
  refine lv_aload_n hx hb dL_law_215 rfl (lv_at hl 1 rfl) ?_
  refine lv_iload hx hb dL_law_216 (lv_at hl 0 rfl) ?_
  refine lv_iconst (v := 2) hx hb dL_law_218 (by decide) ?_
  refine lv_iadd hx hb dL_law_219 ?_
  refine lv_tope (nI_add (4 * i) 2) ?_
  refine va_sld hx hb hX hbl hbA hS (vp_in_nI (n := ((4 * i) + 2)) (N := L) (by omega) (by omega)) dL_law_220 ?_
  refine lv_aload_n hx hb dL_law_221 rfl (lv_at hl 1 rfl) ?_
  refine lv_iload hx hb dL_law_222 (lv_at hl 0 rfl) ?_
  refine lv_iconst (v := 3) hx hb dL_law_224 (by decide) ?_
  refine lv_iadd hx hb dL_law_225 ?_
  refine lv_tope (nI_add (4 * i) 3) ?_
  refine va_sld hx hb hX hbl hbA hS (vp_in_nI (n := ((4 * i) + 3)) (N := L) (by omega) (by omega)) dL_law_226 ?_
  refine lv_aload_n hx hb dL_law_227 rfl (lv_at hl 4 rfl) ?_
  have hsim := sim_addDisc hR (by omega) (xs (nI ((4 * i) + 1)).toNatClampNeg) (xs (nI ((4 * i) + 2)).toNatClampNeg) (xs (nI ((4 * i) + 3)).toNatClampNeg)
  refine va_calli (vx_runSW (As := [.ref (g 0), .int (xs (nI ((4 * i) + 1)).toNatClampNeg), .int (xs (nI ((4 * i) + 2)).toNatClampNeg), .int (xs (nI ((4 * i) + 3)).toNatClampNeg), .ref (g 40)]) (rest := []) ⟨hx, hb, hml, hown, hts⟩ (met_L_addDisc l E o g x y (xs (nI ((4 * i) + 1)).toNatClampNeg) (xs (nI ((4 * i) + 2)).toNatClampNeg) (xs (nI ((4 * i) + 3)).toNatClampNeg) hlt hI hQ hFrD) (vx_cwSW 5 hts gL_law_L_addDisc rfl rfl rfl (by decide +kernel) ⟨Nat.le_of_ble_eq_true rfl, Nat.le_of_ble_eq_true rfl⟩) ⟨fun a U f mk q => ⟨q.1, wPreL.calling q.2 a f mk⟩, fun U hU hW => ⟨rfl, wPreL_at hz hS hH hK hC hDD hNc U hU hW⟩⟩ rfl rfl hl.1 rfl (lv_room (Nat.le_of_ble_eq_true rfl)) dL_law_228 ⟨by show _ ≤ 603072; omega, by show _ ≤ 7219306; omega⟩) hS (fun q _ h => h) (fun q h => h) (fun r9 u t H locs ht hvm hw hB hz1 hk1 hS => ?_)
  obtain ⟨hgE, hB⟩ := hB
  obtain ⟨o, g⟩ := u
  have hH : wHS E o g (cp_addDisc x (xs (nI ((4 * i) + 1)).toNatClampNeg) (xs (nI ((4 * i) + 2)).toNatClampNeg) (xs (nI ((4 * i) + 3)).toNatClampNeg)).2.2 y H := wHS_h ht hB
  rw [← hgE 0 (by decide) (by decide) (by decide), ← hgE 10 (by decide) (by decide) (by decide), ← hgE 40 (by decide) (by decide) (by decide), ← hgE 41 (by decide) (by decide) (by decide)] at hl
  have hl : lv_has ls 9 [(5, .int (nI (4 * i))), (0, .ref b), (1, .ref (g 0)), (2, .ref (g 10)), (3, .ref (g 40)), (4, .ref (g 41))] := hl
  have hkr := sim_r hsim hw.1 hw.2
  have hR2 := hsim.2.2.2
  refine lv_istore (lv' := [(6, .int r9), (5, .int (nI (4 * i))), (0, .ref b), (1, .ref (g 0)), (2, .ref (g 10)), (3, .ref (g 40)), (4, .ref (g 41))]) hx hb dL_law_231 hl (by decide) rfl (fun ls hl => ?_)
  refine lv_aload_n hx hb dL_law_233 rfl (lv_at hl 4 rfl) ?_
  refine lv_aload_n hx hb dL_law_234 rfl (lv_at hl 2 rfl) ?_
  refine lv_iload hx hb dL_law_235 (lv_at hl 1 rfl) ?_
  refine lv_iconst (v := 1) hx hb dL_law_237 (by decide) ?_
  refine lv_iadd hx hb dL_law_238 ?_
  refine lv_tope (nI_add (4 * i) 1) ?_
  refine va_sld hx hb hX hbl hbA hS (vp_in_nI (n := ((4 * i) + 1)) (N := L) (by omega) (by omega)) dL_law_239 ?_
  refine lv_aload_n hx hb dL_law_240 rfl (lv_at hl 2 rfl) ?_
  refine lv_iload hx hb dL_law_241 (lv_at hl 1 rfl) ?_
  refine lv_iconst (v := 2) hx hb dL_law_243 (by decide) ?_
  refine lv_iadd hx hb dL_law_244 ?_
  refine lv_tope (nI_add (4 * i) 2) ?_
  refine va_sld hx hb hX hbl hbA hS (vp_in_nI (n := ((4 * i) + 2)) (N := L) (by omega) (by omega)) dL_law_245 ?_
  refine lv_aload_n hx hb dL_law_246 rfl (lv_at hl 2 rfl) ?_
  refine lv_iload hx hb dL_law_247 (lv_at hl 1 rfl) ?_
  refine lv_iconst (v := 3) hx hb dL_law_249 (by decide) ?_
  refine lv_iadd hx hb dL_law_250 ?_
  refine lv_tope (nI_add (4 * i) 3) ?_
  refine va_sld hx hb hX hbl hbA hS (vp_in_nI (n := ((4 * i) + 3)) (N := L) (by omega) (by omega)) dL_law_251 ?_
  refine va_calli (va_runV (As := [.int (xs (nI ((4 * i) + 1)).toNatClampNeg), .int (xs (nI ((4 * i) + 2)).toNatClampNeg), .int (xs (nI ((4 * i) + 3)).toNatClampNeg)]) (rest := []) ⟨hx, hb, hml, hown, hts⟩ (met_X5_addDisc l E o g (cp_addDisc x (xs (nI ((4 * i) + 1)).toNatClampNeg) (xs (nI ((4 * i) + 2)).toNatClampNeg) (xs (nI ((4 * i) + 3)).toNatClampNeg)).2.2 y (xs (nI ((4 * i) + 1)).toNatClampNeg) (xs (nI ((4 * i) + 2)).toNatClampNeg) (xs (nI ((4 * i) + 3)).toNatClampNeg) hMI) (cwV 3 hts gL_law_X5_addDisc rfl rfl rfl (by decide +kernel) ⟨Nat.le_of_ble_eq_true rfl, Nat.le_of_ble_eq_true rfl⟩) ⟨fun a U f mk q => ⟨q.1, wPre.calling q.2 a f mk⟩, (va_recv hK (wH_one hH (lv_md (by decide) (by decide)) (cel_md (by decide) (by decide))) (ci := 7) (q0 := 0) rfl rfl), fun U hU hW => ⟨rfl, wPre_at hz hS hH hK U hU hW⟩⟩ rfl rfl hl.1 rfl (lv_room (Nat.le_of_ble_eq_true rfl)) dL_law_252 ⟨by show _ ≤ 603072; omega, by show _ ≤ 7219306; omega⟩) hS (fun q _ h => h) (fun q h => h) (fun r8 u t H locs ht hvm hw8 hB hz1 hk1 hS => ?_)
  have hH : wHS E o g (cp_addDisc x (xs (nI ((4 * i) + 1)).toNatClampNeg) (xs (nI ((4 * i) + 2)).toNatClampNeg) (xs (nI ((4 * i) + 3)).toNatClampNeg)).2.2 (mp_addDisc y (xs (nI ((4 * i) + 1)).toNatClampNeg) (xs (nI ((4 * i) + 2)).toNatClampNeg) (xs (nI ((4 * i) + 3)).toNatClampNeg)).2 H := wHS_h ht hB
  obtain rfl := hw8
  refine lv_istore (lv' := [(7, .int ((mp_addDisc y (xs (nI ((4 * i) + 1)).toNatClampNeg) (xs (nI ((4 * i) + 2)).toNatClampNeg) (xs (nI ((4 * i) + 3)).toNatClampNeg)).1)), (6, .int r9), (5, .int (nI (4 * i))), (0, .ref b), (1, .ref (g 0)), (2, .ref (g 10)), (3, .ref (g 40)), (4, .ref (g 41))]) hx hb dL_law_255 hl (by decide) rfl (fun ls hl => ?_)
  refine lv_aload_n hx hb dL_law_257 rfl (lv_at hl 5 rfl) ?_
  refine va_calli (va_runV (As := []) (rest := []) ⟨hx, hb, hml, hown, hts⟩ (met_X5_thrown l E o g (cp_addDisc x (xs (nI ((4 * i) + 1)).toNatClampNeg) (xs (nI ((4 * i) + 2)).toNatClampNeg) (xs (nI ((4 * i) + 3)).toNatClampNeg)).2.2 (mp_addDisc y (xs (nI ((4 * i) + 1)).toNatClampNeg) (xs (nI ((4 * i) + 2)).toNatClampNeg) (xs (nI ((4 * i) + 3)).toNatClampNeg)).2 hR2.2.2.2.2.2.2.1) (cwV 0 hts gL_law_X5_thrown rfl rfl rfl (by decide +kernel) ⟨Nat.le_of_ble_eq_true rfl, Nat.le_of_ble_eq_true rfl⟩) ⟨fun a U f mk q => ⟨q.1, wPre.calling q.2 a f mk⟩, (va_recv hK (wH_one hH (lv_md (by decide) (by decide)) (cel_md (by decide) (by decide))) (ci := 7) (q0 := 0) rfl rfl), fun U hU hW => ⟨rfl, wPre_at hz hS hH hK U hU hW⟩⟩ rfl rfl hl.1 rfl (lv_room (Nat.le_of_ble_eq_true rfl)) dL_law_258 ⟨by show _ ≤ 603072; omega, by show _ ≤ 7219306; omega⟩) hS (fun q _ h => h) (fun q h => h) (fun r8 u t H locs ht hvm hw8 hB hz1 hk1 hS => ?_)
  have hH : wHS E o g (cp_addDisc x (xs (nI ((4 * i) + 1)).toNatClampNeg) (xs (nI ((4 * i) + 2)).toNatClampNeg) (xs (nI ((4 * i) + 3)).toNatClampNeg)).2.2 (mp_addDisc y (xs (nI ((4 * i) + 1)).toNatClampNeg) (xs (nI ((4 * i) + 2)).toNatClampNeg) (xs (nI ((4 * i) + 3)).toNatClampNeg)).2 H := wHS_h ht hB
  have hw8 : r8 = (mp_addDisc y (xs (nI ((4 * i) + 1)).toNatClampNeg) (xs (nI ((4 * i) + 2)).toNatClampNeg) (xs (nI ((4 * i) + 3)).toNatClampNeg)).2.2 28 0 := hw8
  obtain rfl := hw8
  refine lv_iload hx hb dL_law_261 (lv_at hl 1 rfl) ?_
  refine lv_icmp_eq (tgt := 268) hx hb dL_law_263 (by decide) (fun _ => ?_) (fun hq => absurd hkr hq)
  refine lv_iload hx hb dL_law_268 (lv_at hl 1 rfl) ?_
  refine lv_if_ne (tgt := 285) hx hb dL_law_270 (by decide) (fun h9 => ?_) (fun h9 => ?_)
  · skip
    refine lv_goto (tgt := 2262) hx hb dL_law_285 (by decide) ?_
    exact kont _ _ _ _ _ _ _ _ _ (by omega) (by omega) hR2 (lv_sub hl [2, 3, 4, 5, 6, 7] rfl) hH hS
  · obtain ⟨hnn, hval⟩ := sim_n (by decide) hw.1 hw.2 h9
    have hres := hsim.2.2.1 hnn
    rw [hres] at hval
    refine lv_aload_n hx hb dL_law_273 rfl (lv_at hl 6 rfl) ?_
    refine lv_iconst (v := 0) hx hb dL_law_274 (by decide) ?_
    refine wr_lald (t := 40) (v := ((mp_addDisc y (xs (nI ((4 * i) + 1)).toNatClampNeg) (xs (nI ((4 * i) + 2)).toNatClampNeg) (xs (nI ((4 * i) + 3)).toNatClampNeg)).1).toInt64) hx hb hK hH lv_o1 rfl 4 rfl (by unfold vp_in; decide) (by rw [show (0 : Int32).toNatClampNeg = 0 from rfl]; exact hval) dL_law_275 ?_
    refine lv_iload hx hb dL_law_276 (lv_at hl 0 rfl) ?_
    refine lv_i2l hx hb dL_law_278 rfl ?_
    refine W.lcmp hx hb dL_law_279 ?_
    refine lv_tope (lgc_self _) ?_
    refine lv_if_eq (tgt := 285) hx hb dL_law_280 (by decide) (fun _ => ?_) (fun hq => absurd (show (0 : Int32) = 0 by decide) hq)
    refine lv_goto (tgt := 2262) hx hb dL_law_285 (by decide) ?_
    exact kont _ _ _ _ _ _ _ _ _ (by omega) (by omega) hR2 (lv_sub hl [2, 3, 4, 5, 6, 7] rfl) hH hS
set_option maxHeartbeats 4000000 in
set_option maxRecDepth 100000 in
theorem lc_addBox {p : Program} {l : Launch} {e : Env} {s : State} {m : MethodId} {below : List Frame} {meth : Method} {c : Code} {E : wE} {b L : Nat} {xs : Nat → Int32} {Q : State → Prop} (hE : lwE p l s m meth c E b L xs) (i : Nat) (hi : 4 * i + 4 ≤ L) {o : wO} {g : Nat → Nat} {x y : St} (hR : Rel i x y) {H : Heap} {locs : List Loc} {ls : Array Slot} {cells slots : Nat} (hl : lv_has ls 9 (lwL b g i)) (hH : wHS E o g x y H) (hS : va_S (wA E) s.heap H locs) (hroom : cells + 40 ≤ 603072 ∧ slots + 500 ≤ 7219306)
    (kont : ∀ (o : wO) (g : Nat → Nat) (x y : St) (H : Heap) (locs : List Loc) (ls : Array Slot) (cells2 slots2 : Nat), cells2 ≤ cells + 40 → slots2 ≤ slots + 500 → Rel (i + 1) x y → lv_has ls 9 (lwL b g i) → wHS E o g x y H → va_S (wA E) s.heap H locs → W p l e room_1 s m #[Value.ref b] below meth c H locs cells2 slots2 Q (F0 m 2262 ls [])) : W p l e room_1 s m #[Value.ref b] below meth c H locs cells slots Q (F0 m 288 ls []) := by
  obtain ⟨hx, hb, hml, hown, hts, hr, hlocks, hX, hbl, hbA, hz, hK, hC, hDD, hNc, hlt, hL⟩ := hE
  obtain ⟨hI, hJ, hKK, hQ, hFrD, hFrB, hMI, hBK, hCS, hEQ⟩ := id hR
  have hl : lv_has ls 9 [(5, .int (nI (4 * i))), (0, .ref b), (1, .ref (g 0)), (2, .ref (g 10)), (3, .ref (g 40)), (4, .ref (g 41))] := hl
  refine lv_aload_n hx hb dL_law_288 rfl (lv_at hl 2 rfl) ?_
  refine lv_aload_n hx hb dL_law_289 rfl (lv_at hl 1 rfl) ?_
  refine lv_iload hx hb dL_law_290 (lv_at hl 0 rfl) ?_
  refine lv_iconst (v := 1) hx hb dL_law_292 (by decide) ?_
  refine lv_iadd hx hb dL_law_293 ?_
  refine lv_tope (nI_add (4 * i) 1) ?_
  refine va_sld hx hb hX hbl hbA hS (vp_in_nI (n := ((4 * i) + 1)) (N := L) (by omega) (by omega)) dL_law_294 ?_
  refine lv_aload_n hx hb dL_law_295 rfl (lv_at hl 1 rfl) ?_
  refine lv_iload hx hb dL_law_296 (lv_at hl 0 rfl) ?_
  refine lv_iconst (v := 2) hx hb dL_law_298 (by decide) ?_
  refine lv_iadd hx hb dL_law_299 ?_
  refine lv_tope (nI_add (4 * i) 2) ?_
  refine va_sld hx hb hX hbl hbA hS (vp_in_nI (n := ((4 * i) + 2)) (N := L) (by omega) (by omega)) dL_law_300 ?_
  refine lv_aload_n hx hb dL_law_301 rfl (lv_at hl 4 rfl) ?_
  have hsim := sim_addBox hR (by omega) (xs (nI ((4 * i) + 1)).toNatClampNeg) (xs (nI ((4 * i) + 2)).toNatClampNeg)
  refine va_calli (vx_runSW (As := [.ref (g 0), .int (xs (nI ((4 * i) + 1)).toNatClampNeg), .int (xs (nI ((4 * i) + 2)).toNatClampNeg), .ref (g 40)]) (rest := []) ⟨hx, hb, hml, hown, hts⟩ (met_L_addBox l E o g x y (xs (nI ((4 * i) + 1)).toNatClampNeg) (xs (nI ((4 * i) + 2)).toNatClampNeg) hlt hI hQ hFrB) (vx_cwSW 4 hts gL_law_L_addBox rfl rfl rfl (by decide +kernel) ⟨Nat.le_of_ble_eq_true rfl, Nat.le_of_ble_eq_true rfl⟩) ⟨fun a U f mk q => ⟨q.1, wPreL.calling q.2 a f mk⟩, fun U hU hW => ⟨rfl, wPreL_at hz hS hH hK hC hDD hNc U hU hW⟩⟩ rfl rfl hl.1 rfl (lv_room (Nat.le_of_ble_eq_true rfl)) dL_law_302 ⟨by show _ ≤ 603072; omega, by show _ ≤ 7219306; omega⟩) hS (fun q _ h => h) (fun q h => h) (fun r9 u t H locs ht hvm hw hB hz1 hk1 hS => ?_)
  obtain ⟨hgE, hB⟩ := hB
  obtain ⟨o, g⟩ := u
  have hH : wHS E o g (cp_addBox x (xs (nI ((4 * i) + 1)).toNatClampNeg) (xs (nI ((4 * i) + 2)).toNatClampNeg)).2.2 y H := wHS_h ht hB
  rw [← hgE 0 (by decide) (by decide) (by decide), ← hgE 10 (by decide) (by decide) (by decide), ← hgE 40 (by decide) (by decide) (by decide), ← hgE 41 (by decide) (by decide) (by decide)] at hl
  have hl : lv_has ls 9 [(5, .int (nI (4 * i))), (0, .ref b), (1, .ref (g 0)), (2, .ref (g 10)), (3, .ref (g 40)), (4, .ref (g 41))] := hl
  have hkr := sim_r hsim hw.1 hw.2
  have hR2 := hsim.2.2.2
  refine lv_istore (lv' := [(6, .int r9), (5, .int (nI (4 * i))), (0, .ref b), (1, .ref (g 0)), (2, .ref (g 10)), (3, .ref (g 40)), (4, .ref (g 41))]) hx hb dL_law_305 hl (by decide) rfl (fun ls hl => ?_)
  refine lv_aload_n hx hb dL_law_307 rfl (lv_at hl 4 rfl) ?_
  refine lv_aload_n hx hb dL_law_308 rfl (lv_at hl 2 rfl) ?_
  refine lv_iload hx hb dL_law_309 (lv_at hl 1 rfl) ?_
  refine lv_iconst (v := 1) hx hb dL_law_311 (by decide) ?_
  refine lv_iadd hx hb dL_law_312 ?_
  refine lv_tope (nI_add (4 * i) 1) ?_
  refine va_sld hx hb hX hbl hbA hS (vp_in_nI (n := ((4 * i) + 1)) (N := L) (by omega) (by omega)) dL_law_313 ?_
  refine lv_aload_n hx hb dL_law_314 rfl (lv_at hl 2 rfl) ?_
  refine lv_iload hx hb dL_law_315 (lv_at hl 1 rfl) ?_
  refine lv_iconst (v := 2) hx hb dL_law_317 (by decide) ?_
  refine lv_iadd hx hb dL_law_318 ?_
  refine lv_tope (nI_add (4 * i) 2) ?_
  refine va_sld hx hb hX hbl hbA hS (vp_in_nI (n := ((4 * i) + 2)) (N := L) (by omega) (by omega)) dL_law_319 ?_
  refine va_calli (va_runV (As := [.int (xs (nI ((4 * i) + 1)).toNatClampNeg), .int (xs (nI ((4 * i) + 2)).toNatClampNeg)]) (rest := []) ⟨hx, hb, hml, hown, hts⟩ (met_X5_addBox l E o g (cp_addBox x (xs (nI ((4 * i) + 1)).toNatClampNeg) (xs (nI ((4 * i) + 2)).toNatClampNeg)).2.2 y (xs (nI ((4 * i) + 1)).toNatClampNeg) (xs (nI ((4 * i) + 2)).toNatClampNeg) hMI) (cwV 2 hts gL_law_X5_addBox rfl rfl rfl (by decide +kernel) ⟨Nat.le_of_ble_eq_true rfl, Nat.le_of_ble_eq_true rfl⟩) ⟨fun a U f mk q => ⟨q.1, wPre.calling q.2 a f mk⟩, (va_recv hK (wH_one hH (lv_md (by decide) (by decide)) (cel_md (by decide) (by decide))) (ci := 7) (q0 := 0) rfl rfl), fun U hU hW => ⟨rfl, wPre_at hz hS hH hK U hU hW⟩⟩ rfl rfl hl.1 rfl (lv_room (Nat.le_of_ble_eq_true rfl)) dL_law_320 ⟨by show _ ≤ 603072; omega, by show _ ≤ 7219306; omega⟩) hS (fun q _ h => h) (fun q h => h) (fun r8 u t H locs ht hvm hw8 hB hz1 hk1 hS => ?_)
  have hH : wHS E o g (cp_addBox x (xs (nI ((4 * i) + 1)).toNatClampNeg) (xs (nI ((4 * i) + 2)).toNatClampNeg)).2.2 (mp_addBox y (xs (nI ((4 * i) + 1)).toNatClampNeg) (xs (nI ((4 * i) + 2)).toNatClampNeg)).2 H := wHS_h ht hB
  obtain rfl := hw8
  refine lv_istore (lv' := [(7, .int ((mp_addBox y (xs (nI ((4 * i) + 1)).toNatClampNeg) (xs (nI ((4 * i) + 2)).toNatClampNeg)).1)), (6, .int r9), (5, .int (nI (4 * i))), (0, .ref b), (1, .ref (g 0)), (2, .ref (g 10)), (3, .ref (g 40)), (4, .ref (g 41))]) hx hb dL_law_323 hl (by decide) rfl (fun ls hl => ?_)
  refine lv_aload_n hx hb dL_law_325 rfl (lv_at hl 5 rfl) ?_
  refine va_calli (va_runV (As := []) (rest := []) ⟨hx, hb, hml, hown, hts⟩ (met_X5_thrown l E o g (cp_addBox x (xs (nI ((4 * i) + 1)).toNatClampNeg) (xs (nI ((4 * i) + 2)).toNatClampNeg)).2.2 (mp_addBox y (xs (nI ((4 * i) + 1)).toNatClampNeg) (xs (nI ((4 * i) + 2)).toNatClampNeg)).2 hR2.2.2.2.2.2.2.1) (cwV 0 hts gL_law_X5_thrown rfl rfl rfl (by decide +kernel) ⟨Nat.le_of_ble_eq_true rfl, Nat.le_of_ble_eq_true rfl⟩) ⟨fun a U f mk q => ⟨q.1, wPre.calling q.2 a f mk⟩, (va_recv hK (wH_one hH (lv_md (by decide) (by decide)) (cel_md (by decide) (by decide))) (ci := 7) (q0 := 0) rfl rfl), fun U hU hW => ⟨rfl, wPre_at hz hS hH hK U hU hW⟩⟩ rfl rfl hl.1 rfl (lv_room (Nat.le_of_ble_eq_true rfl)) dL_law_326 ⟨by show _ ≤ 603072; omega, by show _ ≤ 7219306; omega⟩) hS (fun q _ h => h) (fun q h => h) (fun r8 u t H locs ht hvm hw8 hB hz1 hk1 hS => ?_)
  have hH : wHS E o g (cp_addBox x (xs (nI ((4 * i) + 1)).toNatClampNeg) (xs (nI ((4 * i) + 2)).toNatClampNeg)).2.2 (mp_addBox y (xs (nI ((4 * i) + 1)).toNatClampNeg) (xs (nI ((4 * i) + 2)).toNatClampNeg)).2 H := wHS_h ht hB
  have hw8 : r8 = (mp_addBox y (xs (nI ((4 * i) + 1)).toNatClampNeg) (xs (nI ((4 * i) + 2)).toNatClampNeg)).2.2 28 0 := hw8
  obtain rfl := hw8
  refine lv_iload hx hb dL_law_329 (lv_at hl 1 rfl) ?_
  refine lv_icmp_eq (tgt := 336) hx hb dL_law_331 (by decide) (fun _ => ?_) (fun hq => absurd hkr hq)
  refine lv_iload hx hb dL_law_336 (lv_at hl 1 rfl) ?_
  refine lv_if_ne (tgt := 353) hx hb dL_law_338 (by decide) (fun h9 => ?_) (fun h9 => ?_)
  · skip
    refine lv_goto (tgt := 2262) hx hb dL_law_353 (by decide) ?_
    exact kont _ _ _ _ _ _ _ _ _ (by omega) (by omega) hR2 (lv_sub hl [2, 3, 4, 5, 6, 7] rfl) hH hS
  · obtain ⟨hnn, hval⟩ := sim_n (by decide) hw.1 hw.2 h9
    have hres := hsim.2.2.1 hnn
    rw [hres] at hval
    refine lv_aload_n hx hb dL_law_341 rfl (lv_at hl 6 rfl) ?_
    refine lv_iconst (v := 0) hx hb dL_law_342 (by decide) ?_
    refine wr_lald (t := 40) (v := ((mp_addBox y (xs (nI ((4 * i) + 1)).toNatClampNeg) (xs (nI ((4 * i) + 2)).toNatClampNeg)).1).toInt64) hx hb hK hH lv_o1 rfl 4 rfl (by unfold vp_in; decide) (by rw [show (0 : Int32).toNatClampNeg = 0 from rfl]; exact hval) dL_law_343 ?_
    refine lv_iload hx hb dL_law_344 (lv_at hl 0 rfl) ?_
    refine lv_i2l hx hb dL_law_346 rfl ?_
    refine W.lcmp hx hb dL_law_347 ?_
    refine lv_tope (lgc_self _) ?_
    refine lv_if_eq (tgt := 353) hx hb dL_law_348 (by decide) (fun _ => ?_) (fun hq => absurd (show (0 : Int32) = 0 by decide) hq)
    refine lv_goto (tgt := 2262) hx hb dL_law_353 (by decide) ?_
    exact kont _ _ _ _ _ _ _ _ _ (by omega) (by omega) hR2 (lv_sub hl [2, 3, 4, 5, 6, 7] rfl) hH hS
set_option maxHeartbeats 4000000 in
set_option maxRecDepth 100000 in
theorem lc_setRisk {p : Program} {l : Launch} {e : Env} {s : State} {m : MethodId} {below : List Frame} {meth : Method} {c : Code} {E : wE} {b L : Nat} {xs : Nat → Int32} {Q : State → Prop} (hE : lwE p l s m meth c E b L xs) (i : Nat) (hi : 4 * i + 4 ≤ L) {o : wO} {g : Nat → Nat} {x y : St} (hR : Rel i x y) {H : Heap} {locs : List Loc} {ls : Array Slot} {cells slots : Nat} (hl : lv_has ls 9 (lwL b g i)) (hH : wHS E o g x y H) (hS : va_S (wA E) s.heap H locs) (hroom : cells + 40 ≤ 603072 ∧ slots + 500 ≤ 7219306)
    (kont : ∀ (o : wO) (g : Nat → Nat) (x y : St) (H : Heap) (locs : List Loc) (ls : Array Slot) (cells2 slots2 : Nat), cells2 ≤ cells + 40 → slots2 ≤ slots + 500 → Rel (i + 1) x y → lv_has ls 9 (lwL b g i) → wHS E o g x y H → va_S (wA E) s.heap H locs → W p l e room_1 s m #[Value.ref b] below meth c H locs cells2 slots2 Q (F0 m 2262 ls [])) : W p l e room_1 s m #[Value.ref b] below meth c H locs cells slots Q (F0 m 356 ls []) := by
  obtain ⟨hx, hb, hml, hown, hts, hr, hlocks, hX, hbl, hbA, hz, hK, hC, hDD, hNc, hlt, hL⟩ := hE
  obtain ⟨hI, hJ, hKK, hQ, hFrD, hFrB, hMI, hBK, hCS, hEQ⟩ := id hR
  have hl : lv_has ls 9 [(5, .int (nI (4 * i))), (0, .ref b), (1, .ref (g 0)), (2, .ref (g 10)), (3, .ref (g 40)), (4, .ref (g 41))] := hl
  refine lv_aload_n hx hb dL_law_356 rfl (lv_at hl 2 rfl) ?_
  refine lv_aload_n hx hb dL_law_357 rfl (lv_at hl 1 rfl) ?_
  refine lv_iload hx hb dL_law_358 (lv_at hl 0 rfl) ?_
  refine lv_iconst (v := 1) hx hb dL_law_360 (by decide) ?_
  refine lv_iadd hx hb dL_law_361 ?_
  refine lv_tope (nI_add (4 * i) 1) ?_
  refine va_sld hx hb hX hbl hbA hS (vp_in_nI (n := ((4 * i) + 1)) (N := L) (by omega) (by omega)) dL_law_362 ?_
  refine lv_aload_n hx hb dL_law_363 rfl (lv_at hl 1 rfl) ?_
  refine lv_iload hx hb dL_law_364 (lv_at hl 0 rfl) ?_
  refine lv_iconst (v := 2) hx hb dL_law_366 (by decide) ?_
  refine lv_iadd hx hb dL_law_367 ?_
  refine lv_tope (nI_add (4 * i) 2) ?_
  refine va_sld hx hb hX hbl hbA hS (vp_in_nI (n := ((4 * i) + 2)) (N := L) (by omega) (by omega)) dL_law_368 ?_
  refine lv_aload_n hx hb dL_law_369 rfl (lv_at hl 4 rfl) ?_
  have hsim := sim_setRisk hR (by omega) (xs (nI ((4 * i) + 1)).toNatClampNeg) (xs (nI ((4 * i) + 2)).toNatClampNeg)
  refine va_calli (vx_runSW (As := [.ref (g 0), .int (xs (nI ((4 * i) + 1)).toNatClampNeg), .int (xs (nI ((4 * i) + 2)).toNatClampNeg), .ref (g 40)]) (rest := []) ⟨hx, hb, hml, hown, hts⟩ (met_L_setRisk l E o g x y (xs (nI ((4 * i) + 1)).toNatClampNeg) (xs (nI ((4 * i) + 2)).toNatClampNeg) hlt hI) (vx_cwSW 4 hts gL_law_L_setRisk rfl rfl rfl (by decide +kernel) ⟨Nat.le_of_ble_eq_true rfl, Nat.le_of_ble_eq_true rfl⟩) ⟨fun a U f mk q => ⟨q.1, wPreL.calling q.2 a f mk⟩, fun U hU hW => ⟨rfl, wPreL_at hz hS hH hK hC hDD hNc U hU hW⟩⟩ rfl rfl hl.1 rfl (lv_room (Nat.le_of_ble_eq_true rfl)) dL_law_370 ⟨by show _ ≤ 603072; omega, by show _ ≤ 7219306; omega⟩) hS (fun q _ h => h) (fun q h => h) (fun r9 u t H locs ht hvm hw hB hz1 hk1 hS => ?_)
  obtain ⟨hgE, hB⟩ := hB
  obtain ⟨o, g⟩ := u
  have hH : wHS E o g (cp_setRisk x (xs (nI ((4 * i) + 1)).toNatClampNeg) (xs (nI ((4 * i) + 2)).toNatClampNeg)).2.2 y H := wHS_h ht hB
  rw [← hgE 0 (by decide) (by decide) (by decide), ← hgE 10 (by decide) (by decide) (by decide), ← hgE 40 (by decide) (by decide) (by decide), ← hgE 41 (by decide) (by decide) (by decide)] at hl
  have hl : lv_has ls 9 [(5, .int (nI (4 * i))), (0, .ref b), (1, .ref (g 0)), (2, .ref (g 10)), (3, .ref (g 40)), (4, .ref (g 41))] := hl
  have hkr := sim_r hsim hw.1 hw.2
  have hR2 := hsim.2.2.2
  refine lv_istore (lv' := [(6, .int r9), (5, .int (nI (4 * i))), (0, .ref b), (1, .ref (g 0)), (2, .ref (g 10)), (3, .ref (g 40)), (4, .ref (g 41))]) hx hb dL_law_373 hl (by decide) rfl (fun ls hl => ?_)
  refine lv_aload_n hx hb dL_law_375 rfl (lv_at hl 4 rfl) ?_
  refine lv_aload_n hx hb dL_law_376 rfl (lv_at hl 2 rfl) ?_
  refine lv_iload hx hb dL_law_377 (lv_at hl 1 rfl) ?_
  refine lv_iconst (v := 1) hx hb dL_law_379 (by decide) ?_
  refine lv_iadd hx hb dL_law_380 ?_
  refine lv_tope (nI_add (4 * i) 1) ?_
  refine va_sld hx hb hX hbl hbA hS (vp_in_nI (n := ((4 * i) + 1)) (N := L) (by omega) (by omega)) dL_law_381 ?_
  refine lv_aload_n hx hb dL_law_382 rfl (lv_at hl 2 rfl) ?_
  refine lv_iload hx hb dL_law_383 (lv_at hl 1 rfl) ?_
  refine lv_iconst (v := 2) hx hb dL_law_385 (by decide) ?_
  refine lv_iadd hx hb dL_law_386 ?_
  refine lv_tope (nI_add (4 * i) 2) ?_
  refine va_sld hx hb hX hbl hbA hS (vp_in_nI (n := ((4 * i) + 2)) (N := L) (by omega) (by omega)) dL_law_387 ?_
  refine va_calli (va_runV (As := [.int (xs (nI ((4 * i) + 1)).toNatClampNeg), .int (xs (nI ((4 * i) + 2)).toNatClampNeg)]) (rest := []) ⟨hx, hb, hml, hown, hts⟩ (met_X5_setRisk l E o g (cp_setRisk x (xs (nI ((4 * i) + 1)).toNatClampNeg) (xs (nI ((4 * i) + 2)).toNatClampNeg)).2.2 y (xs (nI ((4 * i) + 1)).toNatClampNeg) (xs (nI ((4 * i) + 2)).toNatClampNeg) hMI) (cwV 2 hts gL_law_X5_setRisk rfl rfl rfl (by decide +kernel) ⟨Nat.le_of_ble_eq_true rfl, Nat.le_of_ble_eq_true rfl⟩) ⟨fun a U f mk q => ⟨q.1, wPre.calling q.2 a f mk⟩, (va_recv hK (wH_one hH (lv_md (by decide) (by decide)) (cel_md (by decide) (by decide))) (ci := 7) (q0 := 0) rfl rfl), fun U hU hW => ⟨rfl, wPre_at hz hS hH hK U hU hW⟩⟩ rfl rfl hl.1 rfl (lv_room (Nat.le_of_ble_eq_true rfl)) dL_law_388 ⟨by show _ ≤ 603072; omega, by show _ ≤ 7219306; omega⟩) hS (fun q _ h => h) (fun q h => h) (fun r8 u t H locs ht hvm hw8 hB hz1 hk1 hS => ?_)
  have hH : wHS E o g (cp_setRisk x (xs (nI ((4 * i) + 1)).toNatClampNeg) (xs (nI ((4 * i) + 2)).toNatClampNeg)).2.2 (mp_setRisk y (xs (nI ((4 * i) + 1)).toNatClampNeg) (xs (nI ((4 * i) + 2)).toNatClampNeg)).2 H := wHS_h ht hB
  obtain rfl := hw8
  refine lv_istore (lv' := [(7, .int ((mp_setRisk y (xs (nI ((4 * i) + 1)).toNatClampNeg) (xs (nI ((4 * i) + 2)).toNatClampNeg)).1)), (6, .int r9), (5, .int (nI (4 * i))), (0, .ref b), (1, .ref (g 0)), (2, .ref (g 10)), (3, .ref (g 40)), (4, .ref (g 41))]) hx hb dL_law_391 hl (by decide) rfl (fun ls hl => ?_)
  refine lv_aload_n hx hb dL_law_393 rfl (lv_at hl 5 rfl) ?_
  refine va_calli (va_runV (As := []) (rest := []) ⟨hx, hb, hml, hown, hts⟩ (met_X5_thrown l E o g (cp_setRisk x (xs (nI ((4 * i) + 1)).toNatClampNeg) (xs (nI ((4 * i) + 2)).toNatClampNeg)).2.2 (mp_setRisk y (xs (nI ((4 * i) + 1)).toNatClampNeg) (xs (nI ((4 * i) + 2)).toNatClampNeg)).2 hR2.2.2.2.2.2.2.1) (cwV 0 hts gL_law_X5_thrown rfl rfl rfl (by decide +kernel) ⟨Nat.le_of_ble_eq_true rfl, Nat.le_of_ble_eq_true rfl⟩) ⟨fun a U f mk q => ⟨q.1, wPre.calling q.2 a f mk⟩, (va_recv hK (wH_one hH (lv_md (by decide) (by decide)) (cel_md (by decide) (by decide))) (ci := 7) (q0 := 0) rfl rfl), fun U hU hW => ⟨rfl, wPre_at hz hS hH hK U hU hW⟩⟩ rfl rfl hl.1 rfl (lv_room (Nat.le_of_ble_eq_true rfl)) dL_law_394 ⟨by show _ ≤ 603072; omega, by show _ ≤ 7219306; omega⟩) hS (fun q _ h => h) (fun q h => h) (fun r8 u t H locs ht hvm hw8 hB hz1 hk1 hS => ?_)
  have hH : wHS E o g (cp_setRisk x (xs (nI ((4 * i) + 1)).toNatClampNeg) (xs (nI ((4 * i) + 2)).toNatClampNeg)).2.2 (mp_setRisk y (xs (nI ((4 * i) + 1)).toNatClampNeg) (xs (nI ((4 * i) + 2)).toNatClampNeg)).2 H := wHS_h ht hB
  have hw8 : r8 = (mp_setRisk y (xs (nI ((4 * i) + 1)).toNatClampNeg) (xs (nI ((4 * i) + 2)).toNatClampNeg)).2.2 28 0 := hw8
  obtain rfl := hw8
  refine lv_iload hx hb dL_law_397 (lv_at hl 1 rfl) ?_
  refine lv_icmp_eq (tgt := 404) hx hb dL_law_399 (by decide) (fun _ => ?_) (fun hq => absurd hkr hq)
  refine lv_iload hx hb dL_law_404 (lv_at hl 1 rfl) ?_
  refine lv_if_ne (tgt := 421) hx hb dL_law_406 (by decide) (fun h9 => ?_) (fun h9 => ?_)
  · skip
    refine lv_goto (tgt := 2262) hx hb dL_law_421 (by decide) ?_
    exact kont _ _ _ _ _ _ _ _ _ (by omega) (by omega) hR2 (lv_sub hl [2, 3, 4, 5, 6, 7] rfl) hH hS
  · obtain ⟨hnn, hval⟩ := sim_n (by decide) hw.1 hw.2 h9
    have hres := hsim.2.2.1 hnn
    rw [hres] at hval
    refine lv_aload_n hx hb dL_law_409 rfl (lv_at hl 6 rfl) ?_
    refine lv_iconst (v := 0) hx hb dL_law_410 (by decide) ?_
    refine wr_lald (t := 40) (v := ((mp_setRisk y (xs (nI ((4 * i) + 1)).toNatClampNeg) (xs (nI ((4 * i) + 2)).toNatClampNeg)).1).toInt64) hx hb hK hH lv_o1 rfl 4 rfl (by unfold vp_in; decide) (by rw [show (0 : Int32).toNatClampNeg = 0 from rfl]; exact hval) dL_law_411 ?_
    refine lv_iload hx hb dL_law_412 (lv_at hl 0 rfl) ?_
    refine lv_i2l hx hb dL_law_414 rfl ?_
    refine W.lcmp hx hb dL_law_415 ?_
    refine lv_tope (lgc_self _) ?_
    refine lv_if_eq (tgt := 421) hx hb dL_law_416 (by decide) (fun _ => ?_) (fun hq => absurd (show (0 : Int32) = 0 by decide) hq)
    refine lv_goto (tgt := 2262) hx hb dL_law_421 (by decide) ?_
    exact kont _ _ _ _ _ _ _ _ _ (by omega) (by omega) hR2 (lv_sub hl [2, 3, 4, 5, 6, 7] rfl) hH hS
set_option maxHeartbeats 4000000 in
set_option maxRecDepth 100000 in
theorem lc_setSeed {p : Program} {l : Launch} {e : Env} {s : State} {m : MethodId} {below : List Frame} {meth : Method} {c : Code} {E : wE} {b L : Nat} {xs : Nat → Int32} {Q : State → Prop} (hE : lwE p l s m meth c E b L xs) (i : Nat) (hi : 4 * i + 4 ≤ L) {o : wO} {g : Nat → Nat} {x y : St} (hR : Rel i x y) {H : Heap} {locs : List Loc} {ls : Array Slot} {cells slots : Nat} (hl : lv_has ls 9 (lwL b g i)) (hH : wHS E o g x y H) (hS : va_S (wA E) s.heap H locs) (hroom : cells + 40 ≤ 603072 ∧ slots + 500 ≤ 7219306)
    (kont : ∀ (o : wO) (g : Nat → Nat) (x y : St) (H : Heap) (locs : List Loc) (ls : Array Slot) (cells2 slots2 : Nat), cells2 ≤ cells + 40 → slots2 ≤ slots + 500 → Rel (i + 1) x y → lv_has ls 9 (lwL b g i) → wHS E o g x y H → va_S (wA E) s.heap H locs → W p l e room_1 s m #[Value.ref b] below meth c H locs cells2 slots2 Q (F0 m 2262 ls [])) : W p l e room_1 s m #[Value.ref b] below meth c H locs cells slots Q (F0 m 424 ls []) := by
  obtain ⟨hx, hb, hml, hown, hts, hr, hlocks, hX, hbl, hbA, hz, hK, hC, hDD, hNc, hlt, hL⟩ := hE
  obtain ⟨hI, hJ, hKK, hQ, hFrD, hFrB, hMI, hBK, hCS, hEQ⟩ := id hR
  have hl : lv_has ls 9 [(5, .int (nI (4 * i))), (0, .ref b), (1, .ref (g 0)), (2, .ref (g 10)), (3, .ref (g 40)), (4, .ref (g 41))] := hl
  refine lv_aload_n hx hb dL_law_424 rfl (lv_at hl 2 rfl) ?_
  refine lv_aload_n hx hb dL_law_425 rfl (lv_at hl 1 rfl) ?_
  refine lv_iload hx hb dL_law_426 (lv_at hl 0 rfl) ?_
  refine lv_iconst (v := 1) hx hb dL_law_428 (by decide) ?_
  refine lv_iadd hx hb dL_law_429 ?_
  refine lv_tope (nI_add (4 * i) 1) ?_
  refine va_sld hx hb hX hbl hbA hS (vp_in_nI (n := ((4 * i) + 1)) (N := L) (by omega) (by omega)) dL_law_430 ?_
  refine lv_aload_n hx hb dL_law_431 rfl (lv_at hl 4 rfl) ?_
  have hsim := sim_setSeed hR (by omega) (xs (nI ((4 * i) + 1)).toNatClampNeg)
  refine va_calli (vx_runSW (As := [.ref (g 0), .int (xs (nI ((4 * i) + 1)).toNatClampNeg), .ref (g 40)]) (rest := []) ⟨hx, hb, hml, hown, hts⟩ (met_L_setSeed l E o g x y (xs (nI ((4 * i) + 1)).toNatClampNeg) hlt hI) (vx_cwSW 3 hts gL_law_L_setSeed rfl rfl rfl (by decide +kernel) ⟨Nat.le_of_ble_eq_true rfl, Nat.le_of_ble_eq_true rfl⟩) ⟨fun a U f mk q => ⟨q.1, wPreL.calling q.2 a f mk⟩, fun U hU hW => ⟨rfl, wPreL_at hz hS hH hK hC hDD hNc U hU hW⟩⟩ rfl rfl hl.1 rfl (lv_room (Nat.le_of_ble_eq_true rfl)) dL_law_432 ⟨by show _ ≤ 603072; omega, by show _ ≤ 7219306; omega⟩) hS (fun q _ h => h) (fun q h => h) (fun r9 u t H locs ht hvm hw hB hz1 hk1 hS => ?_)
  obtain ⟨hgE, hB⟩ := hB
  obtain ⟨o, g⟩ := u
  have hH : wHS E o g (cp_setSeed x (xs (nI ((4 * i) + 1)).toNatClampNeg)).2.2 y H := wHS_h ht hB
  rw [← hgE 0 (by decide) (by decide) (by decide), ← hgE 10 (by decide) (by decide) (by decide), ← hgE 40 (by decide) (by decide) (by decide), ← hgE 41 (by decide) (by decide) (by decide)] at hl
  have hl : lv_has ls 9 [(5, .int (nI (4 * i))), (0, .ref b), (1, .ref (g 0)), (2, .ref (g 10)), (3, .ref (g 40)), (4, .ref (g 41))] := hl
  have hkr := sim_r hsim hw.1 hw.2
  have hR2 := hsim.2.2.2
  refine lv_istore (lv' := [(6, .int r9), (5, .int (nI (4 * i))), (0, .ref b), (1, .ref (g 0)), (2, .ref (g 10)), (3, .ref (g 40)), (4, .ref (g 41))]) hx hb dL_law_435 hl (by decide) rfl (fun ls hl => ?_)
  refine lv_aload_n hx hb dL_law_437 rfl (lv_at hl 4 rfl) ?_
  refine lv_aload_n hx hb dL_law_438 rfl (lv_at hl 2 rfl) ?_
  refine lv_iload hx hb dL_law_439 (lv_at hl 1 rfl) ?_
  refine lv_iconst (v := 1) hx hb dL_law_441 (by decide) ?_
  refine lv_iadd hx hb dL_law_442 ?_
  refine lv_tope (nI_add (4 * i) 1) ?_
  refine va_sld hx hb hX hbl hbA hS (vp_in_nI (n := ((4 * i) + 1)) (N := L) (by omega) (by omega)) dL_law_443 ?_
  refine va_calli (va_runV (As := [.int (xs (nI ((4 * i) + 1)).toNatClampNeg)]) (rest := []) ⟨hx, hb, hml, hown, hts⟩ (met_X5_setSeed l E o g (cp_setSeed x (xs (nI ((4 * i) + 1)).toNatClampNeg)).2.2 y (xs (nI ((4 * i) + 1)).toNatClampNeg) hMI) (cwV 1 hts gL_law_X5_setSeed rfl rfl rfl (by decide +kernel) ⟨Nat.le_of_ble_eq_true rfl, Nat.le_of_ble_eq_true rfl⟩) ⟨fun a U f mk q => ⟨q.1, wPre.calling q.2 a f mk⟩, (va_recv hK (wH_one hH (lv_md (by decide) (by decide)) (cel_md (by decide) (by decide))) (ci := 7) (q0 := 0) rfl rfl), fun U hU hW => ⟨rfl, wPre_at hz hS hH hK U hU hW⟩⟩ rfl rfl hl.1 rfl (lv_room (Nat.le_of_ble_eq_true rfl)) dL_law_444 ⟨by show _ ≤ 603072; omega, by show _ ≤ 7219306; omega⟩) hS (fun q _ h => h) (fun q h => h) (fun r8 u t H locs ht hvm hw8 hB hz1 hk1 hS => ?_)
  have hH : wHS E o g (cp_setSeed x (xs (nI ((4 * i) + 1)).toNatClampNeg)).2.2 (mp_setSeed y (xs (nI ((4 * i) + 1)).toNatClampNeg)).2 H := wHS_h ht hB
  obtain rfl := hw8
  refine lv_istore (lv' := [(7, .int ((mp_setSeed y (xs (nI ((4 * i) + 1)).toNatClampNeg)).1)), (6, .int r9), (5, .int (nI (4 * i))), (0, .ref b), (1, .ref (g 0)), (2, .ref (g 10)), (3, .ref (g 40)), (4, .ref (g 41))]) hx hb dL_law_447 hl (by decide) rfl (fun ls hl => ?_)
  refine lv_aload_n hx hb dL_law_449 rfl (lv_at hl 5 rfl) ?_
  refine va_calli (va_runV (As := []) (rest := []) ⟨hx, hb, hml, hown, hts⟩ (met_X5_thrown l E o g (cp_setSeed x (xs (nI ((4 * i) + 1)).toNatClampNeg)).2.2 (mp_setSeed y (xs (nI ((4 * i) + 1)).toNatClampNeg)).2 hR2.2.2.2.2.2.2.1) (cwV 0 hts gL_law_X5_thrown rfl rfl rfl (by decide +kernel) ⟨Nat.le_of_ble_eq_true rfl, Nat.le_of_ble_eq_true rfl⟩) ⟨fun a U f mk q => ⟨q.1, wPre.calling q.2 a f mk⟩, (va_recv hK (wH_one hH (lv_md (by decide) (by decide)) (cel_md (by decide) (by decide))) (ci := 7) (q0 := 0) rfl rfl), fun U hU hW => ⟨rfl, wPre_at hz hS hH hK U hU hW⟩⟩ rfl rfl hl.1 rfl (lv_room (Nat.le_of_ble_eq_true rfl)) dL_law_450 ⟨by show _ ≤ 603072; omega, by show _ ≤ 7219306; omega⟩) hS (fun q _ h => h) (fun q h => h) (fun r8 u t H locs ht hvm hw8 hB hz1 hk1 hS => ?_)
  have hH : wHS E o g (cp_setSeed x (xs (nI ((4 * i) + 1)).toNatClampNeg)).2.2 (mp_setSeed y (xs (nI ((4 * i) + 1)).toNatClampNeg)).2 H := wHS_h ht hB
  have hw8 : r8 = (mp_setSeed y (xs (nI ((4 * i) + 1)).toNatClampNeg)).2.2 28 0 := hw8
  obtain rfl := hw8
  refine lv_iload hx hb dL_law_453 (lv_at hl 1 rfl) ?_
  refine lv_icmp_eq (tgt := 460) hx hb dL_law_455 (by decide) (fun _ => ?_) (fun hq => absurd hkr hq)
  refine lv_iload hx hb dL_law_460 (lv_at hl 1 rfl) ?_
  refine lv_if_ne (tgt := 477) hx hb dL_law_462 (by decide) (fun h9 => ?_) (fun h9 => ?_)
  · skip
    refine lv_goto (tgt := 2262) hx hb dL_law_477 (by decide) ?_
    exact kont _ _ _ _ _ _ _ _ _ (by omega) (by omega) hR2 (lv_sub hl [2, 3, 4, 5, 6, 7] rfl) hH hS
  · obtain ⟨hnn, hval⟩ := sim_n (by decide) hw.1 hw.2 h9
    have hres := hsim.2.2.1 hnn
    rw [hres] at hval
    refine lv_aload_n hx hb dL_law_465 rfl (lv_at hl 6 rfl) ?_
    refine lv_iconst (v := 0) hx hb dL_law_466 (by decide) ?_
    refine wr_lald (t := 40) (v := ((mp_setSeed y (xs (nI ((4 * i) + 1)).toNatClampNeg)).1).toInt64) hx hb hK hH lv_o1 rfl 4 rfl (by unfold vp_in; decide) (by rw [show (0 : Int32).toNatClampNeg = 0 from rfl]; exact hval) dL_law_467 ?_
    refine lv_iload hx hb dL_law_468 (lv_at hl 0 rfl) ?_
    refine lv_i2l hx hb dL_law_470 rfl ?_
    refine W.lcmp hx hb dL_law_471 ?_
    refine lv_tope (lgc_self _) ?_
    refine lv_if_eq (tgt := 477) hx hb dL_law_472 (by decide) (fun _ => ?_) (fun hq => absurd (show (0 : Int32) = 0 by decide) hq)
    refine lv_goto (tgt := 2262) hx hb dL_law_477 (by decide) ?_
    exact kont _ _ _ _ _ _ _ _ _ (by omega) (by omega) hR2 (lv_sub hl [2, 3, 4, 5, 6, 7] rfl) hH hS
set_option maxHeartbeats 4000000 in
set_option maxRecDepth 100000 in
theorem lc_insert {p : Program} {l : Launch} {e : Env} {s : State} {m : MethodId} {below : List Frame} {meth : Method} {c : Code} {E : wE} {b L : Nat} {xs : Nat → Int32} {Q : State → Prop} (hE : lwE p l s m meth c E b L xs) (i : Nat) (hi : 4 * i + 4 ≤ L) {o : wO} {g : Nat → Nat} {x y : St} (hR : Rel i x y) {H : Heap} {locs : List Loc} {ls : Array Slot} {cells slots : Nat} (hl : lv_has ls 9 (lwL b g i)) (hH : wHS E o g x y H) (hS : va_S (wA E) s.heap H locs) (hroom : cells + 40 ≤ 603072 ∧ slots + 500 ≤ 7219306)
    (kont : ∀ (o : wO) (g : Nat → Nat) (x y : St) (H : Heap) (locs : List Loc) (ls : Array Slot) (cells2 slots2 : Nat), cells2 ≤ cells + 40 → slots2 ≤ slots + 500 → Rel (i + 1) x y → lv_has ls 9 (lwL b g i) → wHS E o g x y H → va_S (wA E) s.heap H locs → W p l e room_1 s m #[Value.ref b] below meth c H locs cells2 slots2 Q (F0 m 2262 ls [])) : W p l e room_1 s m #[Value.ref b] below meth c H locs cells slots Q (F0 m 480 ls []) := by
  obtain ⟨hx, hb, hml, hown, hts, hr, hlocks, hX, hbl, hbA, hz, hK, hC, hDD, hNc, hlt, hL⟩ := hE
  obtain ⟨hI, hJ, hKK, hQ, hFrD, hFrB, hMI, hBK, hCS, hEQ⟩ := id hR
  have hl : lv_has ls 9 [(5, .int (nI (4 * i))), (0, .ref b), (1, .ref (g 0)), (2, .ref (g 10)), (3, .ref (g 40)), (4, .ref (g 41))] := hl
  refine lv_aload_n hx hb dL_law_480 rfl (lv_at hl 2 rfl) ?_
  refine lv_aload_n hx hb dL_law_481 rfl (lv_at hl 1 rfl) ?_
  refine lv_iload hx hb dL_law_482 (lv_at hl 0 rfl) ?_
  refine lv_iconst (v := 1) hx hb dL_law_484 (by decide) ?_
  refine lv_iadd hx hb dL_law_485 ?_
  refine lv_tope (nI_add (4 * i) 1) ?_
  refine va_sld hx hb hX hbl hbA hS (vp_in_nI (n := ((4 * i) + 1)) (N := L) (by omega) (by omega)) dL_law_486 ?_
  refine lv_aload_n hx hb dL_law_487 rfl (lv_at hl 1 rfl) ?_
  refine lv_iload hx hb dL_law_488 (lv_at hl 0 rfl) ?_
  refine lv_iconst (v := 2) hx hb dL_law_490 (by decide) ?_
  refine lv_iadd hx hb dL_law_491 ?_
  refine lv_tope (nI_add (4 * i) 2) ?_
  refine va_sld hx hb hX hbl hbA hS (vp_in_nI (n := ((4 * i) + 2)) (N := L) (by omega) (by omega)) dL_law_492 ?_
  refine lv_i2c hx hb dL_law_493 rfl ?_
  refine lv_aload_n hx hb dL_law_494 rfl (lv_at hl 4 rfl) ?_
  have hsim := sim_insert hR (by omega) (xs (nI ((4 * i) + 1)).toNatClampNeg) (((xs (nI ((4 * i) + 2)).toNatClampNeg).toUInt32 % 65536).toInt32)
  refine va_calli (vx_runSW (As := [.ref (g 0), .int (xs (nI ((4 * i) + 1)).toNatClampNeg), .int (((xs (nI ((4 * i) + 2)).toNatClampNeg).toUInt32 % 65536).toInt32), .ref (g 40)]) (rest := []) ⟨hx, hb, hml, hown, hts⟩ (met_L_insert l E o g x y (xs (nI ((4 * i) + 1)).toNatClampNeg) (((xs (nI ((4 * i) + 2)).toNatClampNeg).toUInt32 % 65536).toInt32) hlt hI) (vx_cwSW 4 hts gL_law_L_insert rfl rfl rfl (by decide +kernel) ⟨Nat.le_of_ble_eq_true rfl, Nat.le_of_ble_eq_true rfl⟩) ⟨fun a U f mk q => ⟨q.1, wPreL.calling q.2 a f mk⟩, fun U hU hW => ⟨rfl, wPreL_at hz hS hH hK hC hDD hNc U hU hW⟩⟩ rfl rfl hl.1 rfl (lv_room (Nat.le_of_ble_eq_true rfl)) dL_law_495 ⟨by show _ ≤ 603072; omega, by show _ ≤ 7219306; omega⟩) hS (fun q _ h => h) (fun q h => h) (fun r9 u t H locs ht hvm hw hB hz1 hk1 hS => ?_)
  obtain ⟨hgE, hB⟩ := hB
  obtain ⟨o, g⟩ := u
  have hH : wHS E o g (cp_insert x (xs (nI ((4 * i) + 1)).toNatClampNeg) (((xs (nI ((4 * i) + 2)).toNatClampNeg).toUInt32 % 65536).toInt32)).2.2 y H := wHS_h ht hB
  rw [← hgE 0 (by decide) (by decide) (by decide), ← hgE 10 (by decide) (by decide) (by decide), ← hgE 40 (by decide) (by decide) (by decide), ← hgE 41 (by decide) (by decide) (by decide)] at hl
  have hl : lv_has ls 9 [(5, .int (nI (4 * i))), (0, .ref b), (1, .ref (g 0)), (2, .ref (g 10)), (3, .ref (g 40)), (4, .ref (g 41))] := hl
  have hkr := sim_r hsim hw.1 hw.2
  have hR2 := hsim.2.2.2
  refine lv_istore (lv' := [(6, .int r9), (5, .int (nI (4 * i))), (0, .ref b), (1, .ref (g 0)), (2, .ref (g 10)), (3, .ref (g 40)), (4, .ref (g 41))]) hx hb dL_law_498 hl (by decide) rfl (fun ls hl => ?_)
  refine lv_aload_n hx hb dL_law_500 rfl (lv_at hl 4 rfl) ?_
  refine lv_aload_n hx hb dL_law_501 rfl (lv_at hl 2 rfl) ?_
  refine lv_iload hx hb dL_law_502 (lv_at hl 1 rfl) ?_
  refine lv_iconst (v := 1) hx hb dL_law_504 (by decide) ?_
  refine lv_iadd hx hb dL_law_505 ?_
  refine lv_tope (nI_add (4 * i) 1) ?_
  refine va_sld hx hb hX hbl hbA hS (vp_in_nI (n := ((4 * i) + 1)) (N := L) (by omega) (by omega)) dL_law_506 ?_
  refine lv_aload_n hx hb dL_law_507 rfl (lv_at hl 2 rfl) ?_
  refine lv_iload hx hb dL_law_508 (lv_at hl 1 rfl) ?_
  refine lv_iconst (v := 2) hx hb dL_law_510 (by decide) ?_
  refine lv_iadd hx hb dL_law_511 ?_
  refine lv_tope (nI_add (4 * i) 2) ?_
  refine va_sld hx hb hX hbl hbA hS (vp_in_nI (n := ((4 * i) + 2)) (N := L) (by omega) (by omega)) dL_law_512 ?_
  refine lv_i2c hx hb dL_law_513 rfl ?_
  refine va_calli (va_runV (As := [.int (xs (nI ((4 * i) + 1)).toNatClampNeg), .int (((xs (nI ((4 * i) + 2)).toNatClampNeg).toUInt32 % 65536).toInt32)]) (rest := []) ⟨hx, hb, hml, hown, hts⟩ (met_X5_insert l E o g (cp_insert x (xs (nI ((4 * i) + 1)).toNatClampNeg) (((xs (nI ((4 * i) + 2)).toNatClampNeg).toUInt32 % 65536).toInt32)).2.2 y (xs (nI ((4 * i) + 1)).toNatClampNeg) (((xs (nI ((4 * i) + 2)).toNatClampNeg).toUInt32 % 65536).toInt32) hMI) (cwV 2 hts gL_law_X5_insert rfl rfl rfl (by decide +kernel) ⟨Nat.le_of_ble_eq_true rfl, Nat.le_of_ble_eq_true rfl⟩) ⟨fun a U f mk q => ⟨q.1, wPre.calling q.2 a f mk⟩, (va_recv hK (wH_one hH (lv_md (by decide) (by decide)) (cel_md (by decide) (by decide))) (ci := 7) (q0 := 0) rfl rfl), fun U hU hW => ⟨rfl, wPre_at hz hS hH hK U hU hW⟩⟩ rfl rfl hl.1 rfl (lv_room (Nat.le_of_ble_eq_true rfl)) dL_law_514 ⟨by show _ ≤ 603072; omega, by show _ ≤ 7219306; omega⟩) hS (fun q _ h => h) (fun q h => h) (fun r8 u t H locs ht hvm hw8 hB hz1 hk1 hS => ?_)
  have hH : wHS E o g (cp_insert x (xs (nI ((4 * i) + 1)).toNatClampNeg) (((xs (nI ((4 * i) + 2)).toNatClampNeg).toUInt32 % 65536).toInt32)).2.2 (mp_insert y (xs (nI ((4 * i) + 1)).toNatClampNeg) (((xs (nI ((4 * i) + 2)).toNatClampNeg).toUInt32 % 65536).toInt32)).2 H := wHS_h ht hB
  obtain rfl := hw8
  refine lv_istore (lv' := [(7, .int ((mp_insert y (xs (nI ((4 * i) + 1)).toNatClampNeg) (((xs (nI ((4 * i) + 2)).toNatClampNeg).toUInt32 % 65536).toInt32)).1)), (6, .int r9), (5, .int (nI (4 * i))), (0, .ref b), (1, .ref (g 0)), (2, .ref (g 10)), (3, .ref (g 40)), (4, .ref (g 41))]) hx hb dL_law_517 hl (by decide) rfl (fun ls hl => ?_)
  refine lv_aload_n hx hb dL_law_519 rfl (lv_at hl 5 rfl) ?_
  refine va_calli (va_runV (As := []) (rest := []) ⟨hx, hb, hml, hown, hts⟩ (met_X5_thrown l E o g (cp_insert x (xs (nI ((4 * i) + 1)).toNatClampNeg) (((xs (nI ((4 * i) + 2)).toNatClampNeg).toUInt32 % 65536).toInt32)).2.2 (mp_insert y (xs (nI ((4 * i) + 1)).toNatClampNeg) (((xs (nI ((4 * i) + 2)).toNatClampNeg).toUInt32 % 65536).toInt32)).2 hR2.2.2.2.2.2.2.1) (cwV 0 hts gL_law_X5_thrown rfl rfl rfl (by decide +kernel) ⟨Nat.le_of_ble_eq_true rfl, Nat.le_of_ble_eq_true rfl⟩) ⟨fun a U f mk q => ⟨q.1, wPre.calling q.2 a f mk⟩, (va_recv hK (wH_one hH (lv_md (by decide) (by decide)) (cel_md (by decide) (by decide))) (ci := 7) (q0 := 0) rfl rfl), fun U hU hW => ⟨rfl, wPre_at hz hS hH hK U hU hW⟩⟩ rfl rfl hl.1 rfl (lv_room (Nat.le_of_ble_eq_true rfl)) dL_law_520 ⟨by show _ ≤ 603072; omega, by show _ ≤ 7219306; omega⟩) hS (fun q _ h => h) (fun q h => h) (fun r8 u t H locs ht hvm hw8 hB hz1 hk1 hS => ?_)
  have hH : wHS E o g (cp_insert x (xs (nI ((4 * i) + 1)).toNatClampNeg) (((xs (nI ((4 * i) + 2)).toNatClampNeg).toUInt32 % 65536).toInt32)).2.2 (mp_insert y (xs (nI ((4 * i) + 1)).toNatClampNeg) (((xs (nI ((4 * i) + 2)).toNatClampNeg).toUInt32 % 65536).toInt32)).2 H := wHS_h ht hB
  have hw8 : r8 = (mp_insert y (xs (nI ((4 * i) + 1)).toNatClampNeg) (((xs (nI ((4 * i) + 2)).toNatClampNeg).toUInt32 % 65536).toInt32)).2.2 28 0 := hw8
  obtain rfl := hw8
  refine lv_iload hx hb dL_law_523 (lv_at hl 1 rfl) ?_
  refine lv_icmp_eq (tgt := 530) hx hb dL_law_525 (by decide) (fun _ => ?_) (fun hq => absurd hkr hq)
  refine lv_iload hx hb dL_law_530 (lv_at hl 1 rfl) ?_
  refine lv_if_ne (tgt := 547) hx hb dL_law_532 (by decide) (fun h9 => ?_) (fun h9 => ?_)
  · skip
    refine lv_goto (tgt := 2262) hx hb dL_law_547 (by decide) ?_
    exact kont _ _ _ _ _ _ _ _ _ (by omega) (by omega) hR2 (lv_sub hl [2, 3, 4, 5, 6, 7] rfl) hH hS
  · obtain ⟨hnn, hval⟩ := sim_n (by decide) hw.1 hw.2 h9
    have hres := hsim.2.2.1 hnn
    rw [hres] at hval
    refine lv_aload_n hx hb dL_law_535 rfl (lv_at hl 6 rfl) ?_
    refine lv_iconst (v := 0) hx hb dL_law_536 (by decide) ?_
    refine wr_lald (t := 40) (v := ((mp_insert y (xs (nI ((4 * i) + 1)).toNatClampNeg) (((xs (nI ((4 * i) + 2)).toNatClampNeg).toUInt32 % 65536).toInt32)).1).toInt64) hx hb hK hH lv_o1 rfl 4 rfl (by unfold vp_in; decide) (by rw [show (0 : Int32).toNatClampNeg = 0 from rfl]; exact hval) dL_law_537 ?_
    refine lv_iload hx hb dL_law_538 (lv_at hl 0 rfl) ?_
    refine lv_i2l hx hb dL_law_540 rfl ?_
    refine W.lcmp hx hb dL_law_541 ?_
    refine lv_tope (lgc_self _) ?_
    refine lv_if_eq (tgt := 547) hx hb dL_law_542 (by decide) (fun _ => ?_) (fun hq => absurd (show (0 : Int32) = 0 by decide) hq)
    refine lv_goto (tgt := 2262) hx hb dL_law_547 (by decide) ?_
    exact kont _ _ _ _ _ _ _ _ _ (by omega) (by omega) hR2 (lv_sub hl [2, 3, 4, 5, 6, 7] rfl) hH hS
set_option maxHeartbeats 4000000 in
set_option maxRecDepth 100000 in
theorem lc_press {p : Program} {l : Launch} {e : Env} {s : State} {m : MethodId} {below : List Frame} {meth : Method} {c : Code} {E : wE} {b L : Nat} {xs : Nat → Int32} {Q : State → Prop} (hE : lwE p l s m meth c E b L xs) (i : Nat) (hi : 4 * i + 4 ≤ L) {o : wO} {g : Nat → Nat} {x y : St} (hR : Rel i x y) {H : Heap} {locs : List Loc} {ls : Array Slot} {cells slots : Nat} (hl : lv_has ls 9 (lwL b g i)) (hH : wHS E o g x y H) (hS : va_S (wA E) s.heap H locs) (hroom : cells + 40 ≤ 603072 ∧ slots + 500 ≤ 7219306)
    (kont : ∀ (o : wO) (g : Nat → Nat) (x y : St) (H : Heap) (locs : List Loc) (ls : Array Slot) (cells2 slots2 : Nat), cells2 ≤ cells + 40 → slots2 ≤ slots + 500 → Rel (i + 1) x y → lv_has ls 9 (lwL b g i) → wHS E o g x y H → va_S (wA E) s.heap H locs → W p l e room_1 s m #[Value.ref b] below meth c H locs cells2 slots2 Q (F0 m 2262 ls [])) : W p l e room_1 s m #[Value.ref b] below meth c H locs cells slots Q (F0 m 550 ls []) := by
  obtain ⟨hx, hb, hml, hown, hts, hr, hlocks, hX, hbl, hbA, hz, hK, hC, hDD, hNc, hlt, hL⟩ := hE
  obtain ⟨hI, hJ, hKK, hQ, hFrD, hFrB, hMI, hBK, hCS, hEQ⟩ := id hR
  have hl : lv_has ls 9 [(5, .int (nI (4 * i))), (0, .ref b), (1, .ref (g 0)), (2, .ref (g 10)), (3, .ref (g 40)), (4, .ref (g 41))] := hl
  refine lv_aload_n hx hb dL_law_550 rfl (lv_at hl 2 rfl) ?_
  refine lv_aload_n hx hb dL_law_551 rfl (lv_at hl 1 rfl) ?_
  refine lv_iload hx hb dL_law_552 (lv_at hl 0 rfl) ?_
  refine lv_iconst (v := 1) hx hb dL_law_554 (by decide) ?_
  refine lv_iadd hx hb dL_law_555 ?_
  refine lv_tope (nI_add (4 * i) 1) ?_
  refine va_sld hx hb hX hbl hbA hS (vp_in_nI (n := ((4 * i) + 1)) (N := L) (by omega) (by omega)) dL_law_556 ?_
  refine lv_aload_n hx hb dL_law_557 rfl (lv_at hl 1 rfl) ?_
  refine lv_iload hx hb dL_law_558 (lv_at hl 0 rfl) ?_
  refine lv_iconst (v := 2) hx hb dL_law_560 (by decide) ?_
  refine lv_iadd hx hb dL_law_561 ?_
  refine lv_tope (nI_add (4 * i) 2) ?_
  refine va_sld hx hb hX hbl hbA hS (vp_in_nI (n := ((4 * i) + 2)) (N := L) (by omega) (by omega)) dL_law_562 ?_
  refine lv_aload_n hx hb dL_law_563 rfl (lv_at hl 4 rfl) ?_
  have hsim := sim_press hR (by omega) (xs (nI ((4 * i) + 1)).toNatClampNeg) (xs (nI ((4 * i) + 2)).toNatClampNeg)
  refine va_calli (vx_runSW (As := [.ref (g 0), .int (xs (nI ((4 * i) + 1)).toNatClampNeg), .int (xs (nI ((4 * i) + 2)).toNatClampNeg), .ref (g 40)]) (rest := []) ⟨hx, hb, hml, hown, hts⟩ (met_L_press l E o g x y (xs (nI ((4 * i) + 1)).toNatClampNeg) (xs (nI ((4 * i) + 2)).toNatClampNeg) hlt hI hQ) (vx_cwSW 4 hts gL_law_L_press rfl rfl rfl (by decide +kernel) ⟨Nat.le_of_ble_eq_true rfl, Nat.le_of_ble_eq_true rfl⟩) ⟨fun a U f mk q => ⟨q.1, wPreL.calling q.2 a f mk⟩, fun U hU hW => ⟨rfl, wPreL_at hz hS hH hK hC hDD hNc U hU hW⟩⟩ rfl rfl hl.1 rfl (lv_room (Nat.le_of_ble_eq_true rfl)) dL_law_564 ⟨by show _ ≤ 603072; omega, by show _ ≤ 7219306; omega⟩) hS (fun q _ h => h) (fun q h => h) (fun r9 u t H locs ht hvm hw hB hz1 hk1 hS => ?_)
  obtain ⟨hgE, hB⟩ := hB
  obtain ⟨o, g⟩ := u
  have hH : wHS E o g (cp_press x (xs (nI ((4 * i) + 1)).toNatClampNeg) (xs (nI ((4 * i) + 2)).toNatClampNeg)).2.2 y H := wHS_h ht hB
  rw [← hgE 0 (by decide) (by decide) (by decide), ← hgE 10 (by decide) (by decide) (by decide), ← hgE 40 (by decide) (by decide) (by decide), ← hgE 41 (by decide) (by decide) (by decide)] at hl
  have hl : lv_has ls 9 [(5, .int (nI (4 * i))), (0, .ref b), (1, .ref (g 0)), (2, .ref (g 10)), (3, .ref (g 40)), (4, .ref (g 41))] := hl
  have hkr := sim_r hsim hw.1 hw.2
  have hR2 := hsim.2.2.2
  refine lv_istore (lv' := [(6, .int r9), (5, .int (nI (4 * i))), (0, .ref b), (1, .ref (g 0)), (2, .ref (g 10)), (3, .ref (g 40)), (4, .ref (g 41))]) hx hb dL_law_567 hl (by decide) rfl (fun ls hl => ?_)
  refine lv_aload_n hx hb dL_law_569 rfl (lv_at hl 4 rfl) ?_
  refine lv_aload_n hx hb dL_law_570 rfl (lv_at hl 2 rfl) ?_
  refine lv_iload hx hb dL_law_571 (lv_at hl 1 rfl) ?_
  refine lv_iconst (v := 1) hx hb dL_law_573 (by decide) ?_
  refine lv_iadd hx hb dL_law_574 ?_
  refine lv_tope (nI_add (4 * i) 1) ?_
  refine va_sld hx hb hX hbl hbA hS (vp_in_nI (n := ((4 * i) + 1)) (N := L) (by omega) (by omega)) dL_law_575 ?_
  refine lv_aload_n hx hb dL_law_576 rfl (lv_at hl 2 rfl) ?_
  refine lv_iload hx hb dL_law_577 (lv_at hl 1 rfl) ?_
  refine lv_iconst (v := 2) hx hb dL_law_579 (by decide) ?_
  refine lv_iadd hx hb dL_law_580 ?_
  refine lv_tope (nI_add (4 * i) 2) ?_
  refine va_sld hx hb hX hbl hbA hS (vp_in_nI (n := ((4 * i) + 2)) (N := L) (by omega) (by omega)) dL_law_581 ?_
  refine va_calli (va_runV (As := [.int (xs (nI ((4 * i) + 1)).toNatClampNeg), .int (xs (nI ((4 * i) + 2)).toNatClampNeg)]) (rest := []) ⟨hx, hb, hml, hown, hts⟩ (met_X5_press l E o g (cp_press x (xs (nI ((4 * i) + 1)).toNatClampNeg) (xs (nI ((4 * i) + 2)).toNatClampNeg)).2.2 y (xs (nI ((4 * i) + 1)).toNatClampNeg) (xs (nI ((4 * i) + 2)).toNatClampNeg) hMI) (cwV 2 hts gL_law_X5_press rfl rfl rfl (by decide +kernel) ⟨Nat.le_of_ble_eq_true rfl, Nat.le_of_ble_eq_true rfl⟩) ⟨fun a U f mk q => ⟨q.1, wPre.calling q.2 a f mk⟩, (va_recv hK (wH_one hH (lv_md (by decide) (by decide)) (cel_md (by decide) (by decide))) (ci := 7) (q0 := 0) rfl rfl), fun U hU hW => ⟨rfl, wPre_at hz hS hH hK U hU hW⟩⟩ rfl rfl hl.1 rfl (lv_room (Nat.le_of_ble_eq_true rfl)) dL_law_582 ⟨by show _ ≤ 603072; omega, by show _ ≤ 7219306; omega⟩) hS (fun q _ h => h) (fun q h => h) (fun r8 u t H locs ht hvm hw8 hB hz1 hk1 hS => ?_)
  have hH : wHS E o g (cp_press x (xs (nI ((4 * i) + 1)).toNatClampNeg) (xs (nI ((4 * i) + 2)).toNatClampNeg)).2.2 (mp_press y (xs (nI ((4 * i) + 1)).toNatClampNeg) (xs (nI ((4 * i) + 2)).toNatClampNeg)).2 H := wHS_h ht hB
  obtain rfl := hw8
  refine lv_istore (lv' := [(7, .int ((mp_press y (xs (nI ((4 * i) + 1)).toNatClampNeg) (xs (nI ((4 * i) + 2)).toNatClampNeg)).1)), (6, .int r9), (5, .int (nI (4 * i))), (0, .ref b), (1, .ref (g 0)), (2, .ref (g 10)), (3, .ref (g 40)), (4, .ref (g 41))]) hx hb dL_law_585 hl (by decide) rfl (fun ls hl => ?_)
  refine lv_aload_n hx hb dL_law_587 rfl (lv_at hl 5 rfl) ?_
  refine va_calli (va_runV (As := []) (rest := []) ⟨hx, hb, hml, hown, hts⟩ (met_X5_thrown l E o g (cp_press x (xs (nI ((4 * i) + 1)).toNatClampNeg) (xs (nI ((4 * i) + 2)).toNatClampNeg)).2.2 (mp_press y (xs (nI ((4 * i) + 1)).toNatClampNeg) (xs (nI ((4 * i) + 2)).toNatClampNeg)).2 hR2.2.2.2.2.2.2.1) (cwV 0 hts gL_law_X5_thrown rfl rfl rfl (by decide +kernel) ⟨Nat.le_of_ble_eq_true rfl, Nat.le_of_ble_eq_true rfl⟩) ⟨fun a U f mk q => ⟨q.1, wPre.calling q.2 a f mk⟩, (va_recv hK (wH_one hH (lv_md (by decide) (by decide)) (cel_md (by decide) (by decide))) (ci := 7) (q0 := 0) rfl rfl), fun U hU hW => ⟨rfl, wPre_at hz hS hH hK U hU hW⟩⟩ rfl rfl hl.1 rfl (lv_room (Nat.le_of_ble_eq_true rfl)) dL_law_588 ⟨by show _ ≤ 603072; omega, by show _ ≤ 7219306; omega⟩) hS (fun q _ h => h) (fun q h => h) (fun r8 u t H locs ht hvm hw8 hB hz1 hk1 hS => ?_)
  have hH : wHS E o g (cp_press x (xs (nI ((4 * i) + 1)).toNatClampNeg) (xs (nI ((4 * i) + 2)).toNatClampNeg)).2.2 (mp_press y (xs (nI ((4 * i) + 1)).toNatClampNeg) (xs (nI ((4 * i) + 2)).toNatClampNeg)).2 H := wHS_h ht hB
  have hw8 : r8 = (mp_press y (xs (nI ((4 * i) + 1)).toNatClampNeg) (xs (nI ((4 * i) + 2)).toNatClampNeg)).2.2 28 0 := hw8
  obtain rfl := hw8
  refine lv_iload hx hb dL_law_591 (lv_at hl 1 rfl) ?_
  refine lv_icmp_eq (tgt := 598) hx hb dL_law_593 (by decide) (fun _ => ?_) (fun hq => absurd hkr hq)
  refine lv_iload hx hb dL_law_598 (lv_at hl 1 rfl) ?_
  refine lv_if_ne (tgt := 615) hx hb dL_law_600 (by decide) (fun h9 => ?_) (fun h9 => ?_)
  · skip
    refine lv_goto (tgt := 2262) hx hb dL_law_615 (by decide) ?_
    exact kont _ _ _ _ _ _ _ _ _ (by omega) (by omega) hR2 (lv_sub hl [2, 3, 4, 5, 6, 7] rfl) hH hS
  · obtain ⟨hnn, hval⟩ := sim_n (by decide) hw.1 hw.2 h9
    have hres := hsim.2.2.1 hnn
    rw [hres] at hval
    refine lv_aload_n hx hb dL_law_603 rfl (lv_at hl 6 rfl) ?_
    refine lv_iconst (v := 0) hx hb dL_law_604 (by decide) ?_
    refine wr_lald (t := 40) (v := ((mp_press y (xs (nI ((4 * i) + 1)).toNatClampNeg) (xs (nI ((4 * i) + 2)).toNatClampNeg)).1).toInt64) hx hb hK hH lv_o1 rfl 4 rfl (by unfold vp_in; decide) (by rw [show (0 : Int32).toNatClampNeg = 0 from rfl]; exact hval) dL_law_605 ?_
    refine lv_iload hx hb dL_law_606 (lv_at hl 0 rfl) ?_
    refine lv_i2l hx hb dL_law_608 rfl ?_
    refine W.lcmp hx hb dL_law_609 ?_
    refine lv_tope (lgc_self _) ?_
    refine lv_if_eq (tgt := 615) hx hb dL_law_610 (by decide) (fun _ => ?_) (fun hq => absurd (show (0 : Int32) = 0 by decide) hq)
    refine lv_goto (tgt := 2262) hx hb dL_law_615 (by decide) ?_
    exact kont _ _ _ _ _ _ _ _ _ (by omega) (by omega) hR2 (lv_sub hl [2, 3, 4, 5, 6, 7] rfl) hH hS
set_option maxHeartbeats 4000000 in
set_option maxRecDepth 100000 in
theorem lc_play {p : Program} {l : Launch} {e : Env} {s : State} {m : MethodId} {below : List Frame} {meth : Method} {c : Code} {E : wE} {b L : Nat} {xs : Nat → Int32} {Q : State → Prop} (hE : lwE p l s m meth c E b L xs) (i : Nat) (hi : 4 * i + 4 ≤ L) {o : wO} {g : Nat → Nat} {x y : St} (hR : Rel i x y) {H : Heap} {locs : List Loc} {ls : Array Slot} {cells slots : Nat} (hl : lv_has ls 9 (lwL b g i)) (hH : wHS E o g x y H) (hS : va_S (wA E) s.heap H locs) (hroom : cells + 40 ≤ 603072 ∧ slots + 500 ≤ 7219306)
    (kont : ∀ (o : wO) (g : Nat → Nat) (x y : St) (H : Heap) (locs : List Loc) (ls : Array Slot) (cells2 slots2 : Nat), cells2 ≤ cells + 40 → slots2 ≤ slots + 500 → Rel (i + 1) x y → lv_has ls 9 (lwL b g i) → wHS E o g x y H → va_S (wA E) s.heap H locs → W p l e room_1 s m #[Value.ref b] below meth c H locs cells2 slots2 Q (F0 m 2262 ls [])) : W p l e room_1 s m #[Value.ref b] below meth c H locs cells slots Q (F0 m 618 ls []) := by
  obtain ⟨hx, hb, hml, hown, hts, hr, hlocks, hX, hbl, hbA, hz, hK, hC, hDD, hNc, hlt, hL⟩ := hE
  obtain ⟨hI, hJ, hKK, hQ, hFrD, hFrB, hMI, hBK, hCS, hEQ⟩ := id hR
  have hl : lv_has ls 9 [(5, .int (nI (4 * i))), (0, .ref b), (1, .ref (g 0)), (2, .ref (g 10)), (3, .ref (g 40)), (4, .ref (g 41))] := hl
  refine lv_aload_n hx hb dL_law_618 rfl (lv_at hl 2 rfl) ?_
  refine lv_aload_n hx hb dL_law_619 rfl (lv_at hl 1 rfl) ?_
  refine lv_iload hx hb dL_law_620 (lv_at hl 0 rfl) ?_
  refine lv_iconst (v := 1) hx hb dL_law_622 (by decide) ?_
  refine lv_iadd hx hb dL_law_623 ?_
  refine lv_tope (nI_add (4 * i) 1) ?_
  refine va_sld hx hb hX hbl hbA hS (vp_in_nI (n := ((4 * i) + 1)) (N := L) (by omega) (by omega)) dL_law_624 ?_
  refine lv_aload_n hx hb dL_law_625 rfl (lv_at hl 4 rfl) ?_
  have hsim := sim_play hR (by omega) (xs (nI ((4 * i) + 1)).toNatClampNeg)
  refine va_calli (vx_runSW (As := [.ref (g 0), .int (xs (nI ((4 * i) + 1)).toNatClampNeg), .ref (g 40)]) (rest := []) ⟨hx, hb, hml, hown, hts⟩ (met_L_play l E o g x y (xs (nI ((4 * i) + 1)).toNatClampNeg) hlt hI) (vx_cwSW 3 hts gL_law_L_play rfl rfl rfl (by decide +kernel) ⟨Nat.le_of_ble_eq_true rfl, Nat.le_of_ble_eq_true rfl⟩) ⟨fun a U f mk q => ⟨q.1, wPreL.calling q.2 a f mk⟩, fun U hU hW => ⟨rfl, wPreL_at hz hS hH hK hC hDD hNc U hU hW⟩⟩ rfl rfl hl.1 rfl (lv_room (Nat.le_of_ble_eq_true rfl)) dL_law_626 ⟨by show _ ≤ 603072; omega, by show _ ≤ 7219306; omega⟩) hS (fun q _ h => h) (fun q h => h) (fun r9 u t H locs ht hvm hw hB hz1 hk1 hS => ?_)
  obtain ⟨hgE, hB⟩ := hB
  obtain ⟨o, g⟩ := u
  have hH : wHS E o g (cp_play x (xs (nI ((4 * i) + 1)).toNatClampNeg)).2.2 y H := wHS_h ht hB
  rw [← hgE 0 (by decide) (by decide) (by decide), ← hgE 10 (by decide) (by decide) (by decide), ← hgE 40 (by decide) (by decide) (by decide), ← hgE 41 (by decide) (by decide) (by decide)] at hl
  have hl : lv_has ls 9 [(5, .int (nI (4 * i))), (0, .ref b), (1, .ref (g 0)), (2, .ref (g 10)), (3, .ref (g 40)), (4, .ref (g 41))] := hl
  have hkr := sim_r hsim hw.1 hw.2
  have hR2 := hsim.2.2.2
  refine lv_istore (lv' := [(6, .int r9), (5, .int (nI (4 * i))), (0, .ref b), (1, .ref (g 0)), (2, .ref (g 10)), (3, .ref (g 40)), (4, .ref (g 41))]) hx hb dL_law_629 hl (by decide) rfl (fun ls hl => ?_)
  refine lv_aload_n hx hb dL_law_631 rfl (lv_at hl 4 rfl) ?_
  refine lv_aload_n hx hb dL_law_632 rfl (lv_at hl 2 rfl) ?_
  refine lv_iload hx hb dL_law_633 (lv_at hl 1 rfl) ?_
  refine lv_iconst (v := 1) hx hb dL_law_635 (by decide) ?_
  refine lv_iadd hx hb dL_law_636 ?_
  refine lv_tope (nI_add (4 * i) 1) ?_
  refine va_sld hx hb hX hbl hbA hS (vp_in_nI (n := ((4 * i) + 1)) (N := L) (by omega) (by omega)) dL_law_637 ?_
  refine va_calli (va_runV (As := [.int (xs (nI ((4 * i) + 1)).toNatClampNeg)]) (rest := []) ⟨hx, hb, hml, hown, hts⟩ (met_X5_play l E o g (cp_play x (xs (nI ((4 * i) + 1)).toNatClampNeg)).2.2 y (xs (nI ((4 * i) + 1)).toNatClampNeg) hMI) (cwV 1 hts gL_law_X5_play rfl rfl rfl (by decide +kernel) ⟨Nat.le_of_ble_eq_true rfl, Nat.le_of_ble_eq_true rfl⟩) ⟨fun a U f mk q => ⟨q.1, wPre.calling q.2 a f mk⟩, (va_recv hK (wH_one hH (lv_md (by decide) (by decide)) (cel_md (by decide) (by decide))) (ci := 7) (q0 := 0) rfl rfl), fun U hU hW => ⟨rfl, wPre_at hz hS hH hK U hU hW⟩⟩ rfl rfl hl.1 rfl (lv_room (Nat.le_of_ble_eq_true rfl)) dL_law_638 ⟨by show _ ≤ 603072; omega, by show _ ≤ 7219306; omega⟩) hS (fun q _ h => h) (fun q h => h) (fun r8 u t H locs ht hvm hw8 hB hz1 hk1 hS => ?_)
  have hH : wHS E o g (cp_play x (xs (nI ((4 * i) + 1)).toNatClampNeg)).2.2 (mp_play y (xs (nI ((4 * i) + 1)).toNatClampNeg)).2 H := wHS_h ht hB
  obtain rfl := hw8
  refine lv_istore (lv' := [(7, .int ((mp_play y (xs (nI ((4 * i) + 1)).toNatClampNeg)).1)), (6, .int r9), (5, .int (nI (4 * i))), (0, .ref b), (1, .ref (g 0)), (2, .ref (g 10)), (3, .ref (g 40)), (4, .ref (g 41))]) hx hb dL_law_641 hl (by decide) rfl (fun ls hl => ?_)
  refine lv_aload_n hx hb dL_law_643 rfl (lv_at hl 5 rfl) ?_
  refine va_calli (va_runV (As := []) (rest := []) ⟨hx, hb, hml, hown, hts⟩ (met_X5_thrown l E o g (cp_play x (xs (nI ((4 * i) + 1)).toNatClampNeg)).2.2 (mp_play y (xs (nI ((4 * i) + 1)).toNatClampNeg)).2 hR2.2.2.2.2.2.2.1) (cwV 0 hts gL_law_X5_thrown rfl rfl rfl (by decide +kernel) ⟨Nat.le_of_ble_eq_true rfl, Nat.le_of_ble_eq_true rfl⟩) ⟨fun a U f mk q => ⟨q.1, wPre.calling q.2 a f mk⟩, (va_recv hK (wH_one hH (lv_md (by decide) (by decide)) (cel_md (by decide) (by decide))) (ci := 7) (q0 := 0) rfl rfl), fun U hU hW => ⟨rfl, wPre_at hz hS hH hK U hU hW⟩⟩ rfl rfl hl.1 rfl (lv_room (Nat.le_of_ble_eq_true rfl)) dL_law_644 ⟨by show _ ≤ 603072; omega, by show _ ≤ 7219306; omega⟩) hS (fun q _ h => h) (fun q h => h) (fun r8 u t H locs ht hvm hw8 hB hz1 hk1 hS => ?_)
  have hH : wHS E o g (cp_play x (xs (nI ((4 * i) + 1)).toNatClampNeg)).2.2 (mp_play y (xs (nI ((4 * i) + 1)).toNatClampNeg)).2 H := wHS_h ht hB
  have hw8 : r8 = (mp_play y (xs (nI ((4 * i) + 1)).toNatClampNeg)).2.2 28 0 := hw8
  obtain rfl := hw8
  refine lv_iload hx hb dL_law_647 (lv_at hl 1 rfl) ?_
  refine lv_icmp_eq (tgt := 654) hx hb dL_law_649 (by decide) (fun _ => ?_) (fun hq => absurd hkr hq)
  refine lv_iload hx hb dL_law_654 (lv_at hl 1 rfl) ?_
  refine lv_if_ne (tgt := 671) hx hb dL_law_656 (by decide) (fun h9 => ?_) (fun h9 => ?_)
  · skip
    refine lv_goto (tgt := 2262) hx hb dL_law_671 (by decide) ?_
    exact kont _ _ _ _ _ _ _ _ _ (by omega) (by omega) hR2 (lv_sub hl [2, 3, 4, 5, 6, 7] rfl) hH hS
  · obtain ⟨hnn, hval⟩ := sim_n (by decide) hw.1 hw.2 h9
    have hres := hsim.2.2.1 hnn
    rw [hres] at hval
    refine lv_aload_n hx hb dL_law_659 rfl (lv_at hl 6 rfl) ?_
    refine lv_iconst (v := 0) hx hb dL_law_660 (by decide) ?_
    refine wr_lald (t := 40) (v := ((mp_play y (xs (nI ((4 * i) + 1)).toNatClampNeg)).1).toInt64) hx hb hK hH lv_o1 rfl 4 rfl (by unfold vp_in; decide) (by rw [show (0 : Int32).toNatClampNeg = 0 from rfl]; exact hval) dL_law_661 ?_
    refine lv_iload hx hb dL_law_662 (lv_at hl 0 rfl) ?_
    refine lv_i2l hx hb dL_law_664 rfl ?_
    refine W.lcmp hx hb dL_law_665 ?_
    refine lv_tope (lgc_self _) ?_
    refine lv_if_eq (tgt := 671) hx hb dL_law_666 (by decide) (fun _ => ?_) (fun hq => absurd (show (0 : Int32) = 0 by decide) hq)
    refine lv_goto (tgt := 2262) hx hb dL_law_671 (by decide) ?_
    exact kont _ _ _ _ _ _ _ _ _ (by omega) (by omega) hR2 (lv_sub hl [2, 3, 4, 5, 6, 7] rfl) hH hS
set_option maxHeartbeats 4000000 in
set_option maxRecDepth 100000 in
theorem lc_getCredits {p : Program} {l : Launch} {e : Env} {s : State} {m : MethodId} {below : List Frame} {meth : Method} {c : Code} {E : wE} {b L : Nat} {xs : Nat → Int32} {Q : State → Prop} (hE : lwE p l s m meth c E b L xs) (i : Nat) (hi : 4 * i + 4 ≤ L) {o : wO} {g : Nat → Nat} {x y : St} (hR : Rel i x y) {H : Heap} {locs : List Loc} {ls : Array Slot} {cells slots : Nat} (hl : lv_has ls 9 (lwL b g i)) (hH : wHS E o g x y H) (hS : va_S (wA E) s.heap H locs) (hroom : cells + 40 ≤ 603072 ∧ slots + 500 ≤ 7219306)
    (kont : ∀ (o : wO) (g : Nat → Nat) (x y : St) (H : Heap) (locs : List Loc) (ls : Array Slot) (cells2 slots2 : Nat), cells2 ≤ cells + 40 → slots2 ≤ slots + 500 → Rel (i + 1) x y → lv_has ls 9 (lwL b g i) → wHS E o g x y H → va_S (wA E) s.heap H locs → W p l e room_1 s m #[Value.ref b] below meth c H locs cells2 slots2 Q (F0 m 2262 ls [])) : W p l e room_1 s m #[Value.ref b] below meth c H locs cells slots Q (F0 m 674 ls []) := by
  obtain ⟨hx, hb, hml, hown, hts, hr, hlocks, hX, hbl, hbA, hz, hK, hC, hDD, hNc, hlt, hL⟩ := hE
  obtain ⟨hI, hJ, hKK, hQ, hFrD, hFrB, hMI, hBK, hCS, hEQ⟩ := id hR
  have hl : lv_has ls 9 [(5, .int (nI (4 * i))), (0, .ref b), (1, .ref (g 0)), (2, .ref (g 10)), (3, .ref (g 40)), (4, .ref (g 41))] := hl
  refine lv_aload_n hx hb dL_law_674 rfl (lv_at hl 2 rfl) ?_
  refine lv_aload_n hx hb dL_law_675 rfl (lv_at hl 1 rfl) ?_
  refine lv_iload hx hb dL_law_676 (lv_at hl 0 rfl) ?_
  refine lv_iconst (v := 1) hx hb dL_law_678 (by decide) ?_
  refine lv_iadd hx hb dL_law_679 ?_
  refine lv_tope (nI_add (4 * i) 1) ?_
  refine va_sld hx hb hX hbl hbA hS (vp_in_nI (n := ((4 * i) + 1)) (N := L) (by omega) (by omega)) dL_law_680 ?_
  refine lv_aload_n hx hb dL_law_681 rfl (lv_at hl 4 rfl) ?_
  have hsim := sim_getCredits hR (by omega) (xs (nI ((4 * i) + 1)).toNatClampNeg)
  refine va_calli (vx_runSW (As := [.ref (g 0), .int (xs (nI ((4 * i) + 1)).toNatClampNeg), .ref (g 40)]) (rest := []) ⟨hx, hb, hml, hown, hts⟩ (met_L_getCredits l E o g x y (xs (nI ((4 * i) + 1)).toNatClampNeg) hlt hI) (vx_cwSW 3 hts gL_law_L_getCredits rfl rfl rfl (by decide +kernel) ⟨Nat.le_of_ble_eq_true rfl, Nat.le_of_ble_eq_true rfl⟩) ⟨fun a U f mk q => ⟨q.1, wPreL.calling q.2 a f mk⟩, fun U hU hW => ⟨rfl, wPreL_at hz hS hH hK hC hDD hNc U hU hW⟩⟩ rfl rfl hl.1 rfl (lv_room (Nat.le_of_ble_eq_true rfl)) dL_law_682 ⟨by show _ ≤ 603072; omega, by show _ ≤ 7219306; omega⟩) hS (fun q _ h => h) (fun q h => h) (fun r9 u t H locs ht hvm hw hB hz1 hk1 hS => ?_)
  obtain ⟨hgE, hB⟩ := hB
  obtain ⟨o, g⟩ := u
  have hH : wHS E o g (cp_getCredits x (xs (nI ((4 * i) + 1)).toNatClampNeg)).2.2 y H := wHS_h ht hB
  rw [← hgE 0 (by decide) (by decide) (by decide), ← hgE 10 (by decide) (by decide) (by decide), ← hgE 40 (by decide) (by decide) (by decide), ← hgE 41 (by decide) (by decide) (by decide)] at hl
  have hl : lv_has ls 9 [(5, .int (nI (4 * i))), (0, .ref b), (1, .ref (g 0)), (2, .ref (g 10)), (3, .ref (g 40)), (4, .ref (g 41))] := hl
  have hkr := sim_r hsim hw.1 hw.2
  have hR2 := hsim.2.2.2
  refine lv_istore (lv' := [(6, .int r9), (5, .int (nI (4 * i))), (0, .ref b), (1, .ref (g 0)), (2, .ref (g 10)), (3, .ref (g 40)), (4, .ref (g 41))]) hx hb dL_law_685 hl (by decide) rfl (fun ls hl => ?_)
  refine lv_aload_n hx hb dL_law_687 rfl (lv_at hl 4 rfl) ?_
  refine lv_aload_n hx hb dL_law_688 rfl (lv_at hl 2 rfl) ?_
  refine lv_iload hx hb dL_law_689 (lv_at hl 1 rfl) ?_
  refine lv_iconst (v := 1) hx hb dL_law_691 (by decide) ?_
  refine lv_iadd hx hb dL_law_692 ?_
  refine lv_tope (nI_add (4 * i) 1) ?_
  refine va_sld hx hb hX hbl hbA hS (vp_in_nI (n := ((4 * i) + 1)) (N := L) (by omega) (by omega)) dL_law_693 ?_
  refine va_calli (va_runV (As := [.int (xs (nI ((4 * i) + 1)).toNatClampNeg)]) (rest := []) ⟨hx, hb, hml, hown, hts⟩ (met_X5_getCredits l E o g (cp_getCredits x (xs (nI ((4 * i) + 1)).toNatClampNeg)).2.2 y (xs (nI ((4 * i) + 1)).toNatClampNeg) hMI) (cwV 1 hts gL_law_X5_getCredits rfl rfl rfl (by decide +kernel) ⟨Nat.le_of_ble_eq_true rfl, Nat.le_of_ble_eq_true rfl⟩) ⟨fun a U f mk q => ⟨q.1, wPre.calling q.2 a f mk⟩, (va_recv hK (wH_one hH (lv_md (by decide) (by decide)) (cel_md (by decide) (by decide))) (ci := 7) (q0 := 0) rfl rfl), fun U hU hW => ⟨rfl, wPre_at hz hS hH hK U hU hW⟩⟩ rfl rfl hl.1 rfl (lv_room (Nat.le_of_ble_eq_true rfl)) dL_law_694 ⟨by show _ ≤ 603072; omega, by show _ ≤ 7219306; omega⟩) hS (fun q _ h => h) (fun q h => h) (fun r8 u t H locs ht hvm hw8 hB hz1 hk1 hS => ?_)
  have hH : wHS E o g (cp_getCredits x (xs (nI ((4 * i) + 1)).toNatClampNeg)).2.2 (mp_getCredits y (xs (nI ((4 * i) + 1)).toNatClampNeg)).2 H := wHS_h ht hB
  obtain rfl := hw8
  refine lv_istore (lv' := [(7, .int ((mp_getCredits y (xs (nI ((4 * i) + 1)).toNatClampNeg)).1)), (6, .int r9), (5, .int (nI (4 * i))), (0, .ref b), (1, .ref (g 0)), (2, .ref (g 10)), (3, .ref (g 40)), (4, .ref (g 41))]) hx hb dL_law_697 hl (by decide) rfl (fun ls hl => ?_)
  refine lv_aload_n hx hb dL_law_699 rfl (lv_at hl 5 rfl) ?_
  refine va_calli (va_runV (As := []) (rest := []) ⟨hx, hb, hml, hown, hts⟩ (met_X5_thrown l E o g (cp_getCredits x (xs (nI ((4 * i) + 1)).toNatClampNeg)).2.2 (mp_getCredits y (xs (nI ((4 * i) + 1)).toNatClampNeg)).2 hR2.2.2.2.2.2.2.1) (cwV 0 hts gL_law_X5_thrown rfl rfl rfl (by decide +kernel) ⟨Nat.le_of_ble_eq_true rfl, Nat.le_of_ble_eq_true rfl⟩) ⟨fun a U f mk q => ⟨q.1, wPre.calling q.2 a f mk⟩, (va_recv hK (wH_one hH (lv_md (by decide) (by decide)) (cel_md (by decide) (by decide))) (ci := 7) (q0 := 0) rfl rfl), fun U hU hW => ⟨rfl, wPre_at hz hS hH hK U hU hW⟩⟩ rfl rfl hl.1 rfl (lv_room (Nat.le_of_ble_eq_true rfl)) dL_law_700 ⟨by show _ ≤ 603072; omega, by show _ ≤ 7219306; omega⟩) hS (fun q _ h => h) (fun q h => h) (fun r8 u t H locs ht hvm hw8 hB hz1 hk1 hS => ?_)
  have hH : wHS E o g (cp_getCredits x (xs (nI ((4 * i) + 1)).toNatClampNeg)).2.2 (mp_getCredits y (xs (nI ((4 * i) + 1)).toNatClampNeg)).2 H := wHS_h ht hB
  have hw8 : r8 = (mp_getCredits y (xs (nI ((4 * i) + 1)).toNatClampNeg)).2.2 28 0 := hw8
  obtain rfl := hw8
  refine lv_iload hx hb dL_law_703 (lv_at hl 1 rfl) ?_
  refine lv_icmp_eq (tgt := 710) hx hb dL_law_705 (by decide) (fun _ => ?_) (fun hq => absurd hkr hq)
  refine lv_iload hx hb dL_law_710 (lv_at hl 1 rfl) ?_
  refine lv_if_ne (tgt := 727) hx hb dL_law_712 (by decide) (fun h9 => ?_) (fun h9 => ?_)
  · skip
    refine lv_goto (tgt := 2262) hx hb dL_law_727 (by decide) ?_
    exact kont _ _ _ _ _ _ _ _ _ (by omega) (by omega) hR2 (lv_sub hl [2, 3, 4, 5, 6, 7] rfl) hH hS
  · obtain ⟨hnn, hval⟩ := sim_n (by decide) hw.1 hw.2 h9
    have hres := hsim.2.2.1 hnn
    rw [hres] at hval
    refine lv_aload_n hx hb dL_law_715 rfl (lv_at hl 6 rfl) ?_
    refine lv_iconst (v := 0) hx hb dL_law_716 (by decide) ?_
    refine wr_lald (t := 40) (v := ((mp_getCredits y (xs (nI ((4 * i) + 1)).toNatClampNeg)).1).toInt64) hx hb hK hH lv_o1 rfl 4 rfl (by unfold vp_in; decide) (by rw [show (0 : Int32).toNatClampNeg = 0 from rfl]; exact hval) dL_law_717 ?_
    refine lv_iload hx hb dL_law_718 (lv_at hl 0 rfl) ?_
    refine lv_i2l hx hb dL_law_720 rfl ?_
    refine W.lcmp hx hb dL_law_721 ?_
    refine lv_tope (lgc_self _) ?_
    refine lv_if_eq (tgt := 727) hx hb dL_law_722 (by decide) (fun _ => ?_) (fun hq => absurd (show (0 : Int32) = 0 by decide) hq)
    refine lv_goto (tgt := 2262) hx hb dL_law_727 (by decide) ?_
    exact kont _ _ _ _ _ _ _ _ _ (by omega) (by omega) hR2 (lv_sub hl [2, 3, 4, 5, 6, 7] rfl) hH hS
