/-! ===== the law, from its entry ===== -/
set_option maxHeartbeats 4000000 in
set_option maxRecDepth 100000 in
theorem lw_init {p : Program} {l : Launch} {e : Env} {s : State} {m : MethodId} {below : List Frame} {meth : Method} {c : Code} {E : wE} {b L : Nat} {xs : Nat → Int32} {Q : State → Prop} (hE : lwE p l s m meth c E b L xs)
    (fin : ∀ (H : Heap) (locs : List Loc) (ls : Array Slot) (cells slots : Nat), cells ≤ 30000 → slots ≤ 300000 → va_S (wA E) s.heap H locs → W p l e room_1 s m #[Value.ref b] below meth c H locs cells slots Q (F0 m 2268 ls [])) : W p l e room_1 s m #[Value.ref b] below meth c s.heap [] 0 0 Q (entryFrame m ([Value.ref b] : List Value).toArray 9) := by
  obtain ⟨hx, hb, hml, hown, hts, hr, hlocks, hX, hbl, hbA, hz, hK, hC, hDD, hNc, hlt, hL⟩ := id hE
  have hS : va_S (wA E) s.heap s.heap [] := va_S.rf
  have hl := lv_entry ([.ref b]) (n := 9) (Nat.le_of_ble_eq_true rfl)
  rw [lg_entry_eq]
  generalize (lg_sl ([.ref b]) ++ List.replicate (9 - (lg_sl ([.ref b])).length) Slot.unset).toArray = ls at hl ⊢
  have hl : lv_has ls 9 [(0, .ref b)] := hl
  obtain ⟨H, eH⟩ : ∃ z, z = s.heap := ⟨_, rfl⟩
  have hS : va_S (wA E) s.heap H [] := by rw [eH]; exact hS
  refine W.heapTo eH ?_
  have hH : wH E.1 E.2.2 (fun _ => 0) (fun _ => False) (fun _ => .inl (E.2.1.1 0, 0, .inl (fun _ => 0))) H := ⟨fun t h => h.elim, fun t h => h.elim, fun t t' h => h.elim, fun t h => h.elim⟩
  refine wr_new (C := RX4) (T := TX4) (N := 9) (ci := 6) (fs := [.null, .null, .null, .null, .int 0, .int 0, .int 0, .int 0, .int 0]) hx hb hts inlX4 tyX4 tyX4_ok hown (hts (.classLink RL 8 RX4) (by decide +kernel)) (hts (.instantiable RX4 9) (by decide +kernel)) (hts (.initialized RX4) (by decide +kernel)) hK hH hS hz rfl (by decide) 0 (fun h => h) (by omega) (by exact Nat.le_of_ble_eq_true rfl) (by exact Nat.le_of_ble_eq_true rfl) dL_law_0 (fun q1 H hH hS => ?_)
  refine lv_dup hx hb dL_law_3 rfl ?_
  refine va_callv (va_runI (As := []) (rest := [.ref q1]) ⟨hx, hb, hml, hown, hts⟩ (met_X4_init l E (va_up (fun _ => 0) 0 q1) (fun x => False ∨ x = 0) (va_up (fun _ => .inl (E.2.1.1 0, 0, .inl (fun _ => 0))) 0 (.inr (6, [.null, .null, .null, .null, .int 0, .int 0, .int 0, .int 0, .int 0]))) (fun t h q => q.elim (fun z => z.elim) (fun z => absurd z (by omega))) (Or.inr rfl) rfl (fun t q => q.elim (fun z => z.elim) (fun z => z))) (cwI 0 hts gL_law_X4_init rfl rfl rfl (hts (.initialized RX4) (by decide +kernel)) (hts (.methodLink RL 126 yX4_init) (by decide +kernel)) (hts (.instanceMethod yX4_init) (by decide +kernel)) rfl (by decide +kernel) ⟨Nat.le_of_ble_eq_true rfl, Nat.le_of_ble_eq_true rfl⟩) ⟨fun a U f mk q => ⟨q.1, wPreY.calling q.2 a f mk⟩, fun U hU hW => ⟨rfl, wPreY_at hz hS hH hK hC hDD U hU hW⟩⟩ rfl rfl hl.1 rfl (lv_room (Nat.le_of_ble_eq_true rfl)) dL_law_4 ⟨by exact Nat.le_of_ble_eq_true rfl, by exact Nat.le_of_ble_eq_true rfl⟩) hS (fun q _ h => h) (fun q h => h) (fun u t H locs ht hvm hw hB hz1 hk1 hS => ?_)
  obtain ⟨g9, hg9, hB⟩ := hB
  have hH := wG_h ht hB
  have e0 : g9 0 = q1 := (hg9 0 (Or.inl (by decide))).trans rfl
  refine lv_astore_n (lv' := [(1, .ref q1), (0, .ref b)]) hx hb dL_law_7 rfl hl (by decide) rfl (fun ls hl => ?_)
  refine wr_new (C := RX5) (T := TX5) (N := 30) (ci := 7) (fs := [.null, .null, .null, .null, .null, .int 0, .null, .null, .null, .null, .null, .null, .null, .null, .null, .null, .null, .null, .null, .int 0, .null, .null, .null, .null, .null, .int 0, .int 0, .int 0, .int 0, .int 0]) hx hb hts inlX5 tyX5 tyX5_ok hown (hts (.classLink RL 127 RX5) (by decide +kernel)) (hts (.instantiable RX5 30) (by decide +kernel)) (hts (.initialized RX5) (by decide +kernel)) hK hH hS hz rfl (by decide) 10 (by rintro ((h | h) | h | h | h | h) <;> first | exact h | exact absurd h (by decide)) (by omega) (by exact Nat.le_of_ble_eq_true rfl) (by exact Nat.le_of_ble_eq_true rfl) dL_law_8 (fun q2 H hH hS => ?_)
  refine lv_dup hx hb dL_law_11 rfl ?_
  refine va_callv (va_runI (As := []) (rest := [.ref q2]) ⟨hx, hb, hml, hown, hts⟩ (met_X5_init l E (va_up g9 10 q2) _ _ (by rintro t h (((z | z) | z | z | z | z) | z) <;> first | exact z | omega) (Or.inr rfl) rfl) (cwI 0 hts gL_law_X5_init rfl rfl rfl (hts (.initialized RX5) (by decide +kernel)) (hts (.methodLink RL 129 yX5_init) (by decide +kernel)) (hts (.instanceMethod yX5_init) (by decide +kernel)) rfl (by decide +kernel) ⟨Nat.le_of_ble_eq_true rfl, Nat.le_of_ble_eq_true rfl⟩) ⟨fun a U f mk q => ⟨q.1, wPreY.calling q.2 a f mk⟩, fun U hU hW => ⟨rfl, wPreY_at hz hS hH hK hC hDD U hU hW⟩⟩ rfl rfl hl.1 rfl (lv_room (Nat.le_of_ble_eq_true rfl)) dL_law_12 ⟨by exact Nat.le_of_ble_eq_true rfl, by exact Nat.le_of_ble_eq_true rfl⟩) hS (fun q _ h => h) (fun q h => h) (fun u t H locs ht hvm hw hB hz1 hk1 hS => ?_)
  obtain ⟨g8, hg8, hB⟩ := hB
  have hH := wG_h ht hB
  have e10 : g8 10 = q2 := (hg8 10 (Or.inl (by decide))).trans rfl
  have e9 : ∀ t, t < 10 → g8 t = g9 t := fun t h => (hg8 t (Or.inl (by omega))).trans (va_up_ne _ _ (by omega))
  refine lv_astore_n (lv' := [(2, .ref q2), (1, .ref q1), (0, .ref b)]) hx hb dL_law_15 rfl hl (by decide) rfl (fun ls hl => ?_)
  refine lv_iconst (v := 1) hx hb dL_law_16 (by decide) ?_
  refine wr_newa (atype := .long) (N' := 1) (a0 := (1, .inr (.inl (fun _ => 0)))) hx hb (hts (.arrayClass .long) (by decide +kernel)) (ty := .long) rfl hK hH hS hz (fun _ => rfl) (by decide) (by decide) (by decide) 40 (by rintro ((((h | h) | h | h | h | h) | h) | h) <;> first | exact h | exact absurd h (by decide) | omega) (by omega) (by exact Nat.le_of_ble_eq_true rfl) (by exact Nat.le_of_ble_eq_true rfl) dL_law_17 (fun q3 ca3 H hk3 hH hS => ?_)
  obtain rfl : ca3 = E.2.1.1 4 := va_K_one hk3 4 rfl
  refine lv_astore_n (lv' := [(3, .ref q3), (2, .ref q2), (1, .ref q1), (0, .ref b)]) hx hb dL_law_19 rfl hl (by decide) rfl (fun ls hl => ?_)
  refine lv_iconst (v := 1) hx hb dL_law_20 (by decide) ?_
  refine wr_newa (atype := .double) (N' := 1) (a0 := (1, .inr (.inr (.inr (.inl (fun _ => 0)))))) hx hb (hts (.arrayClass .double) (by decide +kernel)) (ty := .double) rfl hK hH hS hz (fun _ => rfl) (by decide) (by decide) (by decide) 41 (by rintro (((((h | h) | h | h | h | h) | h) | h) | h) <;> first | exact h | exact absurd h (by decide) | omega) (by omega) (by exact Nat.le_of_ble_eq_true rfl) (by exact Nat.le_of_ble_eq_true rfl) dL_law_21 (fun q4 ca4 H hk4 hH hS => ?_)
  obtain rfl : ca4 = E.2.1.1 5 := va_K_one hk4 5 rfl
  refine lv_astore (lv' := [(4, .ref q4), (3, .ref q3), (2, .ref q2), (1, .ref q1), (0, .ref b)]) hx hb dL_law_23 hl (by decide) rfl (fun ls hl => ?_)
  refine lv_iconst (v := 0) hx hb dL_law_25 (by decide) ?_
  refine lv_istore (lv' := [(5, .int 0), (4, .ref q4), (3, .ref q3), (2, .ref q2), (1, .ref q1), (0, .ref b)]) hx hb dL_law_26 hl (by decide) rfl (fun ls hl => ?_)
  have hl : lv_has ls 9 [(5, .int (nI (4 * 0))), (0, .ref b), (1, .ref q1), (2, .ref q2), (3, .ref q3), (4, .ref q4)] := lv_sub hl [0, 5, 4, 3, 2, 1] rfl
  have hfin : wHS E (fun _ => 0, fun _ => 0) (va_up (va_up g8 40 q3) 41 q4) x0 y0 H := by
    refine wH_fin hH (fun t ht => ?_)
    have c9 : (t = 0 ∨ t = 1 ∨ t = 3 ∨ t = 5 ∨ t = 6) ∨ (10 ≤ t ∧ t < 34) ∨ t = 40 ∨ t = 41 := by
      have f0 : x0.1 0 0 = 0 := rfl
      have f1 : x0.1 1 0 = 0 := rfl
      have f2 : x0.1 2 0 = 0 := rfl
      have f3 : x0.1 3 0 = 0 := rfl
      rcases ht with ⟨h1, h2, h3⟩ | h
      · have n2 : t ≠ 2 := fun h => h2 h f2
        have n4 : t ≠ 4 := fun h => h3 h f3
        omega
      · omega
    rcases c9 with c9 | c9 | rfl | rfl
    · have a1 := e9 1 (by decide)
      have a3 := e9 3 (by decide)
      have a5 := e9 5 (by decide)
      have a6 := e9 6 (by decide)
      rcases c9 with rfl | rfl | rfl | rfl | rfl
      · refine ⟨Or.inl (Or.inl (Or.inl (Or.inl (Or.inl (Or.inr rfl))))), Or.inl ?_⟩
        show cRt E.2.1 (va_up (va_up g8 40 q3) 41 q4) x0 0 = cRt E.2.1 g9 x0 0
        show (Sum.inr (6, [Value.ref (g8 1), Value.ref (g8 3), Value.ref (g8 5), Value.ref (g8 6), _, _, _, _, _]) : va_E) = Sum.inr (6, [Value.ref (g9 1), Value.ref (g9 3), Value.ref (g9 5), Value.ref (g9 6), _, _, _, _, _])
        rw [a1, a3, a5, a6]
      · exact ⟨Or.inl (Or.inl (Or.inl (Or.inl (Or.inr (Or.inl rfl))))), Or.inl rfl⟩
      · exact ⟨Or.inl (Or.inl (Or.inl (Or.inl (Or.inr (Or.inr (Or.inl rfl)))))), Or.inl rfl⟩
      · exact ⟨Or.inl (Or.inl (Or.inl (Or.inl (Or.inr (Or.inr (Or.inr (Or.inl rfl))))))), Or.inl rfl⟩
      · exact ⟨Or.inl (Or.inl (Or.inl (Or.inl (Or.inr (Or.inr (Or.inr (Or.inr rfl))))))), Or.inl rfl⟩
    · by_cases h10 : t = 10
      · obtain rfl := h10
        exact ⟨Or.inl (Or.inl (Or.inl (Or.inr rfl))), Or.inl rfl⟩
      · refine ⟨Or.inl (Or.inl (Or.inr ⟨by omega, by omega⟩)), Or.inl ?_⟩
        rcases (show t = 11 ∨ t = 12 ∨ t = 13 ∨ t = 14 ∨ t = 15 ∨ t = 16 ∨ t = 17 ∨ t = 18 ∨ t = 19 ∨ t = 20 ∨ t = 21 ∨ t = 22 ∨ t = 23 ∨ t = 24 ∨ t = 25 ∨ t = 26 ∨ t = 27 ∨ t = 28 ∨ t = 29 ∨ t = 30 ∨ t = 31 ∨ t = 32 ∨ t = 33 by omega) with rfl | rfl | rfl | rfl | rfl | rfl | rfl | rfl | rfl | rfl | rfl | rfl | rfl | rfl | rfl | rfl | rfl | rfl | rfl | rfl | rfl | rfl | rfl
        all_goals rfl
    · exact ⟨Or.inl (Or.inr rfl), Or.inl rfl⟩
    · exact ⟨Or.inr rfl, Or.inl rfl⟩
  refine lw_loop hE fin (L + 1) 0 (by omega) (by omega) _ _ _ _ _ _ _ _ _ (by omega) (by omega) Rel0 ?_ hfin hS
  show lv_has ls 9 [(5, .int (nI (4 * 0))), (0, .ref b), (1, .ref (g8 0)), (2, .ref (g8 10)), (3, .ref q3), (4, .ref q4)]
  rw [e10, e9 0 (by decide), e0]
  exact hl
