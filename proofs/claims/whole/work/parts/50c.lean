set_option maxHeartbeats 4000000 in
set_option maxRecDepth 100000 in
theorem met_X4_isSound (l : Launch) (E : wE) (o : wO) (g : Nat → Nat) (x y : St) (hI : CI x) (hJ : CJ x) (hsum : fU (stH x) (x.2 18 0) (x.1 1 0) = x.2 19 0) (hbest : ∀ j, j < x.1 1 0 → ∀ x8 : St, x8 = fU stN x j → ∀ a d, 10 * j ≤ a → a < 10 * j + 10 → d < (stN j x8).1 0 0 → (stN j x8).1 8 d = 1 → pD (stN j x8) d ((stN j x8).2 5 j) (nI ((stN j x8).1 9 0)) - pS (stN j x8) a ((stN j x8).2 5 j) (nI ((stN j x8).1 9 0)) ≤ fU (stSm (stN j x8)) 0 1) : Met l yX4_isSound wsX4_isSound ({ frames := 8, cells := 0, slots := 0, locals := 900 } : Room) (va_Pc [.ref (g 0)] (wPre E o g x y)) (va_Qi (fun (r : Int32) (_ : Unit) => r = 1) (fun (_ : Unit) t => wHS E o g (fU stN x (x.1 1 0)) y t.heap) (wA E)) 0 0 (wA E) := by
  refine Met.ofW (cc := cX4_isSound) (maxL := 1) (ret := (some .boolean)) (by decide) rfl ?_
  intro p e s m args below meth c s₁ B hml hv
  obtain ⟨rfl, hz, hH, hK⟩ := hv
  have hx := B.exec
  have hb := B.bytes
  have hr := B.returns
  have hts := atoms_spec (ws := wsX4_isSound) B.pre
  have hown : s.vm.findClass RX4 = some m.cls := findClass_of_methodNamed B.named
  have hlocks := B.notSynchronized
  have hS : va_S (wA E) s.heap s.heap [] := va_S.rf
  have hinX4 : ∀ w ∈ wsX40, w ∈ wsX4_isSound := fun w h => List.mem_cons_of_mem _ (List.mem_append_left _ (List.mem_append_left _ (List.mem_append_left _ (List.mem_append_left _ (List.mem_append_left _ (List.mem_append_right _ h))))))
  have hinJx4a65c : ∀ w ∈ wsJx4a65c0, w ∈ wsX4_isSound := fun w h => List.mem_cons_of_mem _ (List.mem_append_left _ (List.mem_append_left _ (List.mem_append_left _ (List.mem_append_left _ (List.mem_append_right _ h)))))
  have hinX0 : ∀ w ∈ wsX00, w ∈ wsX4_isSound := fun w h => List.mem_cons_of_mem _ (List.mem_append_left _ (List.mem_append_left _ (List.mem_append_left _ (List.mem_append_right _ h))))
  have hinX3 : ∀ w ∈ wsX30, w ∈ wsX4_isSound := fun w h => List.mem_cons_of_mem _ (List.mem_append_left _ (List.mem_append_left _ (List.mem_append_right _ h)))
  have hinX2 : ∀ w ∈ wsX20, w ∈ wsX4_isSound := fun w h => List.mem_cons_of_mem _ (List.mem_append_left _ (List.mem_append_right _ h))
  have hl := lv_entry ([.ref (g 0)]) (n := 1) (Nat.le_of_ble_eq_true rfl)
  rw [lg_entry_eq]
  generalize (lg_sl ([.ref (g 0)]) ++ List.replicate (1 - (lg_sl ([.ref (g 0)])).length) Slot.unset).toArray = ls at hl ⊢
  have hl : lv_has ls 1 [(0, .ref (g 0))] := hl
  obtain ⟨H, eH⟩ : ∃ z, z = s.heap := ⟨_, rfl⟩
  have hH : wHS E o g x y H := by rw [eH]; exact hH
  have hS : va_S (wA E) s.heap H [] := by rw [eH]; exact hS
  refine W.heapTo eH ?_
  obtain ⟨hn0, hn1, hn2, hn3, hn4, hn5, hc7, hc8, hc5, hc54, hc4, hc50, hc9, hc12, hc10, hcj⟩ := id hI
  refine lv_aload_n hx hb dX4_isSound_0 rfl (lv_at hl 0 rfl) ?_
  refine va_calli (va_runV (As := []) (rest := []) ⟨hx, hb, hml, hown, hts⟩ (met_X4_hasNoDiscTwice l E o g x y hI hJ) (cwV 0 hts gX4_isSound_X4_hasNoDiscTwice rfl rfl rfl (by decide +kernel) ⟨Nat.le_of_ble_eq_true rfl, Nat.le_of_ble_eq_true rfl⟩) ⟨fun a U f mk q => ⟨q.1, wPre.calling q.2 a f mk⟩, (va_recv hK (wH_one hH lv_r0 (cel_rt (by omega))) (ci := 6) (q0 := 0) rfl rfl), fun U hU hW => ⟨rfl, wPre_at hz hS hH hK U hU hW⟩⟩ rfl rfl hl.1 rfl (lv_room (Nat.le_of_ble_eq_true rfl)) dX4_isSound_1 ⟨Nat.le_of_ble_eq_true rfl, Nat.le_of_ble_eq_true rfl⟩) hS (fun q _ h => h) (fun q h => h) (fun r u t H locs ht hvm hw hB hz1 hk1 hS => ?_)
  have hB := wHS_h ht hB
  try dsimp only at hw
  have hH := hB
  obtain rfl := hw
  refine lv_if_eq (tgt := 32) hx hb dX4_isSound_4 (by decide) (fun hq => absurd hq (show ¬ (1 : Int32) = 0 by decide)) (fun _ => ?_)
  refine lv_aload_n hx hb dX4_isSound_7 rfl (lv_at hl 0 rfl) ?_
  refine va_calli (va_runV (As := []) (rest := []) ⟨hx, hb, hml, hown, hts⟩ (met_X4_hasNoLongQueue l E o g x y hI) (cwV 0 hts gX4_isSound_X4_hasNoLongQueue rfl rfl rfl (by decide +kernel) ⟨Nat.le_of_ble_eq_true rfl, Nat.le_of_ble_eq_true rfl⟩) ⟨fun a U f mk q => ⟨q.1, wPre.calling q.2 a f mk⟩, (va_recv hK (wH_one hH lv_r0 (cel_rt (by omega))) (ci := 6) (q0 := 0) rfl rfl), fun U hU hW => ⟨rfl, wPre_at hz hS hH hK U hU hW⟩⟩ rfl rfl hl.1 rfl (lv_room (Nat.le_of_ble_eq_true rfl)) dX4_isSound_8 ⟨Nat.le_of_ble_eq_true rfl, Nat.le_of_ble_eq_true rfl⟩) hS (fun q _ h => h) (fun q h => h) (fun r u t H locs ht hvm hw hB hz1 hk1 hS => ?_)
  have hB := wHS_h ht hB
  try dsimp only at hw
  have hH := hB
  obtain rfl := hw
  refine lv_if_eq (tgt := 32) hx hb dX4_isSound_11 (by decide) (fun hq => absurd hq (show ¬ (1 : Int32) = 0 by decide)) (fun _ => ?_)
  refine lv_aload_n hx hb dX4_isSound_14 rfl (lv_at hl 0 rfl) ?_
  refine va_calli (va_runV (As := []) (rest := []) ⟨hx, hb, hml, hown, hts⟩ (met_X4_hasAllCents l E o g x y hI) (cwV 0 hts gX4_isSound_X4_hasAllCents rfl rfl rfl (by decide +kernel) ⟨Nat.le_of_ble_eq_true rfl, Nat.le_of_ble_eq_true rfl⟩) ⟨fun a U f mk q => ⟨q.1, wPre.calling q.2 a f mk⟩, (va_recv hK (wH_one hH lv_r0 (cel_rt (by omega))) (ci := 6) (q0 := 0) rfl rfl), fun U hU hW => ⟨rfl, wPre_at hz hS hH hK U hU hW⟩⟩ rfl rfl hl.1 rfl (lv_room (Nat.le_of_ble_eq_true rfl)) dX4_isSound_15 ⟨Nat.le_of_ble_eq_true rfl, Nat.le_of_ble_eq_true rfl⟩) hS (fun q _ h => h) (fun q h => h) (fun r u t H locs ht hvm hw hB hz1 hk1 hS => ?_)
  have hB := wHS_h ht hB
  try dsimp only at hw
  have hH := hB
  rcases hw with ⟨rfl, hw⟩ | ⟨rfl, hw⟩
  rotate_left
  · exact absurd hsum hw
  refine lv_if_eq (tgt := 32) hx hb dX4_isSound_18 (by decide) (fun hq => absurd hq (show ¬ (1 : Int32) = 0 by decide)) (fun _ => ?_)
  refine lv_aload_n hx hb dX4_isSound_21 rfl (lv_at hl 0 rfl) ?_
  refine va_calli (va_runV (As := []) (rest := []) ⟨hx, hb, hml, hown, hts⟩ (met_X4_hasNoBetterChange l E o g x y hI hbest) (cwV 0 hts gX4_isSound_X4_hasNoBetterChange rfl rfl rfl (by decide +kernel) ⟨Nat.le_of_ble_eq_true rfl, Nat.le_of_ble_eq_true rfl⟩) ⟨fun a U f mk q => ⟨q.1, wPre.calling q.2 a f mk⟩, (va_recv hK (wH_one hH lv_r0 (cel_rt (by omega))) (ci := 6) (q0 := 0) rfl rfl), fun U hU hW => ⟨rfl, wPre_at hz hS hH hK U hU hW⟩⟩ rfl rfl hl.1 rfl (lv_room (Nat.le_of_ble_eq_true rfl)) dX4_isSound_22 ⟨Nat.le_of_ble_eq_true rfl, Nat.le_of_ble_eq_true rfl⟩) hS (fun q _ h => h) (fun q h => h) (fun r u t H locs ht hvm hw hB hz1 hk1 hS => ?_)
  have hB := wHS_h ht hB
  try dsimp only at hw
  have hH := hB
  obtain rfl := hw
  refine lv_if_eq (tgt := 32) hx hb dX4_isSound_25 (by decide) (fun hq => absurd hq (show ¬ (1 : Int32) = 0 by decide)) (fun _ => ?_)
  refine lv_iconst (v := 1) hx hb dX4_isSound_28 (by decide) ?_
  refine lv_goto (tgt := 33) hx hb dX4_isSound_29 (by decide) ?_
  exact W.zret (v := 1) hx hb hr rfl (fun t ht hW => ⟨⟨1, (), rfl, rfl, wHS_t ht hH⟩, hS.F ht⟩) hS.2.2 dX4_isSound_33
