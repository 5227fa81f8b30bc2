/-! ===== the class: parts of isSound ===== -/
def stH (x : St) (n : Nat) (q : Int32) : Int32 := q + x.2 13 n
set_option maxHeartbeats 4000000 in
set_option maxRecDepth 100000 in
theorem met_X4_hasNoLongQueue (l : Launch) (E : wE) (o : wO) (g : Nat → Nat) (x y : St) (hI : CI x) : Met l yX4_hasNoLongQueue wsX4_hasNoLongQueue ({ frames := 3, cells := 0, slots := 0, locals := 400 } : Room) (va_Pc [.ref (g 0)] (wPre E o g x y)) (va_Qi (fun (r : Int32) (_ : Unit) => r = 1) (fun (_ : Unit) t => wHS E o g x y t.heap) (wA E)) 0 0 (wA E) := by
  refine Met.ofW (cc := cX4_hasNoLongQueue) (maxL := 2) (ret := (some .boolean)) (by decide) rfl ?_
  intro p e s m args below meth c s₁ B hml hv
  obtain ⟨rfl, hz, hH, hK⟩ := hv
  have hx := B.exec
  have hb := B.bytes
  have hr := B.returns
  have hts := atoms_spec (ws := wsX4_hasNoLongQueue) B.pre
  have hown : s.vm.findClass RX4 = some m.cls := findClass_of_methodNamed B.named
  have hlocks := B.notSynchronized
  have hS : va_S (wA E) s.heap s.heap [] := va_S.rf
  have hinX4 : ∀ w ∈ wsX40, w ∈ wsX4_hasNoLongQueue := fun w h => List.mem_cons_of_mem _ (List.mem_append_left _ (List.mem_append_left _ (List.mem_append_right _ h)))
  have hinX0 : ∀ w ∈ wsX00, w ∈ wsX4_hasNoLongQueue := fun w h => List.mem_cons_of_mem _ (List.mem_append_left _ (List.mem_append_right _ h))
  have hinJx4a65c : ∀ w ∈ wsJx4a65c0, w ∈ wsX4_hasNoLongQueue := fun w h => List.mem_cons_of_mem _ (List.mem_append_right _ h)
  have hl := lv_entry ([.ref (g 0)]) (n := 2) (Nat.le_of_ble_eq_true rfl)
  rw [lg_entry_eq]
  generalize (lg_sl ([.ref (g 0)]) ++ List.replicate (2 - (lg_sl ([.ref (g 0)])).length) Slot.unset).toArray = ls at hl ⊢
  have hl : lv_has ls 2 [(0, .ref (g 0))] := hl
  obtain ⟨H, eH⟩ : ∃ z, z = s.heap := ⟨_, rfl⟩
  have hH : wHS E o g x y H := by rw [eH]; exact hH
  have hS : va_S (wA E) s.heap H [] := by rw [eH]; exact hS
  refine W.heapTo eH ?_
  obtain ⟨hn0, hn1, hn2, hn3, hn4, hn5, hc7, hc8, hc5, hc54, hc4, hc50, hc9, hc12, hc10, hcj⟩ := id hI
  refine W.nameQ (fun Q eQ => ?_)
  refine lv_iconst (v := 0) hx hb dX4_hasNoLongQueue_0 (by decide) ?_
  refine lv_istore_n (lv' := [(1, .int 0), (0, .ref (g 0))]) hx hb dX4_hasNoLongQueue_1 rfl hl (by decide) rfl (fun ls hl => ?_)
  have loop : ∀ (k n : Nat), n + k = (x.1 1 0) → ∀ (H : Heap) (locs : List Loc) (ls : Array Slot), lv_has ls 2 [(1, .int (nI n)), (0, .ref (g 0))] → wHS E o g x y H → va_S (wA E) s.heap H locs → W p l e ({ frames := 3, cells := 0, slots := 0, locals := 400 } : Room) s m #[.ref (g 0)] below meth c H locs 0 0 Q (F0 m 2 ls []) := by
    intro k
    induction k with
    | zero =>
      intro n hn H locs ls hl hH hS
      obtain rfl : (x.1 1 0) = n := by omega
      have hl : lv_has ls 2 [(1, .int (nI (x.1 1 0))), (0, .ref (g 0))] := hl
      refine lv_iload_n hx hb dX4_hasNoLongQueue_2 rfl (lv_at hl 0 rfl) ?_
      refine lv_aload_n hx hb dX4_hasNoLongQueue_3 rfl (lv_at hl 1 rfl) ?_
      refine wr_get (T := TX4) (N := 9) (ci := 6) (v := .ref (g 3)) hx hb hts hinX4 hown hK hH lv_r0 (cel_rt (by omega)) rfl 1 (by decide) (hts (.fieldLink RX4 16 "SelectoRoute" "boxes" "Ljava/util/ArrayList;") (by decide +kernel)) (fun _ h => h) rfl dX4_hasNoLongQueue_4 ?_
      refine va_calli (va_runV (As := []) (rest := [.int (nI (x.1 1 0))]) ⟨hx, hb, hml, hown, hts⟩ (met_AL_size l E g (liv x.1) (cel E.2.1 g x y o.1 o.2) 3 4 (x.2 21 0) (x.1 3 0) (x.1 1 0) E.2.1.2 lv_r3 (cel_rt (by omega))) (cwV 0 hts gX4_hasNoLongQueue_Jx4a65c_size_8abf5 rfl rfl rfl (by decide +kernel) ⟨Nat.le_of_ble_eq_true rfl, Nat.le_of_ble_eq_true rfl⟩) ⟨fun a U f mk q => ⟨q.1, wPreG.calling q.2 a f mk⟩, (va_recv hK (wH_one hH lv_r3 (cel_rt (by omega))) (ci := 2) (q0 := 0) rfl rfl), fun U hU hW => ⟨rfl, wPreG_at hz hS hH hK U hU hW⟩⟩ rfl rfl hl.1 rfl (lv_room (Nat.le_of_ble_eq_true rfl)) dX4_hasNoLongQueue_7 ⟨Nat.le_of_ble_eq_true rfl, Nat.le_of_ble_eq_true rfl⟩) hS (fun q _ h => h) (fun q h => h) (fun r u t H locs ht hvm hw hB hz1 hk1 hS => ?_)
      obtain rfl := hw
      have hH : wHS E o g x y H := wG_h ht hB
      refine lv_icmp_ge (tgt := 43) hx hb dX4_hasNoLongQueue_10 (by decide) (fun _ => ?_) (fun hq => absurd ((nI_leI (a := (x.1 1 0)) (b := (x.1 1 0)) (by omega) (by omega)).mpr (Nat.le_refl _)) hq)
      refine lv_iconst (v := 1) hx hb dX4_hasNoLongQueue_43 (by decide) ?_
      rw [eQ]
      exact W.zret (v := 1) hx hb hr rfl (fun t ht hW => ⟨⟨1, (), rfl, rfl, wHS_t ht hH⟩, hS.F ht⟩) hS.2.2 dX4_hasNoLongQueue_44
    | succ k ih =>
      intro n hn H locs ls hl hH hS
      have hlt : n < (x.1 1 0) := by omega
      refine lv_iload_n hx hb dX4_hasNoLongQueue_2 rfl (lv_at hl 0 rfl) ?_
      refine lv_aload_n hx hb dX4_hasNoLongQueue_3 rfl (lv_at hl 1 rfl) ?_
      refine wr_get (T := TX4) (N := 9) (ci := 6) (v := .ref (g 3)) hx hb hts hinX4 hown hK hH lv_r0 (cel_rt (by omega)) rfl 1 (by decide) (hts (.fieldLink RX4 16 "SelectoRoute" "boxes" "Ljava/util/ArrayList;") (by decide +kernel)) (fun _ h => h) rfl dX4_hasNoLongQueue_4 ?_
      refine va_calli (va_runV (As := []) (rest := [.int (nI n)]) ⟨hx, hb, hml, hown, hts⟩ (met_AL_size l E g (liv x.1) (cel E.2.1 g x y o.1 o.2) 3 4 (x.2 21 0) (x.1 3 0) (x.1 1 0) E.2.1.2 lv_r3 (cel_rt (by omega))) (cwV 0 hts gX4_hasNoLongQueue_Jx4a65c_size_8abf5 rfl rfl rfl (by decide +kernel) ⟨Nat.le_of_ble_eq_true rfl, Nat.le_of_ble_eq_true rfl⟩) ⟨fun a U f mk q => ⟨q.1, wPreG.calling q.2 a f mk⟩, (va_recv hK (wH_one hH lv_r3 (cel_rt (by omega))) (ci := 2) (q0 := 0) rfl rfl), fun U hU hW => ⟨rfl, wPreG_at hz hS hH hK U hU hW⟩⟩ rfl rfl hl.1 rfl (lv_room (Nat.le_of_ble_eq_true rfl)) dX4_hasNoLongQueue_7 ⟨Nat.le_of_ble_eq_true rfl, Nat.le_of_ble_eq_true rfl⟩) hS (fun q _ h => h) (fun q h => h) (fun r u t H locs ht hvm hw hB hz1 hk1 hS => ?_)
      obtain rfl := hw
      have hH : wHS E o g x y H := wG_h ht hB
      refine lv_icmp_ge (tgt := 43) hx hb dX4_hasNoLongQueue_10 (by decide) (fun hq => absurd ((nI_leI (a := (x.1 1 0)) (b := n) (by omega) (by omega)).mp hq) (Nat.not_le.mpr hlt)) (fun _ => ?_)
      refine lv_aload_n hx hb dX4_hasNoLongQueue_13 rfl (lv_at hl 1 rfl) ?_
      refine wr_get (T := TX4) (N := 9) (ci := 6) (v := .ref (g 3)) hx hb hts hinX4 hown hK hH lv_r0 (cel_rt (by omega)) rfl 1 (by decide) (hts (.fieldLink RX4 16 "SelectoRoute" "boxes" "Ljava/util/ArrayList;") (by decide +kernel)) (fun _ h => h) rfl dX4_hasNoLongQueue_14 ?_
      refine lv_iload_n hx hb dX4_hasNoLongQueue_17 rfl (lv_at hl 0 rfl) ?_
      refine va_callr (va_runV (As := [.int (nI n)]) (rest := []) ⟨hx, hb, hml, hown, hts⟩ (met_AL_get l E g (liv x.1) (cel E.2.1 g x y o.1 o.2) 3 4 (x.2 21 0) (x.1 3 0) (x.1 1 0) E.2.1.2 n lv_r3 (cel_rt (by omega)) (show x.1 3 0 ≠ 0 by have hq := (show n < x.1 1 0 by omega); omega) (lv_r4 (show x.1 3 0 ≠ 0 by have hq := (show n < x.1 1 0 by omega); omega)) (fun i => g (200 + i)) (cel_rt (by omega)) (show x.1 1 0 ≤ x.1 3 0 by omega) (show x.1 3 0 < 2 ^ 31 by omega) (show n < x.1 1 0 by omega)) (cwV 1 hts gX4_hasNoLongQueue_Jx4a65c_get_915e3 rfl rfl rfl (by decide +kernel) ⟨Nat.le_of_ble_eq_true rfl, Nat.le_of_ble_eq_true rfl⟩) ⟨fun a U f mk q => ⟨q.1, wPreG.calling q.2 a f mk⟩, (va_recv hK (wH_one hH lv_r3 (cel_rt (by omega))) (ci := 2) (q0 := 0) rfl rfl), fun U hU hW => ⟨rfl, wPreG_at hz hS hH hK U hU hW⟩⟩ rfl rfl hl.1 rfl (lv_room (Nat.le_of_ble_eq_true rfl)) dX4_hasNoLongQueue_18 ⟨Nat.le_of_ble_eq_true rfl, Nat.le_of_ble_eq_true rfl⟩) hS (fun q _ h => h) (fun q h => h) (fun u ra t H locs ht hvm hw hB hz1 hk1 hS => ?_)
      obtain ⟨rfl, hB⟩ := hB
      have hH : wHS E o g x y H := wG_h ht hB
      refine va_castS hx hb hown (hts (.classLink RX4 69 "SelectoRoute$Box") (by decide +kernel)) (hK.1 3 _ rfl).2 (va_recv hK (wH_one hH (lv_bx (show n < x.1 1 0 by omega) hn1) (cel_bx (by omega))) (ci := 3) (q0 := 0) rfl rfl) dX4_hasNoLongQueue_21 ?_
      refine wr_get (T := TX0) (N := 15) (ci := 3) (v := .ref (g (220 + n))) hx hb hts hinX0 hown hK hH (lv_bx (show n < x.1 1 0 by omega) hn1) (cel_bx (by omega)) rfl 4 (by decide) (hts (.fieldLink RX4 126 "SelectoRoute$Box" "queue" "Ljava/util/ArrayList;") (by decide +kernel)) (fun _ h => h) rfl dX4_hasNoLongQueue_24 ?_
      refine va_calli (va_runV (As := []) (rest := []) ⟨hx, hb, hml, hown, hts⟩ (met_AL_size l E g (liv x.1) (cel E.2.1 g x y o.1 o.2) (220 + n) (230 + n) (x.2 22 n) (x.1 4 n) (x.1 5 n) E.2.1.2 (lv_ql (show n < x.1 1 0 by omega) hn1) (cel_ql (by omega))) (cwV 0 hts gX4_hasNoLongQueue_Jx4a65c_size_8abf5 rfl rfl rfl (by decide +kernel) ⟨Nat.le_of_ble_eq_true rfl, Nat.le_of_ble_eq_true rfl⟩) ⟨fun a U f mk q => ⟨q.1, wPreG.calling q.2 a f mk⟩, (va_recv hK (wH_one hH (lv_ql (show n < x.1 1 0 by omega) hn1) (cel_ql (by omega))) (ci := 2) (q0 := 0) rfl rfl), fun U hU hW => ⟨rfl, wPreG_at hz hS hH hK U hU hW⟩⟩ rfl rfl hl.1 rfl (lv_room (Nat.le_of_ble_eq_true rfl)) dX4_hasNoLongQueue_27 ⟨Nat.le_of_ble_eq_true rfl, Nat.le_of_ble_eq_true rfl⟩) hS (fun q _ h => h) (fun q h => h) (fun r u t H locs ht hvm hw hB hz1 hk1 hS => ?_)
      obtain rfl := hw
      have hH : wHS E o g x y H := wG_h ht hB
      refine lv_bipush (v := 8) hx hb dX4_hasNoLongQueue_30 (by decide) ?_
      refine lv_icmp_le (tgt := 37) hx hb dX4_hasNoLongQueue_32 (by decide) (fun _ => ?_) (fun hq => absurd ((nI_leI (a := (x.1 5 n)) (b := 8) (by have q0 := hc5 n; omega) (by omega)).mpr (hc5 n)) hq)
      obtain ⟨v1, ev1⟩ : ∃ y : Int32, y = (nI n) + 1 := ⟨_, rfl⟩
      refine lv_iinc (v := v1) (lv' := [(1, .int v1), (0, .ref (g 0))]) hx hb dX4_hasNoLongQueue_37 hl (k := 0) rfl (by rw [ev1]; rfl) (by decide) rfl (fun ls hl => ?_)
      refine lv_goto (tgt := 2) hx hb dX4_hasNoLongQueue_40 (by decide) ?_
      have e9 : v1 = nI (n + 1) := by rw [ev1]; exact nI_1 n
      rw [e9] at hl
      exact ih (n + 1) (by omega) H locs ls (lv_sub hl [0, 1] rfl) hH hS
  exact loop (x.1 1 0) 0 (by omega) H _ ls (lv_sub hl [0, 1] rfl) hH hS
set_option maxHeartbeats 4000000 in
set_option maxRecDepth 100000 in
theorem met_X4_hasAllCents (l : Launch) (E : wE) (o : wO) (g : Nat → Nat) (x y : St) (hI : CI x) : Met l yX4_hasAllCents wsX4_hasAllCents ({ frames := 3, cells := 0, slots := 0, locals := 400 } : Room) (va_Pc [.ref (g 0)] (wPre E o g x y)) (va_Qi (fun (r : Int32) (_ : Unit) => (r = 1 ∧ fU (stH x) (x.2 18 0) (x.1 1 0) = x.2 19 0) ∨ (r = 0 ∧ ¬ fU (stH x) (x.2 18 0) (x.1 1 0) = x.2 19 0)) (fun (_ : Unit) t => wHS E o g x y t.heap) (wA E)) 0 0 (wA E) := by
  refine Met.ofW (cc := cX4_hasAllCents) (maxL := 3) (ret := (some .boolean)) (by decide) rfl ?_
  intro p e s m args below meth c s₁ B hml hv
  obtain ⟨rfl, hz, hH, hK⟩ := hv
  have hx := B.exec
  have hb := B.bytes
  have hr := B.returns
  have hts := atoms_spec (ws := wsX4_hasAllCents) B.pre
  have hown : s.vm.findClass RX4 = some m.cls := findClass_of_methodNamed B.named
  have hlocks := B.notSynchronized
  have hS : va_S (wA E) s.heap s.heap [] := va_S.rf
  have hinX4 : ∀ w ∈ wsX40, w ∈ wsX4_hasAllCents := fun w h => List.mem_cons_of_mem _ (List.mem_append_left _ (List.mem_append_left _ (List.mem_append_right _ h)))
  have hinX0 : ∀ w ∈ wsX00, w ∈ wsX4_hasAllCents := fun w h => List.mem_cons_of_mem _ (List.mem_append_left _ (List.mem_append_right _ h))
  have hinJx4a65c : ∀ w ∈ wsJx4a65c0, w ∈ wsX4_hasAllCents := fun w h => List.mem_cons_of_mem _ (List.mem_append_right _ h)
  have hl := lv_entry ([.ref (g 0)]) (n := 3) (Nat.le_of_ble_eq_true rfl)
  rw [lg_entry_eq]
  generalize (lg_sl ([.ref (g 0)]) ++ List.replicate (3 - (lg_sl ([.ref (g 0)])).length) Slot.unset).toArray = ls at hl ⊢
  have hl : lv_has ls 3 [(0, .ref (g 0))] := hl
  obtain ⟨H, eH⟩ : ∃ z, z = s.heap := ⟨_, rfl⟩
  have hH : wHS E o g x y H := by rw [eH]; exact hH
  have hS : va_S (wA E) s.heap H [] := by rw [eH]; exact hS
  refine W.heapTo eH ?_
  obtain ⟨hn0, hn1, hn2, hn3, hn4, hn5, hc7, hc8, hc5, hc54, hc4, hc50, hc9, hc12, hc10, hcj⟩ := id hI
  refine W.nameQ (fun Q eQ => ?_)
  refine lv_aload_n hx hb dX4_hasAllCents_0 rfl (lv_at hl 0 rfl) ?_
  refine wr_get (T := TX4) (N := 9) (ci := 6) (v := .int (x.2 18 0)) hx hb hts hinX4 hown hK hH lv_r0 (cel_rt (by omega)) rfl 8 (by decide) (hts (.fieldLink RX4 211 "SelectoRoute" "earned" "I") (by decide +kernel)) (fun _ h => h) rfl dX4_hasAllCents_1 ?_
  refine lv_istore_n (lv' := [(1, .int (x.2 18 0)), (0, .ref (g 0))]) hx hb dX4_hasAllCents_4 rfl hl (by decide) rfl (fun ls hl => ?_)
  refine lv_iconst (v := 0) hx hb dX4_hasAllCents_5 (by decide) ?_
  refine lv_istore_n (lv' := [(2, .int 0), (1, .int (x.2 18 0)), (0, .ref (g 0))]) hx hb dX4_hasAllCents_6 rfl hl (by decide) rfl (fun ls hl => ?_)
  have loop : ∀ (k n : Nat), n + k = (x.1 1 0) → ∀ (q : Int32), q = fU (stH x) (x.2 18 0) n → True → ∀ (H : Heap) (locs : List Loc) (ls : Array Slot), lv_has ls 3 [(1, .int q), (2, .int (nI n)), (0, .ref (g 0))] → wHS E o g x y H → va_S (wA E) s.heap H locs → W p l e ({ frames := 3, cells := 0, slots := 0, locals := 400 } : Room) s m #[.ref (g 0)] below meth c H locs 0 0 Q (F0 m 7 ls []) := by
    intro k
    induction k with
    | zero =>
      intro n hn q hq hqb H locs ls hl hH hS
      obtain rfl : (x.1 1 0) = n := by omega
      rw [hq] at hl
      try rw [hq] at hqb
      have hl : lv_has ls 3 [(1, .int (fU (stH x) (x.2 18 0) (x.1 1 0))), (2, .int (nI (x.1 1 0))), (0, .ref (g 0))] := hl
      refine lv_iload_n hx hb dX4_hasAllCents_7 rfl (lv_at hl 1 rfl) ?_
      refine lv_aload_n hx hb dX4_hasAllCents_8 rfl (lv_at hl 2 rfl) ?_
      refine wr_get (T := TX4) (N := 9) (ci := 6) (v := .ref (g 3)) hx hb hts hinX4 hown hK hH lv_r0 (cel_rt (by omega)) rfl 1 (by decide) (hts (.fieldLink RX4 16 "SelectoRoute" "boxes" "Ljava/util/ArrayList;") (by decide +kernel)) (fun _ h => h) rfl dX4_hasAllCents_9 ?_
      refine va_calli (va_runV (As := []) (rest := [.int (nI (x.1 1 0))]) ⟨hx, hb, hml, hown, hts⟩ (met_AL_size l E g (liv x.1) (cel E.2.1 g x y o.1 o.2) 3 4 (x.2 21 0) (x.1 3 0) (x.1 1 0) E.2.1.2 lv_r3 (cel_rt (by omega))) (cwV 0 hts gX4_hasAllCents_Jx4a65c_size_8abf5 rfl rfl rfl (by decide +kernel) ⟨Nat.le_of_ble_eq_true rfl, Nat.le_of_ble_eq_true rfl⟩) ⟨fun a U f mk q => ⟨q.1, wPreG.calling q.2 a f mk⟩, (va_recv hK (wH_one hH lv_r3 (cel_rt (by omega))) (ci := 2) (q0 := 0) rfl rfl), fun U hU hW => ⟨rfl, wPreG_at hz hS hH hK U hU hW⟩⟩ rfl rfl hl.1 rfl (lv_room (Nat.le_of_ble_eq_true rfl)) dX4_hasAllCents_12 ⟨Nat.le_of_ble_eq_true rfl, Nat.le_of_ble_eq_true rfl⟩) hS (fun q _ h => h) (fun q h => h) (fun r u t H locs ht hvm hw hB hz1 hk1 hS => ?_)
      obtain rfl := hw
      have hH : wHS E o g x y H := wG_h ht hB
      refine lv_icmp_ge (tgt := 41) hx hb dX4_hasAllCents_15 (by decide) (fun _ => ?_) (fun hq => absurd ((nI_leI (a := (x.1 1 0)) (b := (x.1 1 0)) (by omega) (by omega)).mpr (Nat.le_refl _)) hq)
      refine lv_iload_n hx hb dX4_hasAllCents_41 rfl (lv_at hl 0 rfl) ?_
      refine lv_aload_n hx hb dX4_hasAllCents_42 rfl (lv_at hl 2 rfl) ?_
      refine wr_get (T := TX4) (N := 9) (ci := 6) (v := .int (x.2 19 0)) hx hb hts hinX4 hown hK hH lv_r0 (cel_rt (by omega)) rfl 7 (by decide) (hts (.fieldLink RX4 208 "SelectoRoute" "taken" "I") (by decide +kernel)) (fun _ h => h) rfl dX4_hasAllCents_43 ?_
      refine lv_icmp_ne (tgt := 53) hx hb dX4_hasAllCents_46 (by decide) (fun c1 => ?_) (fun c1 => ?_)
      · skip
        refine lv_iconst (v := 0) hx hb dX4_hasAllCents_53 (by decide) ?_
        rw [eQ]
        exact W.zret (v := 0) hx hb hr rfl (fun t ht hW => ⟨⟨0, (), rfl, Or.inr ⟨rfl, c1⟩, wHS_t ht hH⟩, hS.F ht⟩) hS.2.2 dX4_hasAllCents_54
      · skip
        refine lv_iconst (v := 1) hx hb dX4_hasAllCents_49 (by decide) ?_
        refine lv_goto (tgt := 54) hx hb dX4_hasAllCents_50 (by decide) ?_
        rw [eQ]
        exact W.zret (v := 1) hx hb hr rfl (fun t ht hW => ⟨⟨1, (), rfl, Or.inl ⟨rfl, c1⟩, wHS_t ht hH⟩, hS.F ht⟩) hS.2.2 dX4_hasAllCents_54
    | succ k ih =>
      intro n hn q hq hqb H locs ls hl hH hS
      have hlt : n < (x.1 1 0) := by omega
      refine lv_iload_n hx hb dX4_hasAllCents_7 rfl (lv_at hl 1 rfl) ?_
      refine lv_aload_n hx hb dX4_hasAllCents_8 rfl (lv_at hl 2 rfl) ?_
      refine wr_get (T := TX4) (N := 9) (ci := 6) (v := .ref (g 3)) hx hb hts hinX4 hown hK hH lv_r0 (cel_rt (by omega)) rfl 1 (by decide) (hts (.fieldLink RX4 16 "SelectoRoute" "boxes" "Ljava/util/ArrayList;") (by decide +kernel)) (fun _ h => h) rfl dX4_hasAllCents_9 ?_
      refine va_calli (va_runV (As := []) (rest := [.int (nI n)]) ⟨hx, hb, hml, hown, hts⟩ (met_AL_size l E g (liv x.1) (cel E.2.1 g x y o.1 o.2) 3 4 (x.2 21 0) (x.1 3 0) (x.1 1 0) E.2.1.2 lv_r3 (cel_rt (by omega))) (cwV 0 hts gX4_hasAllCents_Jx4a65c_size_8abf5 rfl rfl rfl (by decide +kernel) ⟨Nat.le_of_ble_eq_true rfl, Nat.le_of_ble_eq_true rfl⟩) ⟨fun a U f mk q => ⟨q.1, wPreG.calling q.2 a f mk⟩, (va_recv hK (wH_one hH lv_r3 (cel_rt (by omega))) (ci := 2) (q0 := 0) rfl rfl), fun U hU hW => ⟨rfl, wPreG_at hz hS hH hK U hU hW⟩⟩ rfl rfl hl.1 rfl (lv_room (Nat.le_of_ble_eq_true rfl)) dX4_hasAllCents_12 ⟨Nat.le_of_ble_eq_true rfl, Nat.le_of_ble_eq_true rfl⟩) hS (fun q _ h => h) (fun q h => h) (fun r u t H locs ht hvm hw hB hz1 hk1 hS => ?_)
      obtain rfl := hw
      have hH : wHS E o g x y H := wG_h ht hB
      refine lv_icmp_ge (tgt := 41) hx hb dX4_hasAllCents_15 (by decide) (fun hq => absurd ((nI_leI (a := (x.1 1 0)) (b := n) (by omega) (by omega)).mp hq) (Nat.not_le.mpr hlt)) (fun _ => ?_)
      refine lv_iload_n hx hb dX4_hasAllCents_18 rfl (lv_at hl 0 rfl) ?_
      refine lv_aload_n hx hb dX4_hasAllCents_19 rfl (lv_at hl 2 rfl) ?_
      refine wr_get (T := TX4) (N := 9) (ci := 6) (v := .ref (g 3)) hx hb hts hinX4 hown hK hH lv_r0 (cel_rt (by omega)) rfl 1 (by decide) (hts (.fieldLink RX4 16 "SelectoRoute" "boxes" "Ljava/util/ArrayList;") (by decide +kernel)) (fun _ h => h) rfl dX4_hasAllCents_20 ?_
      refine lv_iload_n hx hb dX4_hasAllCents_23 rfl (lv_at hl 1 rfl) ?_
      refine va_callr (va_runV (As := [.int (nI n)]) (rest := [.int q]) ⟨hx, hb, hml, hown, hts⟩ (met_AL_get l E g (liv x.1) (cel E.2.1 g x y o.1 o.2) 3 4 (x.2 21 0) (x.1 3 0) (x.1 1 0) E.2.1.2 n lv_r3 (cel_rt (by omega)) (show x.1 3 0 ≠ 0 by have hq := (show n < x.1 1 0 by omega); omega) (lv_r4 (show x.1 3 0 ≠ 0 by have hq := (show n < x.1 1 0 by omega); omega)) (fun i => g (200 + i)) (cel_rt (by omega)) (show x.1 1 0 ≤ x.1 3 0 by omega) (show x.1 3 0 < 2 ^ 31 by omega) (show n < x.1 1 0 by omega)) (cwV 1 hts gX4_hasAllCents_Jx4a65c_get_915e3 rfl rfl rfl (by decide +kernel) ⟨Nat.le_of_ble_eq_true rfl, Nat.le_of_ble_eq_true rfl⟩) ⟨fun a U f mk q => ⟨q.1, wPreG.calling q.2 a f mk⟩, (va_recv hK (wH_one hH lv_r3 (cel_rt (by omega))) (ci := 2) (q0 := 0) rfl rfl), fun U hU hW => ⟨rfl, wPreG_at hz hS hH hK U hU hW⟩⟩ rfl rfl hl.1 rfl (lv_room (Nat.le_of_ble_eq_true rfl)) dX4_hasAllCents_24 ⟨Nat.le_of_ble_eq_true rfl, Nat.le_of_ble_eq_true rfl⟩) hS (fun q _ h => h) (fun q h => h) (fun u ra t H locs ht hvm hw hB hz1 hk1 hS => ?_)
      obtain ⟨rfl, hB⟩ := hB
      have hH : wHS E o g x y H := wG_h ht hB
      refine va_castS hx hb hown (hts (.classLink RX4 69 "SelectoRoute$Box") (by decide +kernel)) (hK.1 3 _ rfl).2 (va_recv hK (wH_one hH (lv_bx (show n < x.1 1 0 by omega) hn1) (cel_bx (by omega))) (ci := 3) (q0 := 0) rfl rfl) dX4_hasAllCents_27 ?_
      refine wr_get (T := TX0) (N := 15) (ci := 3) (v := .int (x.2 13 n)) hx hb hts hinX0 hown hK hH (lv_bx (show n < x.1 1 0 by omega) hn1) (cel_bx (by omega)) rfl 14 (by decide) (hts (.fieldLink RX4 217 "SelectoRoute$Box" "landlordGot" "I") (by decide +kernel)) (fun _ h => h) rfl dX4_hasAllCents_30 ?_
      refine lv_iadd hx hb dX4_hasAllCents_33 ?_
      refine lv_istore_n (lv' := [(1, .int (q + (x.2 13 n))), (2, .int (nI n)), (0, .ref (g 0))]) hx hb dX4_hasAllCents_34 rfl hl (by decide) rfl (fun ls hl => ?_)
      obtain ⟨v2, ev2⟩ : ∃ y : Int32, y = (nI n) + 1 := ⟨_, rfl⟩
      refine lv_iinc (v := v2) (lv' := [(2, .int v2), (1, .int (q + (x.2 13 n))), (0, .ref (g 0))]) hx hb dX4_hasAllCents_35 hl (k := 1) rfl (by rw [ev2]; rfl) (by decide) rfl (fun ls hl => ?_)
      refine lv_goto (tgt := 7) hx hb dX4_hasAllCents_38 (by decide) ?_
      have e9 : v2 = nI (n + 1) := by rw [ev2]; exact nI_1 n
      rw [e9] at hl
      exact ih (n + 1) (by omega) (q + (x.2 13 n)) (by rw [fU_s, ← hq]; unfold stH; try simp only [eq_self, ↓reduceIte, and_self, and_true, true_and, false_and, and_false]) trivial H locs ls (lv_sub hl [1, 0, 2] rfl) hH hS
  exact loop (x.1 1 0) 0 (by omega) (x.2 18 0) rfl trivial H _ ls (lv_sub hl [1, 0, 2] rfl) hH hS
