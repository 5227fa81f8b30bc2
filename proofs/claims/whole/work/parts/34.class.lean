/-! ===== the class: isBeatenIn ===== -/
set_option maxHeartbeats 4000000 in
set_option maxRecDepth 100000 in
theorem met_X4_isBeatenIn (l : Launch) (E : wE) (o : wO) (g : Nat → Nat) (x y : St) (j a : Nat) (best : Int32) (hI : CI x) (hj : j < x.1 1 0) (ha : a < 10 * x.1 1 0) (hbd : ∀ d, d < x.1 0 0 → x.1 8 d = 1 → pD x d (x.2 5 j) (nI (x.1 9 0)) - pS x a (x.2 5 j) (nI (x.1 9 0)) ≤ best) : Met l yX4_isBeatenIn wsX4_isBeatenIn ({ frames := 5, cells := 0, slots := 0, locals := 600 } : Room) (va_Pc [.ref (g 0), .ref (g (200 + j)), .ref (g (300 + a)), .int best] (wPre E o g x y)) (va_Qi (fun (r : Int32) (_ : Unit) => r = 0) (fun (_ : Unit) t => wHS E o g x y t.heap) (wA E)) 0 0 (wA E) := by
  refine Met.ofW (cc := cX4_isBeatenIn) (maxL := 6) (ret := (some .boolean)) (by decide) rfl ?_
  intro p e s m args below meth c s₁ B hml hv
  obtain ⟨rfl, hz, hH, hK⟩ := hv
  have hx := B.exec
  have hb := B.bytes
  have hr := B.returns
  have hts := atoms_spec (ws := wsX4_isBeatenIn) B.pre
  have hown : s.vm.findClass RX4 = some m.cls := findClass_of_methodNamed B.named
  have hlocks := B.notSynchronized
  have hS : va_S (wA E) s.heap s.heap [] := va_S.rf
  have hinX4 : ∀ w ∈ wsX40, w ∈ wsX4_isBeatenIn := fun w h => List.mem_cons_of_mem _ (List.mem_append_left _ (List.mem_append_left _ (List.mem_append_left _ (List.mem_append_left _ (List.mem_append_right _ h)))))
  have hinJx4a65c : ∀ w ∈ wsJx4a65c0, w ∈ wsX4_isBeatenIn := fun w h => List.mem_cons_of_mem _ (List.mem_append_left _ (List.mem_append_left _ (List.mem_append_left _ (List.mem_append_right _ h))))
  have hinX2 : ∀ w ∈ wsX20, w ∈ wsX4_isBeatenIn := fun w h => List.mem_cons_of_mem _ (List.mem_append_left _ (List.mem_append_left _ (List.mem_append_right _ h)))
  have hinX0 : ∀ w ∈ wsX00, w ∈ wsX4_isBeatenIn := fun w h => List.mem_cons_of_mem _ (List.mem_append_left _ (List.mem_append_right _ h))
  have hinX3 : ∀ w ∈ wsX30, w ∈ wsX4_isBeatenIn := fun w h => List.mem_cons_of_mem _ (List.mem_append_right _ h)
  have hl := lv_entry ([.ref (g 0), .ref (g (200 + j)), .ref (g (300 + a)), .int best]) (n := 6) (Nat.le_of_ble_eq_true rfl)
  rw [lg_entry_eq]
  generalize (lg_sl ([.ref (g 0), .ref (g (200 + j)), .ref (g (300 + a)), .int best]) ++ List.replicate (6 - (lg_sl ([.ref (g 0), .ref (g (200 + j)), .ref (g (300 + a)), .int best])).length) Slot.unset).toArray = ls at hl ⊢
  have hl : lv_has ls 6 [(0, .ref (g 0)), (1, .ref (g (200 + j))), (2, .ref (g (300 + a))), (3, .int best)] := hl
  obtain ⟨H, eH⟩ : ∃ z, z = s.heap := ⟨_, rfl⟩
  have hH : wHS E o g x y H := by rw [eH]; exact hH
  have hS : va_S (wA E) s.heap H [] := by rw [eH]; exact hS
  refine W.heapTo eH ?_
  obtain ⟨hn0, hn1, hn2, hn3, hn4, hn5, hc7, hc8, hc5, hc54, hc4, hc50, hc9, hc12, hc10, hcj⟩ := id hI
  refine W.nameQ (fun Q eQ => ?_)
  refine lv_iconst (v := 0) hx hb dX4_isBeatenIn_0 (by decide) ?_
  refine lv_istore (lv' := [(4, .int 0), (0, .ref (g 0)), (1, .ref (g (200 + j))), (2, .ref (g (300 + a))), (3, .int best)]) hx hb dX4_isBeatenIn_1 hl (by decide) rfl (fun ls hl => ?_)
  have loop : ∀ (k n : Nat), n + k = (x.1 0 0) → ∀ (H : Heap) (locs : List Loc) (ls : Array Slot), lv_has ls 6 [(4, .int (nI n)), (0, .ref (g 0)), (1, .ref (g (200 + j))), (2, .ref (g (300 + a))), (3, .int best)] → wHS E o g x y H → va_S (wA E) s.heap H locs → W p l e ({ frames := 5, cells := 0, slots := 0, locals := 600 } : Room) s m #[.ref (g 0), .ref (g (200 + j)), .ref (g (300 + a)), .int best] below meth c H locs 0 0 Q (F0 m 3 ls []) := by
    intro k
    induction k with
    | zero =>
      intro n hn H locs ls hl hH hS
      obtain rfl : (x.1 0 0) = n := by omega
      have hl : lv_has ls 6 [(4, .int (nI (x.1 0 0))), (0, .ref (g 0)), (1, .ref (g (200 + j))), (2, .ref (g (300 + a))), (3, .int best)] := hl
      refine lv_iload hx hb dX4_isBeatenIn_3 (lv_at hl 0 rfl) ?_
      refine lv_aload_n hx hb dX4_isBeatenIn_5 rfl (lv_at hl 1 rfl) ?_
      refine wr_get (T := TX4) (N := 9) (ci := 6) (v := .ref (g 1)) hx hb hts hinX4 hown hK hH lv_r0 (cel_rt (by omega)) rfl 0 (by decide) (hts (.fieldLink RX4 10 "SelectoRoute" "discs" "Ljava/util/ArrayList;") (by decide +kernel)) (fun _ h => h) rfl dX4_isBeatenIn_6 ?_
      refine va_calli (va_runV (As := []) (rest := [.int (nI (x.1 0 0))]) ⟨hx, hb, hml, hown, hts⟩ (met_AL_size l E g (liv x.1) (cel E.2.1 g x y o.1 o.2) 1 2 (x.2 20 0) (x.1 2 0) (x.1 0 0) E.2.1.2 lv_r1 (cel_rt (by omega))) (cwV 0 hts gX4_isBeatenIn_Jx4a65c_size_8abf5 rfl rfl rfl (by decide +kernel) ⟨Nat.le_of_ble_eq_true rfl, Nat.le_of_ble_eq_true rfl⟩) ⟨fun a U f mk q => ⟨q.1, wPreG.calling q.2 a f mk⟩, (va_recv hK (wH_one hH lv_r1 (cel_rt (by omega))) (ci := 2) (q0 := 0) rfl rfl), fun U hU hW => ⟨rfl, wPreG_at hz hS hH hK U hU hW⟩⟩ rfl rfl hl.1 rfl (lv_room (Nat.le_of_ble_eq_true rfl)) dX4_isBeatenIn_9 ⟨Nat.le_of_ble_eq_true rfl, Nat.le_of_ble_eq_true rfl⟩) hS (fun q _ h => h) (fun q h => h) (fun r u t H locs ht hvm hw hB hz1 hk1 hS => ?_)
      obtain rfl := hw
      have hH : wHS E o g x y H := wG_h ht hB
      refine lv_icmp_ge (tgt := 57) hx hb dX4_isBeatenIn_12 (by decide) (fun _ => ?_) (fun hq => absurd ((nI_leI (a := (x.1 0 0)) (b := (x.1 0 0)) (by omega) (by omega)).mpr (Nat.le_refl _)) hq)
      refine lv_iconst (v := 0) hx hb dX4_isBeatenIn_57 (by decide) ?_
      rw [eQ]
      exact W.zret (v := 0) hx hb hr rfl (fun t ht hW => ⟨⟨0, (), rfl, rfl, wHS_t ht hH⟩, hS.F ht⟩) hS.2.2 dX4_isBeatenIn_58
    | succ k ih =>
      intro n hn H locs ls hl hH hS
      have hlt : n < (x.1 0 0) := by omega
      refine lv_iload hx hb dX4_isBeatenIn_3 (lv_at hl 0 rfl) ?_
      refine lv_aload_n hx hb dX4_isBeatenIn_5 rfl (lv_at hl 1 rfl) ?_
      refine wr_get (T := TX4) (N := 9) (ci := 6) (v := .ref (g 1)) hx hb hts hinX4 hown hK hH lv_r0 (cel_rt (by omega)) rfl 0 (by decide) (hts (.fieldLink RX4 10 "SelectoRoute" "discs" "Ljava/util/ArrayList;") (by decide +kernel)) (fun _ h => h) rfl dX4_isBeatenIn_6 ?_
      refine va_calli (va_runV (As := []) (rest := [.int (nI n)]) ⟨hx, hb, hml, hown, hts⟩ (met_AL_size l E g (liv x.1) (cel E.2.1 g x y o.1 o.2) 1 2 (x.2 20 0) (x.1 2 0) (x.1 0 0) E.2.1.2 lv_r1 (cel_rt (by omega))) (cwV 0 hts gX4_isBeatenIn_Jx4a65c_size_8abf5 rfl rfl rfl (by decide +kernel) ⟨Nat.le_of_ble_eq_true rfl, Nat.le_of_ble_eq_true rfl⟩) ⟨fun a U f mk q => ⟨q.1, wPreG.calling q.2 a f mk⟩, (va_recv hK (wH_one hH lv_r1 (cel_rt (by omega))) (ci := 2) (q0 := 0) rfl rfl), fun U hU hW => ⟨rfl, wPreG_at hz hS hH hK U hU hW⟩⟩ rfl rfl hl.1 rfl (lv_room (Nat.le_of_ble_eq_true rfl)) dX4_isBeatenIn_9 ⟨Nat.le_of_ble_eq_true rfl, Nat.le_of_ble_eq_true rfl⟩) hS (fun q _ h => h) (fun q h => h) (fun r u t H locs ht hvm hw hB hz1 hk1 hS => ?_)
      obtain rfl := hw
      have hH : wHS E o g x y H := wG_h ht hB
      refine lv_icmp_ge (tgt := 57) hx hb dX4_isBeatenIn_12 (by decide) (fun hq => absurd ((nI_leI (a := (x.1 0 0)) (b := n) (by omega) (by omega)).mp hq) (Nat.not_le.mpr hlt)) (fun _ => ?_)
      refine lv_aload_n hx hb dX4_isBeatenIn_15 rfl (lv_at hl 1 rfl) ?_
      refine wr_get (T := TX4) (N := 9) (ci := 6) (v := .ref (g 1)) hx hb hts hinX4 hown hK hH lv_r0 (cel_rt (by omega)) rfl 0 (by decide) (hts (.fieldLink RX4 10 "SelectoRoute" "discs" "Ljava/util/ArrayList;") (by decide +kernel)) (fun _ h => h) rfl dX4_isBeatenIn_16 ?_
      refine lv_iload hx hb dX4_isBeatenIn_19 (lv_at hl 0 rfl) ?_
      refine va_callr (va_runV (As := [.int (nI n)]) (rest := []) ⟨hx, hb, hml, hown, hts⟩ (met_AL_get l E g (liv x.1) (cel E.2.1 g x y o.1 o.2) 1 2 (x.2 20 0) (x.1 2 0) (x.1 0 0) E.2.1.2 n lv_r1 (cel_rt (by omega)) (show x.1 2 0 ≠ 0 by have hq := (show n < x.1 0 0 by omega); omega) (lv_r2 (show x.1 2 0 ≠ 0 by have hq := (show n < x.1 0 0 by omega); omega)) (fun i => g (100 + i)) (cel_rt (by omega)) (show x.1 0 0 ≤ x.1 2 0 by omega) (show x.1 2 0 < 2 ^ 31 by omega) (show n < x.1 0 0 by omega)) (cwV 1 hts gX4_isBeatenIn_Jx4a65c_get_915e3 rfl rfl rfl (by decide +kernel) ⟨Nat.le_of_ble_eq_true rfl, Nat.le_of_ble_eq_true rfl⟩) ⟨fun a U f mk q => ⟨q.1, wPreG.calling q.2 a f mk⟩, (va_recv hK (wH_one hH lv_r1 (cel_rt (by omega))) (ci := 2) (q0 := 0) rfl rfl), fun U hU hW => ⟨rfl, wPreG_at hz hS hH hK U hU hW⟩⟩ rfl rfl hl.1 rfl (lv_room (Nat.le_of_ble_eq_true rfl)) dX4_isBeatenIn_21 ⟨Nat.le_of_ble_eq_true rfl, Nat.le_of_ble_eq_true rfl⟩) hS (fun q _ h => h) (fun q h => h) (fun u ra t H locs ht hvm hw hB hz1 hk1 hS => ?_)
      obtain ⟨rfl, hB⟩ := hB
      have hH : wHS E o g x y H := wG_h ht hB
      refine va_castS hx hb hown (hts (.classLink RX4 53 RX2) (by decide +kernel)) (hK.1 4 _ rfl).2 (va_recv hK (wH_one hH (lv_di (show n < x.1 0 0 by omega) hn0) (cel_di (by omega))) (ci := 4) (q0 := 0) rfl rfl) dX4_isBeatenIn_24 ?_
      refine lv_astore (lv' := [(5, .ref (g (100 + n))), (4, .int (nI n)), (0, .ref (g 0)), (1, .ref (g (200 + j))), (2, .ref (g (300 + a))), (3, .int best)]) hx hb dX4_isBeatenIn_27 hl (by decide) rfl (fun ls hl => ?_)
      refine lv_aload hx hb dX4_isBeatenIn_29 (lv_at hl 0 rfl) ?_
      refine va_calli (va_runV (As := []) (rest := []) ⟨hx, hb, hml, hown, hts⟩ (met_X2_isInVan l E o g x y n (show n < x.1 0 0 by omega) hn0) (cwV 0 hts gX4_isBeatenIn_X2_isInVan rfl rfl rfl (by decide +kernel) ⟨Nat.le_of_ble_eq_true rfl, Nat.le_of_ble_eq_true rfl⟩) ⟨fun a U f mk q => ⟨q.1, wPre.calling q.2 a f mk⟩, (va_recv hK (wH_one hH (lv_di (show n < x.1 0 0 by omega) hn0) (cel_di (by omega))) (ci := 4) (q0 := 0) rfl rfl), fun U hU hW => ⟨rfl, wPre_at hz hS hH hK U hU hW⟩⟩ rfl rfl hl.1 rfl (lv_room (Nat.le_of_ble_eq_true rfl)) dX4_isBeatenIn_31 ⟨Nat.le_of_ble_eq_true rfl, Nat.le_of_ble_eq_true rfl⟩) hS (fun q _ h => h) (fun q h => h) (fun r u t H locs ht hvm hw hB hz1 hk1 hS => ?_)
      have hB := wHS_h ht hB
      try dsimp only at hw
      have hH := hB
      rcases hw with ⟨rfl, c1⟩ | ⟨rfl, c1⟩
      · have c1 : (x.1 8 n) = 1 := c1
        refine lv_if_eq (tgt := 51) hx hb dX4_isBeatenIn_34 (by decide) (fun hq => absurd hq (show ¬ (1 : Int32) = 0 by decide)) (fun _ => ?_)
        refine lv_aload_n hx hb dX4_isBeatenIn_37 rfl (lv_at hl 2 rfl) ?_
        refine lv_aload_n hx hb dX4_isBeatenIn_38 rfl (lv_at hl 3 rfl) ?_
        refine lv_aload_n hx hb dX4_isBeatenIn_39 rfl (lv_at hl 4 rfl) ?_
        refine lv_aload hx hb dX4_isBeatenIn_40 (lv_at hl 0 rfl) ?_
        refine va_calli (va_runV (As := [.ref (g (200 + j)), .ref (g (300 + a)), .ref (g (100 + n))]) (rest := []) ⟨hx, hb, hml, hown, hts⟩ (met_X4_gainBy l E o g x y j a n hI (show j < x.1 1 0 by omega) (show a < 10 * x.1 1 0 by omega) (show n < x.1 0 0 by omega)) (cwV 3 hts gX4_isBeatenIn_X4_gainBy rfl rfl rfl (by decide +kernel) ⟨Nat.le_of_ble_eq_true rfl, Nat.le_of_ble_eq_true rfl⟩) ⟨fun a U f mk q => ⟨q.1, wPre.calling q.2 a f mk⟩, (va_recv hK (wH_one hH lv_r0 (cel_rt (by omega))) (ci := 6) (q0 := 0) rfl rfl), fun U hU hW => ⟨rfl, wPre_at hz hS hH hK U hU hW⟩⟩ rfl rfl hl.1 rfl (lv_room (Nat.le_of_ble_eq_true rfl)) dX4_isBeatenIn_42 ⟨Nat.le_of_ble_eq_true rfl, Nat.le_of_ble_eq_true rfl⟩) hS (fun q _ h => h) (fun q h => h) (fun r u t H locs ht hvm hw hB hz1 hk1 hS => ?_)
        have hB := wHS_h ht hB
        try dsimp only at hw
        obtain rfl := hw
        have hH := hB
        refine lv_iload_n hx hb dX4_isBeatenIn_45 rfl (lv_at hl 5 rfl) ?_
        refine lv_icmp_le (tgt := 51) hx hb dX4_isBeatenIn_46 (by decide) (fun c2 => ?_) (fun c2 => ?_)
        · skip
          obtain ⟨v3, ev3⟩ : ∃ y : Int32, y = (nI n) + 1 := ⟨_, rfl⟩
          refine lv_iinc (v := v3) (lv' := [(4, .int v3), (5, .ref (g (100 + n))), (0, .ref (g 0)), (1, .ref (g (200 + j))), (2, .ref (g (300 + a))), (3, .int best)]) hx hb dX4_isBeatenIn_51 hl (k := 1) rfl (by rw [ev3]; rfl) (by decide) rfl (fun ls hl => ?_)
          refine lv_goto (tgt := 3) hx hb dX4_isBeatenIn_54 (by decide) ?_
          have e9 : v3 = nI (n + 1) := by rw [ev3]; exact nI_1 n
          rw [e9] at hl
          exact ih (n + 1) (by omega) H locs ls (lv_sub hl [0, 2, 3, 4, 5] rfl) hH hS
        · skip
          refine lv_iconst (v := 1) hx hb dX4_isBeatenIn_49 (by decide) ?_
          exact absurd (hbd n hlt c1) c2
      · have c1 : ¬ ((x.1 8 n) = 1) := c1
        refine lv_if_eq (tgt := 51) hx hb dX4_isBeatenIn_34 (by decide) (fun _ => ?_) (fun hq => absurd (show (0 : Int32) = 0 by decide) hq)
        obtain ⟨v4, ev4⟩ : ∃ y : Int32, y = (nI n) + 1 := ⟨_, rfl⟩
        refine lv_iinc (v := v4) (lv' := [(4, .int v4), (5, .ref (g (100 + n))), (0, .ref (g 0)), (1, .ref (g (200 + j))), (2, .ref (g (300 + a))), (3, .int best)]) hx hb dX4_isBeatenIn_51 hl (k := 1) rfl (by rw [ev4]; rfl) (by decide) rfl (fun ls hl => ?_)
        refine lv_goto (tgt := 3) hx hb dX4_isBeatenIn_54 (by decide) ?_
        have e9 : v4 = nI (n + 1) := by rw [ev4]; exact nI_1 n
        rw [e9] at hl
        exact ih (n + 1) (by omega) H locs ls (lv_sub hl [0, 2, 3, 4, 5] rfl) hH hS
  exact loop (x.1 0 0) 0 (by omega) H _ ls (lv_sub hl [0, 1, 2, 3, 4] rfl) hH hS
