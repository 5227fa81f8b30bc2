set_option maxHeartbeats 4000000 in
set_option maxRecDepth 100000 in
theorem met_X4_hasNoBetterChange (l : Launch) (E : wE) (o : wO) (g : Nat → Nat) (x y : St) (hI : CI x) (hbest : ∀ j, j < x.1 1 0 → ∀ x8 : St, x8 = fU stN x j → ∀ a d, 10 * j ≤ a → a < 10 * j + 10 → d < (stN j x8).1 0 0 → (stN j x8).1 8 d = 1 → pD (stN j x8) d ((stN j x8).2 5 j) (nI ((stN j x8).1 9 0)) - pS (stN j x8) a ((stN j x8).2 5 j) (nI ((stN j x8).1 9 0)) ≤ fU (stSm (stN j x8)) 0 1) : Met l yX4_hasNoBetterChange wsX4_hasNoBetterChange ({ frames := 6, cells := 0, slots := 0, locals := 700 } : Room) (va_Pc [.ref (g 0)] (wPre E o g x y)) (va_Qi (fun (r : Int32) (_ : Unit) => r = 1) (fun (_ : Unit) t => wHS E o g (fU stN x (x.1 1 0)) y t.heap) (wA E)) 0 0 (wA E) := by
  refine Met.ofW (cc := cX4_hasNoBetterChange) (maxL := 8) (ret := (some .boolean)) (by decide) rfl ?_
  intro p e s m args below meth c s₁ B hml hv
  obtain ⟨rfl, hz, hH, hK⟩ := hv
  have hx := B.exec
  have hb := B.bytes
  have hr := B.returns
  have hts := atoms_spec (ws := wsX4_hasNoBetterChange) B.pre
  have hown : s.vm.findClass RX4 = some m.cls := findClass_of_methodNamed B.named
  have hlocks := B.notSynchronized
  have hS : va_S (wA E) s.heap s.heap [] := va_S.rf
  have hinX4 : ∀ w ∈ wsX40, w ∈ wsX4_hasNoBetterChange := fun w h => List.mem_cons_of_mem _ (List.mem_append_left _ (List.mem_append_left _ (List.mem_append_left _ (List.mem_append_left _ (List.mem_append_left _ (List.mem_append_right _ h))))))
  have hinX0 : ∀ w ∈ wsX00, w ∈ wsX4_hasNoBetterChange := fun w h => List.mem_cons_of_mem _ (List.mem_append_left _ (List.mem_append_left _ (List.mem_append_left _ (List.mem_append_left _ (List.mem_append_right _ h)))))
  have hinJx4a65c : ∀ w ∈ wsJx4a65c0, w ∈ wsX4_hasNoBetterChange := fun w h => List.mem_cons_of_mem _ (List.mem_append_left _ (List.mem_append_left _ (List.mem_append_left _ (List.mem_append_right _ h))))
  have hinX2 : ∀ w ∈ wsX20, w ∈ wsX4_hasNoBetterChange := fun w h => List.mem_cons_of_mem _ (List.mem_append_left _ (List.mem_append_left _ (List.mem_append_right _ h)))
  have hinX3 : ∀ w ∈ wsX30, w ∈ wsX4_hasNoBetterChange := fun w h => List.mem_cons_of_mem _ (List.mem_append_left _ (List.mem_append_right _ h))
  have hl := lv_entry ([.ref (g 0)]) (n := 8) (Nat.le_of_ble_eq_true rfl)
  rw [lg_entry_eq]
  generalize (lg_sl ([.ref (g 0)]) ++ List.replicate (8 - (lg_sl ([.ref (g 0)])).length) Slot.unset).toArray = ls at hl ⊢
  have hl : lv_has ls 8 [(0, .ref (g 0))] := hl
  obtain ⟨H, eH⟩ : ∃ z, z = s.heap := ⟨_, rfl⟩
  have hH : wHS E o g x y H := by rw [eH]; exact hH
  have hS : va_S (wA E) s.heap H [] := by rw [eH]; exact hS
  refine W.heapTo eH ?_
  obtain ⟨hn0, hn1, hn2, hn3, hn4, hn5, hc7, hc8, hc5, hc54, hc4, hc50, hc9, hc12, hc10, hcj⟩ := id hI
  refine W.nameQ (fun Q eQ => ?_)
  refine lv_iconst (v := 0) hx hb dX4_hasNoBetterChange_0 (by decide) ?_
  refine lv_istore_n (lv' := [(1, .int 0), (0, .ref (g 0))]) hx hb dX4_hasNoBetterChange_1 rfl hl (by decide) rfl (fun ls hl => ?_)
  have loop : ∀ (k n : Nat), n + k = (x.1 1 0) → ∀ (H : Heap) (locs : List Loc) (ls : Array Slot), lv_has ls 8 [(1, .int (nI n)), (0, .ref (g 0))] → wHS E o g (fU stN x n) y H → va_S (wA E) s.heap H locs → W p l e ({ frames := 6, cells := 0, slots := 0, locals := 700 } : Room) s m #[.ref (g 0)] below meth c H locs 0 0 Q (F0 m 2 ls []) := by
    intro k
    induction k with
    | zero =>
      intro n hn H locs ls hl hH hS
      obtain rfl : (x.1 1 0) = n := by omega
      have hl : lv_has ls 8 [(1, .int (nI (x.1 1 0))), (0, .ref (g 0))] := hl
      refine lv_iload_n hx hb dX4_hasNoBetterChange_2 rfl (lv_at hl 0 rfl) ?_
      refine lv_aload_n hx hb dX4_hasNoBetterChange_3 rfl (lv_at hl 1 rfl) ?_
      refine wr_get (T := TX4) (N := 9) (ci := 6) (v := .ref (g 3)) hx hb hts hinX4 hown hK hH lv_r0 (cel_rt (by omega)) rfl 1 (by decide) (hts (.fieldLink RX4 16 "SelectoRoute" "boxes" "Ljava/util/ArrayList;") (by decide +kernel)) (fun _ h => h) rfl dX4_hasNoBetterChange_4 ?_
      refine va_calli (va_runV (As := []) (rest := [.int (nI (x.1 1 0))]) ⟨hx, hb, hml, hown, hts⟩ (met_AL_size l E g (liv (fU stN x (x.1 1 0)).1) (cel E.2.1 g (fU stN x (x.1 1 0)) y o.1 o.2) 3 4 ((fU stN x (x.1 1 0)).2 21 0) ((fU stN x (x.1 1 0)).1 3 0) ((fU stN x (x.1 1 0)).1 1 0) E.2.1.2 lv_r3 (cel_rt (by omega))) (cwV 0 hts gX4_hasNoBetterChange_Jx4a65c_size_8abf5 rfl rfl rfl (by decide +kernel) ⟨Nat.le_of_ble_eq_true rfl, Nat.le_of_ble_eq_true rfl⟩) ⟨fun a U f mk q => ⟨q.1, wPreG.calling q.2 a f mk⟩, (va_recv hK (wH_one hH lv_r3 (cel_rt (by omega))) (ci := 2) (q0 := 0) rfl rfl), fun U hU hW => ⟨rfl, wPreG_at hz hS hH hK U hU hW⟩⟩ rfl rfl hl.1 rfl (lv_room (Nat.le_of_ble_eq_true rfl)) dX4_hasNoBetterChange_7 ⟨Nat.le_of_ble_eq_true rfl, Nat.le_of_ble_eq_true rfl⟩) hS (fun q _ h => h) (fun q h => h) (fun r u t H locs ht hvm hw hB hz1 hk1 hS => ?_)
      obtain rfl := hw
      have hH : wHS E o g (fU stN x (x.1 1 0)) y H := wG_h ht hB
      refine lv_tope (show nI (((fU stN x (x.1 1 0)).1 1 0)) = nI ((x.1 1 0)) by simp only [(fN_1 _ _).1]) ?_
      refine lv_icmp_ge (tgt := 85) hx hb dX4_hasNoBetterChange_10 (by decide) (fun _ => ?_) (fun hq => absurd ((nI_leI (a := (x.1 1 0)) (b := (x.1 1 0)) (by omega) (by omega)).mpr (Nat.le_refl _)) hq)
      refine lv_iconst (v := 1) hx hb dX4_hasNoBetterChange_85 (by decide) ?_
      rw [eQ]
      exact W.zret (v := 1) hx hb hr rfl (fun t ht hW => ⟨⟨1, (), rfl, rfl, wHS_t ht hH⟩, hS.F ht⟩) hS.2.2 dX4_hasNoBetterChange_86
    | succ k ih =>
      intro n hn H locs ls hl hH hS
      have hlt : n < (x.1 1 0) := by omega
      obtain ⟨x1, ex1⟩ : ∃ z, z = fU stN x n := ⟨_, rfl⟩
      rw [← ex1] at hH
      have h1 : x1.1 = x.1 := by rw [ex1]; exact (fN_1 x n).1
      have h10 : x1.2 10 = x.2 10 := by rw [ex1]; exact (fN_1 x n).2
      have hI1 : CI x1 := CI_I hI h1 h10
      obtain ⟨hp0, hp1, hp2, hp3, hp4, hp5, hd7, hd8, hd5, hd54, hd4, hd50, hd9, hd12, hd10, hdj⟩ := id hI1
      have hlt : n < x1.1 1 0 := by rw [h1]; exact hlt
      refine lv_iload_n hx hb dX4_hasNoBetterChange_2 rfl (lv_at hl 0 rfl) ?_
      refine lv_aload_n hx hb dX4_hasNoBetterChange_3 rfl (lv_at hl 1 rfl) ?_
      refine wr_get (T := TX4) (N := 9) (ci := 6) (v := .ref (g 3)) hx hb hts hinX4 hown hK hH lv_r0 (cel_rt (by omega)) rfl 1 (by decide) (hts (.fieldLink RX4 16 "SelectoRoute" "boxes" "Ljava/util/ArrayList;") (by decide +kernel)) (fun _ h => h) rfl dX4_hasNoBetterChange_4 ?_
      refine va_calli (va_runV (As := []) (rest := [.int (nI n)]) ⟨hx, hb, hml, hown, hts⟩ (met_AL_size l E g (liv x1.1) (cel E.2.1 g x1 y o.1 o.2) 3 4 (x1.2 21 0) (x1.1 3 0) (x1.1 1 0) E.2.1.2 lv_r3 (cel_rt (by omega))) (cwV 0 hts gX4_hasNoBetterChange_Jx4a65c_size_8abf5 rfl rfl rfl (by decide +kernel) ⟨Nat.le_of_ble_eq_true rfl, Nat.le_of_ble_eq_true rfl⟩) ⟨fun a U f mk q => ⟨q.1, wPreG.calling q.2 a f mk⟩, (va_recv hK (wH_one hH lv_r3 (cel_rt (by omega))) (ci := 2) (q0 := 0) rfl rfl), fun U hU hW => ⟨rfl, wPreG_at hz hS hH hK U hU hW⟩⟩ rfl rfl hl.1 rfl (lv_room (Nat.le_of_ble_eq_true rfl)) dX4_hasNoBetterChange_7 ⟨Nat.le_of_ble_eq_true rfl, Nat.le_of_ble_eq_true rfl⟩) hS (fun q _ h => h) (fun q h => h) (fun r u t H locs ht hvm hw hB hz1 hk1 hS => ?_)
      obtain rfl := hw
      have hH : wHS E o g x1 y H := wG_h ht hB
      refine lv_icmp_ge (tgt := 85) hx hb dX4_hasNoBetterChange_10 (by decide) (fun hq => absurd ((nI_leI (a := (x1.1 1 0)) (b := n) (by omega) (by omega)).mp hq) (Nat.not_le.mpr hlt)) (fun _ => ?_)
      refine lv_aload_n hx hb dX4_hasNoBetterChange_13 rfl (lv_at hl 1 rfl) ?_
      refine wr_get (T := TX4) (N := 9) (ci := 6) (v := .ref (g 3)) hx hb hts hinX4 hown hK hH lv_r0 (cel_rt (by omega)) rfl 1 (by decide) (hts (.fieldLink RX4 16 "SelectoRoute" "boxes" "Ljava/util/ArrayList;") (by decide +kernel)) (fun _ h => h) rfl dX4_hasNoBetterChange_14 ?_
      refine lv_iload_n hx hb dX4_hasNoBetterChange_17 rfl (lv_at hl 0 rfl) ?_
      refine va_callr (va_runV (As := [.int (nI n)]) (rest := []) ⟨hx, hb, hml, hown, hts⟩ (met_AL_get l E g (liv x1.1) (cel E.2.1 g x1 y o.1 o.2) 3 4 (x1.2 21 0) (x1.1 3 0) (x1.1 1 0) E.2.1.2 n lv_r3 (cel_rt (by omega)) (show x1.1 3 0 ≠ 0 by have hq := (show n < x1.1 1 0 by omega); omega) (lv_r4 (show x1.1 3 0 ≠ 0 by have hq := (show n < x1.1 1 0 by omega); omega)) (fun i => g (200 + i)) (cel_rt (by omega)) (show x1.1 1 0 ≤ x1.1 3 0 by omega) (show x1.1 3 0 < 2 ^ 31 by omega) (show n < x1.1 1 0 by omega)) (cwV 1 hts gX4_hasNoBetterChange_Jx4a65c_get_915e3 rfl rfl rfl (by decide +kernel) ⟨Nat.le_of_ble_eq_true rfl, Nat.le_of_ble_eq_true rfl⟩) ⟨fun a U f mk q => ⟨q.1, wPreG.calling q.2 a f mk⟩, (va_recv hK (wH_one hH lv_r3 (cel_rt (by omega))) (ci := 2) (q0 := 0) rfl rfl), fun U hU hW => ⟨rfl, wPreG_at hz hS hH hK U hU hW⟩⟩ rfl rfl hl.1 rfl (lv_room (Nat.le_of_ble_eq_true rfl)) dX4_hasNoBetterChange_18 ⟨Nat.le_of_ble_eq_true rfl, Nat.le_of_ble_eq_true rfl⟩) hS (fun q _ h => h) (fun q h => h) (fun u ra t H locs ht hvm hw hB hz1 hk1 hS => ?_)
      obtain ⟨rfl, hB⟩ := hB
      have hH : wHS E o g x1 y H := wG_h ht hB
      refine va_castS hx hb hown (hts (.classLink RX4 69 RX0) (by decide +kernel)) (hK.1 3 _ rfl).2 (va_recv hK (wH_one hH (lv_bx (show n < x1.1 1 0 by omega) hp1) (cel_bx (by omega))) (ci := 3) (q0 := 0) rfl rfl) dX4_hasNoBetterChange_21 ?_
      refine lv_astore_n (lv' := [(2, .ref (g (200 + n))), (1, .int (nI n)), (0, .ref (g 0))]) hx hb dX4_hasNoBetterChange_24 rfl hl (by decide) rfl (fun ls hl => ?_)
      refine lv_aload_n hx hb dX4_hasNoBetterChange_25 rfl (lv_at hl 2 rfl) ?_
      refine lv_aload_n hx hb dX4_hasNoBetterChange_26 rfl (lv_at hl 0 rfl) ?_
      refine lv_iconst (v := 1) hx hb dX4_hasNoBetterChange_27 (by decide) ?_
      refine va_calli (va_runV (As := [.ref (g (200 + n)), .int 1]) (rest := []) ⟨hx, hb, hml, hown, hts⟩ (met_X4_gainByBest l E o g x1 y n 1 (CI_I hI1) (show n < x1.1 1 0 by omega) (by omega)) (cwV 2 hts gX4_hasNoBetterChange_X4_gainByBest rfl rfl rfl (by decide +kernel) ⟨Nat.le_of_ble_eq_true rfl, Nat.le_of_ble_eq_true rfl⟩) ⟨fun a U f mk q => ⟨q.1, wPre.calling q.2 a f mk⟩, (va_recv hK (wH_one hH lv_r0 (cel_rt (by omega))) (ci := 6) (q0 := 0) rfl rfl), fun U hU hW => ⟨rfl, wPre_at hz hS hH hK U hU hW⟩⟩ rfl rfl hl.1 rfl (lv_room (Nat.le_of_ble_eq_true rfl)) dX4_hasNoBetterChange_28 ⟨Nat.le_of_ble_eq_true rfl, Nat.le_of_ble_eq_true rfl⟩) hS (fun q _ h => h) (fun q h => h) (fun r u t H locs ht hvm hw hB hz1 hk1 hS => ?_)
      have hB := wHS_h ht hB
      try dsimp only at hw
      obtain rfl := hw
      obtain ⟨x2, ex2⟩ : ∃ z, z = stN n x1 := ⟨_, rfl⟩
      have hH : wHS E o g x2 y H := by rw [ex2]; unfold stN; exact hB
      refine lv_tope (show fU (stSm (wRL n (wRG n x1))) 0 1 = fU (stSm x2) 0 1 by rw [ex2]; unfold stN; rfl) ?_
      have h21 : x2.1 = x1.1 := by rw [ex2]; exact (stN_1 n x1).1
      have hI2 : CI x2 := CI_I hI1 h21 (by rw [ex2]; exact (stN_1 n x1).2)
      clear hB
      refine lv_istore_n (lv' := [(3, .int (fU (stSm x2) 0 1)), (2, .ref (g (200 + n))), (1, .int (nI n)), (0, .ref (g 0))]) hx hb dX4_hasNoBetterChange_31 rfl hl (by decide) rfl (fun ls hl => ?_)
      refine lv_aload_n hx hb dX4_hasNoBetterChange_32 rfl (lv_at hl 1 rfl) ?_
      refine wr_get (T := TX0) (N := 15) (ci := 3) (v := .ref (g (210 + n))) hx hb hts hinX0 hown hK hH (lv_bx (by rw [h21]; omega) (by rw [h21]; exact hp1)) (cel_bx (by omega)) rfl 3 (by decide) (hts (.fieldLink RX4 242 "SelectoRoute$Box" "slots" "[LSelectoRoute$Slot;") (by decide +kernel)) (fun _ h => h) rfl dX4_hasNoBetterChange_33 ?_
      refine lv_astore (lv' := [(4, .ref (g (210 + n))), (3, .int (fU (stSm x2) 0 1)), (2, .ref (g (200 + n))), (1, .int (nI n)), (0, .ref (g 0))]) hx hb dX4_hasNoBetterChange_36 hl (by decide) rfl (fun ls hl => ?_)
      refine lv_aload hx hb dX4_hasNoBetterChange_38 (lv_at hl 0 rfl) ?_
      refine wr_alen (v := 10) hx hb hK hH (lv_sa (by rw [h21]; omega) (by rw [h21]; exact hp1)) (cel_sa (by omega)) 2 rfl rfl dX4_hasNoBetterChange_40 ?_
      refine lv_istore (lv' := [(5, .int 10), (4, .ref (g (210 + n))), (3, .int (fU (stSm x2) 0 1)), (2, .ref (g (200 + n))), (1, .int (nI n)), (0, .ref (g 0))]) hx hb dX4_hasNoBetterChange_41 hl (by decide) rfl (fun ls hl => ?_)
      refine lv_iconst (v := 0) hx hb dX4_hasNoBetterChange_43 (by decide) ?_
      refine lv_istore (lv' := [(6, .int 0), (5, .int 10), (4, .ref (g (210 + n))), (3, .int (fU (stSm x2) 0 1)), (2, .ref (g (200 + n))), (1, .int (nI n)), (0, .ref (g 0))]) hx hb dX4_hasNoBetterChange_44 hl (by decide) rfl (fun ls hl => ?_)
      obtain ⟨j, ej⟩ : ∃ z, z = n := ⟨_, rfl⟩
      subst ej
      have ih0 := ih
      have hj0 := hlt
      have loop2 : ∀ (k n : Nat), n + k = 10 → ∀ (H : Heap) (locs : List Loc) (ls : Array Slot), lv_has ls 8 [(6, .int (nI n)), (0, .ref (g 0)), (1, .int (nI j)), (2, .ref (g (200 + j))), (3, .int (fU (stSm x2) 0 1)), (4, .ref (g (210 + j))), (5, .int 10)] → wHS E o g x2 y H → va_S (wA E) s.heap H locs → W p l e ({ frames := 6, cells := 0, slots := 0, locals := 700 } : Room) s m #[.ref (g 0)] below meth c H locs 0 0 Q (F0 m 46 ls []) := by
        intro k
        induction k with
        | zero =>
          intro n hn H locs ls hl hH hS
          obtain rfl : 10 = n := by omega
          have hl : lv_has ls 8 [(6, .int (nI 10)), (0, .ref (g 0)), (1, .int (nI j)), (2, .ref (g (200 + j))), (3, .int (fU (stSm x2) 0 1)), (4, .ref (g (210 + j))), (5, .int 10)] := hl
          refine lv_iload hx hb dX4_hasNoBetterChange_46 (lv_at hl 0 rfl) ?_
          refine lv_iload hx hb dX4_hasNoBetterChange_48 (lv_at hl 6 rfl) ?_
          refine lv_icmp_ge (tgt := 79) hx hb dX4_hasNoBetterChange_50 (by decide) (fun _ => ?_) (fun hq => absurd ((nI_leI (a := 10) (b := 10) (by omega) (by omega)).mpr (Nat.le_refl _)) hq)
          obtain ⟨v1, ev1⟩ : ∃ y : Int32, y = (nI j) + 1 := ⟨_, rfl⟩
          refine lv_iinc (v := v1) (lv' := [(1, .int v1), (6, .int (nI 10)), (0, .ref (g 0)), (2, .ref (g (200 + j))), (3, .int (fU (stSm x2) 0 1)), (4, .ref (g (210 + j))), (5, .int 10)]) hx hb dX4_hasNoBetterChange_79 hl (k := 2) rfl (by rw [ev1]; rfl) (by decide) rfl (fun ls hl => ?_)
          refine lv_goto (tgt := 2) hx hb dX4_hasNoBetterChange_82 (by decide) ?_
          have e9 : v1 = nI (j + 1) := by rw [ev1]; exact nI_1 j
          rw [e9] at hl
          exact ih0 (j + 1) (by omega) H locs ls (lv_sub hl [0, 2] rfl) (by rw [fU_s, ← ex1, ← ex2]; exact hH) hS
        | succ k ih =>
          intro n hn H locs ls hl hH hS
          have hlt : n < 10 := by omega
          refine lv_iload hx hb dX4_hasNoBetterChange_46 (lv_at hl 0 rfl) ?_
          refine lv_iload hx hb dX4_hasNoBetterChange_48 (lv_at hl 6 rfl) ?_
          refine lv_icmp_ge (tgt := 79) hx hb dX4_hasNoBetterChange_50 (by decide) (fun hq => absurd ((nI_leI (a := 10) (b := n) (by omega) (by omega)).mp hq) (Nat.not_le.mpr hlt)) (fun _ => ?_)
          refine lv_aload hx hb dX4_hasNoBetterChange_53 (lv_at hl 5 rfl) ?_
          refine lv_iload hx hb dX4_hasNoBetterChange_55 (lv_at hl 0 rfl) ?_
          refine wr_aldq (v := .ref (g (300 + (10 * j + n)))) hx hb hK hH (lv_sa (by rw [h21]; omega) (by rw [h21]; exact hp1)) (cel_sa (by omega)) 2 rfl (vp_in_nI (n := n) (N := 10) (by omega) (by decide)) (by rw [nI_clamp (n := n) (by omega)]; show Value.ref (g (300 + 10 * j + n)) = _; rw [Nat.add_assoc]) dX4_hasNoBetterChange_57 ?_
          refine lv_astore (lv' := [(7, .ref (g (300 + (10 * j + n)))), (6, .int (nI n)), (0, .ref (g 0)), (1, .int (nI j)), (2, .ref (g (200 + j))), (3, .int (fU (stSm x2) 0 1)), (4, .ref (g (210 + j))), (5, .int 10)]) hx hb dX4_hasNoBetterChange_58 hl (by decide) rfl (fun ls hl => ?_)
          refine lv_aload_n hx hb dX4_hasNoBetterChange_60 rfl (lv_at hl 2 rfl) ?_
          refine lv_aload_n hx hb dX4_hasNoBetterChange_61 rfl (lv_at hl 4 rfl) ?_
          refine lv_aload hx hb dX4_hasNoBetterChange_62 (lv_at hl 0 rfl) ?_
          refine lv_iload_n hx hb dX4_hasNoBetterChange_64 rfl (lv_at hl 5 rfl) ?_
          have hbd : ∀ d9, d9 < x2.1 0 0 → x2.1 8 d9 = 1 → pD x2 d9 (x2.2 5 j) (nI (x2.1 9 0)) - pS x2 (10 * j + n) (x2.2 5 j) (nI (x2.1 9 0)) ≤ (fU (stSm x2) 0 1) := by
            intro d9 h9 h8
            have q := hbest j (by omega) x1 ex1 (10 * j + n) d9 (by omega) (by omega)
            rw [← ex2] at q
            exact q h9 h8
          refine va_calli (va_runV (As := [.ref (g (200 + j)), .ref (g (300 + (10 * j + n))), .int (fU (stSm x2) 0 1)]) (rest := []) ⟨hx, hb, hml, hown, hts⟩ (met_X4_isBeatenIn l E o g x2 y j (10 * j + n) (fU (stSm x2) 0 1) hI2 (by rw [h21]; omega) (by rw [h21]; omega) hbd) (cwV 3 hts gX4_hasNoBetterChange_X4_isBeatenIn rfl rfl rfl (by decide +kernel) ⟨Nat.le_of_ble_eq_true rfl, Nat.le_of_ble_eq_true rfl⟩) ⟨fun a U f mk q => ⟨q.1, wPre.calling q.2 a f mk⟩, (va_recv hK (wH_one hH lv_r0 (cel_rt (by omega))) (ci := 6) (q0 := 0) rfl rfl), fun U hU hW => ⟨rfl, wPre_at hz hS hH hK U hU hW⟩⟩ rfl rfl hl.1 rfl (lv_room (Nat.le_of_ble_eq_true rfl)) dX4_hasNoBetterChange_65 ⟨Nat.le_of_ble_eq_true rfl, Nat.le_of_ble_eq_true rfl⟩) hS (fun q _ h => h) (fun q h => h) (fun r u t H locs ht hvm hw hB hz1 hk1 hS => ?_)
          have hB := wHS_h ht hB
          try dsimp only at hw
          obtain rfl := hw
          have hH := hB
          refine lv_if_eq (tgt := 73) hx hb dX4_hasNoBetterChange_68 (by decide) (fun _ => ?_) (fun hq => absurd (show (0 : Int32) = 0 by decide) hq)
          obtain ⟨v2, ev2⟩ : ∃ y : Int32, y = (nI n) + 1 := ⟨_, rfl⟩
          refine lv_iinc (v := v2) (lv' := [(6, .int v2), (7, .ref (g (300 + (10 * j + n)))), (0, .ref (g 0)), (1, .int (nI j)), (2, .ref (g (200 + j))), (3, .int (fU (stSm x2) 0 1)), (4, .ref (g (210 + j))), (5, .int 10)]) hx hb dX4_hasNoBetterChange_73 hl (k := 1) rfl (by rw [ev2]; rfl) (by decide) rfl (fun ls hl => ?_)
          refine lv_goto (tgt := 46) hx hb dX4_hasNoBetterChange_76 (by decide) ?_
          have e9 : v2 = nI (n + 1) := by rw [ev2]; exact nI_1 n
          rw [e9] at hl
          exact ih (n + 1) (by omega) H locs ls (lv_sub hl [0, 2, 3, 4, 5, 6, 7] rfl) hH hS
      exact loop2 10 0 (by omega) H _ ls (lv_sub hl [0, 6, 5, 4, 3, 2, 1] rfl) hH hS
  exact loop (x.1 1 0) 0 (by omega) H _ ls (lv_sub hl [0, 1] rfl) (by rw [fU_0]; exact hH) hS
