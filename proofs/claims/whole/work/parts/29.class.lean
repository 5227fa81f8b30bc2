/-! ===== the class: playDisc, letGuestsPlay, pass ===== -/
def plD (x : St) (j a d : Nat) (n : Int32) : St := uI (uI (uI (uI x 14 a (x.2 14 a + n)) 3 d (x.2 3 d + n * (1 + x.2 9 j / 40))) 9 j (x.2 9 j + n)) 11 j (x.2 11 j + n)
/-- the guests at one slot of a box -/
def stU (j : Nat) (w : Int32) (k : Nat) (x : St) : St := if x.1 7 (10 * j + k) = 0 then x else if x.2 3 (x.1 7 (10 * j + k) - 1) < 60 then plD (uI x 8 j (x.2 8 j + 5 * (pD x (x.1 7 (10 * j + k) - 1) (x.2 5 j) w / 8))) j (10 * j + k) (x.1 7 (10 * j + k) - 1) (pD x (x.1 7 (10 * j + k) - 1) (x.2 5 j) w / 8) else x
theorem stU_1 (j : Nat) (w : Int32) (k : Nat) (x : St) : (stU j w k x).1 = x.1 ∧ (stU j w k x).2 10 = x.2 10 := by
  unfold stU
  repeat' split
  all_goals first | exact ⟨rfl, rfl⟩ | (unfold plD; exact ⟨rfl, rfl⟩)
theorem fU_1 (f : Nat → St → St) (h : ∀ k x, (f k x).1 = x.1 ∧ (f k x).2 10 = x.2 10) (x : St) : ∀ n, (fU f x n).1 = x.1 ∧ (fU f x n).2 10 = x.2 10
  | 0 => ⟨rfl, rfl⟩
  | n + 1 => ⟨(h n _).1.trans (fU_1 f h x n).1, (h n _).2.trans (fU_1 f h x n).2⟩
/-- the guests at one box -/
def stB (k : Nat) (x : St) : St := if x.2 10 k = 0 then fU (stU k (nI (x.1 9 0))) x 10 else x
theorem stB_1 (k : Nat) (x : St) : (stB k x).1 = x.1 ∧ (stB k x).2 10 = x.2 10 := by
  unfold stB
  split
  · exact fU_1 _ (stU_1 k _) x 10
  · exact ⟨rfl, rfl⟩
set_option maxHeartbeats 4000000 in
set_option maxRecDepth 100000 in
theorem met_X0_playDisc (l : Launch) (E : wE) (o : wO) (g : Nat → Nat) (x y : St) (j a d : Nat) (n : Int32) (hI : CI x) (hj : j < x.1 1 0) (ha : a < 10 * x.1 1 0) (hd : d < x.1 0 0) : Met l yX0_playDisc wsX0_playDisc ({ frames := 0, cells := 0, slots := 0, locals := 0 } : Room) (va_Pc [.ref (g (200 + j)), .ref (g (300 + a)), .ref (g (100 + d)), .int n] (wPre E o g x y)) (va_Qv (fun (_ : Unit) => True) (fun (_ : Unit) t => wHS E o g (plD x j a d n) y t.heap) (wA E)) 0 0 (wA E) := by
  refine Met.ofW (cc := cX0_playDisc) (maxL := 4) (ret := none) (by decide) rfl ?_
  intro p e s m args below meth c s₁ B hml hv
  obtain ⟨rfl, hz, hH, hK⟩ := hv
  have hx := B.exec
  have hb := B.bytes
  have hr := B.returns
  have hts := atoms_spec (ws := wsX0_playDisc) B.pre
  have hown : s.vm.findClass RX0 = some m.cls := findClass_of_methodNamed B.named
  have hlocks := B.notSynchronized
  have hS : va_S (wA E) s.heap s.heap [] := va_S.rf
  have hinX3 : ∀ w ∈ wsX30, w ∈ wsX0_playDisc := fun w h => List.mem_cons_of_mem _ (List.mem_append_left _ (List.mem_append_left _ (List.mem_append_right _ h)))
  have hinX2 : ∀ w ∈ wsX20, w ∈ wsX0_playDisc := fun w h => List.mem_cons_of_mem _ (List.mem_append_left _ (List.mem_append_right _ h))
  have hinX0 : ∀ w ∈ wsX00, w ∈ wsX0_playDisc := fun w h => List.mem_cons_of_mem _ (List.mem_append_right _ h)
  have hl := lv_entry ([.ref (g (200 + j)), .ref (g (300 + a)), .ref (g (100 + d)), .int n]) (n := 4) (Nat.le_of_ble_eq_true rfl)
  rw [lg_entry_eq]
  generalize (lg_sl ([.ref (g (200 + j)), .ref (g (300 + a)), .ref (g (100 + d)), .int n]) ++ List.replicate (4 - (lg_sl ([.ref (g (200 + j)), .ref (g (300 + a)), .ref (g (100 + d)), .int n])).length) Slot.unset).toArray = ls at hl ⊢
  have hl : lv_has ls 4 [(0, .ref (g (200 + j))), (1, .ref (g (300 + a))), (2, .ref (g (100 + d))), (3, .int n)] := hl
  obtain ⟨H, eH⟩ : ∃ z, z = s.heap := ⟨_, rfl⟩
  have hH : wHS E o g x y H := by rw [eH]; exact hH
  have hS : va_S (wA E) s.heap H [] := by rw [eH]; exact hS
  refine W.heapTo eH ?_
  obtain ⟨hn0, hn1, hn2, hn3, hn4, hn5, hc7, hc8, hc5, hc54, hc4, hc50, hc9, hc12, hc10, hcj⟩ := id hI
  refine lv_aload_n hx hb dX0_playDisc_0 rfl (lv_at hl 1 rfl) ?_
  refine lv_dup hx hb dX0_playDisc_1 rfl ?_
  refine wr_get (T := TX3) (N := 3) (ci := 5) (v := .int (x.2 14 a)) hx hb hts hinX3 hown hK hH (lv_sl (show a < 10 * x.1 1 0 by omega) hn1) cel_sl rfl 2 (by decide) (hts (.fieldLink RX0 75 "SelectoRoute$Slot" "wheel" "I") (by decide +kernel)) (fun _ h => h) rfl dX0_playDisc_2 ?_
  refine lv_iload_n hx hb dX0_playDisc_5 rfl (lv_at hl 3 rfl) ?_
  refine lv_iadd hx hb dX0_playDisc_6 ?_
  refine lv_topi (fun v1 ev1 => ?_)
  refine wr_put (T := TX3) (N := 3) (ci := 5) (v := .int v1) hx hb hts hinX3 tyX3 tyX3_ok nmX3 hown hK hH hS (lv_sl (show a < 10 * x.1 1 0 by omega) hn1) cel_sl rfl 2 (by decide) (hts (.fieldLink RX0 75 "SelectoRoute$Slot" "wheel" "I") (by decide +kernel)) (fun _ h => h) rfl (ty := .int) (by decide +kernel) rfl rfl (Nat.le_of_ble_eq_true rfl) dX0_playDisc_7 (fun H locs hH hS => ?_)
  have hH : wHS E o g (uI x 14 a v1) y H := ps_2 hH
  refine lv_aload_n hx hb dX0_playDisc_10 rfl (lv_at hl 2 rfl) ?_
  refine lv_dup hx hb dX0_playDisc_11 rfl ?_
  refine wr_get (T := TX2) (N := 8) (ci := 4) (v := .int (x.2 3 d)) hx hb hts hinX2 hown hK hH (lv_di (show d < x.1 0 0 by omega) hn0) (cel_di (by omega)) rfl 4 (by decide) (hts (.fieldLink RX0 78 "SelectoRoute$Disc" "wear" "I") (by decide +kernel)) (fun _ h => h) rfl dX0_playDisc_12 ?_
  refine lv_iload_n hx hb dX0_playDisc_15 rfl (lv_at hl 3 rfl) ?_
  refine lv_iconst (v := 1) hx hb dX0_playDisc_16 (by decide) ?_
  refine lv_aload_n hx hb dX0_playDisc_17 rfl (lv_at hl 0 rfl) ?_
  refine wr_get (T := TX0) (N := 15) (ci := 3) (v := .int (x.2 9 j)) hx hb hts hinX0 hown hK hH (lv_bx (show j < x.1 1 0 by omega) hn1) (cel_bx (by omega)) rfl 9 (by decide) (hts (.fieldLink RX0 81 "SelectoRoute$Box" "needle" "I") (by decide +kernel)) (fun _ h => h) rfl dX0_playDisc_18 ?_
  refine lv_bipush (v := 40) hx hb dX0_playDisc_21 (by decide) ?_
  refine lv_idiv hx hb dX0_playDisc_23 (by decide) ?_
  refine lv_iadd hx hb dX0_playDisc_24 ?_
  refine lv_imul hx hb dX0_playDisc_25 ?_
  refine lv_iadd hx hb dX0_playDisc_26 ?_
  refine lv_topi (fun v2 ev2 => ?_)
  refine wr_put (T := TX2) (N := 8) (ci := 4) (v := .int v2) hx hb hts hinX2 tyX2 tyX2_ok nmX2 hown hK hH hS (lv_di (show d < x.1 0 0 by omega) hn0) (cel_di (by omega)) rfl 4 (by decide) (hts (.fieldLink RX0 78 "SelectoRoute$Disc" "wear" "I") (by decide +kernel)) (fun _ h => h) rfl (ty := .int) (by decide +kernel) rfl rfl (Nat.le_of_ble_eq_true rfl) dX0_playDisc_27 (fun H locs hH hS => ?_)
  have hH : wHS E o g (uI (uI x 14 a v1) 3 d v2) y H := pd_4 (by omega) hH
  refine lv_aload_n hx hb dX0_playDisc_30 rfl (lv_at hl 0 rfl) ?_
  refine lv_dup hx hb dX0_playDisc_31 rfl ?_
  refine wr_get (T := TX0) (N := 15) (ci := 3) (v := .int (x.2 9 j)) hx hb hts hinX0 hown hK hH (lv_bx (show j < x.1 1 0 by omega) hn1) (cel_bx (by omega)) rfl 9 (by decide) (hts (.fieldLink RX0 81 "SelectoRoute$Box" "needle" "I") (by decide +kernel)) (fun _ h => h) rfl dX0_playDisc_32 ?_
  refine lv_iload_n hx hb dX0_playDisc_35 rfl (lv_at hl 3 rfl) ?_
  refine lv_iadd hx hb dX0_playDisc_36 ?_
  refine lv_topi (fun v3 ev3 => ?_)
  refine wr_put (T := TX0) (N := 15) (ci := 3) (v := .int v3) hx hb hts hinX0 tyX0 tyX0_ok nmX0 hown hK hH hS (lv_bx (show j < x.1 1 0 by omega) hn1) (cel_bx (by omega)) rfl 9 (by decide) (hts (.fieldLink RX0 81 "SelectoRoute$Box" "needle" "I") (by decide +kernel)) (fun _ h => h) rfl (ty := .int) (by decide +kernel) rfl rfl (Nat.le_of_ble_eq_true rfl) dX0_playDisc_37 (fun H locs hH hS => ?_)
  have hH : wHS E o g (uI (uI (uI x 14 a v1) 3 d v2) 9 j v3) y H := pb_9 (by omega) hH
  refine lv_aload_n hx hb dX0_playDisc_40 rfl (lv_at hl 0 rfl) ?_
  refine lv_dup hx hb dX0_playDisc_41 rfl ?_
  refine wr_get (T := TX0) (N := 15) (ci := 3) (v := .int (x.2 11 j)) hx hb hts hinX0 hown hK hH (lv_bx (show j < x.1 1 0 by omega) hn1) (cel_bx (by omega)) rfl 12 (by decide) (hts (.fieldLink RX0 84 "SelectoRoute$Box" "playsSinceVisit" "I") (by decide +kernel)) (fun _ h => h) rfl dX0_playDisc_42 ?_
  refine lv_iload_n hx hb dX0_playDisc_45 rfl (lv_at hl 3 rfl) ?_
  refine lv_iadd hx hb dX0_playDisc_46 ?_
  refine lv_topi (fun v4 ev4 => ?_)
  refine wr_put (T := TX0) (N := 15) (ci := 3) (v := .int v4) hx hb hts hinX0 tyX0 tyX0_ok nmX0 hown hK hH hS (lv_bx (show j < x.1 1 0 by omega) hn1) (cel_bx (by omega)) rfl 12 (by decide) (hts (.fieldLink RX0 84 "SelectoRoute$Box" "playsSinceVisit" "I") (by decide +kernel)) (fun _ h => h) rfl (ty := .int) (by decide +kernel) rfl rfl (Nat.le_of_ble_eq_true rfl) dX0_playDisc_47 (fun H locs hH hS => ?_)
  have hH : wHS E o g (uI (uI (uI (uI x 14 a v1) 3 d v2) 9 j v3) 11 j v4) y H := pb_12 (by omega) hH
  subst ev4
  subst ev3
  subst ev2
  subst ev1
  exact W.vret hx hb hr (fun t ht hW => ⟨⟨(), rfl, trivial, wHS_t ht hH⟩, hS.F ht⟩) hS.2.2 dX0_playDisc_50
set_option maxHeartbeats 4000000 in
set_option maxRecDepth 100000 in
theorem met_X0_letGuestsPlay (l : Launch) (E : wE) (o : wO) (g : Nat → Nat) (x y : St) (j : Nat) (wk : Int32) (hI : CI x) (hj : j < x.1 1 0) : Met l yX0_letGuestsPlay wsX0_letGuestsPlay ({ frames := 2, cells := 0, slots := 0, locals := 300 } : Room) (va_Pc [.ref (g (200 + j)), .int wk] (wPre E o g x y)) (va_Qv (fun (_ : Unit) => True) (fun (_ : Unit) t => wHS E o g (fU (stU j wk) x 10) y t.heap) (wA E)) 0 0 (wA E) := by
  refine Met.ofW (cc := cX0_letGuestsPlay) (maxL := 8) (ret := none) (by decide) rfl ?_
  intro p e s m args below meth c s₁ B hml hv
  obtain ⟨rfl, hz, hH, hK⟩ := hv
  have hx := B.exec
  have hb := B.bytes
  have hr := B.returns
  have hts := atoms_spec (ws := wsX0_letGuestsPlay) B.pre
  have hown : s.vm.findClass RX0 = some m.cls := findClass_of_methodNamed B.named
  have hlocks := B.notSynchronized
  have hS : va_S (wA E) s.heap s.heap [] := va_S.rf
  have hinX0 : ∀ w ∈ wsX00, w ∈ wsX0_letGuestsPlay := fun w h => List.mem_cons_of_mem _ (List.mem_append_left _ (List.mem_append_left _ (List.mem_append_right _ h)))
  have hinX3 : ∀ w ∈ wsX30, w ∈ wsX0_letGuestsPlay := fun w h => List.mem_cons_of_mem _ (List.mem_append_left _ (List.mem_append_right _ h))
  have hinX2 : ∀ w ∈ wsX20, w ∈ wsX0_letGuestsPlay := fun w h => List.mem_cons_of_mem _ (List.mem_append_right _ h)
  have hl := lv_entry ([.ref (g (200 + j)), .int wk]) (n := 8) (Nat.le_of_ble_eq_true rfl)
  rw [lg_entry_eq]
  generalize (lg_sl ([.ref (g (200 + j)), .int wk]) ++ List.replicate (8 - (lg_sl ([.ref (g (200 + j)), .int wk])).length) Slot.unset).toArray = ls at hl ⊢
  have hl : lv_has ls 8 [(0, .ref (g (200 + j))), (1, .int wk)] := hl
  obtain ⟨H, eH⟩ : ∃ z, z = s.heap := ⟨_, rfl⟩
  have hH : wHS E o g x y H := by rw [eH]; exact hH
  have hS : va_S (wA E) s.heap H [] := by rw [eH]; exact hS
  refine W.heapTo eH ?_
  obtain ⟨hn0, hn1, hn2, hn3, hn4, hn5, hc7, hc8, hc5, hc54, hc4, hc50, hc9, hc12, hc10, hcj⟩ := id hI
  refine W.nameQ (fun Q eQ => ?_)
  refine lv_aload_n hx hb dX0_letGuestsPlay_0 rfl (lv_at hl 0 rfl) ?_
  refine wr_get (T := TX0) (N := 15) (ci := 3) (v := .ref (g (210 + j))) hx hb hts hinX0 hown hK hH (lv_bx (show j < x.1 1 0 by omega) hn1) (cel_bx (by omega)) rfl 3 (by decide) (hts (.fieldLink RX0 11 "SelectoRoute$Box" "slots" "[LSelectoRoute$Slot;") (by decide +kernel)) (fun _ h => h) rfl dX0_letGuestsPlay_1 ?_
  refine lv_astore_n (lv' := [(2, .ref (g (210 + j))), (0, .ref (g (200 + j))), (1, .int wk)]) hx hb dX0_letGuestsPlay_4 rfl hl (by decide) rfl (fun ls hl => ?_)
  refine lv_aload_n hx hb dX0_letGuestsPlay_5 rfl (lv_at hl 0 rfl) ?_
  refine wr_alen (v := 10) hx hb hK hH (lv_sa (show j < x.1 1 0 by omega) hn1) (cel_sa (by omega)) 2 rfl rfl dX0_letGuestsPlay_6 ?_
  refine lv_istore_n (lv' := [(3, .int 10), (2, .ref (g (210 + j))), (0, .ref (g (200 + j))), (1, .int wk)]) hx hb dX0_letGuestsPlay_7 rfl hl (by decide) rfl (fun ls hl => ?_)
  refine lv_iconst (v := 0) hx hb dX0_letGuestsPlay_8 (by decide) ?_
  refine lv_istore (lv' := [(4, .int 0), (3, .int 10), (2, .ref (g (210 + j))), (0, .ref (g (200 + j))), (1, .int wk)]) hx hb dX0_letGuestsPlay_9 hl (by decide) rfl (fun ls hl => ?_)
  have loop : ∀ (k n : Nat), n + k = 10 → ∀ (H : Heap) (locs : List Loc) (ls : Array Slot), lv_has ls 8 [(4, .int (nI n)), (0, .ref (g (200 + j))), (1, .int wk), (2, .ref (g (210 + j))), (3, .int 10)] → wHS E o g (fU (stU j wk) x n) y H → va_S (wA E) s.heap H locs → W p l e ({ frames := 2, cells := 0, slots := 0, locals := 300 } : Room) s m #[.ref (g (200 + j)), .int wk] below meth c H locs 0 0 Q (F0 m 11 ls []) := by
    intro k
    induction k with
    | zero =>
      intro n hn H locs ls hl hH hS
      obtain rfl : n = 10 := by omega
      have hl : lv_has ls 8 [(4, .int (nI 10)), (0, .ref (g (200 + j))), (1, .int wk), (2, .ref (g (210 + j))), (3, .int 10)] := hl
      refine lv_iload hx hb dX0_letGuestsPlay_11 (lv_at hl 0 rfl) ?_
      refine lv_iload_n hx hb dX0_letGuestsPlay_13 rfl (lv_at hl 4 rfl) ?_
      refine lv_icmp_ge (tgt := 87) hx hb dX0_letGuestsPlay_14 (by decide) (fun _ => ?_) (fun hq => absurd ((nI_leI (a := 10) (b := 10) (by omega) (by omega)).mpr (Nat.le_refl _)) hq)
      rw [eQ]
      exact W.vret hx hb hr (fun t ht hW => ⟨⟨(), rfl, trivial, wHS_t ht hH⟩, hS.F ht⟩) hS.2.2 dX0_letGuestsPlay_87
    | succ k ih =>
      intro n hn H locs ls hl hH hS
      have hlt : n < 10 := by omega
      obtain ⟨x1, ex1⟩ : ∃ z, z = fU (stU j wk) x n := ⟨_, rfl⟩
      rw [← ex1] at hH
      have h1 : x1.1 = x.1 := by rw [ex1]; exact (fU_1 _ (stU_1 j wk) x n).1
      have h10 : x1.2 10 = x.2 10 := by rw [ex1]; exact (fU_1 _ (stU_1 j wk) x n).2
      have hI1 : CI x1 := CI_I hI h1 h10
      obtain ⟨hp0, hp1, hp2, hp3, hp4, hp5, hd7, hd8, hd5, hd54, hd4, hd50, hd9, hd12, hd10, hdj⟩ := id hI1
      have hj : j < x1.1 1 0 := by rw [h1]; exact hj
      refine lv_iload hx hb dX0_letGuestsPlay_11 (lv_at hl 0 rfl) ?_
      refine lv_iload_n hx hb dX0_letGuestsPlay_13 rfl (lv_at hl 4 rfl) ?_
      refine lv_icmp_ge (tgt := 87) hx hb dX0_letGuestsPlay_14 (by decide) (fun hq => absurd ((nI_leI (a := 10) (b := n) (by omega) (by omega)).mp hq) (Nat.not_le.mpr hlt)) (fun _ => ?_)
      refine lv_aload_n hx hb dX0_letGuestsPlay_17 rfl (lv_at hl 3 rfl) ?_
      refine lv_iload hx hb dX0_letGuestsPlay_18 (lv_at hl 0 rfl) ?_
      refine wr_aldq (v := .ref (g (300 + (10 * j + n)))) hx hb hK hH (lv_sa (show j < x1.1 1 0 by omega) hp1) (cel_sa (by omega)) 2 rfl (vp_in_nI (n := n) (N := 10) (by omega) (by decide)) (by rw [nI_clamp (n := n) (by omega)]; show Value.ref (g (300 + 10 * j + n)) = _; rw [Nat.add_assoc]) dX0_letGuestsPlay_20 ?_
      refine lv_astore (lv' := [(5, .ref (g (300 + (10 * j + n)))), (4, .int (nI n)), (0, .ref (g (200 + j))), (1, .int wk), (2, .ref (g (210 + j))), (3, .int 10)]) hx hb dX0_letGuestsPlay_21 hl (by decide) rfl (fun ls hl => ?_)
      refine lv_aload hx hb dX0_letGuestsPlay_23 (lv_at hl 0 rfl) ?_
      have q7 := hd7 (10 * j + n)
      by_cases c1 : (x1.1 7 (10 * j + n)) = 0
      · skip
        refine wr_get (T := TX3) (N := 3) (ci := 5) (v := .null) hx hb hts hinX3 hown hK hH (lv_sl (show (10 * j + n) < 10 * x1.1 1 0 by omega) hp1) cel_sl rfl 1 (by decide) (hts (.fieldLink RX0 52 "SelectoRoute$Slot" "disc" "LSelectoRoute$Disc;") (by decide +kernel)) (fun _ h => h) (congrArg some (if_pos c1)) dX0_letGuestsPlay_25 ?_
        refine lv_astoreN (lv' := [(6, .null), (5, .ref (g (300 + (10 * j + n)))), (4, .int (nI n)), (0, .ref (g (200 + j))), (1, .int wk), (2, .ref (g (210 + j))), (3, .int 10)]) hx hb dX0_letGuestsPlay_28 hl (by decide) rfl (fun ls hl => ?_)
        refine lv_aloadN hx hb dX0_letGuestsPlay_30 (lv_at hl 0 rfl) ?_
        refine lv_ifnullN (tgt := 81) hx hb dX0_letGuestsPlay_32 (by decide) ?_
        obtain ⟨v2, ev2⟩ : ∃ y : Int32, y = (nI n) + 1 := ⟨_, rfl⟩
        refine lv_iinc (v := v2) (lv' := [(4, .int v2), (6, .null), (5, .ref (g (300 + (10 * j + n)))), (0, .ref (g (200 + j))), (1, .int wk), (2, .ref (g (210 + j))), (3, .int 10)]) hx hb dX0_letGuestsPlay_81 hl (k := 2) rfl (by rw [ev2]; rfl) (by decide) rfl (fun ls hl => ?_)
        refine lv_goto (tgt := 11) hx hb dX0_letGuestsPlay_84 (by decide) ?_
        have e9 : v2 = nI (n + 1) := by rw [ev2]; exact nI_1 n
        rw [e9] at hl
        subst ev2
        have e8 : fU (stU j wk) x (n + 1) = x1 := by
          show (stU j wk) n (fU (stU j wk) x n) = _
          rw [← ex1]
          unfold stU
          simp only [c1, ↓reduceIte]
        exact ih (n + 1) (by omega) H locs ls (lv_sub hl [0, 3, 4, 5, 6] rfl) (by rw [e8]; exact hH) hS
      · skip
        refine wr_get (T := TX3) (N := 3) (ci := 5) (v := .ref (g (100 + ((x1.1 7 (10 * j + n)) - 1)))) hx hb hts hinX3 hown hK hH (lv_sl (show (10 * j + n) < 10 * x1.1 1 0 by omega) hp1) cel_sl rfl 1 (by decide) (hts (.fieldLink RX0 52 "SelectoRoute$Slot" "disc" "LSelectoRoute$Disc;") (by decide +kernel)) (fun _ h => h) (congrArg some (if_neg c1)) dX0_letGuestsPlay_25 ?_
        refine lv_astore (lv' := [(6, .ref (g (100 + ((x1.1 7 (10 * j + n)) - 1)))), (5, .ref (g (300 + (10 * j + n)))), (4, .int (nI n)), (0, .ref (g (200 + j))), (1, .int wk), (2, .ref (g (210 + j))), (3, .int 10)]) hx hb dX0_letGuestsPlay_28 hl (by decide) rfl (fun ls hl => ?_)
        refine lv_aload hx hb dX0_letGuestsPlay_30 (lv_at hl 0 rfl) ?_
        refine lv_ifnull hx hb dX0_letGuestsPlay_32 ?_
        refine lv_aload hx hb dX0_letGuestsPlay_35 (lv_at hl 0 rfl) ?_
        refine va_calli (va_runV (As := []) (rest := []) ⟨hx, hb, hml, hown, hts⟩ (met_X2_isWorn l E o g x1 y ((x1.1 7 (10 * j + n)) - 1) (show ((x1.1 7 (10 * j + n)) - 1) < x1.1 0 0 by omega) hp0) (cwV 0 hts gX0_letGuestsPlay_X2_isWorn rfl rfl rfl (by decide +kernel) ⟨Nat.le_of_ble_eq_true rfl, Nat.le_of_ble_eq_true rfl⟩) ⟨fun a U f mk q => ⟨q.1, wPre.calling q.2 a f mk⟩, (va_recv hK (wH_one hH (lv_di (show ((x1.1 7 (10 * j + n)) - 1) < x1.1 0 0 by have q0 := hd7 (10 * j + n); omega) hp0) (cel_di (by omega))) (ci := 4) (q0 := 0) rfl rfl), fun U hU hW => ⟨rfl, wPre_at hz hS hH hK U hU hW⟩⟩ rfl rfl hl.1 rfl (lv_room (Nat.le_of_ble_eq_true rfl)) dX0_letGuestsPlay_37 ⟨Nat.le_of_ble_eq_true rfl, Nat.le_of_ble_eq_true rfl⟩) hS (fun q _ h => h) (fun q h => h) (fun r u t H locs ht hvm hw hB hz1 hk1 hS => ?_)
        have hB := wHS_h ht hB
        try dsimp only at hw
        have hH := hB
        rcases hw with ⟨rfl, c3⟩ | ⟨rfl, c3⟩
        · have c3 : ¬ ((x1.2 3 ((x1.1 7 (10 * j + n)) - 1)) < 60) := c3
          refine lv_if_ne (tgt := 81) hx hb dX0_letGuestsPlay_40 (by decide) (fun _ => ?_) (fun hq => absurd hq (show ¬ (1 : Int32) = 0 by decide))
          obtain ⟨v4, ev4⟩ : ∃ y : Int32, y = (nI n) + 1 := ⟨_, rfl⟩
          refine lv_iinc (v := v4) (lv' := [(4, .int v4), (6, .ref (g (100 + ((x1.1 7 (10 * j + n)) - 1)))), (5, .ref (g (300 + (10 * j + n)))), (0, .ref (g (200 + j))), (1, .int wk), (2, .ref (g (210 + j))), (3, .int 10)]) hx hb dX0_letGuestsPlay_81 hl (k := 2) rfl (by rw [ev4]; rfl) (by decide) rfl (fun ls hl => ?_)
          refine lv_goto (tgt := 11) hx hb dX0_letGuestsPlay_84 (by decide) ?_
          have e9 : v4 = nI (n + 1) := by rw [ev4]; exact nI_1 n
          rw [e9] at hl
          subst ev4
          have e8 : fU (stU j wk) x (n + 1) = x1 := by
            show (stU j wk) n (fU (stU j wk) x n) = _
            rw [← ex1]
            unfold stU
            simp only [c1, c3, ↓reduceIte]
          exact ih (n + 1) (by omega) H locs ls (lv_sub hl [0, 3, 4, 5, 6] rfl) (by rw [e8]; exact hH) hS
        · have c3 : (x1.2 3 ((x1.1 7 (10 * j + n)) - 1)) < 60 := c3
          refine lv_if_ne (tgt := 81) hx hb dX0_letGuestsPlay_40 (by decide) (fun hq => absurd (show (0 : Int32) = 0 by decide) hq) (fun _ => ?_)
          refine lv_aload hx hb dX0_letGuestsPlay_43 (lv_at hl 0 rfl) ?_
          refine lv_aload_n hx hb dX0_letGuestsPlay_45 rfl (lv_at hl 3 rfl) ?_
          refine wr_get (T := TX0) (N := 15) (ci := 3) (v := .int (x1.2 5 j)) hx hb hts hinX0 hown hK hH (lv_bx (show j < x1.1 1 0 by omega) hp1) (cel_bx (by omega)) rfl 2 (by decide) (hts (.fieldLink RX0 38 "SelectoRoute$Box" "taste" "I") (by decide +kernel)) (fun _ h => h) rfl dX0_letGuestsPlay_46 ?_
          refine lv_iload_n hx hb dX0_letGuestsPlay_49 rfl (lv_at hl 4 rfl) ?_
          refine va_calli (va_runV (As := [.int (x1.2 5 j), .int wk]) (rest := []) ⟨hx, hb, hml, hown, hts⟩ (met_X2_pullFor l E o g x1 y ((x1.1 7 (10 * j + n)) - 1) (x1.2 5 j) wk (show ((x1.1 7 (10 * j + n)) - 1) < x1.1 0 0 by omega) hp0) (cwV 2 hts gX0_letGuestsPlay_X2_pullFor rfl rfl rfl (by decide +kernel) ⟨Nat.le_of_ble_eq_true rfl, Nat.le_of_ble_eq_true rfl⟩) ⟨fun a U f mk q => ⟨q.1, wPre.calling q.2 a f mk⟩, (va_recv hK (wH_one hH (lv_di (show ((x1.1 7 (10 * j + n)) - 1) < x1.1 0 0 by have q0 := hd7 (10 * j + n); omega) hp0) (cel_di (by omega))) (ci := 4) (q0 := 0) rfl rfl), fun U hU hW => ⟨rfl, wPre_at hz hS hH hK U hU hW⟩⟩ rfl rfl hl.1 rfl (lv_room (Nat.le_of_ble_eq_true rfl)) dX0_letGuestsPlay_50 ⟨Nat.le_of_ble_eq_true rfl, Nat.le_of_ble_eq_true rfl⟩) hS (fun q _ h => h) (fun q h => h) (fun r u t H locs ht hvm hw hB hz1 hk1 hS => ?_)
          have hB := wHS_h ht hB
          try dsimp only at hw
          obtain rfl := hw
          have hH := hB
          refine lv_bipush (v := 8) hx hb dX0_letGuestsPlay_53 (by decide) ?_
          refine lv_idiv hx hb dX0_letGuestsPlay_55 (by decide) ?_
          refine lv_istore (lv' := [(7, .int ((pD x1 ((x1.1 7 (10 * j + n)) - 1) (x1.2 5 j) wk) / 8)), (6, .ref (g (100 + ((x1.1 7 (10 * j + n)) - 1)))), (5, .ref (g (300 + (10 * j + n)))), (4, .int (nI n)), (0, .ref (g (200 + j))), (1, .int wk), (2, .ref (g (210 + j))), (3, .int 10)]) hx hb dX0_letGuestsPlay_56 hl (by decide) rfl (fun ls hl => ?_)
          refine lv_aload_n hx hb dX0_letGuestsPlay_58 rfl (lv_at hl 4 rfl) ?_
          refine lv_dup hx hb dX0_letGuestsPlay_59 rfl ?_
          refine wr_get (T := TX0) (N := 15) (ci := 3) (v := .int (x1.2 8 j)) hx hb hts hinX0 hown hK hH (lv_bx (show j < x1.1 1 0 by omega) hp1) (cel_bx (by omega)) rfl 8 (by decide) (hts (.fieldLink RX0 72 "SelectoRoute$Box" "cents" "I") (by decide +kernel)) (fun _ h => h) rfl dX0_letGuestsPlay_60 ?_
          refine lv_iconst (v := 5) hx hb dX0_letGuestsPlay_63 (by decide) ?_
          refine lv_iload hx hb dX0_letGuestsPlay_64 (lv_at hl 0 rfl) ?_
          refine lv_imul hx hb dX0_letGuestsPlay_66 ?_
          refine lv_iadd hx hb dX0_letGuestsPlay_67 ?_
          refine lv_topi (fun v5 ev5 => ?_)
          refine wr_put (T := TX0) (N := 15) (ci := 3) (v := .int v5) hx hb hts hinX0 tyX0 tyX0_ok nmX0 hown hK hH hS (lv_bx (show j < x1.1 1 0 by omega) hp1) (cel_bx (by omega)) rfl 8 (by decide) (hts (.fieldLink RX0 72 "SelectoRoute$Box" "cents" "I") (by decide +kernel)) (fun _ h => h) rfl (ty := .int) (by decide +kernel) rfl rfl (Nat.le_of_ble_eq_true rfl) dX0_letGuestsPlay_68 (fun H locs hH hS => ?_)
          have hH : wHS E o g (uI x1 8 j v5) y H := pb_8 (by omega) hH
          refine lv_aload_n hx hb dX0_letGuestsPlay_71 rfl (lv_at hl 4 rfl) ?_
          refine lv_aload hx hb dX0_letGuestsPlay_72 (lv_at hl 2 rfl) ?_
          refine lv_aload hx hb dX0_letGuestsPlay_74 (lv_at hl 1 rfl) ?_
          refine lv_iload hx hb dX0_letGuestsPlay_76 (lv_at hl 0 rfl) ?_
          refine va_callv (va_runV (As := [.ref (g (300 + (10 * j + n))), .ref (g (100 + ((x1.1 7 (10 * j + n)) - 1))), .int ((pD x1 ((x1.1 7 (10 * j + n)) - 1) (x1.2 5 j) wk) / 8)]) (rest := []) ⟨hx, hb, hml, hown, hts⟩ (met_X0_playDisc l E o g (uI x1 8 j v5) y j (10 * j + n) ((x1.1 7 (10 * j + n)) - 1) ((pD x1 ((x1.1 7 (10 * j + n)) - 1) (x1.2 5 j) wk) / 8) (CI_I hI1) (show j < x1.1 1 0 by omega) (show (10 * j + n) < 10 * x1.1 1 0 by omega) (show ((x1.1 7 (10 * j + n)) - 1) < x1.1 0 0 by omega)) (cwV 3 hts gX0_letGuestsPlay_X0_playDisc rfl rfl rfl (by decide +kernel) ⟨Nat.le_of_ble_eq_true rfl, Nat.le_of_ble_eq_true rfl⟩) ⟨fun a U f mk q => ⟨q.1, wPre.calling q.2 a f mk⟩, (va_recv hK (wH_one hH (lv_bx (show j < x1.1 1 0 by omega) hp1) (cel_bx (by omega))) (ci := 3) (q0 := 0) rfl rfl), fun U hU hW => ⟨rfl, wPre_at hz hS hH hK U hU hW⟩⟩ rfl rfl hl.1 rfl (lv_room (Nat.le_of_ble_eq_true rfl)) dX0_letGuestsPlay_78 ⟨Nat.le_of_ble_eq_true rfl, Nat.le_of_ble_eq_true rfl⟩) hS (fun q _ h => h) (fun q h => h) (fun u t H locs ht hvm hw hB hz1 hk1 hS => ?_)
          have hB := wHS_h ht hB
          try dsimp only at hw
          have hH := hB
          obtain ⟨v6, ev6⟩ : ∃ y : Int32, y = (nI n) + 1 := ⟨_, rfl⟩
          refine lv_iinc (v := v6) (lv' := [(4, .int v6), (7, .int ((pD x1 ((x1.1 7 (10 * j + n)) - 1) (x1.2 5 j) wk) / 8)), (6, .ref (g (100 + ((x1.1 7 (10 * j + n)) - 1)))), (5, .ref (g (300 + (10 * j + n)))), (0, .ref (g (200 + j))), (1, .int wk), (2, .ref (g (210 + j))), (3, .int 10)]) hx hb dX0_letGuestsPlay_81 hl (k := 3) rfl (by rw [ev6]; rfl) (by decide) rfl (fun ls hl => ?_)
          refine lv_goto (tgt := 11) hx hb dX0_letGuestsPlay_84 (by decide) ?_
          have e9 : v6 = nI (n + 1) := by rw [ev6]; exact nI_1 n
          rw [e9] at hl
          subst ev6
          subst ev5
          have e8 : fU (stU j wk) x (n + 1) = (plD (uI x1 8 j ((x1.2 8 j) + (5 * ((pD x1 ((x1.1 7 (10 * j + n)) - 1) (x1.2 5 j) wk) / 8)))) j (10 * j + n) ((x1.1 7 (10 * j + n)) - 1) ((pD x1 ((x1.1 7 (10 * j + n)) - 1) (x1.2 5 j) wk) / 8)) := by
            show (stU j wk) n (fU (stU j wk) x n) = _
            rw [← ex1]
            unfold stU
            simp only [c1, c3, ↓reduceIte]
          exact ih (n + 1) (by omega) H locs ls (lv_sub hl [0, 4, 5, 6, 7] rfl) (by rw [e8]; exact hH) hS
  exact loop 10 0 (by omega) H _ ls (lv_sub hl [0, 3, 4, 2, 1] rfl) hH hS
