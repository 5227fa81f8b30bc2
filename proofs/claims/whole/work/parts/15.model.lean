/-! ===== the model: play, pass, checksum ===== -/
/-- play: the queue moves up by one -/
def stP (j k : Nat) (y : St) : St := uN y 6 (8 * j + k) (y.1 6 ((8 * j + k) + 1))
theorem fP_1 (j : Nat) (y : St) (n k i : Nat) (h : k ≠ 6) : (fU (stP j) y n).1 k i = y.1 k i := by
  induction n with
  | zero => rfl
  | succ n ih => show (uN (fU (stP j) y n) 6 (8 * j + n) _).1 k i = _; simp [uN, va_up, h, ih]
theorem fP_2 (j : Nat) (y : St) (n : Nat) : (fU (stP j) y n).2 = y.2 := by
  induction n with
  | zero => rfl
  | succ n ih => show (uN (fU (stP j) y n) 6 (8 * j + n) _).2 = _; simp [uN, ih]
/-- pass: the guests at one slot -/
def stG (a : Nat) (y : St) : St := if y.2 10 (a / 10) = 0 then (if y.1 7 a = 0 then y else if 60 ≤ y.2 3 (y.1 7 a - 1) then y else mp_wears (uI y 8 (a / 10) (y.2 8 (a / 10) + 5 * (pS y a (y.2 5 (a / 10)) (nI (y.1 9 0)) / 8))) a (pS y a (y.2 5 (a / 10)) (nI (y.1 9 0)) / 8)) else y
theorem wears_1 (y : St) (a : Nat) (n : Int32) : (mp_wears y a n).1 = y.1 := by
  unfold mp_wears
  simp only [uI]
theorem stG_1 (a : Nat) (y : St) : (stG a y).1 = y.1 := by
  unfold stG
  repeat' split
  all_goals first | rfl | exact wears_1 _ _ _
theorem fG_1 (y : St) (n : Nat) : (fU stG y n).1 = y.1 := by
  induction n with
  | zero => rfl
  | succ n ih => exact (stG_1 n _).trans ih
theorem MI_of {y z : St} (h : z.1 = y.1) (hI : MI y) : MI z := by unfold MI at *; rw [h]; exact hI
/-- pass: nobody has visited -/
def stV (i : Nat) (y : St) : St := uN y 11 i 0
theorem fV_1 (y : St) (n k i : Nat) (h : k ≠ 11) : (fU stV y n).1 k i = y.1 k i := by
  induction n with
  | zero => rfl
  | succ n ih => show (uN (fU stV y n) 11 n _).1 k i = _; simp [uN, va_up, h, ih]
theorem fV_2 (y : St) (n : Nat) : (fU stV y n).2 = y.2 := by
  induction n with
  | zero => rfl
  | succ n ih => show (uN (fU stV y n) 11 n _).2 = _; simp [uN, ih]
theorem MI_5 {y : St} {i v : Nat} (hI : MI y) (h : v ≤ 8) : MI (uN y 5 i v) := by
  obtain ⟨a0, a1, a7, a8, a5, a6, a9, a12, a11⟩ := hI
  refine ⟨a0, a1, a7, a8, fun j => ?_, a6, a9, a12, a11⟩
  show va_up y.1 5 (va_up (y.1 5) i v) 5 j ≤ 8
  simp only [va_up, ↓reduceIte]
  split
  · exact h
  · exact a5 j
theorem fP_MI {y : St} (hI : MI y) (j n : Nat) : MI (fU (stP j) y n) := by
  induction n with
  | zero => exact hI
  | succ n ih =>
    obtain ⟨a0, a1, a7, a8, a5, a6, a9, a12, a11⟩ := ih
    refine ⟨a0, a1, a7, a8, a5, fun i => ?_, a9, a12, a11⟩
    show va_up (fU (stP j) y n).1 6 (va_up ((fU (stP j) y n).1 6) (8 * j + n) ((fU (stP j) y n).1 6 ((8 * j + n) + 1))) 6 i < 10
    simp only [va_up, ↓reduceIte]
    split
    · exact a6 _
    · exact a6 _
/-- checksum -/
def stC (y : St) (i : Nat) (q : Int64) : Int64 := 31 * q + (y.2 3 i).toInt64
def stD (y : St) (i : Nat) (q : Int64) : Int64 := 31 * (31 * (31 * q + (y.2 8 i).toInt64) + (y.2 7 i).toInt64) + (y.2 9 i).toInt64
def mp_play (y : St) (b : Int32) : Int32 × St := if inB b (y.1 1 0) = true then (if (y.2 10 (ix b)) = 0 then (if (y.1 5 (ix b)) = 0 then (45, (uI (uI (uI y 28 0 0) 28 0 0) 28 0 3)) else (if (y.2 6 (ix b)) ≤ ((((((y.2 16 0).toInt64) * 48271) - (((y.2 16 0).toInt64) * 48271) / 2147483647 * 2147483647).toInt32) - (((((y.2 16 0).toInt64) * 48271) - (((y.2 16 0).toInt64) * 48271) / 2147483647 * 2147483647).toInt32) / 100 * 100) then (if (y.1 7 ((10 * (ix b)) + (y.1 6 (8 * (ix b))))) = 0 then (98, (uI (fU (stP (ix b)) (uN (uI (uI (uI (uI y 28 0 0) 28 0 0) 28 0 0) 16 0 (((((y.2 16 0).toInt64) * 48271) - (((y.2 16 0).toInt64) * 48271) / 2147483647 * 2147483647).toInt32)) 5 (ix b) ((y.1 5 (ix b)) - 1)) ((y.1 5 (ix b)) - 1)) 7 (ix b) ((y.2 7 (ix b)) + 1))) else (if (y.2 3 ((y.1 7 ((10 * (ix b)) + (y.1 6 (8 * (ix b))))) - 1)) < 60 then (112, (mp_wears (fU (stP (ix b)) (uN (uI (uI (uI (uI y 28 0 0) 28 0 0) 28 0 0) 16 0 (((((y.2 16 0).toInt64) * 48271) - (((y.2 16 0).toInt64) * 48271) / 2147483647 * 2147483647).toInt32)) 5 (ix b) ((y.1 5 (ix b)) - 1)) ((y.1 5 (ix b)) - 1)) ((10 * (ix b)) + (y.1 6 (8 * (ix b)))) 1)) else (98, (uI (fU (stP (ix b)) (uN (uI (uI (uI (uI y 28 0 0) 28 0 0) 28 0 0) 16 0 (((((y.2 16 0).toInt64) * 48271) - (((y.2 16 0).toInt64) * 48271) / 2147483647 * 2147483647).toInt32)) 5 (ix b) ((y.1 5 (ix b)) - 1)) ((y.1 5 (ix b)) - 1)) 7 (ix b) ((y.2 7 (ix b)) + 1))))) else (106, (uI (uI (uI (uI (uI y 28 0 0) 28 0 0) 28 0 0) 16 0 (((((y.2 16 0).toInt64) * 48271) - (((y.2 16 0).toInt64) * 48271) / 2147483647 * 2147483647).toInt32)) 10 (ix b) 1)))) else (45, (uI (uI y 28 0 0) 28 0 2))) else (45, (uI y 28 0 1))
set_option maxHeartbeats 4000000 in
set_option maxRecDepth 100000 in
theorem met_X5_play (l : Launch) (E : wE) (o : wO) (g : Nat → Nat) (x y : St) (b : Int32) (hI : MI y) : Met l yX5_play wsX5_play ({ frames := 3, cells := 0, slots := 0, locals := 300 } : Room) (va_Pc [.ref (g 10), .int b] (wPre E o g x y)) (va_Qi (fun (r : Int32) (_ : Unit) => r = (mp_play y b).1) (fun (_ : Unit) t => wHS E o g x (mp_play y b).2 t.heap) (wA E)) 0 0 (wA E) := by
  refine Met.ofW (cc := cX5_play) (maxL := 4) (ret := (some .char)) (by decide) rfl ?_
  intro p e s m args below meth c s₁ B hml hv
  obtain ⟨rfl, hz, hH, hK⟩ := hv
  have hx := B.exec
  have hb := B.bytes
  have hr := B.returns
  have hts := atoms_spec (ws := wsX5_play) B.pre
  have hown : s.vm.findClass RX5 = some m.cls := findClass_of_methodNamed B.named
  have hlocks := B.notSynchronized
  have hS : va_S (wA E) s.heap s.heap [] := va_S.rf
  have hinX5 : ∀ w ∈ wsX50, w ∈ wsX5_play := fun w h => List.mem_cons_of_mem _ (List.mem_append_left _ (List.mem_append_right _ h))
  have hl := lv_entry ([.ref (g 10), .int b]) (n := 4) (Nat.le_of_ble_eq_true rfl)
  rw [lg_entry_eq]
  generalize (lg_sl ([.ref (g 10), .int b]) ++ List.replicate (4 - (lg_sl ([.ref (g 10), .int b])).length) Slot.unset).toArray = ls at hl ⊢
  have hl : lv_has ls 4 [(0, .ref (g 10)), (1, .int b)] := hl
  obtain ⟨H, eH⟩ : ∃ z, z = s.heap := ⟨_, rfl⟩
  have hH : wHS E o g x y H := by rw [eH]; exact hH
  have hS : va_S (wA E) s.heap H [] := by rw [eH]; exact hS
  refine W.heapTo eH ?_
  obtain ⟨hm0, hm1, hm7, hm8, hm5, hm6, hm9, hm12, hm11⟩ := id hI
  refine W.nameQ (fun Q eQ => ?_)
  refine lv_aload_n hx hb dX5_play_0 rfl (lv_at hl 0 rfl) ?_
  refine lv_aload_n hx hb dX5_play_1 rfl (lv_at hl 0 rfl) ?_
  refine lv_iload_n hx hb dX5_play_2 rfl (lv_at hl 1 rfl) ?_
  refine va_calli (va_runV (As := [.int b]) (rest := [.ref (g 10)]) ⟨hx, hb, hml, hown, hts⟩ (met_X5_isBox l E o g x y b (show (y.1 1 0) ≤ 100 by omega)) (cwV 1 hts gX5_play_X5_isBox rfl rfl rfl (by decide +kernel) ⟨Nat.le_of_ble_eq_true rfl, Nat.le_of_ble_eq_true rfl⟩) ⟨fun a U f mk q => ⟨q.1, wPre.calling q.2 a f mk⟩, (va_recv hK (wH_one hH (lv_md (by decide) (by decide)) (cel_md (by omega) (by omega))) (ci := 7) (q0 := 0) rfl rfl), fun U hU hW => ⟨rfl, wPre_at hz hS hH hK U hU hW⟩⟩ rfl rfl hl.1 rfl (lv_room (Nat.le_of_ble_eq_true rfl)) dX5_play_3 ⟨Nat.le_of_ble_eq_true rfl, Nat.le_of_ble_eq_true rfl⟩) hS (fun q _ h => h) (fun q h => h) (fun r u t H locs ht hvm hw hB hz1 hk1 hS => ?_)
  have hB := wHS_h ht hB
  try dsimp only at hw
  have hH := hB
  rcases hw with ⟨rfl, c1⟩ | ⟨rfl, c1⟩
  · have c1 : inB b (y.1 1 0) = true := c1
    obtain ⟨jb, hjb, rfl⟩ := inB_t c1 (by omega)
    refine lv_iconst (v := 1) hx hb dX5_play_6 (by decide) ?_
    refine va_calli (va_runV (As := [.int 1, .int 1]) (rest := []) ⟨hx, hb, hml, hown, hts⟩ (met_X5_no1 l E o g x y 1) (cwV 2 hts gX5_play_X5_no rfl rfl rfl (by decide +kernel) ⟨Nat.le_of_ble_eq_true rfl, Nat.le_of_ble_eq_true rfl⟩) ⟨fun a U f mk q => ⟨q.1, wPre.calling q.2 a f mk⟩, (va_recv hK (wH_one hH (lv_md (by decide) (by decide)) (cel_md (by omega) (by omega))) (ci := 7) (q0 := 0) rfl rfl), fun U hU hW => ⟨rfl, wPre_at hz hS hH hK U hU hW⟩⟩ rfl rfl hl.1 rfl (lv_room (Nat.le_of_ble_eq_true rfl)) dX5_play_7 ⟨Nat.le_of_ble_eq_true rfl, Nat.le_of_ble_eq_true rfl⟩) hS (fun q _ h => h) (fun q h => h) (fun r u t H locs ht hvm hw hB hz1 hk1 hS => ?_)
    have hB := wHS_h ht hB
    try dsimp only at hw
    obtain rfl := hw
    have hH := hB
    refine lv_if_ne (tgt := 57) hx hb dX5_play_10 (by decide) (fun hq => absurd (show (0 : Int32) = 0 by decide) hq) (fun _ => ?_)
    refine lv_aload_n hx hb dX5_play_13 rfl (lv_at hl 0 rfl) ?_
    refine lv_aload_n hx hb dX5_play_14 rfl (lv_at hl 0 rfl) ?_
    refine wr_get (T := TX5) (N := 30) (ci := 7) (v := .ref (g 27)) hx hb hts hinX5 hown hK hH (lv_md (by decide) (by decide)) (cel_md (by omega) (by omega)) rfl 17 (by decide) (hts (.fieldLink RX5 58 "SelectoRouteModel" "jammed" "[Z") (by decide +kernel)) (fun _ h => h) rfl dX5_play_15 ?_
    refine lv_iload_n hx hb dX5_play_18 rfl (lv_at hl 1 rfl) ?_
    refine wr_zald (v := (y.2 10 jb)) hx hb hK hH (lv_md (by decide) (by decide)) (cel_md (by decide) (by decide)) 1 rfl (vp_in_nI (n := jb) (N := 4) (by omega) (by decide)) (by rw [(nI_clamp (n := jb) (by omega))]; try rfl) dX5_play_19 ?_
    refine lv_if_ne (tgt := 27) hx hb dX5_play_20 (by decide) (fun c2 => ?_) (fun c2 => ?_)
    · skip
      refine lv_iconst (v := 0) hx hb dX5_play_27 (by decide) ?_
      refine lv_iconst (v := 2) hx hb dX5_play_28 (by decide) ?_
      refine va_calli (va_runV (As := [.int 0, .int 2]) (rest := []) ⟨hx, hb, hml, hown, hts⟩ (met_X5_no0 l E o g x (uI y 28 0 0) 2) (cwV 2 hts gX5_play_X5_no rfl rfl rfl (by decide +kernel) ⟨Nat.le_of_ble_eq_true rfl, Nat.le_of_ble_eq_true rfl⟩) ⟨fun a U f mk q => ⟨q.1, wPre.calling q.2 a f mk⟩, (va_recv hK (wH_one hH (lv_md (by decide) (by decide)) (cel_md (by omega) (by omega))) (ci := 7) (q0 := 0) rfl rfl), fun U hU hW => ⟨rfl, wPre_at hz hS hH hK U hU hW⟩⟩ rfl rfl hl.1 rfl (lv_room (Nat.le_of_ble_eq_true rfl)) dX5_play_29 ⟨Nat.le_of_ble_eq_true rfl, Nat.le_of_ble_eq_true rfl⟩) hS (fun q _ h => h) (fun q h => h) (fun r u t H locs ht hvm hw hB hz1 hk1 hS => ?_)
      have hB := wHS_h ht hB
      try dsimp only at hw
      obtain rfl := hw
      have hH := hB
      refine lv_if_ne (tgt := 57) hx hb dX5_play_32 (by decide) (fun _ => ?_) (fun hq => absurd hq (show ¬ (1 : Int32) = 0 by decide))
      refine lv_bipush (v := 45) hx hb dX5_play_57 (by decide) ?_
      have hsp : mp_play y (nI jb) = (45, (uI (uI y 28 0 0) 28 0 2)) := by
        unfold mp_play
        first | (simp only [c1, c2, inB_nI hjb (by omega), ix_nI (show jb < 2 ^ 31 by omega), ↓reduceIte, and_self, and_true, true_and, Bool.false_eq_true, reduceCtorEq, eq_self, false_and, and_false]; done) | (simp [c1, c2, inB_nI hjb (by omega), ix_nI (show jb < 2 ^ 31 by omega), ↓reduceIte, and_self, and_true, true_and, Bool.false_eq_true, reduceCtorEq, eq_self, false_and, and_false]; done) | simp only [c1, c2, inB_nI hjb (by omega), ix_nI (show jb < 2 ^ 31 by omega), ↓reduceIte, and_self, and_true, true_and, Bool.false_eq_true, reduceCtorEq, eq_self, false_and, and_false]
      rw [eQ]
      exact W.zret (v := 45) hx hb hr rfl (fun t ht hW => ⟨⟨45, (), rfl, (by rw [hsp]), wHS_t ht (by rw [hsp]; exact hH)⟩, hS.F ht⟩) hS.2.2 dX5_play_59
    · skip
      refine lv_iconst (v := 1) hx hb dX5_play_23 (by decide) ?_
      refine lv_goto (tgt := 28) hx hb dX5_play_24 (by decide) ?_
      refine lv_iconst (v := 2) hx hb dX5_play_28 (by decide) ?_
      refine va_calli (va_runV (As := [.int 1, .int 2]) (rest := []) ⟨hx, hb, hml, hown, hts⟩ (met_X5_no1 l E o g x (uI y 28 0 0) 2) (cwV 2 hts gX5_play_X5_no rfl rfl rfl (by decide +kernel) ⟨Nat.le_of_ble_eq_true rfl, Nat.le_of_ble_eq_true rfl⟩) ⟨fun a U f mk q => ⟨q.1, wPre.calling q.2 a f mk⟩, (va_recv hK (wH_one hH (lv_md (by decide) (by decide)) (cel_md (by omega) (by omega))) (ci := 7) (q0 := 0) rfl rfl), fun U hU hW => ⟨rfl, wPre_at hz hS hH hK U hU hW⟩⟩ rfl rfl hl.1 rfl (lv_room (Nat.le_of_ble_eq_true rfl)) dX5_play_29 ⟨Nat.le_of_ble_eq_true rfl, Nat.le_of_ble_eq_true rfl⟩) hS (fun q _ h => h) (fun q h => h) (fun r u t H locs ht hvm hw hB hz1 hk1 hS => ?_)
      have hB := wHS_h ht hB
      try dsimp only at hw
      obtain rfl := hw
      have hH := hB
      refine lv_if_ne (tgt := 57) hx hb dX5_play_32 (by decide) (fun hq => absurd (show (0 : Int32) = 0 by decide) hq) (fun _ => ?_)
      refine lv_aload_n hx hb dX5_play_35 rfl (lv_at hl 0 rfl) ?_
      refine lv_aload_n hx hb dX5_play_36 rfl (lv_at hl 0 rfl) ?_
      refine wr_get (T := TX5) (N := 30) (ci := 7) (v := .ref (g 22)) hx hb hts hinX5 hown hK hH (lv_md (by decide) (by decide)) (cel_md (by omega) (by omega)) rfl 12 (by decide) (hts (.fieldLink RX5 43 "SelectoRouteModel" "queued" "[I") (by decide +kernel)) (fun _ h => h) rfl dX5_play_37 ?_
      refine lv_iload_n hx hb dX5_play_40 rfl (lv_at hl 1 rfl) ?_
      refine wr_iald (v := nI (y.1 5 jb)) hx hb hK hH (lv_md (by decide) (by decide)) (cel_md (by decide) (by decide)) 0 rfl (vp_in_nI (n := jb) (N := 4) (by omega) (by decide)) (by rw [(nI_clamp (n := jb) (by omega))]; try rfl) dX5_play_41 ?_
      refine lv_if_le (tgt := 49) hx hb dX5_play_42 (by decide) (fun c3 => ?_) (fun c3 => ?_)
      · have c3 := (nz_le (by have q0 := hm5 jb; omega)).mp c3
        refine lv_iconst (v := 0) hx hb dX5_play_49 (by decide) ?_
        refine lv_iconst (v := 3) hx hb dX5_play_50 (by decide) ?_
        refine va_calli (va_runV (As := [.int 0, .int 3]) (rest := []) ⟨hx, hb, hml, hown, hts⟩ (met_X5_no0 l E o g x (uI (uI y 28 0 0) 28 0 0) 3) (cwV 2 hts gX5_play_X5_no rfl rfl rfl (by decide +kernel) ⟨Nat.le_of_ble_eq_true rfl, Nat.le_of_ble_eq_true rfl⟩) ⟨fun a U f mk q => ⟨q.1, wPre.calling q.2 a f mk⟩, (va_recv hK (wH_one hH (lv_md (by decide) (by decide)) (cel_md (by omega) (by omega))) (ci := 7) (q0 := 0) rfl rfl), fun U hU hW => ⟨rfl, wPre_at hz hS hH hK U hU hW⟩⟩ rfl rfl hl.1 rfl (lv_room (Nat.le_of_ble_eq_true rfl)) dX5_play_51 ⟨Nat.le_of_ble_eq_true rfl, Nat.le_of_ble_eq_true rfl⟩) hS (fun q _ h => h) (fun q h => h) (fun r u t H locs ht hvm hw hB hz1 hk1 hS => ?_)
        have hB := wHS_h ht hB
        try dsimp only at hw
        obtain rfl := hw
        have hH := hB
        refine lv_if_eq (tgt := 60) hx hb dX5_play_54 (by decide) (fun hq => absurd hq (show ¬ (1 : Int32) = 0 by decide)) (fun _ => ?_)
        refine lv_bipush (v := 45) hx hb dX5_play_57 (by decide) ?_
        have hsp : mp_play y (nI jb) = (45, (uI (uI (uI y 28 0 0) 28 0 0) 28 0 3)) := by
          unfold mp_play
          first | (simp only [c1, c2, c3, inB_nI hjb (by omega), ix_nI (show jb < 2 ^ 31 by omega), ↓reduceIte, and_self, and_true, true_and, Bool.false_eq_true, reduceCtorEq, eq_self, false_and, and_false]; done) | (simp [c1, c2, c3, inB_nI hjb (by omega), ix_nI (show jb < 2 ^ 31 by omega), ↓reduceIte, and_self, and_true, true_and, Bool.false_eq_true, reduceCtorEq, eq_self, false_and, and_false]; done) | simp only [c1, c2, c3, inB_nI hjb (by omega), ix_nI (show jb < 2 ^ 31 by omega), ↓reduceIte, and_self, and_true, true_and, Bool.false_eq_true, reduceCtorEq, eq_self, false_and, and_false]
        rw [eQ]
        exact W.zret (v := 45) hx hb hr rfl (fun t ht hW => ⟨⟨45, (), rfl, (by rw [hsp]), wHS_t ht (by rw [hsp]; exact hH)⟩, hS.F ht⟩) hS.2.2 dX5_play_59
      · have c3 : ¬ ((y.1 5 jb) = 0) := fun hq => c3 ((nz_le (by have q0 := hm5 jb; omega)).mpr hq)
        refine lv_iconst (v := 1) hx hb dX5_play_45 (by decide) ?_
        refine lv_goto (tgt := 50) hx hb dX5_play_46 (by decide) ?_
        refine lv_iconst (v := 3) hx hb dX5_play_50 (by decide) ?_
        refine va_calli (va_runV (As := [.int 1, .int 3]) (rest := []) ⟨hx, hb, hml, hown, hts⟩ (met_X5_no1 l E o g x (uI (uI y 28 0 0) 28 0 0) 3) (cwV 2 hts gX5_play_X5_no rfl rfl rfl (by decide +kernel) ⟨Nat.le_of_ble_eq_true rfl, Nat.le_of_ble_eq_true rfl⟩) ⟨fun a U f mk q => ⟨q.1, wPre.calling q.2 a f mk⟩, (va_recv hK (wH_one hH (lv_md (by decide) (by decide)) (cel_md (by omega) (by omega))) (ci := 7) (q0 := 0) rfl rfl), fun U hU hW => ⟨rfl, wPre_at hz hS hH hK U hU hW⟩⟩ rfl rfl hl.1 rfl (lv_room (Nat.le_of_ble_eq_true rfl)) dX5_play_51 ⟨Nat.le_of_ble_eq_true rfl, Nat.le_of_ble_eq_true rfl⟩) hS (fun q _ h => h) (fun q h => h) (fun r u t H locs ht hvm hw hB hz1 hk1 hS => ?_)
        have hB := wHS_h ht hB
        try dsimp only at hw
        obtain rfl := hw
        have hH := hB
        refine lv_if_eq (tgt := 60) hx hb dX5_play_54 (by decide) (fun _ => ?_) (fun hq => absurd (show (0 : Int32) = 0 by decide) hq)
        refine lv_aload_n hx hb dX5_play_60 rfl (lv_at hl 0 rfl) ?_
        refine lv_aload_n hx hb dX5_play_61 rfl (lv_at hl 0 rfl) ?_
        refine wr_get (T := TX5) (N := 30) (ci := 7) (v := .int (y.2 16 0)) hx hb hts hinX5 hown hK hH (lv_md (by decide) (by decide)) (cel_md (by omega) (by omega)) rfl 25 (by decide) (hts (.fieldLink RX5 80 "SelectoRouteModel" "z" "I") (by decide +kernel)) (fun _ h => h) rfl dX5_play_62 ?_
        refine lv_i2l hx hb dX5_play_65 rfl ?_
        refine lv_ldc2 hx hb hown (hts (.constantLong RX5 120 (48271)) (by decide +kernel)) dX5_play_66 ?_
        refine lv_lmul hx hb dX5_play_69 ?_
        refine lv_ldc2 hx hb hown (hts (.constantLong RX5 122 (2147483647)) (by decide +kernel)) dX5_play_70 ?_
        refine lv_lrem hx hb dX5_play_73 (by decide) ?_
        refine lv_l2i hx hb dX5_play_74 rfl ?_
        refine lv_topi (fun v4 ev4 => ?_)
        refine wr_put (T := TX5) (N := 30) (ci := 7) (v := .int v4) hx hb hts hinX5 tyX5 tyX5_ok nmX5 hown hK hH hS (lv_md (by decide) (by decide)) (cel_md (by omega) (by omega)) rfl 25 (by decide) (hts (.fieldLink RX5 80 "SelectoRouteModel" "z" "I") (by decide +kernel)) (fun _ h => h) rfl (ty := .int) (by decide +kernel) rfl rfl (Nat.le_of_ble_eq_true rfl) dX5_play_75 (fun H locs hH hS => ?_)
        have hH : wHS E o g x (uI (uI (uI (uI y 28 0 0) 28 0 0) 28 0 0) 16 0 v4) H := pm_z hH
        refine lv_aload_n hx hb dX5_play_78 rfl (lv_at hl 0 rfl) ?_
        refine wr_get (T := TX5) (N := 30) (ci := 7) (v := .int v4) hx hb hts hinX5 hown hK hH (lv_md (by decide) (by decide)) (cel_md (by omega) (by omega)) rfl 25 (by decide) (hts (.fieldLink RX5 80 "SelectoRouteModel" "z" "I") (by decide +kernel)) (fun _ h => h) (congrArg (fun z => some (Value.int z)) (by simp [uI, uN, va_up])) dX5_play_79 ?_
        refine lv_bipush (v := 100) hx hb dX5_play_82 (by decide) ?_
        refine lv_irem hx hb dX5_play_84 (by decide) ?_
        refine lv_aload_n hx hb dX5_play_85 rfl (lv_at hl 0 rfl) ?_
        refine wr_get (T := TX5) (N := 30) (ci := 7) (v := .ref (g 18)) hx hb hts hinX5 hown hK hH (lv_md (by decide) (by decide)) (cel_md (by omega) (by omega)) rfl 8 (by decide) (hts (.fieldLink RX5 31 "SelectoRouteModel" "risk" "[I") (by decide +kernel)) (fun _ h => h) rfl dX5_play_86 ?_
        refine lv_iload_n hx hb dX5_play_89 rfl (lv_at hl 1 rfl) ?_
        refine wr_iald (v := (y.2 6 jb)) hx hb hK hH (lv_md (by decide) (by decide)) (cel_md (by decide) (by decide)) 0 rfl (vp_in_nI (n := jb) (N := 4) (by omega) (by decide)) (by rw [(nI_clamp (n := jb) (by omega))]; try rfl) dX5_play_90 ?_
        refine lv_icmp_ge (tgt := 104) hx hb dX5_play_91 (by decide) (fun c5 => ?_) (fun c5 => ?_)
        · skip
          refine lv_bipush (v := 10) hx hb dX5_play_104 (by decide) ?_
          refine lv_iload_n hx hb dX5_play_106 rfl (lv_at hl 1 rfl) ?_
          refine lv_imul hx hb dX5_play_107 ?_
          refine lv_tope (pk_mul 10 jb) ?_
          refine lv_aload_n hx hb dX5_play_108 rfl (lv_at hl 0 rfl) ?_
          refine wr_get (T := TX5) (N := 30) (ci := 7) (v := .ref (g 23)) hx hb hts hinX5 hown hK hH (lv_md (by decide) (by decide)) (cel_md (by omega) (by omega)) rfl 13 (by decide) (hts (.fieldLink RX5 46 "SelectoRouteModel" "queue" "[I") (by decide +kernel)) (fun _ h => h) rfl dX5_play_109 ?_
          refine lv_bipush (v := 8) hx hb dX5_play_112 (by decide) ?_
          refine lv_iload_n hx hb dX5_play_114 rfl (lv_at hl 1 rfl) ?_
          refine lv_imul hx hb dX5_play_115 ?_
          refine lv_tope (pk_mul 8 jb) ?_
          refine wr_iald (v := nI (y.1 6 (8 * jb))) hx hb hK hH (lv_md (by decide) (by decide)) (cel_md (by decide) (by decide)) 0 rfl (vp_in_nI (n := (8 * jb)) (N := 32) (by omega) (by decide)) (by rw [(nI_clamp (n := (8 * jb)) (by omega))]; try rfl) dX5_play_116 ?_
          refine lv_iadd hx hb dX5_play_117 ?_
          refine lv_tope (nI_add (10 * jb) (y.1 6 (8 * jb))) ?_
          refine lv_istore_n (lv' := [(2, .int (nI ((10 * jb) + (y.1 6 (8 * jb))))), (0, .ref (g 10)), (1, .int (nI jb))]) hx hb dX5_play_118 rfl hl (by decide) rfl (fun ls hl => ?_)
          refine lv_aload_n hx hb dX5_play_119 rfl (lv_at hl 1 rfl) ?_
          refine wr_get (T := TX5) (N := 30) (ci := 7) (v := .ref (g 22)) hx hb hts hinX5 hown hK hH (lv_md (by decide) (by decide)) (cel_md (by omega) (by omega)) rfl 12 (by decide) (hts (.fieldLink RX5 43 "SelectoRouteModel" "queued" "[I") (by decide +kernel)) (fun _ h => h) rfl dX5_play_120 ?_
          refine lv_iload_n hx hb dX5_play_123 rfl (lv_at hl 2 rfl) ?_
          refine lv_dup2_11 hx hb dX5_play_124 rfl rfl ?_
          refine wr_iald (v := nI (y.1 5 jb)) hx hb hK hH (lv_md (by decide) (by decide)) (cel_md (by decide) (by decide)) 0 rfl (vp_in_nI (n := jb) (N := 4) (by omega) (by decide)) (by rw [(nI_clamp (n := jb) (by omega))]; try rfl) dX5_play_125 ?_
          refine lv_iconst (v := 1) hx hb dX5_play_126 (by decide) ?_
          refine lv_isub hx hb dX5_play_127 ?_
          refine lv_tope (pk_sub (a := (y.1 5 jb)) (b := 1) (by have q0 := hm5 jb; omega)) ?_
          refine wr_iast hx hb hK hH hS (lv_md (by decide) (by decide)) (cel_md (by decide) (by decide)) 0 rfl (vp_in_nI (n := jb) (N := 4) (by omega) (by decide)) dX5_play_128 (fun H locs hH hS => ?_)
          have hH : wHS E o g x (uN (uI (uI (uI (uI y 28 0 0) 28 0 0) 28 0 0) 16 0 v4) 5 jb ((y.1 5 jb) - 1)) H := pa_queued (v := ((y.1 5 jb) - 1)) (nI_clamp (n := jb) (by omega)) hH
          refine lv_iconst (v := 0) hx hb dX5_play_129 (by decide) ?_
          refine lv_istore_n (lv' := [(3, .int 0), (2, .int (nI ((10 * jb) + (y.1 6 (8 * jb))))), (0, .ref (g 10)), (1, .int (nI jb))]) hx hb dX5_play_130 rfl hl (by decide) rfl (fun ls hl => ?_)
          have qb := hm5 jb
          have loop : ∀ (k n : Nat), n + k = ((y.1 5 jb) - 1) → ∀ (H : Heap) (locs : List Loc) (ls : Array Slot), lv_has ls 4 [(3, .int (nI n)), (0, .ref (g 10)), (1, .int (nI jb)), (2, .int (nI ((10 * jb) + (y.1 6 (8 * jb)))))] → wHS E o g x (fU (stP jb) (uN (uI (uI (uI (uI y 28 0 0) 28 0 0) 28 0 0) 16 0 v4) 5 jb ((y.1 5 jb) - 1)) n) H → va_S (wA E) s.heap H locs → W p l e ({ frames := 3, cells := 0, slots := 0, locals := 300 } : Room) s m #[.ref (g 10), .int (nI jb)] below meth c H locs 0 0 Q (F0 m 131 ls []) := by
            intro k
            induction k with
            | zero =>
              intro n hn H locs ls hl hH hS
              obtain rfl : n = ((y.1 5 jb) - 1) := by omega
              have hl : lv_has ls 4 [(3, .int (nI ((y.1 5 jb) - 1))), (0, .ref (g 10)), (1, .int (nI jb)), (2, .int (nI ((10 * jb) + (y.1 6 (8 * jb)))))] := hl
              refine lv_iload_n hx hb dX5_play_131 rfl (lv_at hl 0 rfl) ?_
              refine lv_aload_n hx hb dX5_play_132 rfl (lv_at hl 1 rfl) ?_
              refine wr_get (T := TX5) (N := 30) (ci := 7) (v := .ref (g 22)) hx hb hts hinX5 hown hK hH (lv_md (by decide) (by decide)) (cel_md (by omega) (by omega)) rfl 12 (by decide) (hts (.fieldLink RX5 43 "SelectoRouteModel" "queued" "[I") (by decide +kernel)) (fun _ h => h) rfl dX5_play_133 ?_
              refine lv_iload_n hx hb dX5_play_136 rfl (lv_at hl 2 rfl) ?_
              refine wr_iald (v := nI ((y.1 5 jb) - 1)) hx hb hK hH (lv_md (by decide) (by decide)) (cel_md (by decide) (by decide)) 0 rfl (vp_in_nI (n := jb) (N := 4) (by omega) (by decide)) (by rw [(nI_clamp (n := jb) (by omega))]; try simp [uI, uN, va_up, fP_1, fP_2]) dX5_play_137 ?_
              refine lv_icmp_ge (tgt := 171) hx hb dX5_play_138 (by decide) (fun _ => ?_) (fun hq => absurd ((nI_leI (a := ((y.1 5 jb) - 1)) (b := ((y.1 5 jb) - 1)) (by have q0 := hm5 jb; omega) (by have q0 := hm5 jb; omega)).mpr (Nat.le_refl _)) hq)
              refine lv_aload_n hx hb dX5_play_171 rfl (lv_at hl 1 rfl) ?_
              refine wr_get (T := TX5) (N := 30) (ci := 7) (v := .ref (g 29)) hx hb hts hinX5 hown hK hH (lv_md (by decide) (by decide)) (cel_md (by omega) (by omega)) rfl 20 (by decide) (hts (.fieldLink RX5 65 "SelectoRouteModel" "slots" "[I") (by decide +kernel)) (fun _ h => h) rfl dX5_play_172 ?_
              refine lv_iload_n hx hb dX5_play_175 rfl (lv_at hl 3 rfl) ?_
              refine wr_iald (v := nI (y.1 7 ((10 * jb) + (y.1 6 (8 * jb))))) hx hb hK hH (lv_md (by decide) (by decide)) (cel_md (by decide) (by decide)) 0 rfl (vp_in_nI (n := ((10 * jb) + (y.1 6 (8 * jb)))) (N := 40) (by have q0 := hm6 (8 * jb); omega) (by decide)) (by rw [(nI_clamp (n := ((10 * jb) + (y.1 6 (8 * jb)))) (by have q0 := hm6 (8 * jb); omega))]; try simp [uI, uN, va_up, fP_1, fP_2]) dX5_play_176 ?_
              refine lv_if_eq (tgt := 198) hx hb dX5_play_177 (by decide) (fun c6 => ?_) (fun c6 => ?_)
              · have c6 := (nI_eq (a := (y.1 7 ((10 * jb) + (y.1 6 (8 * jb))))) (b := 0) (by have q0 := hm7 ((10 * jb) + (y.1 6 (8 * jb))); have q1 := hm6 (8 * jb); omega) (by omega)).mp c6
                refine lv_aload_n hx hb dX5_play_198 rfl (lv_at hl 1 rfl) ?_
                refine wr_get (T := TX5) (N := 30) (ci := 7) (v := .ref (g 19)) hx hb hts hinX5 hown hK hH (lv_md (by decide) (by decide)) (cel_md (by omega) (by omega)) rfl 9 (by decide) (hts (.fieldLink RX5 34 "SelectoRouteModel" "credits" "[I") (by decide +kernel)) (fun _ h => h) rfl dX5_play_199 ?_
                refine lv_iload_n hx hb dX5_play_202 rfl (lv_at hl 2 rfl) ?_
                refine lv_dup2_11 hx hb dX5_play_203 rfl rfl ?_
                refine wr_iald (v := (y.2 7 jb)) hx hb hK hH (lv_md (by decide) (by decide)) (cel_md (by decide) (by decide)) 0 rfl (vp_in_nI (n := jb) (N := 4) (by omega) (by decide)) (by rw [(nI_clamp (n := jb) (by omega))]; try simp [uI, uN, va_up, fP_1, fP_2]) dX5_play_204 ?_
                refine lv_iconst (v := 1) hx hb dX5_play_205 (by decide) ?_
                refine lv_iadd hx hb dX5_play_206 ?_
                refine lv_topi (fun v7 ev7 => ?_)
                refine wr_iast hx hb hK hH hS (lv_md (by decide) (by decide)) (cel_md (by decide) (by decide)) 0 rfl (vp_in_nI (n := jb) (N := 4) (by omega) (by decide)) dX5_play_207 (fun H locs hH hS => ?_)
                have hH : wHS E o g x (uI (fU (stP jb) (uN (uI (uI (uI (uI y 28 0 0) 28 0 0) 28 0 0) 16 0 v4) 5 jb ((y.1 5 jb) - 1)) ((y.1 5 jb) - 1)) 7 jb v7) H := pa_credits (v := v7) (nI_clamp (n := jb) (by omega)) hH
                refine lv_bipush (v := 98) hx hb dX5_play_208 (by decide) ?_
                subst ev7
                subst ev4
                have hsp : mp_play y (nI jb) = (98, (uI (fU (stP jb) (uN (uI (uI (uI (uI y 28 0 0) 28 0 0) 28 0 0) 16 0 (((((y.2 16 0).toInt64) * 48271) - (((y.2 16 0).toInt64) * 48271) / 2147483647 * 2147483647).toInt32)) 5 jb ((y.1 5 jb) - 1)) ((y.1 5 jb) - 1)) 7 jb ((y.2 7 jb) + 1))) := by
                  unfold mp_play
                  first | (simp only [c1, c2, c3, c5, c6, inB_nI hjb (by omega), ix_nI (show jb < 2 ^ 31 by omega), ↓reduceIte, and_self, and_true, true_and, Bool.false_eq_true, reduceCtorEq, eq_self, false_and, and_false]; done) | (simp [c1, c2, c3, c5, c6, inB_nI hjb (by omega), ix_nI (show jb < 2 ^ 31 by omega), ↓reduceIte, and_self, and_true, true_and, Bool.false_eq_true, reduceCtorEq, eq_self, false_and, and_false]; done) | simp only [c1, c2, c3, c5, c6, inB_nI hjb (by omega), ix_nI (show jb < 2 ^ 31 by omega), ↓reduceIte, and_self, and_true, true_and, Bool.false_eq_true, reduceCtorEq, eq_self, false_and, and_false]
                rw [eQ]
                exact W.zret (v := 98) hx hb hr rfl (fun t ht hW => ⟨⟨98, (), rfl, (by rw [hsp]), wHS_t ht (by rw [hsp]; exact hH)⟩, hS.F ht⟩) hS.2.2 dX5_play_210
              · have c6 : ¬ ((y.1 7 ((10 * jb) + (y.1 6 (8 * jb)))) = 0) := fun hq => c6 ((nI_eq (a := (y.1 7 ((10 * jb) + (y.1 6 (8 * jb))))) (b := 0) (by have q0 := hm7 ((10 * jb) + (y.1 6 (8 * jb))); have q1 := hm6 (8 * jb); omega) (by omega)).mpr hq)
                refine lv_aload_n hx hb dX5_play_180 rfl (lv_at hl 1 rfl) ?_
                refine wr_get (T := TX5) (N := 30) (ci := 7) (v := .ref (g 14)) hx hb hts hinX5 hown hK hH (lv_md (by decide) (by decide)) (cel_md (by omega) (by omega)) rfl 3 (by decide) (hts (.fieldLink RX5 19 "SelectoRouteModel" "wear" "[I") (by decide +kernel)) (fun _ h => h) rfl dX5_play_181 ?_
                refine lv_aload_n hx hb dX5_play_184 rfl (lv_at hl 1 rfl) ?_
                refine wr_get (T := TX5) (N := 30) (ci := 7) (v := .ref (g 29)) hx hb hts hinX5 hown hK hH (lv_md (by decide) (by decide)) (cel_md (by omega) (by omega)) rfl 20 (by decide) (hts (.fieldLink RX5 65 "SelectoRouteModel" "slots" "[I") (by decide +kernel)) (fun _ h => h) rfl dX5_play_185 ?_
                refine lv_iload_n hx hb dX5_play_188 rfl (lv_at hl 3 rfl) ?_
                refine wr_iald (v := nI (y.1 7 ((10 * jb) + (y.1 6 (8 * jb))))) hx hb hK hH (lv_md (by decide) (by decide)) (cel_md (by decide) (by decide)) 0 rfl (vp_in_nI (n := ((10 * jb) + (y.1 6 (8 * jb)))) (N := 40) (by have q0 := hm6 (8 * jb); omega) (by decide)) (by rw [(nI_clamp (n := ((10 * jb) + (y.1 6 (8 * jb)))) (by have q0 := hm6 (8 * jb); omega))]; try simp [uI, uN, va_up, fP_1, fP_2]) dX5_play_189 ?_
                refine lv_iconst (v := 1) hx hb dX5_play_190 (by decide) ?_
                refine lv_isub hx hb dX5_play_191 ?_
                refine lv_tope (pk_sub (a := (y.1 7 ((10 * jb) + (y.1 6 (8 * jb))))) (b := 1) (by have q0 := hm7 ((10 * jb) + (y.1 6 (8 * jb))); have q1 := hm6 (8 * jb); omega)) ?_
                refine wr_iald (v := (y.2 3 ((y.1 7 ((10 * jb) + (y.1 6 (8 * jb)))) - 1))) hx hb hK hH (lv_md (by decide) (by decide)) (cel_md (by decide) (by decide)) 0 rfl (vp_in_nI (n := ((y.1 7 ((10 * jb) + (y.1 6 (8 * jb)))) - 1)) (N := 30) (by have q0 := hm7 ((10 * jb) + (y.1 6 (8 * jb))); have q1 := hm6 (8 * jb); omega) (by decide)) (by rw [(nI_clamp (n := ((y.1 7 ((10 * jb) + (y.1 6 (8 * jb)))) - 1)) (by have q0 := hm7 ((10 * jb) + (y.1 6 (8 * jb))); have q1 := hm6 (8 * jb); omega))]; try simp [uI, uN, va_up, fP_1, fP_2]) dX5_play_192 ?_
                refine lv_bipush (v := 60) hx hb dX5_play_193 (by decide) ?_
                refine lv_icmp_lt (tgt := 211) hx hb dX5_play_195 (by decide) (fun c8 => ?_) (fun c8 => ?_)
                · skip
                  refine lv_aload_n hx hb dX5_play_211 rfl (lv_at hl 1 rfl) ?_
                  refine lv_iload_n hx hb dX5_play_212 rfl (lv_at hl 3 rfl) ?_
                  refine lv_iconst (v := 1) hx hb dX5_play_213 (by decide) ?_
                  refine va_callv (va_runV (As := [.int (nI ((10 * jb) + (y.1 6 (8 * jb)))), .int 1]) (rest := []) ⟨hx, hb, hml, hown, hts⟩ (met_X5_wears l E o g x (fU (stP jb) (uN (uI (uI (uI (uI y 28 0 0) 28 0 0) 28 0 0) 16 0 v4) 5 jb ((y.1 5 jb) - 1)) ((y.1 5 jb) - 1)) ((10 * jb) + (y.1 6 (8 * jb))) 1 (fP_MI (MI_5 (MI_of (by rfl) hI) (by have q0 := hm5 jb; omega)) _ _) (by have q0 := hm6 (8 * jb); omega) (by simpa [uI, uN, va_up, fP_1, fP_2] using c6)) (cwV 2 hts gX5_play_X5_wears rfl rfl rfl (by decide +kernel) ⟨Nat.le_of_ble_eq_true rfl, Nat.le_of_ble_eq_true rfl⟩) ⟨fun a U f mk q => ⟨q.1, wPre.calling q.2 a f mk⟩, (va_recv hK (wH_one hH (lv_md (by decide) (by decide)) (cel_md (by omega) (by omega))) (ci := 7) (q0 := 0) rfl rfl), fun U hU hW => ⟨rfl, wPre_at hz hS hH hK U hU hW⟩⟩ rfl rfl hl.1 rfl (lv_room (Nat.le_of_ble_eq_true rfl)) dX5_play_214 ⟨Nat.le_of_ble_eq_true rfl, Nat.le_of_ble_eq_true rfl⟩) hS (fun q _ h => h) (fun q h => h) (fun u t H locs ht hvm hw hB hz1 hk1 hS => ?_)
                  have hB := wHS_h ht hB
                  try dsimp only at hw
                  have hH := hB
                  refine lv_bipush (v := 112) hx hb dX5_play_217 (by decide) ?_
                  subst ev4
                  have hsp : mp_play y (nI jb) = (112, (mp_wears (fU (stP jb) (uN (uI (uI (uI (uI y 28 0 0) 28 0 0) 28 0 0) 16 0 (((((y.2 16 0).toInt64) * 48271) - (((y.2 16 0).toInt64) * 48271) / 2147483647 * 2147483647).toInt32)) 5 jb ((y.1 5 jb) - 1)) ((y.1 5 jb) - 1)) ((10 * jb) + (y.1 6 (8 * jb))) 1)) := by
                    unfold mp_play
                    first | (simp only [c1, c2, c3, c5, c6, c8, inB_nI hjb (by omega), ix_nI (show jb < 2 ^ 31 by omega), ↓reduceIte, and_self, and_true, true_and, Bool.false_eq_true, reduceCtorEq, eq_self, false_and, and_false]; done) | (simp [c1, c2, c3, c5, c6, c8, inB_nI hjb (by omega), ix_nI (show jb < 2 ^ 31 by omega), ↓reduceIte, and_self, and_true, true_and, Bool.false_eq_true, reduceCtorEq, eq_self, false_and, and_false]; done) | simp only [c1, c2, c3, c5, c6, c8, inB_nI hjb (by omega), ix_nI (show jb < 2 ^ 31 by omega), ↓reduceIte, and_self, and_true, true_and, Bool.false_eq_true, reduceCtorEq, eq_self, false_and, and_false]
                  rw [eQ]
                  exact W.zret (v := 112) hx hb hr rfl (fun t ht hW => ⟨⟨112, (), rfl, (by rw [hsp]), wHS_t ht (by rw [hsp]; exact hH)⟩, hS.F ht⟩) hS.2.2 dX5_play_219
                · skip
                  refine lv_aload_n hx hb dX5_play_198 rfl (lv_at hl 1 rfl) ?_
                  refine wr_get (T := TX5) (N := 30) (ci := 7) (v := .ref (g 19)) hx hb hts hinX5 hown hK hH (lv_md (by decide) (by decide)) (cel_md (by omega) (by omega)) rfl 9 (by decide) (hts (.fieldLink RX5 34 "SelectoRouteModel" "credits" "[I") (by decide +kernel)) (fun _ h => h) rfl dX5_play_199 ?_
                  refine lv_iload_n hx hb dX5_play_202 rfl (lv_at hl 2 rfl) ?_
                  refine lv_dup2_11 hx hb dX5_play_203 rfl rfl ?_
                  refine wr_iald (v := (y.2 7 jb)) hx hb hK hH (lv_md (by decide) (by decide)) (cel_md (by decide) (by decide)) 0 rfl (vp_in_nI (n := jb) (N := 4) (by omega) (by decide)) (by rw [(nI_clamp (n := jb) (by omega))]; try simp [uI, uN, va_up, fP_1, fP_2]) dX5_play_204 ?_
                  refine lv_iconst (v := 1) hx hb dX5_play_205 (by decide) ?_
                  refine lv_iadd hx hb dX5_play_206 ?_
                  refine lv_topi (fun v9 ev9 => ?_)
                  refine wr_iast hx hb hK hH hS (lv_md (by decide) (by decide)) (cel_md (by decide) (by decide)) 0 rfl (vp_in_nI (n := jb) (N := 4) (by omega) (by decide)) dX5_play_207 (fun H locs hH hS => ?_)
                  have hH : wHS E o g x (uI (fU (stP jb) (uN (uI (uI (uI (uI y 28 0 0) 28 0 0) 28 0 0) 16 0 v4) 5 jb ((y.1 5 jb) - 1)) ((y.1 5 jb) - 1)) 7 jb v9) H := pa_credits (v := v9) (nI_clamp (n := jb) (by omega)) hH
                  refine lv_bipush (v := 98) hx hb dX5_play_208 (by decide) ?_
                  subst ev9
                  subst ev4
                  have hsp : mp_play y (nI jb) = (98, (uI (fU (stP jb) (uN (uI (uI (uI (uI y 28 0 0) 28 0 0) 28 0 0) 16 0 (((((y.2 16 0).toInt64) * 48271) - (((y.2 16 0).toInt64) * 48271) / 2147483647 * 2147483647).toInt32)) 5 jb ((y.1 5 jb) - 1)) ((y.1 5 jb) - 1)) 7 jb ((y.2 7 jb) + 1))) := by
                    unfold mp_play
                    first | (simp only [c1, c2, c3, c5, c6, c8, inB_nI hjb (by omega), ix_nI (show jb < 2 ^ 31 by omega), ↓reduceIte, and_self, and_true, true_and, Bool.false_eq_true, reduceCtorEq, eq_self, false_and, and_false]; done) | (simp [c1, c2, c3, c5, c6, c8, inB_nI hjb (by omega), ix_nI (show jb < 2 ^ 31 by omega), ↓reduceIte, and_self, and_true, true_and, Bool.false_eq_true, reduceCtorEq, eq_self, false_and, and_false]; done) | simp only [c1, c2, c3, c5, c6, c8, inB_nI hjb (by omega), ix_nI (show jb < 2 ^ 31 by omega), ↓reduceIte, and_self, and_true, true_and, Bool.false_eq_true, reduceCtorEq, eq_self, false_and, and_false]
                  rw [eQ]
                  exact W.zret (v := 98) hx hb hr rfl (fun t ht hW => ⟨⟨98, (), rfl, (by rw [hsp]), wHS_t ht (by rw [hsp]; exact hH)⟩, hS.F ht⟩) hS.2.2 dX5_play_210
            | succ k ih =>
              intro n hn H locs ls hl hH hS
              have hlt : n < ((y.1 5 jb) - 1) := by omega
              refine lv_iload_n hx hb dX5_play_131 rfl (lv_at hl 0 rfl) ?_
              refine lv_aload_n hx hb dX5_play_132 rfl (lv_at hl 1 rfl) ?_
              refine wr_get (T := TX5) (N := 30) (ci := 7) (v := .ref (g 22)) hx hb hts hinX5 hown hK hH (lv_md (by decide) (by decide)) (cel_md (by omega) (by omega)) rfl 12 (by decide) (hts (.fieldLink RX5 43 "SelectoRouteModel" "queued" "[I") (by decide +kernel)) (fun _ h => h) rfl dX5_play_133 ?_
              refine lv_iload_n hx hb dX5_play_136 rfl (lv_at hl 2 rfl) ?_
              refine wr_iald (v := nI ((y.1 5 jb) - 1)) hx hb hK hH (lv_md (by decide) (by decide)) (cel_md (by decide) (by decide)) 0 rfl (vp_in_nI (n := jb) (N := 4) (by omega) (by decide)) (by rw [(nI_clamp (n := jb) (by omega))]; try simp [uI, uN, va_up, fP_1, fP_2]) dX5_play_137 ?_
              refine lv_icmp_ge (tgt := 171) hx hb dX5_play_138 (by decide) (fun hq => absurd ((nI_leI (a := ((y.1 5 jb) - 1)) (b := n) (by have q0 := hm5 jb; omega) (by omega)).mp hq) (Nat.not_le.mpr hlt)) (fun _ => ?_)
              refine lv_aload_n hx hb dX5_play_141 rfl (lv_at hl 1 rfl) ?_
              refine wr_get (T := TX5) (N := 30) (ci := 7) (v := .ref (g 23)) hx hb hts hinX5 hown hK hH (lv_md (by decide) (by decide)) (cel_md (by omega) (by omega)) rfl 13 (by decide) (hts (.fieldLink RX5 46 "SelectoRouteModel" "queue" "[I") (by decide +kernel)) (fun _ h => h) rfl dX5_play_142 ?_
              refine lv_bipush (v := 8) hx hb dX5_play_145 (by decide) ?_
              refine lv_iload_n hx hb dX5_play_147 rfl (lv_at hl 2 rfl) ?_
              refine lv_imul hx hb dX5_play_148 ?_
              refine lv_tope (pk_mul 8 jb) ?_
              refine lv_iload_n hx hb dX5_play_149 rfl (lv_at hl 0 rfl) ?_
              refine lv_iadd hx hb dX5_play_150 ?_
              refine lv_tope (nI_add (8 * jb) n) ?_
              refine lv_aload_n hx hb dX5_play_151 rfl (lv_at hl 1 rfl) ?_
              refine wr_get (T := TX5) (N := 30) (ci := 7) (v := .ref (g 23)) hx hb hts hinX5 hown hK hH (lv_md (by decide) (by decide)) (cel_md (by omega) (by omega)) rfl 13 (by decide) (hts (.fieldLink RX5 46 "SelectoRouteModel" "queue" "[I") (by decide +kernel)) (fun _ h => h) rfl dX5_play_152 ?_
              refine lv_bipush (v := 8) hx hb dX5_play_155 (by decide) ?_
              refine lv_iload_n hx hb dX5_play_157 rfl (lv_at hl 2 rfl) ?_
              refine lv_imul hx hb dX5_play_158 ?_
              refine lv_tope (pk_mul 8 jb) ?_
              refine lv_iload_n hx hb dX5_play_159 rfl (lv_at hl 0 rfl) ?_
              refine lv_iadd hx hb dX5_play_160 ?_
              refine lv_tope (nI_add (8 * jb) n) ?_
              refine lv_iconst (v := 1) hx hb dX5_play_161 (by decide) ?_
              refine lv_iadd hx hb dX5_play_162 ?_
              refine lv_tope (nI_add ((8 * jb) + n) 1) ?_
              refine wr_iald (v := nI ((fU (stP jb) (uN (uI (uI (uI (uI y 28 0 0) 28 0 0) 28 0 0) 16 0 v4) 5 jb ((y.1 5 jb) - 1)) n).1 6 (((8 * jb) + n) + 1))) hx hb hK hH (lv_md (by decide) (by decide)) (cel_md (by decide) (by decide)) 0 rfl (vp_in_nI (n := (((8 * jb) + n) + 1)) (N := 32) (by omega) (by decide)) (by rw [(nI_clamp (n := (((8 * jb) + n) + 1)) (by omega))]; try rfl) dX5_play_163 ?_
              refine wr_iast hx hb hK hH hS (lv_md (by decide) (by decide)) (cel_md (by decide) (by decide)) 0 rfl (vp_in_nI (n := ((8 * jb) + n)) (N := 32) (by omega) (by decide)) dX5_play_164 (fun H locs hH hS => ?_)
              have hH : wHS E o g x (uN (fU (stP jb) (uN (uI (uI (uI (uI y 28 0 0) 28 0 0) 28 0 0) 16 0 v4) 5 jb ((y.1 5 jb) - 1)) n) 6 ((8 * jb) + n) ((fU (stP jb) (uN (uI (uI (uI (uI y 28 0 0) 28 0 0) 28 0 0) 16 0 v4) 5 jb ((y.1 5 jb) - 1)) n).1 6 (((8 * jb) + n) + 1))) H := pa_queue (v := ((fU (stP jb) (uN (uI (uI (uI (uI y 28 0 0) 28 0 0) 28 0 0) 16 0 v4) 5 jb ((y.1 5 jb) - 1)) n).1 6 (((8 * jb) + n) + 1))) (nI_clamp (n := ((8 * jb) + n)) (by omega)) hH
              obtain ⟨v10, ev10⟩ : ∃ y : Int32, y = (nI n) + 1 := ⟨_, rfl⟩
              refine lv_iinc (v := v10) (lv' := [(3, .int v10), (0, .ref (g 10)), (1, .int (nI jb)), (2, .int (nI ((10 * jb) + (y.1 6 (8 * jb)))))]) hx hb dX5_play_165 hl (k := 0) rfl (by rw [ev10]; rfl) (by decide) rfl (fun ls hl => ?_)
              refine lv_goto (tgt := 131) hx hb dX5_play_168 (by decide) ?_
              have e9 : v10 = nI (n + 1) := by rw [ev10]; exact nI_1 n
              rw [e9] at hl
              exact ih (n + 1) (by omega) H locs ls (lv_sub hl [0, 1, 2, 3] rfl) hH hS
          exact loop ((y.1 5 jb) - 1) 0 (by omega) H _ ls (lv_sub hl [0, 2, 3, 1] rfl) hH hS
        · skip
          refine lv_aload_n hx hb dX5_play_94 rfl (lv_at hl 0 rfl) ?_
          refine wr_get (T := TX5) (N := 30) (ci := 7) (v := .ref (g 27)) hx hb hts hinX5 hown hK hH (lv_md (by decide) (by decide)) (cel_md (by omega) (by omega)) rfl 17 (by decide) (hts (.fieldLink RX5 58 "SelectoRouteModel" "jammed" "[Z") (by decide +kernel)) (fun _ h => h) rfl dX5_play_95 ?_
          refine lv_iload_n hx hb dX5_play_98 rfl (lv_at hl 1 rfl) ?_
          refine lv_iconst (v := 1) hx hb dX5_play_99 (by decide) ?_
          refine wr_zast hx hb hK hH hS (lv_md (by decide) (by decide)) (cel_md (by decide) (by decide)) 1 rfl (vp_in_nI (n := jb) (N := 4) (by omega) (by decide)) dX5_play_100 (fun H locs hH hS => ?_)
          have hH : wHS E o g x (uI (uI (uI (uI (uI y 28 0 0) 28 0 0) 28 0 0) 16 0 v4) 10 jb 1) H := pa_jammed (v := 1) (nI_clamp (n := jb) (by omega)) (by decide) hH
          refine lv_bipush (v := 106) hx hb dX5_play_101 (by decide) ?_
          subst ev4
          have hsp : mp_play y (nI jb) = (106, (uI (uI (uI (uI (uI y 28 0 0) 28 0 0) 28 0 0) 16 0 (((((y.2 16 0).toInt64) * 48271) - (((y.2 16 0).toInt64) * 48271) / 2147483647 * 2147483647).toInt32)) 10 jb 1)) := by
            unfold mp_play
            first | (simp only [c1, c2, c3, c5, inB_nI hjb (by omega), ix_nI (show jb < 2 ^ 31 by omega), ↓reduceIte, and_self, and_true, true_and, Bool.false_eq_true, reduceCtorEq, eq_self, false_and, and_false]; done) | (simp [c1, c2, c3, c5, inB_nI hjb (by omega), ix_nI (show jb < 2 ^ 31 by omega), ↓reduceIte, and_self, and_true, true_and, Bool.false_eq_true, reduceCtorEq, eq_self, false_and, and_false]; done) | simp only [c1, c2, c3, c5, inB_nI hjb (by omega), ix_nI (show jb < 2 ^ 31 by omega), ↓reduceIte, and_self, and_true, true_and, Bool.false_eq_true, reduceCtorEq, eq_self, false_and, and_false]
          rw [eQ]
          exact W.zret (v := 106) hx hb hr rfl (fun t ht hW => ⟨⟨106, (), rfl, (by rw [hsp]), wHS_t ht (by rw [hsp]; exact hH)⟩, hS.F ht⟩) hS.2.2 dX5_play_103
  · have c1 : inB b (y.1 1 0) = false := c1
    refine lv_iconst (v := 1) hx hb dX5_play_6 (by decide) ?_
    refine va_calli (va_runV (As := [.int 0, .int 1]) (rest := []) ⟨hx, hb, hml, hown, hts⟩ (met_X5_no0 l E o g x y 1) (cwV 2 hts gX5_play_X5_no rfl rfl rfl (by decide +kernel) ⟨Nat.le_of_ble_eq_true rfl, Nat.le_of_ble_eq_true rfl⟩) ⟨fun a U f mk q => ⟨q.1, wPre.calling q.2 a f mk⟩, (va_recv hK (wH_one hH (lv_md (by decide) (by decide)) (cel_md (by omega) (by omega))) (ci := 7) (q0 := 0) rfl rfl), fun U hU hW => ⟨rfl, wPre_at hz hS hH hK U hU hW⟩⟩ rfl rfl hl.1 rfl (lv_room (Nat.le_of_ble_eq_true rfl)) dX5_play_7 ⟨Nat.le_of_ble_eq_true rfl, Nat.le_of_ble_eq_true rfl⟩) hS (fun q _ h => h) (fun q h => h) (fun r u t H locs ht hvm hw hB hz1 hk1 hS => ?_)
    have hB := wHS_h ht hB
    try dsimp only at hw
    obtain rfl := hw
    have hH := hB
    refine lv_if_ne (tgt := 57) hx hb dX5_play_10 (by decide) (fun _ => ?_) (fun hq => absurd hq (show ¬ (1 : Int32) = 0 by decide))
    refine lv_bipush (v := 45) hx hb dX5_play_57 (by decide) ?_
    have hsp : mp_play y b = (45, (uI y 28 0 1)) := by
      unfold mp_play
      first | (simp only [(Bool.eq_false_iff.mp c1), ↓reduceIte, and_self, and_true, true_and, Bool.false_eq_true, reduceCtorEq, eq_self, false_and, and_false]; done) | (simp [(Bool.eq_false_iff.mp c1), ↓reduceIte, and_self, and_true, true_and, Bool.false_eq_true, reduceCtorEq, eq_self, false_and, and_false]; done) | simp only [(Bool.eq_false_iff.mp c1), ↓reduceIte, and_self, and_true, true_and, Bool.false_eq_true, reduceCtorEq, eq_self, false_and, and_false]
    rw [eQ]
    exact W.zret (v := 45) hx hb hr rfl (fun t ht hW => ⟨⟨45, (), rfl, (by rw [hsp]), wHS_t ht (by rw [hsp]; exact hH)⟩, hS.F ht⟩) hS.2.2 dX5_play_59
def mp_pass (y : St)  : Int32 × St := if 99 ≤ (y.1 9 0) then (0, (uI y 28 0 1)) else ((nI ((y.1 9 0) + 1)), (fU stV (uI (uN (fU stG (uI y 28 0 0) (10 * (y.1 1 0))) 9 0 ((y.1 9 0) + 1)) 17 0 600) 4))
set_option maxHeartbeats 4000000 in
set_option maxRecDepth 100000 in
theorem met_X5_pass (l : Launch) (E : wE) (o : wO) (g : Nat → Nat) (x y : St) (hI : MI y) : Met l yX5_pass wsX5_pass ({ frames := 3, cells := 0, slots := 0, locals := 300 } : Room) (va_Pc [.ref (g 10)] (wPre E o g x y)) (va_Qi (fun (r : Int32) (_ : Unit) => r = (mp_pass y ).1) (fun (_ : Unit) t => wHS E o g x (mp_pass y ).2 t.heap) (wA E)) 0 0 (wA E) := by
  refine Met.ofW (cc := cX5_pass) (maxL := 4) (ret := (some .int)) (by decide) rfl ?_
  intro p e s m args below meth c s₁ B hml hv
  obtain ⟨rfl, hz, hH, hK⟩ := hv
  have hx := B.exec
  have hb := B.bytes
  have hr := B.returns
  have hts := atoms_spec (ws := wsX5_pass) B.pre
  have hown : s.vm.findClass RX5 = some m.cls := findClass_of_methodNamed B.named
  have hlocks := B.notSynchronized
  have hS : va_S (wA E) s.heap s.heap [] := va_S.rf
  have hinX5 : ∀ w ∈ wsX50, w ∈ wsX5_pass := fun w h => List.mem_cons_of_mem _ (List.mem_append_left _ (List.mem_append_right _ h))
  have hl := lv_entry ([.ref (g 10)]) (n := 4) (Nat.le_of_ble_eq_true rfl)
  rw [lg_entry_eq]
  generalize (lg_sl ([.ref (g 10)]) ++ List.replicate (4 - (lg_sl ([.ref (g 10)])).length) Slot.unset).toArray = ls at hl ⊢
  have hl : lv_has ls 4 [(0, .ref (g 10))] := hl
  obtain ⟨H, eH⟩ : ∃ z, z = s.heap := ⟨_, rfl⟩
  have hH : wHS E o g x y H := by rw [eH]; exact hH
  have hS : va_S (wA E) s.heap H [] := by rw [eH]; exact hS
  refine W.heapTo eH ?_
  obtain ⟨hm0, hm1, hm7, hm8, hm5, hm6, hm9, hm12, hm11⟩ := id hI
  refine W.nameQ (fun Q eQ => ?_)
  refine lv_aload_n hx hb dX5_pass_0 rfl (lv_at hl 0 rfl) ?_
  refine lv_aload_n hx hb dX5_pass_1 rfl (lv_at hl 0 rfl) ?_
  refine wr_get (T := TX5) (N := 30) (ci := 7) (v := .int (nI (y.1 9 0))) hx hb hts hinX5 hown hK hH (lv_md (by decide) (by decide)) (cel_md (by omega) (by omega)) rfl 26 (by decide) (hts (.fieldLink RX5 109 "SelectoRouteModel" "week" "I") (by decide +kernel)) (fun _ h => h) rfl dX5_pass_2 ?_
  refine lv_bipush (v := 99) hx hb dX5_pass_5 (by decide) ?_
  refine lv_icmp_ge (tgt := 14) hx hb dX5_pass_7 (by decide) (fun c1 => ?_) (fun c1 => ?_)
  · have c1 := (nI_leI (a := 99) (b := (y.1 9 0)) (by omega) (by omega)).mp c1
    refine lv_iconst (v := 0) hx hb dX5_pass_14 (by decide) ?_
    refine lv_iconst (v := 1) hx hb dX5_pass_15 (by decide) ?_
    refine va_calli (va_runV (As := [.int 0, .int 1]) (rest := []) ⟨hx, hb, hml, hown, hts⟩ (met_X5_no0 l E o g x y 1) (cwV 2 hts gX5_pass_X5_no rfl rfl rfl (by decide +kernel) ⟨Nat.le_of_ble_eq_true rfl, Nat.le_of_ble_eq_true rfl⟩) ⟨fun a U f mk q => ⟨q.1, wPre.calling q.2 a f mk⟩, (va_recv hK (wH_one hH (lv_md (by decide) (by decide)) (cel_md (by omega) (by omega))) (ci := 7) (q0 := 0) rfl rfl), fun U hU hW => ⟨rfl, wPre_at hz hS hH hK U hU hW⟩⟩ rfl rfl hl.1 rfl (lv_room (Nat.le_of_ble_eq_true rfl)) dX5_pass_16 ⟨Nat.le_of_ble_eq_true rfl, Nat.le_of_ble_eq_true rfl⟩) hS (fun q _ h => h) (fun q h => h) (fun r u t H locs ht hvm hw hB hz1 hk1 hS => ?_)
    have hB := wHS_h ht hB
    try dsimp only at hw
    obtain rfl := hw
    have hH := hB
    refine lv_if_eq (tgt := 24) hx hb dX5_pass_19 (by decide) (fun hq => absurd hq (show ¬ (1 : Int32) = 0 by decide)) (fun _ => ?_)
    refine lv_iconst (v := 0) hx hb dX5_pass_22 (by decide) ?_
    have hsp : mp_pass y = (0, (uI y 28 0 1)) := by
      unfold mp_pass
      first | (simp only [c1, ↓reduceIte, and_self, and_true, true_and, Bool.false_eq_true, reduceCtorEq, eq_self, false_and, and_false]; done) | (simp [c1, ↓reduceIte, and_self, and_true, true_and, Bool.false_eq_true, reduceCtorEq, eq_self, false_and, and_false]; done) | simp only [c1, ↓reduceIte, and_self, and_true, true_and, Bool.false_eq_true, reduceCtorEq, eq_self, false_and, and_false]
    rw [eQ]
    exact W.iret (v := 0) hx hb hr (fun t ht hW => ⟨⟨0, (), rfl, (by rw [hsp]), wHS_t ht (by rw [hsp]; exact hH)⟩, hS.F ht⟩) hS.2.2 dX5_pass_23
  · have c1 : ¬ (99 ≤ (y.1 9 0)) := fun hq => c1 ((nI_leI (a := 99) (b := (y.1 9 0)) (by omega) (by omega)).mpr hq)
    refine lv_iconst (v := 1) hx hb dX5_pass_10 (by decide) ?_
    refine lv_goto (tgt := 15) hx hb dX5_pass_11 (by decide) ?_
    refine lv_iconst (v := 1) hx hb dX5_pass_15 (by decide) ?_
    refine va_calli (va_runV (As := [.int 1, .int 1]) (rest := []) ⟨hx, hb, hml, hown, hts⟩ (met_X5_no1 l E o g x y 1) (cwV 2 hts gX5_pass_X5_no rfl rfl rfl (by decide +kernel) ⟨Nat.le_of_ble_eq_true rfl, Nat.le_of_ble_eq_true rfl⟩) ⟨fun a U f mk q => ⟨q.1, wPre.calling q.2 a f mk⟩, (va_recv hK (wH_one hH (lv_md (by decide) (by decide)) (cel_md (by omega) (by omega))) (ci := 7) (q0 := 0) rfl rfl), fun U hU hW => ⟨rfl, wPre_at hz hS hH hK U hU hW⟩⟩ rfl rfl hl.1 rfl (lv_room (Nat.le_of_ble_eq_true rfl)) dX5_pass_16 ⟨Nat.le_of_ble_eq_true rfl, Nat.le_of_ble_eq_true rfl⟩) hS (fun q _ h => h) (fun q h => h) (fun r u t H locs ht hvm hw hB hz1 hk1 hS => ?_)
    have hB := wHS_h ht hB
    try dsimp only at hw
    obtain rfl := hw
    have hH := hB
    refine lv_if_eq (tgt := 24) hx hb dX5_pass_19 (by decide) (fun _ => ?_) (fun hq => absurd (show (0 : Int32) = 0 by decide) hq)
    refine lv_iconst (v := 0) hx hb dX5_pass_24 (by decide) ?_
    refine lv_istore_n (lv' := [(1, .int 0), (0, .ref (g 10))]) hx hb dX5_pass_25 rfl hl (by decide) rfl (fun ls hl => ?_)
    have loop : ∀ (k n : Nat), n + k = (10 * (y.1 1 0)) → ∀ (H : Heap) (locs : List Loc) (ls : Array Slot), lv_has ls 4 [(1, .int (nI n)), (0, .ref (g 10))] → wHS E o g x (fU stG (uI y 28 0 0) n) H → va_S (wA E) s.heap H locs → W p l e ({ frames := 3, cells := 0, slots := 0, locals := 300 } : Room) s m #[.ref (g 10)] below meth c H locs 0 0 Q (F0 m 26 ls []) := by
      intro k
      induction k with
      | zero =>
        intro n hn H locs ls hl hH hS
        obtain rfl : n = (10 * (y.1 1 0)) := by omega
        have hl : lv_has ls 4 [(1, .int (nI (10 * (y.1 1 0)))), (0, .ref (g 10))] := hl
        refine lv_iload_n hx hb dX5_pass_26 rfl (lv_at hl 0 rfl) ?_
        refine lv_bipush (v := 10) hx hb dX5_pass_27 (by decide) ?_
        refine lv_aload_n hx hb dX5_pass_29 rfl (lv_at hl 1 rfl) ?_
        refine wr_get (T := TX5) (N := 30) (ci := 7) (v := .int (nI (y.1 1 0))) hx hb hts hinX5 hown hK hH (lv_md (by decide) (by decide)) (cel_md (by omega) (by omega)) rfl 19 (by decide) (hts (.fieldLink RX5 97 "SelectoRouteModel" "boxes" "I") (by decide +kernel)) (fun _ h => h) (congrArg (fun z => some (Value.int z)) (by simp [uI, uN, va_up, fG_1])) dX5_pass_30 ?_
        refine lv_imul hx hb dX5_pass_33 ?_
        refine lv_tope (pk_mul 10 (y.1 1 0)) ?_
        refine lv_icmp_ge (tgt := 122) hx hb dX5_pass_34 (by decide) (fun _ => ?_) (fun hq => absurd ((nI_leI (a := (10 * (y.1 1 0))) (b := (10 * (y.1 1 0))) (by omega) (by omega)).mpr (Nat.le_refl _)) hq)
        refine lv_aload_n hx hb dX5_pass_122 rfl (lv_at hl 1 rfl) ?_
        refine lv_dup hx hb dX5_pass_123 rfl ?_
        refine wr_get (T := TX5) (N := 30) (ci := 7) (v := .int (nI (y.1 9 0))) hx hb hts hinX5 hown hK hH (lv_md (by decide) (by decide)) (cel_md (by omega) (by omega)) rfl 26 (by decide) (hts (.fieldLink RX5 109 "SelectoRouteModel" "week" "I") (by decide +kernel)) (fun _ h => h) (congrArg (fun z => some (Value.int z)) (by simp [uI, uN, va_up, fG_1])) dX5_pass_124 ?_
        refine lv_iconst (v := 1) hx hb dX5_pass_127 (by decide) ?_
        refine lv_iadd hx hb dX5_pass_128 ?_
        refine lv_tope (nI_add (y.1 9 0) 1) ?_
        refine wr_put (T := TX5) (N := 30) (ci := 7) (v := .int (nI ((y.1 9 0) + 1))) hx hb hts hinX5 tyX5 tyX5_ok nmX5 hown hK hH hS (lv_md (by decide) (by decide)) (cel_md (by omega) (by omega)) rfl 26 (by decide) (hts (.fieldLink RX5 109 "SelectoRouteModel" "week" "I") (by decide +kernel)) (fun _ h => h) rfl (ty := .int) (by decide +kernel) rfl rfl (Nat.le_of_ble_eq_true rfl) dX5_pass_129 (fun H locs hH hS => ?_)
        have hH : wHS E o g x (uN (fU stG (uI y 28 0 0) (10 * (y.1 1 0))) 9 0 ((y.1 9 0) + 1)) H := pm_week (v := ((y.1 9 0) + 1)) hH
        refine lv_aload_n hx hb dX5_pass_132 rfl (lv_at hl 1 rfl) ?_
        refine lv_sipush (v := 600) hx hb dX5_pass_133 (by decide) ?_
        refine wr_put (T := TX5) (N := 30) (ci := 7) (v := .int 600) hx hb hts hinX5 tyX5 tyX5_ok nmX5 hown hK hH hS (lv_md (by decide) (by decide)) (cel_md (by omega) (by omega)) rfl 27 (by decide) (hts (.fieldLink RX5 84 "SelectoRouteModel" "minutes" "I") (by decide +kernel)) (fun _ h => h) rfl (ty := .int) (by decide +kernel) rfl rfl (Nat.le_of_ble_eq_true rfl) dX5_pass_136 (fun H locs hH hS => ?_)
        have hH : wHS E o g x (uI (uN (fU stG (uI y 28 0 0) (10 * (y.1 1 0))) 9 0 ((y.1 9 0) + 1)) 17 0 600) H := pm_minutes hH
        refine lv_iconst (v := 0) hx hb dX5_pass_139 (by decide) ?_
        refine lv_istore_n (lv' := [(1, .int 0), (0, .ref (g 10))]) hx hb dX5_pass_140 rfl hl (by decide) rfl (fun ls hl => ?_)
        have loop : ∀ (k n : Nat), n + k = 4 → ∀ (H : Heap) (locs : List Loc) (ls : Array Slot), lv_has ls 4 [(1, .int (nI n)), (0, .ref (g 10))] → wHS E o g x (fU stV (uI (uN (fU stG (uI y 28 0 0) (10 * (y.1 1 0))) 9 0 ((y.1 9 0) + 1)) 17 0 600) n) H → va_S (wA E) s.heap H locs → W p l e ({ frames := 3, cells := 0, slots := 0, locals := 300 } : Room) s m #[.ref (g 10)] below meth c H locs 0 0 Q (F0 m 141 ls []) := by
          intro k
          induction k with
          | zero =>
            intro n hn H locs ls hl hH hS
            obtain rfl : n = 4 := by omega
            have hl : lv_has ls 4 [(1, .int (nI 4)), (0, .ref (g 10))] := hl
            refine lv_iload_n hx hb dX5_pass_141 rfl (lv_at hl 0 rfl) ?_
            refine lv_iconst (v := 4) hx hb dX5_pass_142 (by decide) ?_
            refine lv_icmp_ge (tgt := 159) hx hb dX5_pass_143 (by decide) (fun _ => ?_) (fun hq => absurd ((nI_leI (a := 4) (b := 4) (by omega) (by omega)).mpr (Nat.le_refl _)) hq)
            refine lv_aload_n hx hb dX5_pass_159 rfl (lv_at hl 1 rfl) ?_
            refine wr_get (T := TX5) (N := 30) (ci := 7) (v := .int (nI ((y.1 9 0) + 1))) hx hb hts hinX5 hown hK hH (lv_md (by decide) (by decide)) (cel_md (by omega) (by omega)) rfl 26 (by decide) (hts (.fieldLink RX5 109 "SelectoRouteModel" "week" "I") (by decide +kernel)) (fun _ h => h) (congrArg (fun z => some (Value.int z)) (by simp [uI, uN, va_up, fG_1, fV_1, fV_2])) dX5_pass_160 ?_
            have hsp : mp_pass y = ((nI ((y.1 9 0) + 1)), (fU stV (uI (uN (fU stG (uI y 28 0 0) (10 * (y.1 1 0))) 9 0 ((y.1 9 0) + 1)) 17 0 600) 4)) := by
              unfold mp_pass
              first | (simp only [c1, ↓reduceIte, and_self, and_true, true_and, Bool.false_eq_true, reduceCtorEq, eq_self, false_and, and_false]; done) | (simp [c1, ↓reduceIte, and_self, and_true, true_and, Bool.false_eq_true, reduceCtorEq, eq_self, false_and, and_false]; done) | simp only [c1, ↓reduceIte, and_self, and_true, true_and, Bool.false_eq_true, reduceCtorEq, eq_self, false_and, and_false]
            rw [eQ]
            exact W.iret (v := (nI ((y.1 9 0) + 1))) hx hb hr (fun t ht hW => ⟨⟨(nI ((y.1 9 0) + 1)), (), rfl, (by rw [hsp]), wHS_t ht (by rw [hsp]; exact hH)⟩, hS.F ht⟩) hS.2.2 dX5_pass_163
          | succ k ih =>
            intro n hn H locs ls hl hH hS
            have hlt : n < 4 := by omega
            refine lv_iload_n hx hb dX5_pass_141 rfl (lv_at hl 0 rfl) ?_
            refine lv_iconst (v := 4) hx hb dX5_pass_142 (by decide) ?_
            refine lv_icmp_ge (tgt := 159) hx hb dX5_pass_143 (by decide) (fun hq => absurd ((nI_leI (a := 4) (b := n) (by omega) (by omega)).mp hq) (Nat.not_le.mpr hlt)) (fun _ => ?_)
            refine lv_aload_n hx hb dX5_pass_146 rfl (lv_at hl 1 rfl) ?_
            refine wr_get (T := TX5) (N := 30) (ci := 7) (v := .ref (g 28)) hx hb hts hinX5 hown hK hH (lv_md (by decide) (by decide)) (cel_md (by omega) (by omega)) rfl 18 (by decide) (hts (.fieldLink RX5 62 "SelectoRouteModel" "visited" "[Z") (by decide +kernel)) (fun _ h => h) rfl dX5_pass_147 ?_
            refine lv_iload_n hx hb dX5_pass_150 rfl (lv_at hl 0 rfl) ?_
            refine lv_iconst (v := 0) hx hb dX5_pass_151 (by decide) ?_
            refine wr_zast hx hb hK hH hS (lv_md (by decide) (by decide)) (cel_md (by decide) (by decide)) 1 rfl (vp_in_nI (n := n) (N := 4) (by omega) (by decide)) dX5_pass_152 (fun H locs hH hS => ?_)
            have hH : wHS E o g x (uN (fU stV (uI (uN (fU stG (uI y 28 0 0) (10 * (y.1 1 0))) 9 0 ((y.1 9 0) + 1)) 17 0 600) n) 11 n 0) H := pa_visited (v := 0) (nI_clamp (n := n) (by omega)) (by decide) hH
            obtain ⟨v2, ev2⟩ : ∃ y : Int32, y = (nI n) + 1 := ⟨_, rfl⟩
            refine lv_iinc (v := v2) (lv' := [(1, .int v2), (0, .ref (g 10))]) hx hb dX5_pass_153 hl (k := 0) rfl (by rw [ev2]; rfl) (by decide) rfl (fun ls hl => ?_)
            refine lv_goto (tgt := 141) hx hb dX5_pass_156 (by decide) ?_
            have e9 : v2 = nI (n + 1) := by rw [ev2]; exact nI_1 n
            rw [e9] at hl
            exact ih (n + 1) (by omega) H locs ls (lv_sub hl [0, 1] rfl) hH hS
        exact loop 4 0 (by omega) H _ ls (lv_sub hl [0, 1] rfl) hH hS
      | succ k ih =>
        intro n hn H locs ls hl hH hS
        have hlt : n < (10 * (y.1 1 0)) := by omega
        obtain ⟨y1, ey1⟩ : ∃ z, z = fU stG (uI y 28 0 0) n := ⟨_, rfl⟩
        rw [← ey1] at hH
        have h1 : y1.1 = y.1 := by rw [ey1]; exact fG_1 _ _
        obtain ⟨ho0, ho1, ho7, ho8, ho5, ho6, ho9, ho12, ho11⟩ := MI_of h1 hI
        have hlt : n < 10 * (y1.1 1 0) := by rw [h1]; exact hlt
        refine lv_iload_n hx hb dX5_pass_26 rfl (lv_at hl 0 rfl) ?_
        refine lv_bipush (v := 10) hx hb dX5_pass_27 (by decide) ?_
        refine lv_aload_n hx hb dX5_pass_29 rfl (lv_at hl 1 rfl) ?_
        refine wr_get (T := TX5) (N := 30) (ci := 7) (v := .int (nI (y1.1 1 0))) hx hb hts hinX5 hown hK hH (lv_md (by decide) (by decide)) (cel_md (by omega) (by omega)) rfl 19 (by decide) (hts (.fieldLink RX5 97 "SelectoRouteModel" "boxes" "I") (by decide +kernel)) (fun _ h => h) rfl dX5_pass_30 ?_
        refine lv_imul hx hb dX5_pass_33 ?_
        refine lv_tope (pk_mul 10 (y1.1 1 0)) ?_
        refine lv_icmp_ge (tgt := 122) hx hb dX5_pass_34 (by decide) (fun hq => absurd ((nI_leI (a := (10 * (y1.1 1 0))) (b := n) (by omega) (by omega)).mp hq) (Nat.not_le.mpr hlt)) (fun _ => ?_)
        refine lv_aload_n hx hb dX5_pass_37 rfl (lv_at hl 1 rfl) ?_
        refine wr_get (T := TX5) (N := 30) (ci := 7) (v := .ref (g 27)) hx hb hts hinX5 hown hK hH (lv_md (by decide) (by decide)) (cel_md (by omega) (by omega)) rfl 17 (by decide) (hts (.fieldLink RX5 58 "SelectoRouteModel" "jammed" "[Z") (by decide +kernel)) (fun _ h => h) rfl dX5_pass_38 ?_
        refine lv_iload_n hx hb dX5_pass_41 rfl (lv_at hl 0 rfl) ?_
        refine lv_bipush (v := 10) hx hb dX5_pass_42 (by decide) ?_
        refine lv_idiv hx hb dX5_pass_44 (by decide) ?_
        refine lv_tope (pk_div (a := n) (d := 10) (by omega) (by decide) (by decide)) ?_
        refine wr_zald (v := (y1.2 10 (n / 10))) hx hb hK hH (lv_md (by decide) (by decide)) (cel_md (by decide) (by decide)) 1 rfl (vp_in_nI (n := (n / 10)) (N := 4) (by omega) (by decide)) (by rw [(nI_clamp (n := (n / 10)) (by omega))]; try rfl) dX5_pass_45 ?_
        refine lv_if_ne (tgt := 62) hx hb dX5_pass_46 (by decide) (fun c3 => ?_) (fun c3 => ?_)
        · skip
          refine lv_iconst (v := 0) hx hb dX5_pass_62 (by decide) ?_
          refine lv_istore_n (lv' := [(2, .int 0), (1, .int (nI n)), (0, .ref (g 10))]) hx hb dX5_pass_63 rfl hl (by decide) rfl (fun ls hl => ?_)
          refine lv_iload_n hx hb dX5_pass_64 rfl (lv_at hl 0 rfl) ?_
          refine lv_if_eq (tgt := 116) hx hb dX5_pass_65 (by decide) (fun _ => ?_) (fun hq => absurd (show (0 : Int32) = 0 by decide) hq)
          obtain ⟨v4, ev4⟩ : ∃ y : Int32, y = (nI n) + 1 := ⟨_, rfl⟩
          refine lv_iinc (v := v4) (lv' := [(1, .int v4), (2, .int 0), (0, .ref (g 10))]) hx hb dX5_pass_116 hl (k := 1) rfl (by rw [ev4]; rfl) (by decide) rfl (fun ls hl => ?_)
          refine lv_goto (tgt := 26) hx hb dX5_pass_119 (by decide) ?_
          have e9 : v4 = nI (n + 1) := by rw [ev4]; exact nI_1 n
          rw [e9] at hl
          subst ev4
          have e8 : fU stG (uI y 28 0 0) (n + 1) = y1 := by
            show stG n (fU stG (uI y 28 0 0) n) = _
            rw [← ey1]
            unfold stG
            simp only [c3, ↓reduceIte]
          exact ih (n + 1) (by omega) H locs ls (lv_sub hl [0, 2] rfl) (by rw [e8]; exact hH) hS
        · skip
          refine lv_aload_n hx hb dX5_pass_49 rfl (lv_at hl 1 rfl) ?_
          refine wr_get (T := TX5) (N := 30) (ci := 7) (v := .ref (g 29)) hx hb hts hinX5 hown hK hH (lv_md (by decide) (by decide)) (cel_md (by omega) (by omega)) rfl 20 (by decide) (hts (.fieldLink RX5 65 "SelectoRouteModel" "slots" "[I") (by decide +kernel)) (fun _ h => h) rfl dX5_pass_50 ?_
          refine lv_iload_n hx hb dX5_pass_53 rfl (lv_at hl 0 rfl) ?_
          refine wr_iald (v := nI (y1.1 7 n)) hx hb hK hH (lv_md (by decide) (by decide)) (cel_md (by decide) (by decide)) 0 rfl (vp_in_nI (n := n) (N := 40) (by omega) (by decide)) (by rw [(nI_clamp (n := n) (by omega))]; try rfl) dX5_pass_54 ?_
          refine lv_if_le (tgt := 62) hx hb dX5_pass_55 (by decide) (fun c5 => ?_) (fun c5 => ?_)
          · have c5 := (nz_le (by have q0 := ho7 n; omega)).mp c5
            refine lv_iconst (v := 0) hx hb dX5_pass_62 (by decide) ?_
            refine lv_istore_n (lv' := [(2, .int 0), (1, .int (nI n)), (0, .ref (g 10))]) hx hb dX5_pass_63 rfl hl (by decide) rfl (fun ls hl => ?_)
            refine lv_iload_n hx hb dX5_pass_64 rfl (lv_at hl 0 rfl) ?_
            refine lv_if_eq (tgt := 116) hx hb dX5_pass_65 (by decide) (fun _ => ?_) (fun hq => absurd (show (0 : Int32) = 0 by decide) hq)
            obtain ⟨v6, ev6⟩ : ∃ y : Int32, y = (nI n) + 1 := ⟨_, rfl⟩
            refine lv_iinc (v := v6) (lv' := [(1, .int v6), (2, .int 0), (0, .ref (g 10))]) hx hb dX5_pass_116 hl (k := 1) rfl (by rw [ev6]; rfl) (by decide) rfl (fun ls hl => ?_)
            refine lv_goto (tgt := 26) hx hb dX5_pass_119 (by decide) ?_
            have e9 : v6 = nI (n + 1) := by rw [ev6]; exact nI_1 n
            rw [e9] at hl
            subst ev6
            have e8 : fU stG (uI y 28 0 0) (n + 1) = y1 := by
              show stG n (fU stG (uI y 28 0 0) n) = _
              rw [← ey1]
              unfold stG
              simp only [c3, c5, ↓reduceIte]
            exact ih (n + 1) (by omega) H locs ls (lv_sub hl [0, 2] rfl) (by rw [e8]; exact hH) hS
          · have c5 : ¬ ((y1.1 7 n) = 0) := fun hq => c5 ((nz_le (by have q0 := ho7 n; omega)).mpr hq)
            refine lv_iconst (v := 1) hx hb dX5_pass_58 (by decide) ?_
            refine lv_goto (tgt := 63) hx hb dX5_pass_59 (by decide) ?_
            refine lv_istore_n (lv' := [(2, .int 1), (1, .int (nI n)), (0, .ref (g 10))]) hx hb dX5_pass_63 rfl hl (by decide) rfl (fun ls hl => ?_)
            refine lv_iload_n hx hb dX5_pass_64 rfl (lv_at hl 0 rfl) ?_
            refine lv_if_eq (tgt := 116) hx hb dX5_pass_65 (by decide) (fun hq => absurd hq (show ¬ (1 : Int32) = 0 by decide)) (fun _ => ?_)
            refine lv_aload_n hx hb dX5_pass_68 rfl (lv_at hl 2 rfl) ?_
            refine wr_get (T := TX5) (N := 30) (ci := 7) (v := .ref (g 14)) hx hb hts hinX5 hown hK hH (lv_md (by decide) (by decide)) (cel_md (by omega) (by omega)) rfl 3 (by decide) (hts (.fieldLink RX5 19 "SelectoRouteModel" "wear" "[I") (by decide +kernel)) (fun _ h => h) rfl dX5_pass_69 ?_
            refine lv_aload_n hx hb dX5_pass_72 rfl (lv_at hl 2 rfl) ?_
            refine wr_get (T := TX5) (N := 30) (ci := 7) (v := .ref (g 29)) hx hb hts hinX5 hown hK hH (lv_md (by decide) (by decide)) (cel_md (by omega) (by omega)) rfl 20 (by decide) (hts (.fieldLink RX5 65 "SelectoRouteModel" "slots" "[I") (by decide +kernel)) (fun _ h => h) rfl dX5_pass_73 ?_
            refine lv_iload_n hx hb dX5_pass_76 rfl (lv_at hl 1 rfl) ?_
            refine wr_iald (v := nI (y1.1 7 n)) hx hb hK hH (lv_md (by decide) (by decide)) (cel_md (by decide) (by decide)) 0 rfl (vp_in_nI (n := n) (N := 40) (by omega) (by decide)) (by rw [(nI_clamp (n := n) (by omega))]; try rfl) dX5_pass_77 ?_
            refine lv_iconst (v := 1) hx hb dX5_pass_78 (by decide) ?_
            refine lv_isub hx hb dX5_pass_79 ?_
            refine lv_tope (pk_sub (a := (y1.1 7 n)) (b := 1) (by have q0 := ho7 n; omega)) ?_
            refine wr_iald (v := (y1.2 3 ((y1.1 7 n) - 1))) hx hb hK hH (lv_md (by decide) (by decide)) (cel_md (by decide) (by decide)) 0 rfl (vp_in_nI (n := ((y1.1 7 n) - 1)) (N := 30) (by have q0 := ho7 n; omega) (by decide)) (by rw [(nI_clamp (n := ((y1.1 7 n) - 1)) (by have q0 := ho7 n; omega))]; try rfl) dX5_pass_80 ?_
            refine lv_bipush (v := 60) hx hb dX5_pass_81 (by decide) ?_
            refine lv_icmp_ge (tgt := 116) hx hb dX5_pass_83 (by decide) (fun c7 => ?_) (fun c7 => ?_)
            · skip
              obtain ⟨v8, ev8⟩ : ∃ y : Int32, y = (nI n) + 1 := ⟨_, rfl⟩
              refine lv_iinc (v := v8) (lv' := [(1, .int v8), (2, .int 1), (0, .ref (g 10))]) hx hb dX5_pass_116 hl (k := 1) rfl (by rw [ev8]; rfl) (by decide) rfl (fun ls hl => ?_)
              refine lv_goto (tgt := 26) hx hb dX5_pass_119 (by decide) ?_
              have e9 : v8 = nI (n + 1) := by rw [ev8]; exact nI_1 n
              rw [e9] at hl
              subst ev8
              have e8 : fU stG (uI y 28 0 0) (n + 1) = y1 := by
                show stG n (fU stG (uI y 28 0 0) n) = _
                rw [← ey1]
                unfold stG
                simp only [c3, c5, c7, ↓reduceIte]
              exact ih (n + 1) (by omega) H locs ls (lv_sub hl [0, 2] rfl) (by rw [e8]; exact hH) hS
            · skip
              refine lv_aload_n hx hb dX5_pass_86 rfl (lv_at hl 2 rfl) ?_
              refine lv_iload_n hx hb dX5_pass_87 rfl (lv_at hl 1 rfl) ?_
              refine va_calli (va_runV (As := [.int (nI n)]) (rest := []) ⟨hx, hb, hml, hown, hts⟩ (met_X5_pullOfSlot l E o g x y1 n (by omega) (show (y1.1 7 n) ≤ 30 by have q0 := ho7 n; omega) ho8 ho12) (cwV 1 hts gX5_pass_X5_pullOfSlot rfl rfl rfl (by decide +kernel) ⟨Nat.le_of_ble_eq_true rfl, Nat.le_of_ble_eq_true rfl⟩) ⟨fun a U f mk q => ⟨q.1, wPre.calling q.2 a f mk⟩, (va_recv hK (wH_one hH (lv_md (by decide) (by decide)) (cel_md (by omega) (by omega))) (ci := 7) (q0 := 0) rfl rfl), fun U hU hW => ⟨rfl, wPre_at hz hS hH hK U hU hW⟩⟩ rfl rfl hl.1 rfl (lv_room (Nat.le_of_ble_eq_true rfl)) dX5_pass_88 ⟨Nat.le_of_ble_eq_true rfl, Nat.le_of_ble_eq_true rfl⟩) hS (fun q _ h => h) (fun q h => h) (fun r u t H locs ht hvm hw hB hz1 hk1 hS => ?_)
              have hB := wHS_h ht hB
              try dsimp only at hw
              obtain rfl := hw
              have hH := hB
              refine lv_bipush (v := 8) hx hb dX5_pass_91 (by decide) ?_
              refine lv_idiv hx hb dX5_pass_93 (by decide) ?_
              refine lv_istore_n (lv' := [(3, .int ((pS y1 n (y1.2 5 (n / 10)) (nI (y1.1 9 0))) / 8)), (2, .int 1), (1, .int (nI n)), (0, .ref (g 10))]) hx hb dX5_pass_94 rfl hl (by decide) rfl (fun ls hl => ?_)
              refine lv_aload_n hx hb dX5_pass_95 rfl (lv_at hl 3 rfl) ?_
              refine wr_get (T := TX5) (N := 30) (ci := 7) (v := .ref (g 20)) hx hb hts hinX5 hown hK hH (lv_md (by decide) (by decide)) (cel_md (by omega) (by omega)) rfl 10 (by decide) (hts (.fieldLink RX5 37 "SelectoRouteModel" "cents" "[I") (by decide +kernel)) (fun _ h => h) rfl dX5_pass_96 ?_
              refine lv_iload_n hx hb dX5_pass_99 rfl (lv_at hl 2 rfl) ?_
              refine lv_bipush (v := 10) hx hb dX5_pass_100 (by decide) ?_
              refine lv_idiv hx hb dX5_pass_102 (by decide) ?_
              refine lv_tope (pk_div (a := n) (d := 10) (by omega) (by decide) (by decide)) ?_
              refine lv_dup2_11 hx hb dX5_pass_103 rfl rfl ?_
              refine wr_iald (v := (y1.2 8 (n / 10))) hx hb hK hH (lv_md (by decide) (by decide)) (cel_md (by decide) (by decide)) 0 rfl (vp_in_nI (n := (n / 10)) (N := 4) (by omega) (by decide)) (by rw [(nI_clamp (n := (n / 10)) (by omega))]; try rfl) dX5_pass_104 ?_
              refine lv_iconst (v := 5) hx hb dX5_pass_105 (by decide) ?_
              refine lv_iload_n hx hb dX5_pass_106 rfl (lv_at hl 0 rfl) ?_
              refine lv_imul hx hb dX5_pass_107 ?_
              refine lv_iadd hx hb dX5_pass_108 ?_
              refine lv_topi (fun v9 ev9 => ?_)
              refine wr_iast hx hb hK hH hS (lv_md (by decide) (by decide)) (cel_md (by decide) (by decide)) 0 rfl (vp_in_nI (n := (n / 10)) (N := 4) (by omega) (by decide)) dX5_pass_109 (fun H locs hH hS => ?_)
              have hH : wHS E o g x (uI y1 8 (n / 10) v9) H := pa_cents (v := v9) (nI_clamp (n := (n / 10)) (by omega)) hH
              refine lv_aload_n hx hb dX5_pass_110 rfl (lv_at hl 3 rfl) ?_
              refine lv_iload_n hx hb dX5_pass_111 rfl (lv_at hl 2 rfl) ?_
              refine lv_iload_n hx hb dX5_pass_112 rfl (lv_at hl 0 rfl) ?_
              refine va_callv (va_runV (As := [.int (nI n), .int ((pS y1 n (y1.2 5 (n / 10)) (nI (y1.1 9 0))) / 8)]) (rest := []) ⟨hx, hb, hml, hown, hts⟩ (met_X5_wears l E o g x (uI y1 8 (n / 10) v9) n ((pS y1 n (y1.2 5 (n / 10)) (nI (y1.1 9 0))) / 8) (MI_of (y := y) h1 hI) (by omega) (by simpa [uI, uN, va_up] using c5)) (cwV 2 hts gX5_pass_X5_wears rfl rfl rfl (by decide +kernel) ⟨Nat.le_of_ble_eq_true rfl, Nat.le_of_ble_eq_true rfl⟩) ⟨fun a U f mk q => ⟨q.1, wPre.calling q.2 a f mk⟩, (va_recv hK (wH_one hH (lv_md (by decide) (by decide)) (cel_md (by omega) (by omega))) (ci := 7) (q0 := 0) rfl rfl), fun U hU hW => ⟨rfl, wPre_at hz hS hH hK U hU hW⟩⟩ rfl rfl hl.1 rfl (lv_room (Nat.le_of_ble_eq_true rfl)) dX5_pass_113 ⟨Nat.le_of_ble_eq_true rfl, Nat.le_of_ble_eq_true rfl⟩) hS (fun q _ h => h) (fun q h => h) (fun u t H locs ht hvm hw hB hz1 hk1 hS => ?_)
              have hB := wHS_h ht hB
              try dsimp only at hw
              have hH := hB
              obtain ⟨v10, ev10⟩ : ∃ y : Int32, y = (nI n) + 1 := ⟨_, rfl⟩
              refine lv_iinc (v := v10) (lv' := [(1, .int v10), (3, .int ((pS y1 n (y1.2 5 (n / 10)) (nI (y1.1 9 0))) / 8)), (2, .int 1), (0, .ref (g 10))]) hx hb dX5_pass_116 hl (k := 2) rfl (by rw [ev10]; rfl) (by decide) rfl (fun ls hl => ?_)
              refine lv_goto (tgt := 26) hx hb dX5_pass_119 (by decide) ?_
              have e9 : v10 = nI (n + 1) := by rw [ev10]; exact nI_1 n
              rw [e9] at hl
              subst ev10
              subst ev9
              have e8 : fU stG (uI y 28 0 0) (n + 1) = (mp_wears (uI y1 8 (n / 10) ((y1.2 8 (n / 10)) + (5 * ((pS y1 n (y1.2 5 (n / 10)) (nI (y1.1 9 0))) / 8)))) n ((pS y1 n (y1.2 5 (n / 10)) (nI (y1.1 9 0))) / 8)) := by
                show stG n (fU stG (uI y 28 0 0) n) = _
                rw [← ey1]
                unfold stG
                simp only [c3, c5, c7, ↓reduceIte]
              exact ih (n + 1) (by omega) H locs ls (lv_sub hl [0, 3] rfl) (by rw [e8]; exact hH) hS
    exact loop (10 * (y.1 1 0)) 0 (by omega) H _ ls (lv_sub hl [0, 1] rfl) hH hS
def mp_checksum (y : St)  : Int64 × St := (((31 * ((31 * (fU (stD y) (fU (stC y) 7 (y.1 0 0)) (y.1 1 0))) + ((y.2 18 0).toInt64))) + ((y.2 16 0).toInt64)), y)
set_option maxHeartbeats 4000000 in
set_option maxRecDepth 100000 in
theorem met_X5_checksum (l : Launch) (E : wE) (o : wO) (g : Nat → Nat) (x y : St) (hI : MI y) : Met l yX5_checksum wsX5_checksum ({ frames := 3, cells := 0, slots := 0, locals := 300 } : Room) (va_Pc [.ref (g 10)] (wPre E o g x y)) (va_Ql (fun (r : Int64) (_ : Unit) => r = (mp_checksum y ).1) (fun (_ : Unit) t => wHS E o g x (mp_checksum y ).2 t.heap) (wA E)) 0 0 (wA E) := by
  refine Met.ofW (cc := cX5_checksum) (maxL := 4) (ret := (some .long)) (by decide) rfl ?_
  intro p e s m args below meth c s₁ B hml hv
  obtain ⟨rfl, hz, hH, hK⟩ := hv
  have hx := B.exec
  have hb := B.bytes
  have hr := B.returns
  have hts := atoms_spec (ws := wsX5_checksum) B.pre
  have hown : s.vm.findClass RX5 = some m.cls := findClass_of_methodNamed B.named
  have hlocks := B.notSynchronized
  have hS : va_S (wA E) s.heap s.heap [] := va_S.rf
  have hinX5 : ∀ w ∈ wsX50, w ∈ wsX5_checksum := fun w h => List.mem_cons_of_mem _ (List.mem_append_left _ (List.mem_append_right _ h))
  have hl := lv_entry ([.ref (g 10)]) (n := 4) (Nat.le_of_ble_eq_true rfl)
  rw [lg_entry_eq]
  generalize (lg_sl ([.ref (g 10)]) ++ List.replicate (4 - (lg_sl ([.ref (g 10)])).length) Slot.unset).toArray = ls at hl ⊢
  have hl : lv_has ls 4 [(0, .ref (g 10))] := hl
  obtain ⟨H, eH⟩ : ∃ z, z = s.heap := ⟨_, rfl⟩
  have hH : wHS E o g x y H := by rw [eH]; exact hH
  have hS : va_S (wA E) s.heap H [] := by rw [eH]; exact hS
  refine W.heapTo eH ?_
  obtain ⟨hm0, hm1, hm7, hm8, hm5, hm6, hm9, hm12, hm11⟩ := id hI
  refine W.nameQ (fun Q eQ => ?_)
  refine lv_ldc2 hx hb hown (hts (.constantLong RX5 147 (7)) (by decide +kernel)) dX5_checksum_0 ?_
  refine lv_lstore_n (lv' := [(1, .long 7), (0, .ref (g 10))]) hx hb dX5_checksum_3 rfl hl (by decide) rfl (fun ls hl => ?_)
  refine lv_iconst (v := 0) hx hb dX5_checksum_4 (by decide) ?_
  refine lv_istore_n (lv' := [(3, .int 0), (1, .long 7), (0, .ref (g 10))]) hx hb dX5_checksum_5 rfl hl (by decide) rfl (fun ls hl => ?_)
  have loop : ∀ (k n : Nat), n + k = (y.1 0 0) → ∀ (q : Int64), q = fU (stC y) 7 n → True → ∀ (H : Heap) (locs : List Loc) (ls : Array Slot), lv_has ls 4 [(1, .long q), (3, .int (nI n)), (0, .ref (g 10))] → wHS E o g x y H → va_S (wA E) s.heap H locs → W p l e ({ frames := 3, cells := 0, slots := 0, locals := 300 } : Room) s m #[.ref (g 10)] below meth c H locs 0 0 Q (F0 m 6 ls []) := by
    intro k
    induction k with
    | zero =>
      intro n hn q hq hqb H locs ls hl hH hS
      obtain rfl : n = (y.1 0 0) := by omega
      subst hq
      have hl : lv_has ls 4 [(1, .long (fU (stC y) 7 (y.1 0 0))), (3, .int (nI (y.1 0 0))), (0, .ref (g 10))] := hl
      refine lv_iload_n hx hb dX5_checksum_6 rfl (lv_at hl 1 rfl) ?_
      refine lv_aload_n hx hb dX5_checksum_7 rfl (lv_at hl 2 rfl) ?_
      refine wr_get (T := TX5) (N := 30) (ci := 7) (v := .int (nI (y.1 0 0))) hx hb hts hinX5 hown hK hH (lv_md (by decide) (by decide)) (cel_md (by omega) (by omega)) rfl 5 (by decide) (hts (.fieldLink RX5 90 "SelectoRouteModel" "discs" "I") (by decide +kernel)) (fun _ h => h) rfl dX5_checksum_8 ?_
      refine lv_icmp_ge (tgt := 34) hx hb dX5_checksum_11 (by decide) (fun _ => ?_) (fun hq => absurd ((nI_leI (a := (y.1 0 0)) (b := (y.1 0 0)) (by omega) (by omega)).mpr (Nat.le_refl _)) hq)
      refine lv_iconst (v := 0) hx hb dX5_checksum_34 (by decide) ?_
      refine lv_istore_n (lv' := [(3, .int 0), (1, .long (fU (stC y) 7 (y.1 0 0))), (0, .ref (g 10))]) hx hb dX5_checksum_35 rfl hl (by decide) rfl (fun ls hl => ?_)
      have loop : ∀ (k n : Nat), n + k = (y.1 1 0) → ∀ (q : Int64), q = fU (stD y) (fU (stC y) 7 (y.1 0 0)) n → True → ∀ (H : Heap) (locs : List Loc) (ls : Array Slot), lv_has ls 4 [(1, .long q), (3, .int (nI n)), (0, .ref (g 10))] → wHS E o g x y H → va_S (wA E) s.heap H locs → W p l e ({ frames := 3, cells := 0, slots := 0, locals := 300 } : Room) s m #[.ref (g 10)] below meth c H locs 0 0 Q (F0 m 36 ls []) := by
        intro k
        induction k with
        | zero =>
          intro n hn q hq hqb H locs ls hl hH hS
          obtain rfl : n = (y.1 1 0) := by omega
          subst hq
          have hl : lv_has ls 4 [(1, .long (fU (stD y) (fU (stC y) 7 (y.1 0 0)) (y.1 1 0))), (3, .int (nI (y.1 1 0))), (0, .ref (g 10))] := hl
          refine lv_iload_n hx hb dX5_checksum_36 rfl (lv_at hl 1 rfl) ?_
          refine lv_aload_n hx hb dX5_checksum_37 rfl (lv_at hl 2 rfl) ?_
          refine wr_get (T := TX5) (N := 30) (ci := 7) (v := .int (nI (y.1 1 0))) hx hb hts hinX5 hown hK hH (lv_md (by decide) (by decide)) (cel_md (by omega) (by omega)) rfl 19 (by decide) (hts (.fieldLink RX5 97 "SelectoRouteModel" "boxes" "I") (by decide +kernel)) (fun _ h => h) rfl dX5_checksum_38 ?_
          refine lv_icmp_ge (tgt := 92) hx hb dX5_checksum_41 (by decide) (fun _ => ?_) (fun hq => absurd ((nI_leI (a := (y.1 1 0)) (b := (y.1 1 0)) (by omega) (by omega)).mpr (Nat.le_refl _)) hq)
          refine lv_ldc2 hx hb hown (hts (.constantLong RX5 149 (31)) (by decide +kernel)) dX5_checksum_92 ?_
          refine lv_lload_n hx hb dX5_checksum_95 rfl (lv_at hl 0 rfl) ?_
          refine lv_lmul hx hb dX5_checksum_96 ?_
          refine lv_aload_n hx hb dX5_checksum_97 rfl (lv_at hl 2 rfl) ?_
          refine wr_get (T := TX5) (N := 30) (ci := 7) (v := .int (y.2 18 0)) hx hb hts hinX5 hown hK hH (lv_md (by decide) (by decide)) (cel_md (by omega) (by omega)) rfl 28 (by decide) (hts (.fieldLink RX5 135 "SelectoRouteModel" "earned" "I") (by decide +kernel)) (fun _ h => h) rfl dX5_checksum_98 ?_
          refine lv_i2l hx hb dX5_checksum_101 rfl ?_
          refine lv_ladd hx hb dX5_checksum_102 ?_
          refine lv_lstore_n (lv' := [(1, .long ((31 * (fU (stD y) (fU (stC y) 7 (y.1 0 0)) (y.1 1 0))) + ((y.2 18 0).toInt64))), (3, .int (nI (y.1 1 0))), (0, .ref (g 10))]) hx hb dX5_checksum_103 rfl hl (by decide) rfl (fun ls hl => ?_)
          refine lv_ldc2 hx hb hown (hts (.constantLong RX5 149 (31)) (by decide +kernel)) dX5_checksum_104 ?_
          refine lv_lload_n hx hb dX5_checksum_107 rfl (lv_at hl 0 rfl) ?_
          refine lv_lmul hx hb dX5_checksum_108 ?_
          refine lv_aload_n hx hb dX5_checksum_109 rfl (lv_at hl 2 rfl) ?_
          refine wr_get (T := TX5) (N := 30) (ci := 7) (v := .int (y.2 16 0)) hx hb hts hinX5 hown hK hH (lv_md (by decide) (by decide)) (cel_md (by omega) (by omega)) rfl 25 (by decide) (hts (.fieldLink RX5 80 "SelectoRouteModel" "z" "I") (by decide +kernel)) (fun _ h => h) rfl dX5_checksum_110 ?_
          refine lv_i2l hx hb dX5_checksum_113 rfl ?_
          refine lv_ladd hx hb dX5_checksum_114 ?_
          have hsp : mp_checksum y = (((31 * ((31 * (fU (stD y) (fU (stC y) 7 (y.1 0 0)) (y.1 1 0))) + ((y.2 18 0).toInt64))) + ((y.2 16 0).toInt64)), y) := by
            unfold mp_checksum
            first | (simp only [↓reduceIte, and_self, and_true, true_and, Bool.false_eq_true, reduceCtorEq, eq_self, false_and, and_false]; done) | (simp [↓reduceIte, and_self, and_true, true_and, Bool.false_eq_true, reduceCtorEq, eq_self, false_and, and_false]; done) | simp only [↓reduceIte, and_self, and_true, true_and, Bool.false_eq_true, reduceCtorEq, eq_self, false_and, and_false]
          rw [eQ]
          exact W.lret (v := ((31 * ((31 * (fU (stD y) (fU (stC y) 7 (y.1 0 0)) (y.1 1 0))) + ((y.2 18 0).toInt64))) + ((y.2 16 0).toInt64))) hx hb hr (fun t ht hW => ⟨⟨((31 * ((31 * (fU (stD y) (fU (stC y) 7 (y.1 0 0)) (y.1 1 0))) + ((y.2 18 0).toInt64))) + ((y.2 16 0).toInt64)), (), rfl, (by rw [hsp]), wHS_t ht (by rw [hsp]; exact hH)⟩, hS.F ht⟩) hS.2.2 dX5_checksum_115
        | succ k ih =>
          intro n hn q hq hqb H locs ls hl hH hS
          have hlt : n < (y.1 1 0) := by omega
          refine lv_iload_n hx hb dX5_checksum_36 rfl (lv_at hl 1 rfl) ?_
          refine lv_aload_n hx hb dX5_checksum_37 rfl (lv_at hl 2 rfl) ?_
          refine wr_get (T := TX5) (N := 30) (ci := 7) (v := .int (nI (y.1 1 0))) hx hb hts hinX5 hown hK hH (lv_md (by decide) (by decide)) (cel_md (by omega) (by omega)) rfl 19 (by decide) (hts (.fieldLink RX5 97 "SelectoRouteModel" "boxes" "I") (by decide +kernel)) (fun _ h => h) rfl dX5_checksum_38 ?_
          refine lv_icmp_ge (tgt := 92) hx hb dX5_checksum_41 (by decide) (fun hq => absurd ((nI_leI (a := (y.1 1 0)) (b := n) (by omega) (by omega)).mp hq) (Nat.not_le.mpr hlt)) (fun _ => ?_)
          refine lv_ldc2 hx hb hown (hts (.constantLong RX5 149 (31)) (by decide +kernel)) dX5_checksum_44 ?_
          refine lv_lload_n hx hb dX5_checksum_47 rfl (lv_at hl 0 rfl) ?_
          refine lv_lmul hx hb dX5_checksum_48 ?_
          refine lv_aload_n hx hb dX5_checksum_49 rfl (lv_at hl 2 rfl) ?_
          refine wr_get (T := TX5) (N := 30) (ci := 7) (v := .ref (g 20)) hx hb hts hinX5 hown hK hH (lv_md (by decide) (by decide)) (cel_md (by omega) (by omega)) rfl 10 (by decide) (hts (.fieldLink RX5 37 "SelectoRouteModel" "cents" "[I") (by decide +kernel)) (fun _ h => h) rfl dX5_checksum_50 ?_
          refine lv_iload_n hx hb dX5_checksum_53 rfl (lv_at hl 1 rfl) ?_
          refine wr_iald (v := (y.2 8 n)) hx hb hK hH (lv_md (by decide) (by decide)) (cel_md (by decide) (by decide)) 0 rfl (vp_in_nI (n := n) (N := 4) (by omega) (by decide)) (by rw [(nI_clamp (n := n) (by omega))]; try rfl) dX5_checksum_54 ?_
          refine lv_i2l hx hb dX5_checksum_55 rfl ?_
          refine lv_ladd hx hb dX5_checksum_56 ?_
          refine lv_lstore_n (lv' := [(1, .long ((31 * q) + ((y.2 8 n).toInt64))), (3, .int (nI n)), (0, .ref (g 10))]) hx hb dX5_checksum_57 rfl hl (by decide) rfl (fun ls hl => ?_)
          refine lv_ldc2 hx hb hown (hts (.constantLong RX5 149 (31)) (by decide +kernel)) dX5_checksum_58 ?_
          refine lv_lload_n hx hb dX5_checksum_61 rfl (lv_at hl 0 rfl) ?_
          refine lv_lmul hx hb dX5_checksum_62 ?_
          refine lv_aload_n hx hb dX5_checksum_63 rfl (lv_at hl 2 rfl) ?_
          refine wr_get (T := TX5) (N := 30) (ci := 7) (v := .ref (g 19)) hx hb hts hinX5 hown hK hH (lv_md (by decide) (by decide)) (cel_md (by omega) (by omega)) rfl 9 (by decide) (hts (.fieldLink RX5 34 "SelectoRouteModel" "credits" "[I") (by decide +kernel)) (fun _ h => h) rfl dX5_checksum_64 ?_
          refine lv_iload_n hx hb dX5_checksum_67 rfl (lv_at hl 1 rfl) ?_
          refine wr_iald (v := (y.2 7 n)) hx hb hK hH (lv_md (by decide) (by decide)) (cel_md (by decide) (by decide)) 0 rfl (vp_in_nI (n := n) (N := 4) (by omega) (by decide)) (by rw [(nI_clamp (n := n) (by omega))]; try rfl) dX5_checksum_68 ?_
          refine lv_i2l hx hb dX5_checksum_69 rfl ?_
          refine lv_ladd hx hb dX5_checksum_70 ?_
          refine lv_lstore_n (lv' := [(1, .long ((31 * ((31 * q) + ((y.2 8 n).toInt64))) + ((y.2 7 n).toInt64))), (3, .int (nI n)), (0, .ref (g 10))]) hx hb dX5_checksum_71 rfl hl (by decide) rfl (fun ls hl => ?_)
          refine lv_ldc2 hx hb hown (hts (.constantLong RX5 149 (31)) (by decide +kernel)) dX5_checksum_72 ?_
          refine lv_lload_n hx hb dX5_checksum_75 rfl (lv_at hl 0 rfl) ?_
          refine lv_lmul hx hb dX5_checksum_76 ?_
          refine lv_aload_n hx hb dX5_checksum_77 rfl (lv_at hl 2 rfl) ?_
          refine wr_get (T := TX5) (N := 30) (ci := 7) (v := .ref (g 21)) hx hb hts hinX5 hown hK hH (lv_md (by decide) (by decide)) (cel_md (by omega) (by omega)) rfl 11 (by decide) (hts (.fieldLink RX5 40 "SelectoRouteModel" "needle" "[I") (by decide +kernel)) (fun _ h => h) rfl dX5_checksum_78 ?_
          refine lv_iload_n hx hb dX5_checksum_81 rfl (lv_at hl 1 rfl) ?_
          refine wr_iald (v := (y.2 9 n)) hx hb hK hH (lv_md (by decide) (by decide)) (cel_md (by decide) (by decide)) 0 rfl (vp_in_nI (n := n) (N := 4) (by omega) (by decide)) (by rw [(nI_clamp (n := n) (by omega))]; try rfl) dX5_checksum_82 ?_
          refine lv_i2l hx hb dX5_checksum_83 rfl ?_
          refine lv_ladd hx hb dX5_checksum_84 ?_
          refine lv_lstore_n (lv' := [(1, .long ((31 * ((31 * ((31 * q) + ((y.2 8 n).toInt64))) + ((y.2 7 n).toInt64))) + ((y.2 9 n).toInt64))), (3, .int (nI n)), (0, .ref (g 10))]) hx hb dX5_checksum_85 rfl hl (by decide) rfl (fun ls hl => ?_)
          obtain ⟨v1, ev1⟩ : ∃ y : Int32, y = (nI n) + 1 := ⟨_, rfl⟩
          refine lv_iinc (v := v1) (lv' := [(3, .int v1), (1, .long ((31 * ((31 * ((31 * q) + ((y.2 8 n).toInt64))) + ((y.2 7 n).toInt64))) + ((y.2 9 n).toInt64))), (0, .ref (g 10))]) hx hb dX5_checksum_86 hl (k := 1) rfl (by rw [ev1]; rfl) (by decide) rfl (fun ls hl => ?_)
          refine lv_goto (tgt := 36) hx hb dX5_checksum_89 (by decide) ?_
          have e9 : v1 = nI (n + 1) := by rw [ev1]; exact nI_1 n
          rw [e9] at hl
          exact ih (n + 1) (by omega) ((31 * ((31 * ((31 * q) + ((y.2 8 n).toInt64))) + ((y.2 7 n).toInt64))) + ((y.2 9 n).toInt64)) (by rw [show fU (stD y) (fU (stC y) 7 (y.1 0 0)) (n + 1) = (stD y) n (fU (stD y) (fU (stC y) 7 (y.1 0 0)) n) from rfl, ← hq]; unfold stD; try simp only [eq_self, ↓reduceIte, and_self, and_true, true_and, false_and, and_false]) trivial H locs ls (lv_sub hl [1, 0, 2] rfl) hH hS
      exact loop (y.1 1 0) 0 (by omega) (fU (stC y) 7 (y.1 0 0)) rfl trivial H _ ls (lv_sub hl [1, 0, 2] rfl) hH hS
    | succ k ih =>
      intro n hn q hq hqb H locs ls hl hH hS
      have hlt : n < (y.1 0 0) := by omega
      refine lv_iload_n hx hb dX5_checksum_6 rfl (lv_at hl 1 rfl) ?_
      refine lv_aload_n hx hb dX5_checksum_7 rfl (lv_at hl 2 rfl) ?_
      refine wr_get (T := TX5) (N := 30) (ci := 7) (v := .int (nI (y.1 0 0))) hx hb hts hinX5 hown hK hH (lv_md (by decide) (by decide)) (cel_md (by omega) (by omega)) rfl 5 (by decide) (hts (.fieldLink RX5 90 "SelectoRouteModel" "discs" "I") (by decide +kernel)) (fun _ h => h) rfl dX5_checksum_8 ?_
      refine lv_icmp_ge (tgt := 34) hx hb dX5_checksum_11 (by decide) (fun hq => absurd ((nI_leI (a := (y.1 0 0)) (b := n) (by omega) (by omega)).mp hq) (Nat.not_le.mpr hlt)) (fun _ => ?_)
      refine lv_ldc2 hx hb hown (hts (.constantLong RX5 149 (31)) (by decide +kernel)) dX5_checksum_14 ?_
      refine lv_lload_n hx hb dX5_checksum_17 rfl (lv_at hl 0 rfl) ?_
      refine lv_lmul hx hb dX5_checksum_18 ?_
      refine lv_aload_n hx hb dX5_checksum_19 rfl (lv_at hl 2 rfl) ?_
      refine wr_get (T := TX5) (N := 30) (ci := 7) (v := .ref (g 14)) hx hb hts hinX5 hown hK hH (lv_md (by decide) (by decide)) (cel_md (by omega) (by omega)) rfl 3 (by decide) (hts (.fieldLink RX5 19 "SelectoRouteModel" "wear" "[I") (by decide +kernel)) (fun _ h => h) rfl dX5_checksum_20 ?_
      refine lv_iload_n hx hb dX5_checksum_23 rfl (lv_at hl 1 rfl) ?_
      refine wr_iald (v := (y.2 3 n)) hx hb hK hH (lv_md (by decide) (by decide)) (cel_md (by decide) (by decide)) 0 rfl (vp_in_nI (n := n) (N := 30) (by omega) (by decide)) (by rw [(nI_clamp (n := n) (by omega))]; try rfl) dX5_checksum_24 ?_
      refine lv_i2l hx hb dX5_checksum_25 rfl ?_
      refine lv_ladd hx hb dX5_checksum_26 ?_
      refine lv_lstore_n (lv' := [(1, .long ((31 * q) + ((y.2 3 n).toInt64))), (3, .int (nI n)), (0, .ref (g 10))]) hx hb dX5_checksum_27 rfl hl (by decide) rfl (fun ls hl => ?_)
      obtain ⟨v2, ev2⟩ : ∃ y : Int32, y = (nI n) + 1 := ⟨_, rfl⟩
      refine lv_iinc (v := v2) (lv' := [(3, .int v2), (1, .long ((31 * q) + ((y.2 3 n).toInt64))), (0, .ref (g 10))]) hx hb dX5_checksum_28 hl (k := 1) rfl (by rw [ev2]; rfl) (by decide) rfl (fun ls hl => ?_)
      refine lv_goto (tgt := 6) hx hb dX5_checksum_31 (by decide) ?_
      have e9 : v2 = nI (n + 1) := by rw [ev2]; exact nI_1 n
      rw [e9] at hl
      exact ih (n + 1) (by omega) ((31 * q) + ((y.2 3 n).toInt64)) (by rw [show fU (stC y) 7 (n + 1) = (stC y) n (fU (stC y) 7 n) from rfl, ← hq]; unfold stC; try simp only [eq_self, ↓reduceIte, and_self, and_true, true_and, false_and, and_false]) trivial H locs ls (lv_sub hl [1, 0, 2] rfl) hH hS
  exact loop (y.1 0 0) 0 (by omega) 7 rfl trivial H _ ls (lv_sub hl [1, 0, 2] rfl) hH hS
