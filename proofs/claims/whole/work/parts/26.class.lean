/-! ===== the class: methods with loops that change nothing ===== -/
def stM (x : St) (j n : Nat) (q : Int32 × Nat) : Int32 × Nat := if x.2 (100 + j) n ≤ q.1 then q else (x.2 (100 + j) n, n + 1)
def stK (x : St) (j n q : Nat) : Nat := if x.1 7 (10 * j + n) = 0 then q else if q = 0 then n + 1 else if x.2 14 (10 * j + (q - 1)) ≤ x.2 14 (10 * j + n) then q else n + 1
def stWs (x : St) (n : Nat) (q : Nat × Nat) : Nat × Nat := if x.1 8 n = 0 then q else if x.2 3 n < 60 then (q.1 + 1, q.2) else (q.1 + 1, q.2 + 1)
def stMp (x : St) (n : Nat) (q : Nat × Int32) : Nat × Int32 := if x.1 8 n < 2 then q else (q.1 + 1, q.2 + pW x n (nI (x.1 9 0)))
def cp_discAt (x : St) (b : Int32) (k : Int32) : Option String × Int32 × St := if inB b (x.1 1 0) = true then (if inB k 10 = true then (if (x.1 7 (10 * (ix b) + (ix k))) = 0 then (some "java/util/NoSuchElementException", 0, x) else (none, (nI ((x.1 7 (10 * (ix b) + (ix k))) - 1)), x)) else (some "java/lang/IndexOutOfBoundsException", 0, x)) else (some "java/lang/IndexOutOfBoundsException", 0, x)
set_option maxHeartbeats 4000000 in
set_option maxRecDepth 100000 in
theorem met_X4_discAt (l : Launch) (E : wE) (o : wO) (g : Nat → Nat) (x y : St) (b : Int32) (k : Int32) (hlt : l.stackTraces = false) (hI : CI x) : vx_Met l yX4_discAt wsX4_discAt ({ frames := 10, cells := 4, slots := 24, locals := 1100 } : Room) (va_Pc [.ref (g 0), .int b, .int k] (wPreX E o g x y)) (va_Qi (fun (r : Int32) (_ : Unit) => (cp_discAt x b k).1 = none ∧ r = (cp_discAt x b k).2.1) (fun (_ : Unit) t => wHS E o g (cp_discAt x b k).2.2 y t.heap) (wA E)) (wXC E o g x y (fun X => (cp_discAt x b k).1 = some X)) 4 24 (wA E) := by
  refine vx_ofW (cc := cX4_discAt) (maxL := 4) (ret := (some .int)) (by decide) rfl ?_
  intro p e s m args below meth c s₁ B hml hnt hv
  obtain ⟨rfl, ⟨hz, hH, hK⟩, hC⟩ := hv
  have hx := B.exec
  have hb := B.bytes
  have hr := B.returns
  have hts := atoms_spec (ws := wsX4_discAt) B.pre
  have hown : s.vm.findClass RX4 = some m.cls := findClass_of_methodNamed B.named
  have hlocks := B.notSynchronized
  have hS : va_S (wA E) s.heap s.heap [] := va_S.rf
  have hinX3 : ∀ w ∈ wsX30, w ∈ wsX4_discAt := fun w h => List.mem_cons_of_mem _ (List.mem_append_left _ (List.mem_append_left _ (List.mem_append_left _ (List.mem_append_left _ (List.mem_append_left _ (List.mem_append_left _ (List.mem_append_right _ h)))))))
  have hinX2 : ∀ w ∈ wsX20, w ∈ wsX4_discAt := fun w h => List.mem_cons_of_mem _ (List.mem_append_left _ (List.mem_append_left _ (List.mem_append_left _ (List.mem_append_left _ (List.mem_append_left _ (List.mem_append_right _ h))))))
  have hinX4 : ∀ w ∈ wsX40, w ∈ wsX4_discAt := fun w h => List.mem_cons_of_mem _ (List.mem_append_left _ (List.mem_append_left _ (List.mem_append_left _ (List.mem_append_left _ (List.mem_append_right _ h)))))
  have hinJx4a65c : ∀ w ∈ wsJx4a65c0, w ∈ wsX4_discAt := fun w h => List.mem_cons_of_mem _ (List.mem_append_left _ (List.mem_append_left _ (List.mem_append_left _ (List.mem_append_right _ h))))
  have hinX0 : ∀ w ∈ wsX00, w ∈ wsX4_discAt := fun w h => List.mem_cons_of_mem _ (List.mem_append_left _ (List.mem_append_left _ (List.mem_append_right _ h)))
  have hl := lv_entry ([.ref (g 0), .int b, .int k]) (n := 4) (Nat.le_of_ble_eq_true rfl)
  rw [lg_entry_eq]
  generalize (lg_sl ([.ref (g 0), .int b, .int k]) ++ List.replicate (4 - (lg_sl ([.ref (g 0), .int b, .int k])).length) Slot.unset).toArray = ls at hl ⊢
  have hl : lv_has ls 4 [(0, .ref (g 0)), (1, .int b), (2, .int k)] := hl
  obtain ⟨H, eH⟩ : ∃ z, z = s.heap := ⟨_, rfl⟩
  have hH : wHS E o g x y H := by rw [eH]; exact hH
  have hS : va_S (wA E) s.heap H [] := by rw [eH]; exact hS
  refine W.heapTo eH ?_
  obtain ⟨hn0, hn1, hn2, hn3, hn4, hn5, hc7, hc8, hc5, hc54, hc4, hc50, hc9, hc12, hc10, hcj⟩ := id hI
  refine lv_aload_n hx hb dX4_discAt_0 rfl (lv_at hl 0 rfl) ?_
  refine lv_iload_n hx hb dX4_discAt_1 rfl (lv_at hl 1 rfl) ?_
  refine wx_callr (vx_runV (As := [.int b]) (rest := []) ⟨hx, hb, hml, hown, hts⟩ (met_X4_requireBox l E o g x y b hlt hI) (cwV 1 hts gX4_discAt_X4_requireBox rfl rfl rfl (by decide +kernel) ⟨Nat.le_of_ble_eq_true rfl, Nat.le_of_ble_eq_true rfl⟩) ⟨fun a U f mk q => ⟨q.1, wPreX.calling q.2 a f mk⟩, (va_recv hK (wH_one hH lv_r0 (cel_rt (by omega))) (ci := 6) (q0 := 0) rfl rfl), fun U hU hW => ⟨rfl, wPreX_at hz hS hH hK hC U hU hW⟩⟩ rfl rfl hl.1 rfl (lv_room (Nat.le_of_ble_eq_true rfl)) dX4_discAt_2 ⟨Nat.le_of_ble_eq_true rfl, Nat.le_of_ble_eq_true rfl⟩) hS (fun q _ h => h) (fun q h => h) (fun q _ h => h) (fun E9 ce q9 u t H locs ht hvm hw hB hz1 hk1 hS hce hcv hcl => ?_) (fun u ra t H locs ht hvm hw hB hz1 hk1 hS => ?_)
  · obtain ⟨⟨rfl, c1⟩, hB⟩ := hB
    have hH := wHS_h ht hB
    have hsp : cp_discAt x b k = (some "java/lang/IndexOutOfBoundsException", 0, x) := by
      unfold cp_discAt
      first | (simp only [(Bool.eq_false_iff.mp c1), ↓reduceIte, and_self, and_true, true_and, Bool.false_eq_true, reduceCtorEq, eq_self, false_and, and_false]; done) | (simp [(Bool.eq_false_iff.mp c1), ↓reduceIte, and_self, and_true, true_and, Bool.false_eq_true, reduceCtorEq, eq_self, false_and, and_false]; done) | simp only [(Bool.eq_false_iff.mp c1), ↓reduceIte, and_self, and_true, true_and, Bool.false_eq_true, reduceCtorEq, eq_self, false_and, and_false]
    exact vx_out (fun x h => (hnt x h).elim) hlocks hce hcv hcl (wX_on hS hH (by rw [hsp])) hS.2.2 (by omega) (by omega)
  · have c1 : inB b (x.1 1 0) = true := hw
    obtain ⟨jb, hjb, rfl⟩ := inB_t c1 (by omega)
    obtain ⟨rfl, hB⟩ := hB
    have hH := wHS_h ht hB
    rw [ix_nI (show jb < 2 ^ 31 by omega)]
    refine lv_iload_n hx hb dX4_discAt_5 rfl (lv_at hl 2 rfl) ?_
    refine wx_callr (vx_runS (As := [.ref (g (200 + jb)), .int k]) (rest := []) ⟨hx, hb, hml, hown, hts⟩ (met_X4_requireSlot l E o g x y jb k hlt hI (show jb < x.1 1 0 by omega)) (va_cwS 2 hts gX4_discAt_X4_requireSlot rfl rfl rfl (by decide +kernel) ⟨Nat.le_of_ble_eq_true rfl, Nat.le_of_ble_eq_true rfl⟩) ⟨fun a U f mk q => ⟨q.1, wPreX.calling q.2 a f mk⟩, fun U hU hW => ⟨rfl, wPreX_at hz hS hH hK hC U hU hW⟩⟩ rfl rfl hl.1 rfl (lv_room (Nat.le_of_ble_eq_true rfl)) dX4_discAt_6 ⟨Nat.le_of_ble_eq_true rfl, Nat.le_of_ble_eq_true rfl⟩) hS (fun q _ h => h) (fun q h => h) (fun q _ h => h) (fun E9 ce q9 u t H locs ht hvm hw hB hz1 hk1 hS hce hcv hcl => ?_) (fun u ra t H locs ht hvm hw hB hz1 hk1 hS => ?_)
    · obtain ⟨⟨rfl, c2⟩, hB⟩ := hB
      have hH := wHS_h ht hB
      have hsp : cp_discAt x (nI jb) k = (some "java/lang/IndexOutOfBoundsException", 0, x) := by
        unfold cp_discAt
        first | (simp only [c1, (Bool.eq_false_iff.mp c2), inB_nI hjb (by omega), ix_nI (show jb < 2 ^ 31 by omega), ↓reduceIte, and_self, and_true, true_and, Bool.false_eq_true, reduceCtorEq, eq_self, false_and, and_false]; done) | (simp [c1, (Bool.eq_false_iff.mp c2), inB_nI hjb (by omega), ix_nI (show jb < 2 ^ 31 by omega), ↓reduceIte, and_self, and_true, true_and, Bool.false_eq_true, reduceCtorEq, eq_self, false_and, and_false]; done) | simp only [c1, (Bool.eq_false_iff.mp c2), inB_nI hjb (by omega), ix_nI (show jb < 2 ^ 31 by omega), ↓reduceIte, and_self, and_true, true_and, Bool.false_eq_true, reduceCtorEq, eq_self, false_and, and_false]
      exact vx_out (fun x h => (hnt x h).elim) hlocks hce hcv hcl (wX_on hS hH (by rw [hsp])) hS.2.2 (by omega) (by omega)
    · have c2 : inB k 10 = true := hw
      obtain ⟨jk, hjk, rfl⟩ := inB_t c2 (by omega)
      obtain ⟨rfl, hB⟩ := hB
      have hH := wHS_h ht hB
      rw [ix_nI (show jk < 2 ^ 31 by omega)]
      have q7 := hc7 (10 * jb + jk)
      by_cases c3 : (x.1 7 (10 * jb + jk)) = 0
      · skip
        refine wr_get (T := TX3) (N := 3) (ci := 5) (v := .null) hx hb hts hinX3 hown hK hH (lv_sl (show (10 * jb + jk) < 10 * x.1 1 0 by omega) hn1) cel_sl rfl 1 (by decide) (hts (.fieldLink RX4 118 "SelectoRoute$Slot" "disc" "LSelectoRoute$Disc;") (by decide +kernel)) (fun _ h => h) (congrArg some (if_pos c3)) dX4_discAt_9 ?_
        refine lv_astore_nN (lv' := [(3, .null), (0, .ref (g 0)), (1, .int (nI jb)), (2, .int (nI jk))]) hx hb dX4_discAt_12 rfl hl (by decide) rfl (fun ls hl => ?_)
        refine lv_aload_nN hx hb dX4_discAt_13 rfl (lv_at hl 0 rfl) ?_
        refine lv_ifnonnullN hx hb dX4_discAt_14 ?_
        have hsp : cp_discAt x (nI jb) (nI jk) = (some "java/util/NoSuchElementException", 0, x) := by
          unfold cp_discAt
          first | (simp only [c1, c2, c3, inB_nI hjb (by omega), ix_nI (show jb < 2 ^ 31 by omega), inB_nI hjk (by omega), ix_nI (show jk < 2 ^ 31 by omega), ↓reduceIte, and_self, and_true, true_and, Bool.false_eq_true, reduceCtorEq, eq_self, false_and, and_false]; done) | (simp [c1, c2, c3, inB_nI hjb (by omega), ix_nI (show jb < 2 ^ 31 by omega), inB_nI hjk (by omega), ix_nI (show jk < 2 ^ 31 by omega), ↓reduceIte, and_self, and_true, true_and, Bool.false_eq_true, reduceCtorEq, eq_self, false_and, and_false]; done) | simp only [c1, c2, c3, inB_nI hjb (by omega), ix_nI (show jb < 2 ^ 31 by omega), inB_nI hjk (by omega), ix_nI (show jk < 2 ^ 31 by omega), ↓reduceIte, and_self, and_true, true_and, Bool.false_eq_true, reduceCtorEq, eq_self, false_and, and_false]
        obtain ⟨sa, hsa⟩ := hC.2.2.1 (170, "the slot is empty") (by decide +kernel)
        exact wx_throwNS (A := wA E) hx hb hlt hown (hts (.classLink RX4 135 "java/util/NoSuchElementException") (by decide +kernel)) (hts (.initialized "java/util/NoSuchElementException") (by decide +kernel)) hsa (hat_xN hts (fun w h => List.mem_cons_of_mem _ (List.mem_append_left _ (List.mem_append_right _ h))) hC) (by decide +kernel) hC.1 hC.2.1 (by rw [← eH] at *; exact hS) (hl.1.trans hml.symm) dX4_discAt_17 dX4_discAt_20 dX4_discAt_21 dX4_discAt_23 dX4_discAt_26 (fun x h => (hnt x h).elim) (Nat.lt_of_lt_of_le (by decide : 2 + 3 < 6) (Nat.le_of_ble_eq_true rfl)) (Nat.le_of_ble_eq_true rfl) (Nat.le_of_ble_eq_true rfl) (Nat.le_of_ble_eq_true rfl) hlocks (wX_of hS hH (by rw [hsp])) hS.2.2 (by omega) (by omega)
      · skip
        refine wr_get (T := TX3) (N := 3) (ci := 5) (v := .ref (g (100 + ((x.1 7 (10 * jb + jk)) - 1)))) hx hb hts hinX3 hown hK hH (lv_sl (show (10 * jb + jk) < 10 * x.1 1 0 by omega) hn1) cel_sl rfl 1 (by decide) (hts (.fieldLink RX4 118 "SelectoRoute$Slot" "disc" "LSelectoRoute$Disc;") (by decide +kernel)) (fun _ h => h) (congrArg some (if_neg c3)) dX4_discAt_9 ?_
        refine lv_astore_n (lv' := [(3, .ref (g (100 + ((x.1 7 (10 * jb + jk)) - 1)))), (0, .ref (g 0)), (1, .int (nI jb)), (2, .int (nI jk))]) hx hb dX4_discAt_12 rfl hl (by decide) rfl (fun ls hl => ?_)
        refine lv_aload_n hx hb dX4_discAt_13 rfl (lv_at hl 0 rfl) ?_
        refine lv_ifnonnull (tgt := 27) hx hb dX4_discAt_14 (by decide) ?_
        refine lv_aload_n hx hb dX4_discAt_27 rfl (lv_at hl 0 rfl) ?_
        refine wr_get (T := TX2) (N := 8) (ci := 4) (v := .int (nI ((x.1 7 (10 * jb + jk)) - 1))) hx hb hts hinX2 hown hK hH (lv_di (show ((x.1 7 (10 * jb + jk)) - 1) < x.1 0 0 by have q0 := hc7 (10 * jb + jk); omega) hn0) (cel_di (by omega)) rfl 0 (by decide) (hts (.fieldLink RX4 62 "SelectoRoute$Disc" "number" "I") (by decide +kernel)) (fun _ h => h) rfl dX4_discAt_28 ?_
        have hsp : cp_discAt x (nI jb) (nI jk) = (none, (nI ((x.1 7 (10 * jb + jk)) - 1)), x) := by
          unfold cp_discAt
          first | (simp only [c1, c2, c3, inB_nI hjb (by omega), ix_nI (show jb < 2 ^ 31 by omega), inB_nI hjk (by omega), ix_nI (show jk < 2 ^ 31 by omega), ↓reduceIte, and_self, and_true, true_and, Bool.false_eq_true, reduceCtorEq, eq_self, false_and, and_false]; done) | (simp [c1, c2, c3, inB_nI hjb (by omega), ix_nI (show jb < 2 ^ 31 by omega), inB_nI hjk (by omega), ix_nI (show jk < 2 ^ 31 by omega), ↓reduceIte, and_self, and_true, true_and, Bool.false_eq_true, reduceCtorEq, eq_self, false_and, and_false]; done) | simp only [c1, c2, c3, inB_nI hjb (by omega), ix_nI (show jb < 2 ^ 31 by omega), inB_nI hjk (by omega), ix_nI (show jk < 2 ^ 31 by omega), ↓reduceIte, and_self, and_true, true_and, Bool.false_eq_true, reduceCtorEq, eq_self, false_and, and_false]
        refine vx_ret ?_
        refine W.widen (k := 4) (n := 24) (by omega) (by omega) ?_
        exact W.iret (v := (nI ((x.1 7 (10 * jb + jk)) - 1))) hx hb hr (fun t ht hW => ⟨⟨(nI ((x.1 7 (10 * jb + jk)) - 1)), (), rfl, (by rw [hsp]; exact ⟨rfl, rfl⟩), wHS_t ht (by rw [hsp]; exact hH)⟩, hS.F ht⟩) hS.2.2 dX4_discAt_31
def cp_mostAsked (x : St) (b : Int32) : Option String × Int32 × St := if inB b (x.1 1 0) = true then (if ((fU (stM x (ix b)) ((0 : Int32), (0 : Nat)) 100).2) = 0 then (some "java/util/NoSuchElementException", 0, x) else (none, (nI (((fU (stM x (ix b)) ((0 : Int32), (0 : Nat)) 100).2) - 1)), x)) else (some "java/lang/IndexOutOfBoundsException", 0, x)
set_option maxHeartbeats 4000000 in
set_option maxRecDepth 100000 in
theorem met_X4_mostAsked (l : Launch) (E : wE) (o : wO) (g : Nat → Nat) (x y : St) (b : Int32) (hlt : l.stackTraces = false) (hI : CI x) : vx_Met l yX4_mostAsked wsX4_mostAsked ({ frames := 10, cells := 4, slots := 24, locals := 1100 } : Room) (va_Pc [.ref (g 0), .int b] (wPreX E o g x y)) (va_Qi (fun (r : Int32) (_ : Unit) => (cp_mostAsked x b).1 = none ∧ r = (cp_mostAsked x b).2.1) (fun (_ : Unit) t => wHS E o g (cp_mostAsked x b).2.2 y t.heap) (wA E)) (wXC E o g x y (fun X => (cp_mostAsked x b).1 = some X)) 4 24 (wA E) := by
  refine vx_ofW (cc := cX4_mostAsked) (maxL := 6) (ret := (some .int)) (by decide) rfl ?_
  intro p e s m args below meth c s₁ B hml hnt hv
  obtain ⟨rfl, ⟨hz, hH, hK⟩, hC⟩ := hv
  have hx := B.exec
  have hb := B.bytes
  have hr := B.returns
  have hts := atoms_spec (ws := wsX4_mostAsked) B.pre
  have hown : s.vm.findClass RX4 = some m.cls := findClass_of_methodNamed B.named
  have hlocks := B.notSynchronized
  have hS : va_S (wA E) s.heap s.heap [] := va_S.rf
  have hinX0 : ∀ w ∈ wsX00, w ∈ wsX4_mostAsked := fun w h => List.mem_cons_of_mem _ (List.mem_append_left _ (List.mem_append_left _ (List.mem_append_left _ (List.mem_append_left _ (List.mem_append_left _ (List.mem_append_right _ h))))))
  have hinX4 : ∀ w ∈ wsX40, w ∈ wsX4_mostAsked := fun w h => List.mem_cons_of_mem _ (List.mem_append_left _ (List.mem_append_left _ (List.mem_append_left _ (List.mem_append_left _ (List.mem_append_right _ h)))))
  have hinJx4a65c : ∀ w ∈ wsJx4a65c0, w ∈ wsX4_mostAsked := fun w h => List.mem_cons_of_mem _ (List.mem_append_left _ (List.mem_append_left _ (List.mem_append_left _ (List.mem_append_right _ h))))
  have hl := lv_entry ([.ref (g 0), .int b]) (n := 6) (Nat.le_of_ble_eq_true rfl)
  rw [lg_entry_eq]
  generalize (lg_sl ([.ref (g 0), .int b]) ++ List.replicate (6 - (lg_sl ([.ref (g 0), .int b])).length) Slot.unset).toArray = ls at hl ⊢
  have hl : lv_has ls 6 [(0, .ref (g 0)), (1, .int b)] := hl
  obtain ⟨H, eH⟩ : ∃ z, z = s.heap := ⟨_, rfl⟩
  have hH : wHS E o g x y H := by rw [eH]; exact hH
  have hS : va_S (wA E) s.heap H [] := by rw [eH]; exact hS
  refine W.heapTo eH ?_
  obtain ⟨hn0, hn1, hn2, hn3, hn4, hn5, hc7, hc8, hc5, hc54, hc4, hc50, hc9, hc12, hc10, hcj⟩ := id hI
  refine W.nameQ (fun Q eQ => ?_)
  refine lv_aload_n hx hb dX4_mostAsked_0 rfl (lv_at hl 0 rfl) ?_
  refine lv_iload_n hx hb dX4_mostAsked_1 rfl (lv_at hl 1 rfl) ?_
  refine wx_callr (vx_runV (As := [.int b]) (rest := []) ⟨hx, hb, hml, hown, hts⟩ (met_X4_requireBox l E o g x y b hlt hI) (cwV 1 hts gX4_mostAsked_X4_requireBox rfl rfl rfl (by decide +kernel) ⟨Nat.le_of_ble_eq_true rfl, Nat.le_of_ble_eq_true rfl⟩) ⟨fun a U f mk q => ⟨q.1, wPreX.calling q.2 a f mk⟩, (va_recv hK (wH_one hH lv_r0 (cel_rt (by omega))) (ci := 6) (q0 := 0) rfl rfl), fun U hU hW => ⟨rfl, wPreX_at hz hS hH hK hC U hU hW⟩⟩ rfl rfl hl.1 rfl (lv_room (Nat.le_of_ble_eq_true rfl)) dX4_mostAsked_2 ⟨Nat.le_of_ble_eq_true rfl, Nat.le_of_ble_eq_true rfl⟩) hS (fun q _ h => h) (fun q h => h) (fun q _ h => h) (fun E9 ce q9 u t H locs ht hvm hw hB hz1 hk1 hS hce hcv hcl => ?_) (fun u ra t H locs ht hvm hw hB hz1 hk1 hS => ?_)
  · obtain ⟨⟨rfl, c1⟩, hB⟩ := hB
    have hH := wHS_h ht hB
    have hsp : cp_mostAsked x b = (some "java/lang/IndexOutOfBoundsException", 0, x) := by
      unfold cp_mostAsked
      first | (simp only [(Bool.eq_false_iff.mp c1), ↓reduceIte, and_self, and_true, true_and, Bool.false_eq_true, reduceCtorEq, eq_self, false_and, and_false]; done) | (simp [(Bool.eq_false_iff.mp c1), ↓reduceIte, and_self, and_true, true_and, Bool.false_eq_true, reduceCtorEq, eq_self, false_and, and_false]; done) | simp only [(Bool.eq_false_iff.mp c1), ↓reduceIte, and_self, and_true, true_and, Bool.false_eq_true, reduceCtorEq, eq_self, false_and, and_false]
    rw [eQ]
    exact vx_out (fun x h => (hnt x h).elim) hlocks hce hcv hcl (wX_on hS hH (by rw [hsp])) hS.2.2 (by omega) (by omega)
  · have c1 : inB b (x.1 1 0) = true := hw
    obtain ⟨jb, hjb, rfl⟩ := inB_t c1 (by omega)
    obtain ⟨rfl, hB⟩ := hB
    have hH := wHS_h ht hB
    rw [ix_nI (show jb < 2 ^ 31 by omega)]
    refine wr_get (T := TX0) (N := 15) (ci := 3) (v := .ref (g (240 + jb))) hx hb hts hinX0 hown hK hH (lv_bx (show jb < x.1 1 0 by omega) hn1) (cel_bx (by omega)) rfl 5 (by decide) (hts (.fieldLink RX4 233 "SelectoRoute$Box" "asked" "[I") (by decide +kernel)) (fun _ h => h) rfl dX4_mostAsked_5 ?_
    refine lv_astore_n (lv' := [(2, .ref (g (240 + jb))), (0, .ref (g 0)), (1, .int (nI jb))]) hx hb dX4_mostAsked_8 rfl hl (by decide) rfl (fun ls hl => ?_)
    refine lv_iconst (v := 0) hx hb dX4_mostAsked_9 (by decide) ?_
    refine lv_istore_n (lv' := [(3, .int 0), (2, .ref (g (240 + jb))), (0, .ref (g 0)), (1, .int (nI jb))]) hx hb dX4_mostAsked_10 rfl hl (by decide) rfl (fun ls hl => ?_)
    refine lv_iconst (v := (-1)) hx hb dX4_mostAsked_11 (by decide) ?_
    refine lv_istore (lv' := [(4, .int (-1)), (3, .int 0), (2, .ref (g (240 + jb))), (0, .ref (g 0)), (1, .int (nI jb))]) hx hb dX4_mostAsked_12 hl (by decide) rfl (fun ls hl => ?_)
    refine lv_iconst (v := 0) hx hb dX4_mostAsked_14 (by decide) ?_
    refine lv_istore (lv' := [(5, .int 0), (4, .int (-1)), (3, .int 0), (2, .ref (g (240 + jb))), (0, .ref (g 0)), (1, .int (nI jb))]) hx hb dX4_mostAsked_15 hl (by decide) rfl (fun ls hl => ?_)
    have loop : ∀ (k n : Nat), n + k = 100 → ∀ (q : Int32 × Nat), q = fU (stM x jb) ((0 : Int32), (0 : Nat)) n → q.2 ≤ n → ∀ (H : Heap) (locs : List Loc) (ls : Array Slot), lv_has ls 6 [(3, .int q.1), (4, .int (bI q.2)), (5, .int (nI n)), (0, .ref (g 0)), (1, .int (nI jb)), (2, .ref (g (240 + jb)))] → wHS E o g x y H → va_S (wA E) s.heap H locs → W p l e ({ frames := 10, cells := 4, slots := 24, locals := 1100 } : Room) s m #[.ref (g 0), .int (nI jb)] below meth c H locs 1 6 Q (F0 m 17 ls []) := by
      intro k
      induction k with
      | zero =>
        intro n hn q hq hqb H locs ls hl hH hS
        obtain rfl : n = 100 := by omega
        rw [hq] at hl
        try rw [hq] at hqb
        have hl : lv_has ls 6 [(3, .int ((fU (stM x jb) ((0 : Int32), (0 : Nat)) 100).1)), (4, .int (bI (fU (stM x jb) ((0 : Int32), (0 : Nat)) 100).2)), (5, .int (nI 100)), (0, .ref (g 0)), (1, .int (nI jb)), (2, .ref (g (240 + jb)))] := hl
        by_cases c2 : ((fU (stM x jb) ((0 : Int32), (0 : Nat)) 100).2) = 0
        · skip
          rw [bI_0 c2] at hl
          refine lv_iload hx hb dX4_mostAsked_17 (lv_at hl 2 rfl) ?_
          refine lv_aload_n hx hb dX4_mostAsked_19 rfl (lv_at hl 5 rfl) ?_
          refine wr_alen (v := 100) hx hb hK hH (lv_as (show jb < x.1 1 0 by omega) hn1) (cel_as (by omega)) 0 rfl rfl dX4_mostAsked_20 ?_
          refine lv_icmp_ge (tgt := 47) hx hb dX4_mostAsked_21 (by decide) (fun _ => ?_) (fun hq => absurd ((nI_leI (a := 100) (b := 100) (by omega) (by omega)).mpr (Nat.le_refl _)) hq)
          refine lv_iload hx hb dX4_mostAsked_47 (lv_at hl 1 rfl) ?_
          refine lv_if_ge (tgt := 62) hx hb dX4_mostAsked_49 (by decide) (fun hq => absurd hq (show ¬ (0 : Int32) ≤ (-1) by decide)) (fun _ => ?_)
          have hsp : cp_mostAsked x (nI jb) = (some "java/util/NoSuchElementException", 0, x) := by
            unfold cp_mostAsked
            first | (simp only [c1, c2, inB_nI hjb (by omega), ix_nI (show jb < 2 ^ 31 by omega), ↓reduceIte, and_self, and_true, true_and, Bool.false_eq_true, reduceCtorEq, eq_self, false_and, and_false]; done) | (simp [c1, c2, inB_nI hjb (by omega), ix_nI (show jb < 2 ^ 31 by omega), ↓reduceIte, and_self, and_true, true_and, Bool.false_eq_true, reduceCtorEq, eq_self, false_and, and_false]; done) | simp only [c1, c2, inB_nI hjb (by omega), ix_nI (show jb < 2 ^ 31 by omega), ↓reduceIte, and_self, and_true, true_and, Bool.false_eq_true, reduceCtorEq, eq_self, false_and, and_false]
          rw [eQ]
          obtain ⟨sa, hsa⟩ := hC.2.2.1 (240, "no song is asked for") (by decide +kernel)
          exact wx_throwNS (A := wA E) hx hb hlt hown (hts (.classLink RX4 135 "java/util/NoSuchElementException") (by decide +kernel)) (hts (.initialized "java/util/NoSuchElementException") (by decide +kernel)) hsa (hat_xN hts (fun w h => List.mem_cons_of_mem _ (List.mem_append_left _ (List.mem_append_right _ h))) hC) (by decide +kernel) hC.1 hC.2.1 (by rw [← eH] at *; exact hS) (hl.1.trans hml.symm) dX4_mostAsked_52 dX4_mostAsked_55 dX4_mostAsked_56 dX4_mostAsked_58 dX4_mostAsked_61 (fun x h => (hnt x h).elim) (Nat.lt_of_lt_of_le (by decide : 2 + 3 < 6) (Nat.le_of_ble_eq_true rfl)) (Nat.le_of_ble_eq_true rfl) (Nat.le_of_ble_eq_true rfl) (Nat.le_of_ble_eq_true rfl) hlocks (wX_of hS hH (by rw [hsp])) hS.2.2 (by omega) (by omega)
        · skip
          rw [bI_s c2] at hl
          refine lv_iload hx hb dX4_mostAsked_17 (lv_at hl 2 rfl) ?_
          refine lv_aload_n hx hb dX4_mostAsked_19 rfl (lv_at hl 5 rfl) ?_
          refine wr_alen (v := 100) hx hb hK hH (lv_as (show jb < x.1 1 0 by omega) hn1) (cel_as (by omega)) 0 rfl rfl dX4_mostAsked_20 ?_
          refine lv_icmp_ge (tgt := 47) hx hb dX4_mostAsked_21 (by decide) (fun _ => ?_) (fun hq => absurd ((nI_leI (a := 100) (b := 100) (by omega) (by omega)).mpr (Nat.le_refl _)) hq)
          refine lv_iload hx hb dX4_mostAsked_47 (lv_at hl 1 rfl) ?_
          refine lv_if_ge (tgt := 62) hx hb dX4_mostAsked_49 (by decide) (fun _ => ?_) (fun hq => absurd ((nI_leI (a := 0) (b := (((fU (stM x jb) ((0 : Int32), (0 : Nat)) 100).2) - 1)) (by omega) (by omega)).mpr (Nat.zero_le _)) hq)
          refine lv_iload hx hb dX4_mostAsked_62 (lv_at hl 1 rfl) ?_
          have hsp : cp_mostAsked x (nI jb) = (none, (nI (((fU (stM x jb) ((0 : Int32), (0 : Nat)) 100).2) - 1)), x) := by
            unfold cp_mostAsked
            first | (simp only [c1, c2, inB_nI hjb (by omega), ix_nI (show jb < 2 ^ 31 by omega), ↓reduceIte, and_self, and_true, true_and, Bool.false_eq_true, reduceCtorEq, eq_self, false_and, and_false]; done) | (simp [c1, c2, inB_nI hjb (by omega), ix_nI (show jb < 2 ^ 31 by omega), ↓reduceIte, and_self, and_true, true_and, Bool.false_eq_true, reduceCtorEq, eq_self, false_and, and_false]; done) | simp only [c1, c2, inB_nI hjb (by omega), ix_nI (show jb < 2 ^ 31 by omega), ↓reduceIte, and_self, and_true, true_and, Bool.false_eq_true, reduceCtorEq, eq_self, false_and, and_false]
          rw [eQ]
          refine vx_ret ?_
          refine W.widen (k := 4) (n := 24) (by omega) (by omega) ?_
          exact W.iret (v := (nI (((fU (stM x jb) ((0 : Int32), (0 : Nat)) 100).2) - 1))) hx hb hr (fun t ht hW => ⟨⟨(nI (((fU (stM x jb) ((0 : Int32), (0 : Nat)) 100).2) - 1)), (), rfl, (by rw [hsp]; exact ⟨rfl, rfl⟩), wHS_t ht (by rw [hsp]; exact hH)⟩, hS.F ht⟩) hS.2.2 dX4_mostAsked_64
      | succ k ih =>
        intro n hn q hq hqb H locs ls hl hH hS
        have hlt : n < 100 := by omega
        refine lv_iload hx hb dX4_mostAsked_17 (lv_at hl 2 rfl) ?_
        refine lv_aload_n hx hb dX4_mostAsked_19 rfl (lv_at hl 5 rfl) ?_
        refine wr_alen (v := 100) hx hb hK hH (lv_as (show jb < x.1 1 0 by omega) hn1) (cel_as (by omega)) 0 rfl rfl dX4_mostAsked_20 ?_
        refine lv_icmp_ge (tgt := 47) hx hb dX4_mostAsked_21 (by decide) (fun hq => absurd ((nI_leI (a := 100) (b := n) (by omega) (by omega)).mp hq) (Nat.not_le.mpr hlt)) (fun _ => ?_)
        refine lv_aload_n hx hb dX4_mostAsked_24 rfl (lv_at hl 5 rfl) ?_
        refine lv_iload hx hb dX4_mostAsked_25 (lv_at hl 2 rfl) ?_
        refine wr_iald (v := (x.2 (100 + jb) n)) hx hb hK hH (lv_as (show jb < x.1 1 0 by omega) hn1) (cel_as (by omega)) 0 rfl (vp_in_nI (n := n) (N := 100) (by omega) (by decide)) (by rw [(nI_clamp (n := n) (by omega))]; try rfl) dX4_mostAsked_27 ?_
        refine lv_iload_n hx hb dX4_mostAsked_28 rfl (lv_at hl 0 rfl) ?_
        refine lv_icmp_le (tgt := 41) hx hb dX4_mostAsked_29 (by decide) (fun c3 => ?_) (fun c3 => ?_)
        · skip
          obtain ⟨v4, ev4⟩ : ∃ y : Int32, y = (nI n) + 1 := ⟨_, rfl⟩
          refine lv_iinc (v := v4) (lv' := [(5, .int v4), (3, .int q.1), (4, .int (bI q.2)), (0, .ref (g 0)), (1, .int (nI jb)), (2, .ref (g (240 + jb)))]) hx hb dX4_mostAsked_41 hl (k := 2) rfl (by rw [ev4]; rfl) (by decide) rfl (fun ls hl => ?_)
          refine lv_goto (tgt := 17) hx hb dX4_mostAsked_44 (by decide) ?_
          have e9 : v4 = nI (n + 1) := by rw [ev4]; exact nI_1 n
          rw [e9] at hl
          exact ih (n + 1) (by omega) q (by rw [show fU (stM x jb) ((0 : Int32), (0 : Nat)) (n + 1) = (stM x jb) n (fU (stM x jb) ((0 : Int32), (0 : Nat)) n) from rfl, ← hq]; unfold stM; try simp only [c3, ↓reduceIte, and_self, and_true, true_and, false_and, and_false]) (by show _ ≤ _; first | omega | (dsimp only; omega)) H locs ls (lv_sub hl [1, 2, 0, 3, 4, 5] rfl) hH hS
        · skip
          refine lv_aload_n hx hb dX4_mostAsked_32 rfl (lv_at hl 5 rfl) ?_
          refine lv_iload hx hb dX4_mostAsked_33 (lv_at hl 2 rfl) ?_
          refine wr_iald (v := (x.2 (100 + jb) n)) hx hb hK hH (lv_as (show jb < x.1 1 0 by omega) hn1) (cel_as (by omega)) 0 rfl (vp_in_nI (n := n) (N := 100) (by omega) (by decide)) (by rw [(nI_clamp (n := n) (by omega))]; try rfl) dX4_mostAsked_35 ?_
          refine lv_istore_n (lv' := [(3, .int (x.2 (100 + jb) n)), (4, .int (bI q.2)), (5, .int (nI n)), (0, .ref (g 0)), (1, .int (nI jb)), (2, .ref (g (240 + jb)))]) hx hb dX4_mostAsked_36 rfl hl (by decide) rfl (fun ls hl => ?_)
          refine lv_iload hx hb dX4_mostAsked_37 (lv_at hl 2 rfl) ?_
          refine lv_istore (lv' := [(4, .int (nI n)), (3, .int (x.2 (100 + jb) n)), (5, .int (nI n)), (0, .ref (g 0)), (1, .int (nI jb)), (2, .ref (g (240 + jb)))]) hx hb dX4_mostAsked_39 hl (by decide) rfl (fun ls hl => ?_)
          obtain ⟨v5, ev5⟩ : ∃ y : Int32, y = (nI n) + 1 := ⟨_, rfl⟩
          refine lv_iinc (v := v5) (lv' := [(5, .int v5), (4, .int (nI n)), (3, .int (x.2 (100 + jb) n)), (0, .ref (g 0)), (1, .int (nI jb)), (2, .ref (g (240 + jb)))]) hx hb dX4_mostAsked_41 hl (k := 2) rfl (by rw [ev5]; rfl) (by decide) rfl (fun ls hl => ?_)
          refine lv_goto (tgt := 17) hx hb dX4_mostAsked_44 (by decide) ?_
          have e9 : v5 = nI (n + 1) := by rw [ev5]; exact nI_1 n
          rw [e9] at hl
          exact ih (n + 1) (by omega) (x.2 (100 + jb) n, n + 1) (by rw [show fU (stM x jb) ((0 : Int32), (0 : Nat)) (n + 1) = (stM x jb) n (fU (stM x jb) ((0 : Int32), (0 : Nat)) n) from rfl, ← hq]; unfold stM; try simp only [c3, ↓reduceIte, and_self, and_true, true_and, false_and, and_false]) (by show _ ≤ _; first | omega | (dsimp only; omega)) H locs ls (lv_sub hl [2, 1, 0, 3, 4, 5] rfl) hH hS
    exact loop 100 0 (by omega) ((0 : Int32), (0 : Nat)) rfl (Nat.le_refl _) H _ ls (lv_sub hl [2, 1, 0, 4, 5, 3] rfl) hH hS
def cp_least (x : St) (b : Int32) : Option String × Int32 × St := if inB b (x.1 1 0) = true then (if (fU (stK x (ix b)) 0 10) = 0 then (some "java/util/NoSuchElementException", 0, x) else (none, (nI ((10 * (ix b) + ((fU (stK x (ix b)) 0 10) - 1)) % 10)), x)) else (some "java/lang/IndexOutOfBoundsException", 0, x)
set_option maxHeartbeats 4000000 in
set_option maxRecDepth 100000 in
theorem met_X4_least (l : Launch) (E : wE) (o : wO) (g : Nat → Nat) (x y : St) (b : Int32) (hlt : l.stackTraces = false) (hI : CI x) : vx_Met l yX4_least wsX4_least ({ frames := 10, cells := 4, slots := 24, locals := 1100 } : Room) (va_Pc [.ref (g 0), .int b] (wPreX E o g x y)) (va_Qi (fun (r : Int32) (_ : Unit) => (cp_least x b).1 = none ∧ r = (cp_least x b).2.1) (fun (_ : Unit) t => wHS E o g (cp_least x b).2.2 y t.heap) (wA E)) (wXC E o g x y (fun X => (cp_least x b).1 = some X)) 4 24 (wA E) := by
  refine vx_ofW (cc := cX4_least) (maxL := 7) (ret := (some .int)) (by decide) rfl ?_
  intro p e s m args below meth c s₁ B hml hnt hv
  obtain ⟨rfl, ⟨hz, hH, hK⟩, hC⟩ := hv
  have hx := B.exec
  have hb := B.bytes
  have hr := B.returns
  have hts := atoms_spec (ws := wsX4_least) B.pre
  have hown : s.vm.findClass RX4 = some m.cls := findClass_of_methodNamed B.named
  have hlocks := B.notSynchronized
  have hS : va_S (wA E) s.heap s.heap [] := va_S.rf
  have hinX0 : ∀ w ∈ wsX00, w ∈ wsX4_least := fun w h => List.mem_cons_of_mem _ (List.mem_append_left _ (List.mem_append_left _ (List.mem_append_left _ (List.mem_append_left _ (List.mem_append_left _ (List.mem_append_right _ h))))))
  have hinX3 : ∀ w ∈ wsX30, w ∈ wsX4_least := fun w h => List.mem_cons_of_mem _ (List.mem_append_left _ (List.mem_append_left _ (List.mem_append_left _ (List.mem_append_left _ (List.mem_append_right _ h)))))
  have hinX4 : ∀ w ∈ wsX40, w ∈ wsX4_least := fun w h => List.mem_cons_of_mem _ (List.mem_append_left _ (List.mem_append_left _ (List.mem_append_left _ (List.mem_append_right _ h))))
  have hinJx4a65c : ∀ w ∈ wsJx4a65c0, w ∈ wsX4_least := fun w h => List.mem_cons_of_mem _ (List.mem_append_left _ (List.mem_append_left _ (List.mem_append_right _ h)))
  have hl := lv_entry ([.ref (g 0), .int b]) (n := 7) (Nat.le_of_ble_eq_true rfl)
  rw [lg_entry_eq]
  generalize (lg_sl ([.ref (g 0), .int b]) ++ List.replicate (7 - (lg_sl ([.ref (g 0), .int b])).length) Slot.unset).toArray = ls at hl ⊢
  have hl : lv_has ls 7 [(0, .ref (g 0)), (1, .int b)] := hl
  obtain ⟨H, eH⟩ : ∃ z, z = s.heap := ⟨_, rfl⟩
  have hH : wHS E o g x y H := by rw [eH]; exact hH
  have hS : va_S (wA E) s.heap H [] := by rw [eH]; exact hS
  refine W.heapTo eH ?_
  obtain ⟨hn0, hn1, hn2, hn3, hn4, hn5, hc7, hc8, hc5, hc54, hc4, hc50, hc9, hc12, hc10, hcj⟩ := id hI
  refine W.nameQ (fun Q eQ => ?_)
  refine lv_null hx hb dX4_least_0 ?_
  refine lv_astore_nN (lv' := [(2, .null), (0, .ref (g 0)), (1, .int b)]) hx hb dX4_least_1 rfl hl (by decide) rfl (fun ls hl => ?_)
  refine lv_aload_n hx hb dX4_least_2 rfl (lv_at hl 1 rfl) ?_
  refine lv_iload_n hx hb dX4_least_3 rfl (lv_at hl 2 rfl) ?_
  refine wx_callr (vx_runV (As := [.int b]) (rest := []) ⟨hx, hb, hml, hown, hts⟩ (met_X4_requireBox l E o g x y b hlt hI) (cwV 1 hts gX4_least_X4_requireBox rfl rfl rfl (by decide +kernel) ⟨Nat.le_of_ble_eq_true rfl, Nat.le_of_ble_eq_true rfl⟩) ⟨fun a U f mk q => ⟨q.1, wPreX.calling q.2 a f mk⟩, (va_recv hK (wH_one hH lv_r0 (cel_rt (by omega))) (ci := 6) (q0 := 0) rfl rfl), fun U hU hW => ⟨rfl, wPreX_at hz hS hH hK hC U hU hW⟩⟩ rfl rfl hl.1 rfl (lv_room (Nat.le_of_ble_eq_true rfl)) dX4_least_4 ⟨Nat.le_of_ble_eq_true rfl, Nat.le_of_ble_eq_true rfl⟩) hS (fun q _ h => h) (fun q h => h) (fun q _ h => h) (fun E9 ce q9 u t H locs ht hvm hw hB hz1 hk1 hS hce hcv hcl => ?_) (fun u ra t H locs ht hvm hw hB hz1 hk1 hS => ?_)
  · obtain ⟨⟨rfl, c1⟩, hB⟩ := hB
    have hH := wHS_h ht hB
    have hsp : cp_least x b = (some "java/lang/IndexOutOfBoundsException", 0, x) := by
      unfold cp_least
      first | (simp only [(Bool.eq_false_iff.mp c1), ↓reduceIte, and_self, and_true, true_and, Bool.false_eq_true, reduceCtorEq, eq_self, false_and, and_false]; done) | (simp [(Bool.eq_false_iff.mp c1), ↓reduceIte, and_self, and_true, true_and, Bool.false_eq_true, reduceCtorEq, eq_self, false_and, and_false]; done) | simp only [(Bool.eq_false_iff.mp c1), ↓reduceIte, and_self, and_true, true_and, Bool.false_eq_true, reduceCtorEq, eq_self, false_and, and_false]
    rw [eQ]
    exact vx_out (fun x h => (hnt x h).elim) hlocks hce hcv hcl (wX_on hS hH (by rw [hsp])) hS.2.2 (by omega) (by omega)
  · have c1 : inB b (x.1 1 0) = true := hw
    obtain ⟨jb, hjb, rfl⟩ := inB_t c1 (by omega)
    obtain ⟨rfl, hB⟩ := hB
    have hH := wHS_h ht hB
    rw [ix_nI (show jb < 2 ^ 31 by omega)]
    refine wr_get (T := TX0) (N := 15) (ci := 3) (v := .ref (g (210 + jb))) hx hb hts hinX0 hown hK hH (lv_bx (show jb < x.1 1 0 by omega) hn1) (cel_bx (by omega)) rfl 3 (by decide) (hts (.fieldLink RX4 242 "SelectoRoute$Box" "slots" "[LSelectoRoute$Slot;") (by decide +kernel)) (fun _ h => h) rfl dX4_least_7 ?_
    refine lv_astore_n (lv' := [(3, .ref (g (210 + jb))), (2, .null), (0, .ref (g 0)), (1, .int (nI jb))]) hx hb dX4_least_10 rfl hl (by decide) rfl (fun ls hl => ?_)
    refine lv_aload_n hx hb dX4_least_11 rfl (lv_at hl 0 rfl) ?_
    refine wr_alen (v := 10) hx hb hK hH (lv_sa (show jb < x.1 1 0 by omega) hn1) (cel_sa (by omega)) 2 rfl rfl dX4_least_12 ?_
    refine lv_istore (lv' := [(4, .int 10), (3, .ref (g (210 + jb))), (2, .null), (0, .ref (g 0)), (1, .int (nI jb))]) hx hb dX4_least_13 hl (by decide) rfl (fun ls hl => ?_)
    refine lv_iconst (v := 0) hx hb dX4_least_15 (by decide) ?_
    refine lv_istore (lv' := [(5, .int 0), (4, .int 10), (3, .ref (g (210 + jb))), (2, .null), (0, .ref (g 0)), (1, .int (nI jb))]) hx hb dX4_least_16 hl (by decide) rfl (fun ls hl => ?_)
    have loop : ∀ (k n : Nat), n + k = 10 → ∀ (q : Nat), q = fU (stK x jb) 0 n → q ≤ n → ∀ (H : Heap) (locs : List Loc) (ls : Array Slot), lv_has ls 7 [(2, (if q = 0 then Value.null else .ref (g (300 + (10 * jb + (q - 1)))))), (5, .int (nI n)), (0, .ref (g 0)), (1, .int (nI jb)), (3, .ref (g (210 + jb))), (4, .int 10)] → wHS E o g x y H → va_S (wA E) s.heap H locs → W p l e ({ frames := 10, cells := 4, slots := 24, locals := 1100 } : Room) s m #[.ref (g 0), .int (nI jb)] below meth c H locs 1 6 Q (F0 m 18 ls []) := by
      intro k
      induction k with
      | zero =>
        intro n hn q hq hqb H locs ls hl hH hS
        obtain rfl : n = 10 := by omega
        subst hq
        have hl : lv_has ls 7 [(2, (if (fU (stK x jb) 0 10) = 0 then Value.null else .ref (g (300 + (10 * jb + ((fU (stK x jb) 0 10) - 1)))))), (5, .int (nI 10)), (0, .ref (g 0)), (1, .int (nI jb)), (3, .ref (g (210 + jb))), (4, .int 10)] := hl
        by_cases c2 : (fU (stK x jb) 0 10) = 0
        · skip
          rw [if_pos c2] at hl
          refine lv_iload hx hb dX4_least_18 (lv_at hl 1 rfl) ?_
          refine lv_iload hx hb dX4_least_20 (lv_at hl 5 rfl) ?_
          refine lv_icmp_ge (tgt := 64) hx hb dX4_least_22 (by decide) (fun _ => ?_) (fun hq => absurd ((nI_leI (a := 10) (b := 10) (by omega) (by omega)).mpr (Nat.le_refl _)) hq)
          refine lv_aload_nN hx hb dX4_least_64 rfl (lv_at hl 0 rfl) ?_
          refine lv_ifnonnullN hx hb dX4_least_65 ?_
          have hsp : cp_least x (nI jb) = (some "java/util/NoSuchElementException", 0, x) := by
            unfold cp_least
            first | (simp only [c1, c2, inB_nI hjb (by omega), ix_nI (show jb < 2 ^ 31 by omega), ↓reduceIte, and_self, and_true, true_and, Bool.false_eq_true, reduceCtorEq, eq_self, false_and, and_false]; done) | (simp [c1, c2, inB_nI hjb (by omega), ix_nI (show jb < 2 ^ 31 by omega), ↓reduceIte, and_self, and_true, true_and, Bool.false_eq_true, reduceCtorEq, eq_self, false_and, and_false]; done) | simp only [c1, c2, inB_nI hjb (by omega), ix_nI (show jb < 2 ^ 31 by omega), ↓reduceIte, and_self, and_true, true_and, Bool.false_eq_true, reduceCtorEq, eq_self, false_and, and_false]
          rw [eQ]
          obtain ⟨sa, hsa⟩ := hC.2.2.1 (246, "all slots are empty") (by decide +kernel)
          exact wx_throwNS (A := wA E) hx hb hlt hown (hts (.classLink RX4 135 "java/util/NoSuchElementException") (by decide +kernel)) (hts (.initialized "java/util/NoSuchElementException") (by decide +kernel)) hsa (hat_xN hts (fun w h => List.mem_cons_of_mem _ (List.mem_append_left _ (List.mem_append_right _ h))) hC) (by decide +kernel) hC.1 hC.2.1 (by rw [← eH] at *; exact hS) (hl.1.trans hml.symm) dX4_least_68 dX4_least_71 dX4_least_72 dX4_least_74 dX4_least_77 (fun x h => (hnt x h).elim) (Nat.lt_of_lt_of_le (by decide : 2 + 3 < 6) (Nat.le_of_ble_eq_true rfl)) (Nat.le_of_ble_eq_true rfl) (Nat.le_of_ble_eq_true rfl) (Nat.le_of_ble_eq_true rfl) hlocks (wX_of hS hH (by rw [hsp])) hS.2.2 (by omega) (by omega)
        · skip
          rw [if_neg c2] at hl
          refine lv_iload hx hb dX4_least_18 (lv_at hl 1 rfl) ?_
          refine lv_iload hx hb dX4_least_20 (lv_at hl 5 rfl) ?_
          refine lv_icmp_ge (tgt := 64) hx hb dX4_least_22 (by decide) (fun _ => ?_) (fun hq => absurd ((nI_leI (a := 10) (b := 10) (by omega) (by omega)).mpr (Nat.le_refl _)) hq)
          refine lv_aload_n hx hb dX4_least_64 rfl (lv_at hl 0 rfl) ?_
          refine lv_ifnonnull (tgt := 78) hx hb dX4_least_65 (by decide) ?_
          refine lv_aload_n hx hb dX4_least_78 rfl (lv_at hl 0 rfl) ?_
          refine wr_get (T := TX3) (N := 3) (ci := 5) (v := .int (nI ((10 * jb + ((fU (stK x jb) 0 10) - 1)) % 10))) hx hb hts hinX3 hown hK hH (lv_sl (show (10 * jb + ((fU (stK x jb) 0 10) - 1)) < 10 * x.1 1 0 by omega) hn1) cel_sl rfl 0 (by decide) (hts (.fieldLink RX4 248 "SelectoRoute$Slot" "number" "I") (by decide +kernel)) (fun _ h => h) rfl dX4_least_79 ?_
          have hsp : cp_least x (nI jb) = (none, (nI ((10 * jb + ((fU (stK x jb) 0 10) - 1)) % 10)), x) := by
            unfold cp_least
            first | (simp only [c1, c2, inB_nI hjb (by omega), ix_nI (show jb < 2 ^ 31 by omega), ↓reduceIte, and_self, and_true, true_and, Bool.false_eq_true, reduceCtorEq, eq_self, false_and, and_false]; done) | (simp [c1, c2, inB_nI hjb (by omega), ix_nI (show jb < 2 ^ 31 by omega), ↓reduceIte, and_self, and_true, true_and, Bool.false_eq_true, reduceCtorEq, eq_self, false_and, and_false]; done) | simp only [c1, c2, inB_nI hjb (by omega), ix_nI (show jb < 2 ^ 31 by omega), ↓reduceIte, and_self, and_true, true_and, Bool.false_eq_true, reduceCtorEq, eq_self, false_and, and_false]
          rw [eQ]
          refine vx_ret ?_
          refine W.widen (k := 4) (n := 24) (by omega) (by omega) ?_
          exact W.iret (v := (nI ((10 * jb + ((fU (stK x jb) 0 10) - 1)) % 10))) hx hb hr (fun t ht hW => ⟨⟨(nI ((10 * jb + ((fU (stK x jb) 0 10) - 1)) % 10)), (), rfl, (by rw [hsp]; exact ⟨rfl, rfl⟩), wHS_t ht (by rw [hsp]; exact hH)⟩, hS.F ht⟩) hS.2.2 dX4_least_82
      | succ k ih =>
        intro n hn q hq hqb H locs ls hl hH hS
        have hlt : n < 10 := by omega
        by_cases c3 : q = 0
        · skip
          rw [if_pos c3] at hl
          refine lv_iload hx hb dX4_least_18 (lv_at hl 1 rfl) ?_
          refine lv_iload hx hb dX4_least_20 (lv_at hl 5 rfl) ?_
          refine lv_icmp_ge (tgt := 64) hx hb dX4_least_22 (by decide) (fun hq => absurd ((nI_leI (a := 10) (b := n) (by omega) (by omega)).mp hq) (Nat.not_le.mpr hlt)) (fun _ => ?_)
          refine lv_aload_n hx hb dX4_least_25 rfl (lv_at hl 4 rfl) ?_
          refine lv_iload hx hb dX4_least_26 (lv_at hl 1 rfl) ?_
          refine wr_aldq (v := .ref (g (300 + (10 * jb + n)))) hx hb hK hH (lv_sa (show jb < x.1 1 0 by omega) hn1) (cel_sa (by omega)) 2 rfl (vp_in_nI (n := n) (N := 10) (by omega) (by decide)) (by rw [nI_clamp (n := n) (by omega)]; show Value.ref (g (300 + 10 * jb + n)) = _; rw [Nat.add_assoc]) dX4_least_28 ?_
          refine lv_astore (lv' := [(6, .ref (g (300 + (10 * jb + n)))), (2, .null), (5, .int (nI n)), (0, .ref (g 0)), (1, .int (nI jb)), (3, .ref (g (210 + jb))), (4, .int 10)]) hx hb dX4_least_29 hl (by decide) rfl (fun ls hl => ?_)
          refine lv_aload hx hb dX4_least_31 (lv_at hl 0 rfl) ?_
          have q7 := hc7 (10 * jb + n)
          by_cases c4 : (x.1 7 (10 * jb + n)) = 0
          · skip
            refine wr_get (T := TX3) (N := 3) (ci := 5) (v := .null) hx hb hts hinX3 hown hK hH (lv_sl (show (10 * jb + n) < 10 * x.1 1 0 by omega) hn1) cel_sl rfl 1 (by decide) (hts (.fieldLink RX4 118 "SelectoRoute$Slot" "disc" "LSelectoRoute$Disc;") (by decide +kernel)) (fun _ h => h) (congrArg some (if_pos c4)) dX4_least_33 ?_
            refine lv_ifnullN (tgt := 58) hx hb dX4_least_36 (by decide) ?_
            obtain ⟨v5, ev5⟩ : ∃ y : Int32, y = (nI n) + 1 := ⟨_, rfl⟩
            refine lv_iinc (v := v5) (lv' := [(5, .int v5), (6, .ref (g (300 + (10 * jb + n)))), (2, .null), (0, .ref (g 0)), (1, .int (nI jb)), (3, .ref (g (210 + jb))), (4, .int 10)]) hx hb dX4_least_58 hl (k := 2) rfl (by rw [ev5]; rfl) (by decide) rfl (fun ls hl => ?_)
            refine lv_goto (tgt := 18) hx hb dX4_least_61 (by decide) ?_
            have e9 : v5 = nI (n + 1) := by rw [ev5]; exact nI_1 n
            rw [e9] at hl
            exact ih (n + 1) (by omega) 0 (by rw [show fU (stK x jb) 0 (n + 1) = (stK x jb) n (fU (stK x jb) 0 n) from rfl, ← hq]; unfold stK; try simp only [c3, c4, ↓reduceIte, and_self, and_true, true_and, false_and, and_false]) (by omega) H locs ls (lv_sub hl [2, 0, 3, 4, 5, 6] rfl) hH hS
          · skip
            refine wr_get (T := TX3) (N := 3) (ci := 5) (v := .ref (g (100 + ((x.1 7 (10 * jb + n)) - 1)))) hx hb hts hinX3 hown hK hH (lv_sl (show (10 * jb + n) < 10 * x.1 1 0 by omega) hn1) cel_sl rfl 1 (by decide) (hts (.fieldLink RX4 118 "SelectoRoute$Slot" "disc" "LSelectoRoute$Disc;") (by decide +kernel)) (fun _ h => h) (congrArg some (if_neg c4)) dX4_least_33 ?_
            refine lv_ifnull hx hb dX4_least_36 ?_
            refine lv_aload_nN hx hb dX4_least_39 rfl (lv_at hl 1 rfl) ?_
            refine lv_ifnullN (tgt := 55) hx hb dX4_least_40 (by decide) ?_
            refine lv_aload hx hb dX4_least_55 (lv_at hl 0 rfl) ?_
            refine lv_astore_n (lv' := [(2, .ref (g (300 + (10 * jb + n)))), (6, .ref (g (300 + (10 * jb + n)))), (5, .int (nI n)), (0, .ref (g 0)), (1, .int (nI jb)), (3, .ref (g (210 + jb))), (4, .int 10)]) hx hb dX4_least_57 rfl hl (by decide) rfl (fun ls hl => ?_)
            obtain ⟨v6, ev6⟩ : ∃ y : Int32, y = (nI n) + 1 := ⟨_, rfl⟩
            refine lv_iinc (v := v6) (lv' := [(5, .int v6), (2, .ref (g (300 + (10 * jb + n)))), (6, .ref (g (300 + (10 * jb + n)))), (0, .ref (g 0)), (1, .int (nI jb)), (3, .ref (g (210 + jb))), (4, .int 10)]) hx hb dX4_least_58 hl (k := 2) rfl (by rw [ev6]; rfl) (by decide) rfl (fun ls hl => ?_)
            refine lv_goto (tgt := 18) hx hb dX4_least_61 (by decide) ?_
            have e9 : v6 = nI (n + 1) := by rw [ev6]; exact nI_1 n
            rw [e9] at hl
            exact ih (n + 1) (by omega) (n + 1) (by rw [show fU (stK x jb) 0 (n + 1) = (stK x jb) n (fU (stK x jb) 0 n) from rfl, ← hq]; unfold stK; try simp only [c3, c4, ↓reduceIte, and_self, and_true, true_and, false_and, and_false]) (by omega) H locs ls (lv_sub hl [1, 0, 3, 4, 5, 6] rfl) hH hS
        · skip
          rw [if_neg c3] at hl
          refine lv_iload hx hb dX4_least_18 (lv_at hl 1 rfl) ?_
          refine lv_iload hx hb dX4_least_20 (lv_at hl 5 rfl) ?_
          refine lv_icmp_ge (tgt := 64) hx hb dX4_least_22 (by decide) (fun hq => absurd ((nI_leI (a := 10) (b := n) (by omega) (by omega)).mp hq) (Nat.not_le.mpr hlt)) (fun _ => ?_)
          refine lv_aload_n hx hb dX4_least_25 rfl (lv_at hl 4 rfl) ?_
          refine lv_iload hx hb dX4_least_26 (lv_at hl 1 rfl) ?_
          refine wr_aldq (v := .ref (g (300 + (10 * jb + n)))) hx hb hK hH (lv_sa (show jb < x.1 1 0 by omega) hn1) (cel_sa (by omega)) 2 rfl (vp_in_nI (n := n) (N := 10) (by omega) (by decide)) (by rw [nI_clamp (n := n) (by omega)]; show Value.ref (g (300 + 10 * jb + n)) = _; rw [Nat.add_assoc]) dX4_least_28 ?_
          refine lv_astore (lv' := [(6, .ref (g (300 + (10 * jb + n)))), (2, .ref (g (300 + (10 * jb + (q - 1))))), (5, .int (nI n)), (0, .ref (g 0)), (1, .int (nI jb)), (3, .ref (g (210 + jb))), (4, .int 10)]) hx hb dX4_least_29 hl (by decide) rfl (fun ls hl => ?_)
          refine lv_aload hx hb dX4_least_31 (lv_at hl 0 rfl) ?_
          have q7 := hc7 (10 * jb + n)
          by_cases c7 : (x.1 7 (10 * jb + n)) = 0
          · skip
            refine wr_get (T := TX3) (N := 3) (ci := 5) (v := .null) hx hb hts hinX3 hown hK hH (lv_sl (show (10 * jb + n) < 10 * x.1 1 0 by omega) hn1) cel_sl rfl 1 (by decide) (hts (.fieldLink RX4 118 "SelectoRoute$Slot" "disc" "LSelectoRoute$Disc;") (by decide +kernel)) (fun _ h => h) (congrArg some (if_pos c7)) dX4_least_33 ?_
            refine lv_ifnullN (tgt := 58) hx hb dX4_least_36 (by decide) ?_
            obtain ⟨v8, ev8⟩ : ∃ y : Int32, y = (nI n) + 1 := ⟨_, rfl⟩
            refine lv_iinc (v := v8) (lv' := [(5, .int v8), (6, .ref (g (300 + (10 * jb + n)))), (2, .ref (g (300 + (10 * jb + (q - 1))))), (0, .ref (g 0)), (1, .int (nI jb)), (3, .ref (g (210 + jb))), (4, .int 10)]) hx hb dX4_least_58 hl (k := 2) rfl (by rw [ev8]; rfl) (by decide) rfl (fun ls hl => ?_)
            refine lv_goto (tgt := 18) hx hb dX4_least_61 (by decide) ?_
            have e9 : v8 = nI (n + 1) := by rw [ev8]; exact nI_1 n
            rw [e9] at hl
            rw [← (if_neg c3 : (if q = 0 then Value.null else .ref (g (300 + (10 * jb + (q - 1))))) = .ref (g (300 + (10 * jb + (q - 1)))))] at hl
            exact ih (n + 1) (by omega) q (by rw [show fU (stK x jb) 0 (n + 1) = (stK x jb) n (fU (stK x jb) 0 n) from rfl, ← hq]; unfold stK; try simp only [c3, c7, ↓reduceIte, and_self, and_true, true_and, false_and, and_false]) (by omega) H locs ls (lv_sub hl [2, 0, 3, 4, 5, 6] rfl) hH hS
          · skip
            refine wr_get (T := TX3) (N := 3) (ci := 5) (v := .ref (g (100 + ((x.1 7 (10 * jb + n)) - 1)))) hx hb hts hinX3 hown hK hH (lv_sl (show (10 * jb + n) < 10 * x.1 1 0 by omega) hn1) cel_sl rfl 1 (by decide) (hts (.fieldLink RX4 118 "SelectoRoute$Slot" "disc" "LSelectoRoute$Disc;") (by decide +kernel)) (fun _ h => h) (congrArg some (if_neg c7)) dX4_least_33 ?_
            refine lv_ifnull hx hb dX4_least_36 ?_
            refine lv_aload_n hx hb dX4_least_39 rfl (lv_at hl 1 rfl) ?_
            refine lv_ifnull hx hb dX4_least_40 ?_
            refine lv_aload hx hb dX4_least_43 (lv_at hl 0 rfl) ?_
            refine wr_get (T := TX3) (N := 3) (ci := 5) (v := .int (x.2 14 (10 * jb + n))) hx hb hts hinX3 hown hK hH (lv_sl (show (10 * jb + n) < 10 * x.1 1 0 by omega) hn1) cel_sl rfl 2 (by decide) (hts (.fieldLink RX4 147 "SelectoRoute$Slot" "wheel" "I") (by decide +kernel)) (fun _ h => h) rfl dX4_least_45 ?_
            refine lv_aload_n hx hb dX4_least_48 rfl (lv_at hl 1 rfl) ?_
            refine wr_get (T := TX3) (N := 3) (ci := 5) (v := .int (x.2 14 (10 * jb + (q - 1)))) hx hb hts hinX3 hown hK hH (lv_sl (show (10 * jb + (q - 1)) < 10 * x.1 1 0 by omega) hn1) cel_sl rfl 2 (by decide) (hts (.fieldLink RX4 147 "SelectoRoute$Slot" "wheel" "I") (by decide +kernel)) (fun _ h => h) rfl dX4_least_49 ?_
            refine lv_icmp_ge (tgt := 58) hx hb dX4_least_52 (by decide) (fun c9 => ?_) (fun c9 => ?_)
            · skip
              obtain ⟨v10, ev10⟩ : ∃ y : Int32, y = (nI n) + 1 := ⟨_, rfl⟩
              refine lv_iinc (v := v10) (lv' := [(5, .int v10), (6, .ref (g (300 + (10 * jb + n)))), (2, .ref (g (300 + (10 * jb + (q - 1))))), (0, .ref (g 0)), (1, .int (nI jb)), (3, .ref (g (210 + jb))), (4, .int 10)]) hx hb dX4_least_58 hl (k := 2) rfl (by rw [ev10]; rfl) (by decide) rfl (fun ls hl => ?_)
              refine lv_goto (tgt := 18) hx hb dX4_least_61 (by decide) ?_
              have e9 : v10 = nI (n + 1) := by rw [ev10]; exact nI_1 n
              rw [e9] at hl
              rw [← (if_neg c3 : (if q = 0 then Value.null else .ref (g (300 + (10 * jb + (q - 1))))) = .ref (g (300 + (10 * jb + (q - 1)))))] at hl
              exact ih (n + 1) (by omega) q (by rw [show fU (stK x jb) 0 (n + 1) = (stK x jb) n (fU (stK x jb) 0 n) from rfl, ← hq]; unfold stK; try simp only [c3, c7, c9, ↓reduceIte, and_self, and_true, true_and, false_and, and_false]) (by omega) H locs ls (lv_sub hl [2, 0, 3, 4, 5, 6] rfl) hH hS
            · skip
              refine lv_aload hx hb dX4_least_55 (lv_at hl 0 rfl) ?_
              refine lv_astore_n (lv' := [(2, .ref (g (300 + (10 * jb + n)))), (6, .ref (g (300 + (10 * jb + n)))), (5, .int (nI n)), (0, .ref (g 0)), (1, .int (nI jb)), (3, .ref (g (210 + jb))), (4, .int 10)]) hx hb dX4_least_57 rfl hl (by decide) rfl (fun ls hl => ?_)
              obtain ⟨v11, ev11⟩ : ∃ y : Int32, y = (nI n) + 1 := ⟨_, rfl⟩
              refine lv_iinc (v := v11) (lv' := [(5, .int v11), (2, .ref (g (300 + (10 * jb + n)))), (6, .ref (g (300 + (10 * jb + n)))), (0, .ref (g 0)), (1, .int (nI jb)), (3, .ref (g (210 + jb))), (4, .int 10)]) hx hb dX4_least_58 hl (k := 2) rfl (by rw [ev11]; rfl) (by decide) rfl (fun ls hl => ?_)
              refine lv_goto (tgt := 18) hx hb dX4_least_61 (by decide) ?_
              have e9 : v11 = nI (n + 1) := by rw [ev11]; exact nI_1 n
              rw [e9] at hl
              exact ih (n + 1) (by omega) (n + 1) (by rw [show fU (stK x jb) 0 (n + 1) = (stK x jb) n (fU (stK x jb) 0 n) from rfl, ← hq]; unfold stK; try simp only [c3, c7, c9, ↓reduceIte, and_self, and_true, true_and, false_and, and_false]) (by omega) H locs ls (lv_sub hl [1, 0, 3, 4, 5, 6] rfl) hH hS
    exact loop 10 0 (by omega) 0 rfl (by omega) H _ ls (lv_sub hl [3, 0, 4, 5, 2, 1] rfl) hH hS
def cp_ask (x : St) (b : Int32) (v : Int32) : Option String × Int32 × St := if inB b (x.1 1 0) = true then (if v < 0 then (some "java/lang/IllegalArgumentException", 0, x) else (if (ix v) < 100 then (if (x.2 (100 + (ix b)) (ix v)) < 99 then (none, ((x.2 (100 + (ix b)) (ix v)) + 1), (uI x (100 + (ix b)) (ix v) ((x.2 (100 + (ix b)) (ix v)) + 1))) else (some "java/lang/IllegalStateException", 0, x)) else (some "java/lang/IllegalArgumentException", 0, x))) else (some "java/lang/IndexOutOfBoundsException", 0, x)
set_option maxHeartbeats 4000000 in
set_option maxRecDepth 100000 in
theorem met_X4_ask (l : Launch) (E : wE) (o : wO) (g : Nat → Nat) (x y : St) (b : Int32) (v : Int32) (hlt : l.stackTraces = false) (hI : CI x) : vx_Met l yX4_ask wsX4_ask ({ frames := 10, cells := 4, slots := 24, locals := 1100 } : Room) (va_Pc [.ref (g 0), .int b, .int v] (wPreX E o g x y)) (va_Qi (fun (r : Int32) (_ : Unit) => (cp_ask x b v).1 = none ∧ r = (cp_ask x b v).2.1) (fun (_ : Unit) t => wHS E o g (cp_ask x b v).2.2 y t.heap) (wA E)) (wXC E o g x y (fun X => (cp_ask x b v).1 = some X)) 4 24 (wA E) := by
  refine vx_ofW (cc := cX4_ask) (maxL := 4) (ret := (some .int)) (by decide) rfl ?_
  intro p e s m args below meth c s₁ B hml hnt hv
  obtain ⟨rfl, ⟨hz, hH, hK⟩, hC⟩ := hv
  have hx := B.exec
  have hb := B.bytes
  have hr := B.returns
  have hts := atoms_spec (ws := wsX4_ask) B.pre
  have hown : s.vm.findClass RX4 = some m.cls := findClass_of_methodNamed B.named
  have hlocks := B.notSynchronized
  have hS : va_S (wA E) s.heap s.heap [] := va_S.rf
  have hinX0 : ∀ w ∈ wsX00, w ∈ wsX4_ask := fun w h => List.mem_cons_of_mem _ (List.mem_append_left _ (List.mem_append_left _ (List.mem_append_left _ (List.mem_append_left _ (List.mem_append_left _ (List.mem_append_left _ (List.mem_append_right _ h)))))))
  have hinX4 : ∀ w ∈ wsX40, w ∈ wsX4_ask := fun w h => List.mem_cons_of_mem _ (List.mem_append_left _ (List.mem_append_left _ (List.mem_append_left _ (List.mem_append_left _ (List.mem_append_left _ (List.mem_append_right _ h))))))
  have hinJx4a65c : ∀ w ∈ wsJx4a65c0, w ∈ wsX4_ask := fun w h => List.mem_cons_of_mem _ (List.mem_append_left _ (List.mem_append_left _ (List.mem_append_left _ (List.mem_append_left _ (List.mem_append_right _ h)))))
  have hl := lv_entry ([.ref (g 0), .int b, .int v]) (n := 4) (Nat.le_of_ble_eq_true rfl)
  rw [lg_entry_eq]
  generalize (lg_sl ([.ref (g 0), .int b, .int v]) ++ List.replicate (4 - (lg_sl ([.ref (g 0), .int b, .int v])).length) Slot.unset).toArray = ls at hl ⊢
  have hl : lv_has ls 4 [(0, .ref (g 0)), (1, .int b), (2, .int v)] := hl
  obtain ⟨H, eH⟩ : ∃ z, z = s.heap := ⟨_, rfl⟩
  have hH : wHS E o g x y H := by rw [eH]; exact hH
  have hS : va_S (wA E) s.heap H [] := by rw [eH]; exact hS
  refine W.heapTo eH ?_
  obtain ⟨hn0, hn1, hn2, hn3, hn4, hn5, hc7, hc8, hc5, hc54, hc4, hc50, hc9, hc12, hc10, hcj⟩ := id hI
  refine lv_aload_n hx hb dX4_ask_0 rfl (lv_at hl 0 rfl) ?_
  refine lv_iload_n hx hb dX4_ask_1 rfl (lv_at hl 1 rfl) ?_
  refine wx_callr (vx_runV (As := [.int b]) (rest := []) ⟨hx, hb, hml, hown, hts⟩ (met_X4_requireBox l E o g x y b hlt hI) (cwV 1 hts gX4_ask_X4_requireBox rfl rfl rfl (by decide +kernel) ⟨Nat.le_of_ble_eq_true rfl, Nat.le_of_ble_eq_true rfl⟩) ⟨fun a U f mk q => ⟨q.1, wPreX.calling q.2 a f mk⟩, (va_recv hK (wH_one hH lv_r0 (cel_rt (by omega))) (ci := 6) (q0 := 0) rfl rfl), fun U hU hW => ⟨rfl, wPreX_at hz hS hH hK hC U hU hW⟩⟩ rfl rfl hl.1 rfl (lv_room (Nat.le_of_ble_eq_true rfl)) dX4_ask_2 ⟨Nat.le_of_ble_eq_true rfl, Nat.le_of_ble_eq_true rfl⟩) hS (fun q _ h => h) (fun q h => h) (fun q _ h => h) (fun E9 ce q9 u t H locs ht hvm hw hB hz1 hk1 hS hce hcv hcl => ?_) (fun u ra t H locs ht hvm hw hB hz1 hk1 hS => ?_)
  · obtain ⟨⟨rfl, c1⟩, hB⟩ := hB
    have hH := wHS_h ht hB
    have hsp : cp_ask x b v = (some "java/lang/IndexOutOfBoundsException", 0, x) := by
      unfold cp_ask
      first | (simp only [(Bool.eq_false_iff.mp c1), ↓reduceIte, and_self, and_true, true_and, Bool.false_eq_true, reduceCtorEq, eq_self, false_and, and_false]; done) | (simp [(Bool.eq_false_iff.mp c1), ↓reduceIte, and_self, and_true, true_and, Bool.false_eq_true, reduceCtorEq, eq_self, false_and, and_false]; done) | simp only [(Bool.eq_false_iff.mp c1), ↓reduceIte, and_self, and_true, true_and, Bool.false_eq_true, reduceCtorEq, eq_self, false_and, and_false]
    exact vx_out (fun x h => (hnt x h).elim) hlocks hce hcv hcl (wX_on hS hH (by rw [hsp])) hS.2.2 (by omega) (by omega)
  · have c1 : inB b (x.1 1 0) = true := hw
    obtain ⟨jb, hjb, rfl⟩ := inB_t c1 (by omega)
    obtain ⟨rfl, hB⟩ := hB
    have hH := wHS_h ht hB
    rw [ix_nI (show jb < 2 ^ 31 by omega)]
    refine wr_get (T := TX0) (N := 15) (ci := 3) (v := .ref (g (240 + jb))) hx hb hts hinX0 hown hK hH (lv_bx (show jb < x.1 1 0 by omega) hn1) (cel_bx (by omega)) rfl 5 (by decide) (hts (.fieldLink RX4 233 "SelectoRoute$Box" "asked" "[I") (by decide +kernel)) (fun _ h => h) rfl dX4_ask_5 ?_
    refine lv_astore_n (lv' := [(3, .ref (g (240 + jb))), (0, .ref (g 0)), (1, .int (nI jb)), (2, .int v)]) hx hb dX4_ask_8 rfl hl (by decide) rfl (fun ls hl => ?_)
    refine lv_iload_n hx hb dX4_ask_9 rfl (lv_at hl 3 rfl) ?_
    refine lv_if_lt (tgt := 19) hx hb dX4_ask_10 (by decide) (fun c2 => ?_) (fun c2 => ?_)
    · skip
      have hsp : cp_ask x (nI jb) v = (some "java/lang/IllegalArgumentException", 0, x) := by
        unfold cp_ask
        first | (simp only [c1, c2, inB_nI hjb (by omega), ix_nI (show jb < 2 ^ 31 by omega), ↓reduceIte, and_self, and_true, true_and, Bool.false_eq_true, reduceCtorEq, eq_self, false_and, and_false]; done) | (simp [c1, c2, inB_nI hjb (by omega), ix_nI (show jb < 2 ^ 31 by omega), ↓reduceIte, and_self, and_true, true_and, Bool.false_eq_true, reduceCtorEq, eq_self, false_and, and_false]; done) | simp only [c1, c2, inB_nI hjb (by omega), ix_nI (show jb < 2 ^ 31 by omega), ↓reduceIte, and_self, and_true, true_and, Bool.false_eq_true, reduceCtorEq, eq_self, false_and, and_false]
      obtain ⟨sa, hsa⟩ := hC.2.2.1 (236, "no such song") (by decide +kernel)
      exact vx_throwS (A := wA E) (names := ["java/lang/RuntimeException", "java/lang/Exception"]) hx hb hlt hown (by decide +kernel) (by decide +kernel) (hts (.classLink RX4 37 "java/lang/IllegalArgumentException") (by decide +kernel)) (hts (.initialized "java/lang/IllegalArgumentException") (by decide +kernel)) hsa (hat_xA hts (fun w h => List.mem_cons_of_mem _ (List.mem_append_left _ (List.mem_append_left _ (List.mem_append_left _ (List.mem_append_right _ h))))) hC) (by decide +kernel) hC.1 hC.2.1 (by rw [← eH] at *; exact hS) (hl.1.trans hml.symm) dX4_ask_19 dX4_ask_22 dX4_ask_23 dX4_ask_25 dX4_ask_28 (fun x h => (hnt x h).elim) (Nat.lt_of_lt_of_le (by decide : 2 + 3 < 6) (Nat.le_of_ble_eq_true rfl)) (Nat.le_of_ble_eq_true rfl) (Nat.le_of_ble_eq_true rfl) (Nat.le_of_ble_eq_true rfl) hlocks (wX_of hS hH (by rw [hsp])) hS.2.2 (by omega) (by omega)
    · skip
      obtain ⟨jv, hjv, rfl⟩ := nI_of c2
      refine lv_iload_n hx hb dX4_ask_13 rfl (lv_at hl 3 rfl) ?_
      refine lv_aload_n hx hb dX4_ask_14 rfl (lv_at hl 0 rfl) ?_
      refine wr_alen (v := 100) hx hb hK hH (lv_as (show jb < x.1 1 0 by omega) hn1) (cel_as (by omega)) 0 rfl rfl dX4_ask_15 ?_
      refine lv_icmp_lt (tgt := 29) hx hb dX4_ask_16 (by decide) (fun c3 => ?_) (fun c3 => ?_)
      · have c3 := (nI_ltI (a := jv) (b := 100) (by omega) (by omega)).mp c3
        refine lv_aload_n hx hb dX4_ask_29 rfl (lv_at hl 0 rfl) ?_
        refine lv_iload_n hx hb dX4_ask_30 rfl (lv_at hl 3 rfl) ?_
        refine wr_iald (v := (x.2 (100 + jb) jv)) hx hb hK hH (lv_as (show jb < x.1 1 0 by omega) hn1) (cel_as (by omega)) 0 rfl (vp_in_nI (n := jv) (N := 100) (by omega) (by decide)) (by rw [(nI_clamp (n := jv) (by omega))]; try rfl) dX4_ask_31 ?_
        refine lv_bipush (v := 99) hx hb dX4_ask_32 (by decide) ?_
        refine lv_icmp_lt (tgt := 47) hx hb dX4_ask_34 (by decide) (fun c4 => ?_) (fun c4 => ?_)
        · skip
          refine lv_aload_n hx hb dX4_ask_47 rfl (lv_at hl 0 rfl) ?_
          refine lv_iload_n hx hb dX4_ask_48 rfl (lv_at hl 3 rfl) ?_
          refine lv_dup2_11 hx hb dX4_ask_49 rfl rfl ?_
          refine wr_iald (v := (x.2 (100 + jb) jv)) hx hb hK hH (lv_as (show jb < x.1 1 0 by omega) hn1) (cel_as (by omega)) 0 rfl (vp_in_nI (n := jv) (N := 100) (by omega) (by decide)) (by rw [(nI_clamp (n := jv) (by omega))]; try rfl) dX4_ask_50 ?_
          refine lv_iconst (v := 1) hx hb dX4_ask_51 (by decide) ?_
          refine lv_iadd hx hb dX4_ask_52 ?_
          refine lv_topi (fun v5 ev5 => ?_)
          refine wr_iast hx hb hK hH hS (lv_as (show jb < x.1 1 0 by omega) hn1) (cel_as (by omega)) 0 rfl (vp_in_nI (n := jv) (N := 100) (by omega) (by decide)) dX4_ask_53 (fun H locs hH hS => ?_)
          have hH : wHS E o g (uI x (100 + jb) jv v5) y H := pa_as1 (v := v5) (nI_clamp (n := jv) (by omega)) (by omega) hH
          refine lv_aload_n hx hb dX4_ask_54 rfl (lv_at hl 0 rfl) ?_
          refine lv_iload_n hx hb dX4_ask_55 rfl (lv_at hl 3 rfl) ?_
          refine wr_iald (v := v5) hx hb hK hH (lv_as (show jb < x.1 1 0 by omega) hn1) (cel_as (by omega)) 0 rfl (vp_in_nI (n := jv) (N := 100) (by omega) (by decide)) (by rw [(nI_clamp (n := jv) (by omega))]; try simp [uI, uN, va_up]) dX4_ask_56 ?_
          subst ev5
          have hsp : cp_ask x (nI jb) (nI jv) = (none, ((x.2 (100 + jb) jv) + 1), (uI x (100 + jb) jv ((x.2 (100 + jb) jv) + 1))) := by
            unfold cp_ask
            first | (simp only [c1, c2, c3, c4, inB_nI hjb (by omega), ix_nI (show jb < 2 ^ 31 by omega), ix_nI (show jv < 2 ^ 31 by omega), ↓reduceIte, and_self, and_true, true_and, Bool.false_eq_true, reduceCtorEq, eq_self, false_and, and_false]; done) | (simp [c1, c2, c3, c4, inB_nI hjb (by omega), ix_nI (show jb < 2 ^ 31 by omega), ix_nI (show jv < 2 ^ 31 by omega), ↓reduceIte, and_self, and_true, true_and, Bool.false_eq_true, reduceCtorEq, eq_self, false_and, and_false]; done) | simp only [c1, c2, c3, c4, inB_nI hjb (by omega), ix_nI (show jb < 2 ^ 31 by omega), ix_nI (show jv < 2 ^ 31 by omega), ↓reduceIte, and_self, and_true, true_and, Bool.false_eq_true, reduceCtorEq, eq_self, false_and, and_false]
          refine vx_ret ?_
          refine W.widen (k := 4) (n := 24) (by omega) (by omega) ?_
          exact W.iret (v := ((x.2 (100 + jb) jv) + 1)) hx hb hr (fun t ht hW => ⟨⟨((x.2 (100 + jb) jv) + 1), (), rfl, (by rw [hsp]; exact ⟨rfl, rfl⟩), wHS_t ht (by rw [hsp]; exact hH)⟩, hS.F ht⟩) hS.2.2 dX4_ask_57
        · skip
          have hsp : cp_ask x (nI jb) (nI jv) = (some "java/lang/IllegalStateException", 0, x) := by
            unfold cp_ask
            first | (simp only [c1, c2, c3, c4, inB_nI hjb (by omega), ix_nI (show jb < 2 ^ 31 by omega), ix_nI (show jv < 2 ^ 31 by omega), ↓reduceIte, and_self, and_true, true_and, Bool.false_eq_true, reduceCtorEq, eq_self, false_and, and_false]; done) | (simp [c1, c2, c3, c4, inB_nI hjb (by omega), ix_nI (show jb < 2 ^ 31 by omega), ix_nI (show jv < 2 ^ 31 by omega), ↓reduceIte, and_self, and_true, true_and, Bool.false_eq_true, reduceCtorEq, eq_self, false_and, and_false]; done) | simp only [c1, c2, c3, c4, inB_nI hjb (by omega), ix_nI (show jb < 2 ^ 31 by omega), ix_nI (show jv < 2 ^ 31 by omega), ↓reduceIte, and_self, and_true, true_and, Bool.false_eq_true, reduceCtorEq, eq_self, false_and, and_false]
          obtain ⟨sa, hsa⟩ := hC.2.2.1 (238, "asked for too often") (by decide +kernel)
          exact vx_throwS (A := wA E) (names := ["java/lang/RuntimeException", "java/lang/Exception"]) hx hb hlt hown (by decide +kernel) (by decide +kernel) (hts (.classLink RX4 48 "java/lang/IllegalStateException") (by decide +kernel)) (hts (.initialized "java/lang/IllegalStateException") (by decide +kernel)) hsa (hat_xS hts (fun w h => List.mem_cons_of_mem _ (List.mem_append_left _ (List.mem_append_right _ h))) hC) (by decide +kernel) hC.1 hC.2.1 (by rw [← eH] at *; exact hS) (hl.1.trans hml.symm) dX4_ask_37 dX4_ask_40 dX4_ask_41 dX4_ask_43 dX4_ask_46 (fun x h => (hnt x h).elim) (Nat.lt_of_lt_of_le (by decide : 2 + 3 < 6) (Nat.le_of_ble_eq_true rfl)) (Nat.le_of_ble_eq_true rfl) (Nat.le_of_ble_eq_true rfl) (Nat.le_of_ble_eq_true rfl) hlocks (wX_of hS hH (by rw [hsp])) hS.2.2 (by omega) (by omega)
      · have c3 : ¬ (jv < 100) := fun hq => c3 ((nI_ltI (a := jv) (b := 100) (by omega) (by omega)).mpr hq)
        have hsp : cp_ask x (nI jb) (nI jv) = (some "java/lang/IllegalArgumentException", 0, x) := by
          unfold cp_ask
          first | (simp only [c1, c2, c3, inB_nI hjb (by omega), ix_nI (show jb < 2 ^ 31 by omega), ix_nI (show jv < 2 ^ 31 by omega), ↓reduceIte, and_self, and_true, true_and, Bool.false_eq_true, reduceCtorEq, eq_self, false_and, and_false]; done) | (simp [c1, c2, c3, inB_nI hjb (by omega), ix_nI (show jb < 2 ^ 31 by omega), ix_nI (show jv < 2 ^ 31 by omega), ↓reduceIte, and_self, and_true, true_and, Bool.false_eq_true, reduceCtorEq, eq_self, false_and, and_false]; done) | simp only [c1, c2, c3, inB_nI hjb (by omega), ix_nI (show jb < 2 ^ 31 by omega), ix_nI (show jv < 2 ^ 31 by omega), ↓reduceIte, and_self, and_true, true_and, Bool.false_eq_true, reduceCtorEq, eq_self, false_and, and_false]
        obtain ⟨sa, hsa⟩ := hC.2.2.1 (236, "no such song") (by decide +kernel)
        exact vx_throwS (A := wA E) (names := ["java/lang/RuntimeException", "java/lang/Exception"]) hx hb hlt hown (by decide +kernel) (by decide +kernel) (hts (.classLink RX4 37 "java/lang/IllegalArgumentException") (by decide +kernel)) (hts (.initialized "java/lang/IllegalArgumentException") (by decide +kernel)) hsa (hat_xA hts (fun w h => List.mem_cons_of_mem _ (List.mem_append_left _ (List.mem_append_left _ (List.mem_append_left _ (List.mem_append_right _ h))))) hC) (by decide +kernel) hC.1 hC.2.1 (by rw [← eH] at *; exact hS) (hl.1.trans hml.symm) dX4_ask_19 dX4_ask_22 dX4_ask_23 dX4_ask_25 dX4_ask_28 (fun x h => (hnt x h).elim) (Nat.lt_of_lt_of_le (by decide : 2 + 3 < 6) (Nat.le_of_ble_eq_true rfl)) (Nat.le_of_ble_eq_true rfl) (Nat.le_of_ble_eq_true rfl) (Nat.le_of_ble_eq_true rfl) hlocks (wX_of hS hH (by rw [hsp])) hS.2.2 (by omega) (by omega)
def cp_checksum (x : St)  : Option String × Int64 × St := (none, ((31 * ((31 * (fU (stD x) (fU (stC x) 7 (x.1 0 0)) (x.1 1 0))) + ((x.2 18 0).toInt64))) + ((x.2 16 0).toInt64)), x)
set_option maxHeartbeats 4000000 in
set_option maxRecDepth 100000 in
theorem met_X4_checksum (l : Launch) (E : wE) (o : wO) (g : Nat → Nat) (x y : St) (hlt : l.stackTraces = false) (hI : CI x) : vx_Met l yX4_checksum wsX4_checksum ({ frames := 10, cells := 4, slots := 24, locals := 1100 } : Room) (va_Pc [.ref (g 0)] (wPreX E o g x y)) (va_Ql (fun (r : Int64) (_ : Unit) => (cp_checksum x ).1 = none ∧ r = (cp_checksum x ).2.1) (fun (_ : Unit) t => wHS E o g (cp_checksum x ).2.2 y t.heap) (wA E)) (wXC E o g x y (fun X => (cp_checksum x ).1 = some X)) 4 24 (wA E) := by
  refine vx_ofW (cc := cX4_checksum) (maxL := 5) (ret := (some .long)) (by decide) rfl ?_
  intro p e s m args below meth c s₁ B hml hnt hv
  obtain ⟨rfl, ⟨hz, hH, hK⟩, hC⟩ := hv
  have hx := B.exec
  have hb := B.bytes
  have hr := B.returns
  have hts := atoms_spec (ws := wsX4_checksum) B.pre
  have hown : s.vm.findClass RX4 = some m.cls := findClass_of_methodNamed B.named
  have hlocks := B.notSynchronized
  have hS : va_S (wA E) s.heap s.heap [] := va_S.rf
  have hinX4 : ∀ w ∈ wsX40, w ∈ wsX4_checksum := fun w h => List.mem_cons_of_mem _ (List.mem_append_left _ (List.mem_append_left _ (List.mem_append_left _ (List.mem_append_right _ h))))
  have hinX2 : ∀ w ∈ wsX20, w ∈ wsX4_checksum := fun w h => List.mem_cons_of_mem _ (List.mem_append_left _ (List.mem_append_left _ (List.mem_append_right _ h)))
  have hinX0 : ∀ w ∈ wsX00, w ∈ wsX4_checksum := fun w h => List.mem_cons_of_mem _ (List.mem_append_left _ (List.mem_append_right _ h))
  have hinJx4a65c : ∀ w ∈ wsJx4a65c0, w ∈ wsX4_checksum := fun w h => List.mem_cons_of_mem _ (List.mem_append_right _ h)
  have hl := lv_entry ([.ref (g 0)]) (n := 5) (Nat.le_of_ble_eq_true rfl)
  rw [lg_entry_eq]
  generalize (lg_sl ([.ref (g 0)]) ++ List.replicate (5 - (lg_sl ([.ref (g 0)])).length) Slot.unset).toArray = ls at hl ⊢
  have hl : lv_has ls 5 [(0, .ref (g 0))] := hl
  obtain ⟨H, eH⟩ : ∃ z, z = s.heap := ⟨_, rfl⟩
  have hH : wHS E o g x y H := by rw [eH]; exact hH
  have hS : va_S (wA E) s.heap H [] := by rw [eH]; exact hS
  refine W.heapTo eH ?_
  obtain ⟨hn0, hn1, hn2, hn3, hn4, hn5, hc7, hc8, hc5, hc54, hc4, hc50, hc9, hc12, hc10, hcj⟩ := id hI
  refine W.nameQ (fun Q eQ => ?_)
  refine lv_ldc2 hx hb hown (hts (.constantLong RX4 269 (7)) (by decide +kernel)) dX4_checksum_0 ?_
  refine lv_lstore_n (lv' := [(1, .long 7), (0, .ref (g 0))]) hx hb dX4_checksum_3 rfl hl (by decide) rfl (fun ls hl => ?_)
  refine lv_iconst (v := 0) hx hb dX4_checksum_4 (by decide) ?_
  refine lv_istore_n (lv' := [(3, .int 0), (1, .long 7), (0, .ref (g 0))]) hx hb dX4_checksum_5 rfl hl (by decide) rfl (fun ls hl => ?_)
  have loop : ∀ (k n : Nat), n + k = (x.1 0 0) → ∀ (q : Int64), q = fU (stC x) 7 n → True → ∀ (H : Heap) (locs : List Loc) (ls : Array Slot), lv_has ls 5 [(1, .long q), (3, .int (nI n)), (0, .ref (g 0))] → wHS E o g x y H → va_S (wA E) s.heap H locs → W p l e ({ frames := 10, cells := 4, slots := 24, locals := 1100 } : Room) s m #[.ref (g 0)] below meth c H locs 0 0 Q (F0 m 6 ls []) := by
    intro k
    induction k with
    | zero =>
      intro n hn q hq hqb H locs ls hl hH hS
      obtain rfl : n = (x.1 0 0) := by omega
      subst hq
      have hl : lv_has ls 5 [(1, .long (fU (stC x) 7 (x.1 0 0))), (3, .int (nI (x.1 0 0))), (0, .ref (g 0))] := hl
      refine lv_iload_n hx hb dX4_checksum_6 rfl (lv_at hl 1 rfl) ?_
      refine lv_aload_n hx hb dX4_checksum_7 rfl (lv_at hl 2 rfl) ?_
      refine wr_get (T := TX4) (N := 9) (ci := 6) (v := .ref (g 1)) hx hb hts hinX4 hown hK hH lv_r0 (cel_rt (by omega)) rfl 0 (by decide) (hts (.fieldLink RX4 10 "SelectoRoute" "discs" "Ljava/util/ArrayList;") (by decide +kernel)) (fun _ h => h) rfl dX4_checksum_8 ?_
      refine va_calli (va_runV (As := []) (rest := [.int (nI (x.1 0 0))]) ⟨hx, hb, hml, hown, hts⟩ (met_AL_size l E g (liv x.1) (cel E.2.1 g x y o.1 o.2) 1 2 (x.2 20 0) (x.1 2 0) (x.1 0 0) E.2.1.2 lv_r1 (cel_rt (by omega))) (cwV 0 hts gX4_checksum_Jx4a65c_size_8abf5 rfl rfl rfl (by decide +kernel) ⟨Nat.le_of_ble_eq_true rfl, Nat.le_of_ble_eq_true rfl⟩) ⟨fun a U f mk q => ⟨q.1, wPreG.calling q.2 a f mk⟩, (va_recv hK (wH_one hH lv_r1 (cel_rt (by omega))) (ci := 2) (q0 := 0) rfl rfl), fun U hU hW => ⟨rfl, wPreG_at hz hS hH hK U hU hW⟩⟩ rfl rfl hl.1 rfl (lv_room (Nat.le_of_ble_eq_true rfl)) dX4_checksum_11 ⟨Nat.le_of_ble_eq_true rfl, Nat.le_of_ble_eq_true rfl⟩) hS (fun q _ h => h) (fun q h => h) (fun r u t H locs ht hvm hw hB hz1 hk1 hS => ?_)
      obtain rfl := hw
      have hH : wHS E o g x y H := wG_h ht hB
      refine lv_icmp_ge (tgt := 45) hx hb dX4_checksum_14 (by decide) (fun _ => ?_) (fun hq => absurd ((nI_leI (a := (x.1 0 0)) (b := (x.1 0 0)) (by omega) (by omega)).mpr (Nat.le_refl _)) hq)
      refine lv_iconst (v := 0) hx hb dX4_checksum_45 (by decide) ?_
      refine lv_istore_n (lv' := [(3, .int 0), (1, .long (fU (stC x) 7 (x.1 0 0))), (0, .ref (g 0))]) hx hb dX4_checksum_46 rfl hl (by decide) rfl (fun ls hl => ?_)
      have loop : ∀ (k n : Nat), n + k = (x.1 1 0) → ∀ (q : Int64), q = fU (stD x) (fU (stC x) 7 (x.1 0 0)) n → True → ∀ (H : Heap) (locs : List Loc) (ls : Array Slot), lv_has ls 5 [(1, .long q), (3, .int (nI n)), (0, .ref (g 0))] → wHS E o g x y H → va_S (wA E) s.heap H locs → W p l e ({ frames := 10, cells := 4, slots := 24, locals := 1100 } : Room) s m #[.ref (g 0)] below meth c H locs 0 0 Q (F0 m 47 ls []) := by
        intro k
        induction k with
        | zero =>
          intro n hn q hq hqb H locs ls hl hH hS
          obtain rfl : n = (x.1 1 0) := by omega
          subst hq
          have hl : lv_has ls 5 [(1, .long (fU (stD x) (fU (stC x) 7 (x.1 0 0)) (x.1 1 0))), (3, .int (nI (x.1 1 0))), (0, .ref (g 0))] := hl
          refine lv_iload_n hx hb dX4_checksum_47 rfl (lv_at hl 1 rfl) ?_
          refine lv_aload_n hx hb dX4_checksum_48 rfl (lv_at hl 2 rfl) ?_
          refine wr_get (T := TX4) (N := 9) (ci := 6) (v := .ref (g 3)) hx hb hts hinX4 hown hK hH lv_r0 (cel_rt (by omega)) rfl 1 (by decide) (hts (.fieldLink RX4 16 "SelectoRoute" "boxes" "Ljava/util/ArrayList;") (by decide +kernel)) (fun _ h => h) rfl dX4_checksum_49 ?_
          refine va_calli (va_runV (As := []) (rest := [.int (nI (x.1 1 0))]) ⟨hx, hb, hml, hown, hts⟩ (met_AL_size l E g (liv x.1) (cel E.2.1 g x y o.1 o.2) 3 4 (x.2 21 0) (x.1 3 0) (x.1 1 0) E.2.1.2 lv_r3 (cel_rt (by omega))) (cwV 0 hts gX4_checksum_Jx4a65c_size_8abf5 rfl rfl rfl (by decide +kernel) ⟨Nat.le_of_ble_eq_true rfl, Nat.le_of_ble_eq_true rfl⟩) ⟨fun a U f mk q => ⟨q.1, wPreG.calling q.2 a f mk⟩, (va_recv hK (wH_one hH lv_r3 (cel_rt (by omega))) (ci := 2) (q0 := 0) rfl rfl), fun U hU hW => ⟨rfl, wPreG_at hz hS hH hK U hU hW⟩⟩ rfl rfl hl.1 rfl (lv_room (Nat.le_of_ble_eq_true rfl)) dX4_checksum_52 ⟨Nat.le_of_ble_eq_true rfl, Nat.le_of_ble_eq_true rfl⟩) hS (fun q _ h => h) (fun q h => h) (fun r u t H locs ht hvm hw hB hz1 hk1 hS => ?_)
          obtain rfl := hw
          have hH : wHS E o g x y H := wG_h ht hB
          refine lv_icmp_ge (tgt := 116) hx hb dX4_checksum_55 (by decide) (fun _ => ?_) (fun hq => absurd ((nI_leI (a := (x.1 1 0)) (b := (x.1 1 0)) (by omega) (by omega)).mpr (Nat.le_refl _)) hq)
          refine lv_ldc2 hx hb hown (hts (.constantLong RX4 271 (31)) (by decide +kernel)) dX4_checksum_116 ?_
          refine lv_lload_n hx hb dX4_checksum_119 rfl (lv_at hl 0 rfl) ?_
          refine lv_lmul hx hb dX4_checksum_120 ?_
          refine lv_aload_n hx hb dX4_checksum_121 rfl (lv_at hl 2 rfl) ?_
          refine wr_get (T := TX4) (N := 9) (ci := 6) (v := .int (x.2 18 0)) hx hb hts hinX4 hown hK hH lv_r0 (cel_rt (by omega)) rfl 8 (by decide) (hts (.fieldLink RX4 211 "SelectoRoute" "earned" "I") (by decide +kernel)) (fun _ h => h) rfl dX4_checksum_122 ?_
          refine lv_i2l hx hb dX4_checksum_125 rfl ?_
          refine lv_ladd hx hb dX4_checksum_126 ?_
          refine lv_lstore_n (lv' := [(1, .long ((31 * (fU (stD x) (fU (stC x) 7 (x.1 0 0)) (x.1 1 0))) + ((x.2 18 0).toInt64))), (3, .int (nI (x.1 1 0))), (0, .ref (g 0))]) hx hb dX4_checksum_127 rfl hl (by decide) rfl (fun ls hl => ?_)
          refine lv_ldc2 hx hb hown (hts (.constantLong RX4 271 (31)) (by decide +kernel)) dX4_checksum_128 ?_
          refine lv_lload_n hx hb dX4_checksum_131 rfl (lv_at hl 0 rfl) ?_
          refine lv_lmul hx hb dX4_checksum_132 ?_
          refine lv_aload_n hx hb dX4_checksum_133 rfl (lv_at hl 2 rfl) ?_
          refine wr_get (T := TX4) (N := 9) (ci := 6) (v := .int (x.2 16 0)) hx hb hts hinX4 hown hK hH lv_r0 (cel_rt (by omega)) rfl 4 (by decide) (hts (.fieldLink RX4 26 "SelectoRoute" "z" "I") (by decide +kernel)) (fun _ h => h) rfl dX4_checksum_134 ?_
          refine lv_i2l hx hb dX4_checksum_137 rfl ?_
          refine lv_ladd hx hb dX4_checksum_138 ?_
          have hsp : cp_checksum x = (none, ((31 * ((31 * (fU (stD x) (fU (stC x) 7 (x.1 0 0)) (x.1 1 0))) + ((x.2 18 0).toInt64))) + ((x.2 16 0).toInt64)), x) := by
            unfold cp_checksum
            first | (simp only [↓reduceIte, and_self, and_true, true_and, Bool.false_eq_true, reduceCtorEq, eq_self, false_and, and_false]; done) | (simp [↓reduceIte, and_self, and_true, true_and, Bool.false_eq_true, reduceCtorEq, eq_self, false_and, and_false]; done) | simp only [↓reduceIte, and_self, and_true, true_and, Bool.false_eq_true, reduceCtorEq, eq_self, false_and, and_false]
          rw [eQ]
          refine vx_ret ?_
          refine W.widen (k := 4) (n := 24) (by omega) (by omega) ?_
          exact W.lret (v := ((31 * ((31 * (fU (stD x) (fU (stC x) 7 (x.1 0 0)) (x.1 1 0))) + ((x.2 18 0).toInt64))) + ((x.2 16 0).toInt64))) hx hb hr (fun t ht hW => ⟨⟨((31 * ((31 * (fU (stD x) (fU (stC x) 7 (x.1 0 0)) (x.1 1 0))) + ((x.2 18 0).toInt64))) + ((x.2 16 0).toInt64)), (), rfl, (by rw [hsp]; exact ⟨rfl, rfl⟩), wHS_t ht (by rw [hsp]; exact hH)⟩, hS.F ht⟩) hS.2.2 dX4_checksum_139
        | succ k ih =>
          intro n hn q hq hqb H locs ls hl hH hS
          have hlt : n < (x.1 1 0) := by omega
          refine lv_iload_n hx hb dX4_checksum_47 rfl (lv_at hl 1 rfl) ?_
          refine lv_aload_n hx hb dX4_checksum_48 rfl (lv_at hl 2 rfl) ?_
          refine wr_get (T := TX4) (N := 9) (ci := 6) (v := .ref (g 3)) hx hb hts hinX4 hown hK hH lv_r0 (cel_rt (by omega)) rfl 1 (by decide) (hts (.fieldLink RX4 16 "SelectoRoute" "boxes" "Ljava/util/ArrayList;") (by decide +kernel)) (fun _ h => h) rfl dX4_checksum_49 ?_
          refine va_calli (va_runV (As := []) (rest := [.int (nI n)]) ⟨hx, hb, hml, hown, hts⟩ (met_AL_size l E g (liv x.1) (cel E.2.1 g x y o.1 o.2) 3 4 (x.2 21 0) (x.1 3 0) (x.1 1 0) E.2.1.2 lv_r3 (cel_rt (by omega))) (cwV 0 hts gX4_checksum_Jx4a65c_size_8abf5 rfl rfl rfl (by decide +kernel) ⟨Nat.le_of_ble_eq_true rfl, Nat.le_of_ble_eq_true rfl⟩) ⟨fun a U f mk q => ⟨q.1, wPreG.calling q.2 a f mk⟩, (va_recv hK (wH_one hH lv_r3 (cel_rt (by omega))) (ci := 2) (q0 := 0) rfl rfl), fun U hU hW => ⟨rfl, wPreG_at hz hS hH hK U hU hW⟩⟩ rfl rfl hl.1 rfl (lv_room (Nat.le_of_ble_eq_true rfl)) dX4_checksum_52 ⟨Nat.le_of_ble_eq_true rfl, Nat.le_of_ble_eq_true rfl⟩) hS (fun q _ h => h) (fun q h => h) (fun r u t H locs ht hvm hw hB hz1 hk1 hS => ?_)
          obtain rfl := hw
          have hH : wHS E o g x y H := wG_h ht hB
          refine lv_icmp_ge (tgt := 116) hx hb dX4_checksum_55 (by decide) (fun hq => absurd ((nI_leI (a := (x.1 1 0)) (b := n) (by omega) (by omega)).mp hq) (Nat.not_le.mpr hlt)) (fun _ => ?_)
          refine lv_aload_n hx hb dX4_checksum_58 rfl (lv_at hl 2 rfl) ?_
          refine wr_get (T := TX4) (N := 9) (ci := 6) (v := .ref (g 3)) hx hb hts hinX4 hown hK hH lv_r0 (cel_rt (by omega)) rfl 1 (by decide) (hts (.fieldLink RX4 16 "SelectoRoute" "boxes" "Ljava/util/ArrayList;") (by decide +kernel)) (fun _ h => h) rfl dX4_checksum_59 ?_
          refine lv_iload_n hx hb dX4_checksum_62 rfl (lv_at hl 1 rfl) ?_
          refine va_callr (va_runV (As := [.int (nI n)]) (rest := []) ⟨hx, hb, hml, hown, hts⟩ (met_AL_get l E g (liv x.1) (cel E.2.1 g x y o.1 o.2) 3 4 (x.2 21 0) (x.1 3 0) (x.1 1 0) E.2.1.2 n lv_r3 (cel_rt (by omega)) (show x.1 3 0 ≠ 0 by have hq := (show n < x.1 1 0 by omega); omega) (lv_r4 (show x.1 3 0 ≠ 0 by have hq := (show n < x.1 1 0 by omega); omega)) (fun i => g (200 + i)) (cel_rt (by omega)) (show x.1 1 0 ≤ x.1 3 0 by omega) (show x.1 3 0 < 2 ^ 31 by omega) (show n < x.1 1 0 by omega)) (cwV 1 hts gX4_checksum_Jx4a65c_get_915e3 rfl rfl rfl (by decide +kernel) ⟨Nat.le_of_ble_eq_true rfl, Nat.le_of_ble_eq_true rfl⟩) ⟨fun a U f mk q => ⟨q.1, wPreG.calling q.2 a f mk⟩, (va_recv hK (wH_one hH lv_r3 (cel_rt (by omega))) (ci := 2) (q0 := 0) rfl rfl), fun U hU hW => ⟨rfl, wPreG_at hz hS hH hK U hU hW⟩⟩ rfl rfl hl.1 rfl (lv_room (Nat.le_of_ble_eq_true rfl)) dX4_checksum_63 ⟨Nat.le_of_ble_eq_true rfl, Nat.le_of_ble_eq_true rfl⟩) hS (fun q _ h => h) (fun q h => h) (fun u ra t H locs ht hvm hw hB hz1 hk1 hS => ?_)
          obtain ⟨rfl, hB⟩ := hB
          have hH : wHS E o g x y H := wG_h ht hB
          refine va_castS hx hb hown (hts (.classLink RX4 69 "SelectoRoute$Box") (by decide +kernel)) (hK.1 3 _ rfl).2 (va_recv hK (wH_one hH (lv_bx (show n < x.1 1 0 by omega) hn1) (cel_bx (by omega))) (ci := 3) (q0 := 0) rfl rfl) dX4_checksum_66 ?_
          refine lv_astore (lv' := [(4, .ref (g (200 + n))), (1, .long q), (3, .int (nI n)), (0, .ref (g 0))]) hx hb dX4_checksum_69 hl (by decide) rfl (fun ls hl => ?_)
          refine lv_ldc2 hx hb hown (hts (.constantLong RX4 271 (31)) (by decide +kernel)) dX4_checksum_71 ?_
          refine lv_lload_n hx hb dX4_checksum_74 rfl (lv_at hl 1 rfl) ?_
          refine lv_lmul hx hb dX4_checksum_75 ?_
          refine lv_aload hx hb dX4_checksum_76 (lv_at hl 0 rfl) ?_
          refine wr_get (T := TX0) (N := 15) (ci := 3) (v := .int (x.2 8 n)) hx hb hts hinX0 hown hK hH (lv_bx (show n < x.1 1 0 by omega) hn1) (cel_bx (by omega)) rfl 8 (by decide) (hts (.fieldLink RX4 110 "SelectoRoute$Box" "cents" "I") (by decide +kernel)) (fun _ h => h) rfl dX4_checksum_78 ?_
          refine lv_i2l hx hb dX4_checksum_81 rfl ?_
          refine lv_ladd hx hb dX4_checksum_82 ?_
          refine lv_lstore_n (lv' := [(1, .long ((31 * q) + ((x.2 8 n).toInt64))), (4, .ref (g (200 + n))), (3, .int (nI n)), (0, .ref (g 0))]) hx hb dX4_checksum_83 rfl hl (by decide) rfl (fun ls hl => ?_)
          refine lv_ldc2 hx hb hown (hts (.constantLong RX4 271 (31)) (by decide +kernel)) dX4_checksum_84 ?_
          refine lv_lload_n hx hb dX4_checksum_87 rfl (lv_at hl 0 rfl) ?_
          refine lv_lmul hx hb dX4_checksum_88 ?_
          refine lv_aload hx hb dX4_checksum_89 (lv_at hl 1 rfl) ?_
          refine wr_get (T := TX0) (N := 15) (ci := 3) (v := .int (x.2 7 n)) hx hb hts hinX0 hown hK hH (lv_bx (show n < x.1 1 0 by omega) hn1) (cel_bx (by omega)) rfl 7 (by decide) (hts (.fieldLink RX4 102 "SelectoRoute$Box" "credits" "I") (by decide +kernel)) (fun _ h => h) rfl dX4_checksum_91 ?_
          refine lv_i2l hx hb dX4_checksum_94 rfl ?_
          refine lv_ladd hx hb dX4_checksum_95 ?_
          refine lv_lstore_n (lv' := [(1, .long ((31 * ((31 * q) + ((x.2 8 n).toInt64))) + ((x.2 7 n).toInt64))), (4, .ref (g (200 + n))), (3, .int (nI n)), (0, .ref (g 0))]) hx hb dX4_checksum_96 rfl hl (by decide) rfl (fun ls hl => ?_)
          refine lv_ldc2 hx hb hown (hts (.constantLong RX4 271 (31)) (by decide +kernel)) dX4_checksum_97 ?_
          refine lv_lload_n hx hb dX4_checksum_100 rfl (lv_at hl 0 rfl) ?_
          refine lv_lmul hx hb dX4_checksum_101 ?_
          refine lv_aload hx hb dX4_checksum_102 (lv_at hl 1 rfl) ?_
          refine wr_get (T := TX0) (N := 15) (ci := 3) (v := .int (x.2 9 n)) hx hb hts hinX0 hown hK hH (lv_bx (show n < x.1 1 0 by omega) hn1) (cel_bx (by omega)) rfl 9 (by decide) (hts (.fieldLink RX4 150 "SelectoRoute$Box" "needle" "I") (by decide +kernel)) (fun _ h => h) rfl dX4_checksum_104 ?_
          refine lv_i2l hx hb dX4_checksum_107 rfl ?_
          refine lv_ladd hx hb dX4_checksum_108 ?_
          refine lv_lstore_n (lv' := [(1, .long ((31 * ((31 * ((31 * q) + ((x.2 8 n).toInt64))) + ((x.2 7 n).toInt64))) + ((x.2 9 n).toInt64))), (4, .ref (g (200 + n))), (3, .int (nI n)), (0, .ref (g 0))]) hx hb dX4_checksum_109 rfl hl (by decide) rfl (fun ls hl => ?_)
          obtain ⟨v1, ev1⟩ : ∃ y : Int32, y = (nI n) + 1 := ⟨_, rfl⟩
          refine lv_iinc (v := v1) (lv' := [(3, .int v1), (1, .long ((31 * ((31 * ((31 * q) + ((x.2 8 n).toInt64))) + ((x.2 7 n).toInt64))) + ((x.2 9 n).toInt64))), (4, .ref (g (200 + n))), (0, .ref (g 0))]) hx hb dX4_checksum_110 hl (k := 2) rfl (by rw [ev1]; rfl) (by decide) rfl (fun ls hl => ?_)
          refine lv_goto (tgt := 47) hx hb dX4_checksum_113 (by decide) ?_
          have e9 : v1 = nI (n + 1) := by rw [ev1]; exact nI_1 n
          rw [e9] at hl
          exact ih (n + 1) (by omega) ((31 * ((31 * ((31 * q) + ((x.2 8 n).toInt64))) + ((x.2 7 n).toInt64))) + ((x.2 9 n).toInt64)) (by rw [show fU (stD x) (fU (stC x) 7 (x.1 0 0)) (n + 1) = (stD x) n (fU (stD x) (fU (stC x) 7 (x.1 0 0)) n) from rfl, ← hq]; unfold stD; try simp only [eq_self, ↓reduceIte, and_self, and_true, true_and, false_and, and_false]) trivial H locs ls (lv_sub hl [1, 0, 3] rfl) hH hS
      exact loop (x.1 1 0) 0 (by omega) (fU (stC x) 7 (x.1 0 0)) rfl trivial H _ ls (lv_sub hl [1, 0, 2] rfl) hH hS
    | succ k ih =>
      intro n hn q hq hqb H locs ls hl hH hS
      have hlt : n < (x.1 0 0) := by omega
      refine lv_iload_n hx hb dX4_checksum_6 rfl (lv_at hl 1 rfl) ?_
      refine lv_aload_n hx hb dX4_checksum_7 rfl (lv_at hl 2 rfl) ?_
      refine wr_get (T := TX4) (N := 9) (ci := 6) (v := .ref (g 1)) hx hb hts hinX4 hown hK hH lv_r0 (cel_rt (by omega)) rfl 0 (by decide) (hts (.fieldLink RX4 10 "SelectoRoute" "discs" "Ljava/util/ArrayList;") (by decide +kernel)) (fun _ h => h) rfl dX4_checksum_8 ?_
      refine va_calli (va_runV (As := []) (rest := [.int (nI n)]) ⟨hx, hb, hml, hown, hts⟩ (met_AL_size l E g (liv x.1) (cel E.2.1 g x y o.1 o.2) 1 2 (x.2 20 0) (x.1 2 0) (x.1 0 0) E.2.1.2 lv_r1 (cel_rt (by omega))) (cwV 0 hts gX4_checksum_Jx4a65c_size_8abf5 rfl rfl rfl (by decide +kernel) ⟨Nat.le_of_ble_eq_true rfl, Nat.le_of_ble_eq_true rfl⟩) ⟨fun a U f mk q => ⟨q.1, wPreG.calling q.2 a f mk⟩, (va_recv hK (wH_one hH lv_r1 (cel_rt (by omega))) (ci := 2) (q0 := 0) rfl rfl), fun U hU hW => ⟨rfl, wPreG_at hz hS hH hK U hU hW⟩⟩ rfl rfl hl.1 rfl (lv_room (Nat.le_of_ble_eq_true rfl)) dX4_checksum_11 ⟨Nat.le_of_ble_eq_true rfl, Nat.le_of_ble_eq_true rfl⟩) hS (fun q _ h => h) (fun q h => h) (fun r u t H locs ht hvm hw hB hz1 hk1 hS => ?_)
      obtain rfl := hw
      have hH : wHS E o g x y H := wG_h ht hB
      refine lv_icmp_ge (tgt := 45) hx hb dX4_checksum_14 (by decide) (fun hq => absurd ((nI_leI (a := (x.1 0 0)) (b := n) (by omega) (by omega)).mp hq) (Nat.not_le.mpr hlt)) (fun _ => ?_)
      refine lv_ldc2 hx hb hown (hts (.constantLong RX4 271 (31)) (by decide +kernel)) dX4_checksum_17 ?_
      refine lv_lload_n hx hb dX4_checksum_20 rfl (lv_at hl 0 rfl) ?_
      refine lv_lmul hx hb dX4_checksum_21 ?_
      refine lv_aload_n hx hb dX4_checksum_22 rfl (lv_at hl 2 rfl) ?_
      refine wr_get (T := TX4) (N := 9) (ci := 6) (v := .ref (g 1)) hx hb hts hinX4 hown hK hH lv_r0 (cel_rt (by omega)) rfl 0 (by decide) (hts (.fieldLink RX4 10 "SelectoRoute" "discs" "Ljava/util/ArrayList;") (by decide +kernel)) (fun _ h => h) rfl dX4_checksum_23 ?_
      refine lv_iload_n hx hb dX4_checksum_26 rfl (lv_at hl 1 rfl) ?_
      refine va_callr (va_runV (As := [.int (nI n)]) (rest := [.long (31 * q)]) ⟨hx, hb, hml, hown, hts⟩ (met_AL_get l E g (liv x.1) (cel E.2.1 g x y o.1 o.2) 1 2 (x.2 20 0) (x.1 2 0) (x.1 0 0) E.2.1.2 n lv_r1 (cel_rt (by omega)) (show x.1 2 0 ≠ 0 by have hq := (show n < x.1 0 0 by omega); omega) (lv_r2 (show x.1 2 0 ≠ 0 by have hq := (show n < x.1 0 0 by omega); omega)) (fun i => g (100 + i)) (cel_rt (by omega)) (show x.1 0 0 ≤ x.1 2 0 by omega) (show x.1 2 0 < 2 ^ 31 by omega) (show n < x.1 0 0 by omega)) (cwV 1 hts gX4_checksum_Jx4a65c_get_915e3 rfl rfl rfl (by decide +kernel) ⟨Nat.le_of_ble_eq_true rfl, Nat.le_of_ble_eq_true rfl⟩) ⟨fun a U f mk q => ⟨q.1, wPreG.calling q.2 a f mk⟩, (va_recv hK (wH_one hH lv_r1 (cel_rt (by omega))) (ci := 2) (q0 := 0) rfl rfl), fun U hU hW => ⟨rfl, wPreG_at hz hS hH hK U hU hW⟩⟩ rfl rfl hl.1 rfl (lv_room (Nat.le_of_ble_eq_true rfl)) dX4_checksum_27 ⟨Nat.le_of_ble_eq_true rfl, Nat.le_of_ble_eq_true rfl⟩) hS (fun q _ h => h) (fun q h => h) (fun u ra t H locs ht hvm hw hB hz1 hk1 hS => ?_)
      obtain ⟨rfl, hB⟩ := hB
      have hH : wHS E o g x y H := wG_h ht hB
      refine va_castS hx hb hown (hts (.classLink RX4 53 RX2) (by decide +kernel)) (hK.1 4 _ rfl).2 (va_recv hK (wH_one hH (lv_di (show n < x.1 0 0 by omega) hn0) (cel_di (by omega))) (ci := 4) (q0 := 0) rfl rfl) dX4_checksum_30 ?_
      refine wr_get (T := TX2) (N := 8) (ci := 4) (v := .int (x.2 3 n)) hx hb hts hinX2 hown hK hH (lv_di (show n < x.1 0 0 by omega) hn0) (cel_di (by omega)) rfl 4 (by decide) (hts (.fieldLink RX4 157 "SelectoRoute$Disc" "wear" "I") (by decide +kernel)) (fun _ h => h) rfl dX4_checksum_33 ?_
      refine lv_i2l hx hb dX4_checksum_36 rfl ?_
      refine lv_ladd hx hb dX4_checksum_37 ?_
      refine lv_lstore_n (lv' := [(1, .long ((31 * q) + ((x.2 3 n).toInt64))), (3, .int (nI n)), (0, .ref (g 0))]) hx hb dX4_checksum_38 rfl hl (by decide) rfl (fun ls hl => ?_)
      obtain ⟨v2, ev2⟩ : ∃ y : Int32, y = (nI n) + 1 := ⟨_, rfl⟩
      refine lv_iinc (v := v2) (lv' := [(3, .int v2), (1, .long ((31 * q) + ((x.2 3 n).toInt64))), (0, .ref (g 0))]) hx hb dX4_checksum_39 hl (k := 1) rfl (by rw [ev2]; rfl) (by decide) rfl (fun ls hl => ?_)
      refine lv_goto (tgt := 6) hx hb dX4_checksum_42 (by decide) ?_
      have e9 : v2 = nI (n + 1) := by rw [ev2]; exact nI_1 n
      rw [e9] at hl
      exact ih (n + 1) (by omega) ((31 * q) + ((x.2 3 n).toInt64)) (by rw [show fU (stC x) 7 (n + 1) = (stC x) n (fU (stC x) 7 n) from rfl, ← hq]; unfold stC; try simp only [eq_self, ↓reduceIte, and_self, and_true, true_and, false_and, and_false]) trivial H locs ls (lv_sub hl [1, 0, 2] rfl) hH hS
  exact loop (x.1 0 0) 0 (by omega) 7 rfl trivial H _ ls (lv_sub hl [1, 0, 2] rfl) hH hS
