/-! ===== the class: change ===== -/
theorem sw1_k (x : St) (a v k : Nat) (h7 : k ≠ 7) (h8 : k ≠ 8) : (sw1 x a v).1 k = x.1 k := by
  unfold sw1 sw0
  split <;> simp [uI, uN, va_up, h7, h8]
theorem sw1_00 (x : St) (a v : Nat) : (sw1 x a v).1 0 0 = x.1 0 0 := by rw [sw1_k x a v 0 (by decide) (by decide)]
theorem sw1_10 (x : St) (a v : Nat) : (sw1 x a v).1 1 0 = x.1 1 0 := by rw [sw1_k x a v 1 (by decide) (by decide)]
def cp_change (x : St) (b : Int32) (k : Int32) (v : Int32) : Option String × Int32 × St := if inB b (x.1 1 0) = true then (if inB k 10 = true then (if v = (-1) then (if (x.1 10 (ix b)) = (x.1 9 0) + 1 then (if 10 ≤ (x.2 17 0) then (if (x.1 7 (10 * (ix b) + (ix k))) = 0 then (none, (-1), (sw1 (uI x 17 0 ((x.2 17 0) - 10)) (10 * (ix b) + (ix k)) 0)) else (none, (nI ((x.1 7 (10 * (ix b) + (ix k))) - 1)), (sw1 (uI x 17 0 ((x.2 17 0) - 10)) (10 * (ix b) + (ix k)) 0))) else (some "java/lang/UnsupportedOperationException", 0, x)) else (some "java/lang/UnsupportedOperationException", 0, x)) else (if inB v (x.1 0 0) = true then (if (x.1 10 (ix b)) = (x.1 9 0) + 1 then (if (x.1 8 (ix v)) = 1 then (if 10 ≤ (x.2 17 0) then (if (x.1 7 (10 * (ix b) + (ix k))) = 0 then (none, (-1), (uI (uN (sw1 (uI x 17 0 ((x.2 17 0) - 10)) (10 * (ix b) + (ix k)) ((ix v) + 1)) 8 (ix v) (2 + (10 * (ix b) + (ix k)))) (100 + (ix b)) ((uI x 17 0 ((x.2 17 0) - 10)).1 12 (ix v)) 0)) else (none, (nI ((x.1 7 (10 * (ix b) + (ix k))) - 1)), (uI (uN (sw1 (uI x 17 0 ((x.2 17 0) - 10)) (10 * (ix b) + (ix k)) ((ix v) + 1)) 8 (ix v) (2 + (10 * (ix b) + (ix k)))) (100 + (ix b)) ((uI x 17 0 ((x.2 17 0) - 10)).1 12 (ix v)) 0))) else (some "java/lang/UnsupportedOperationException", 0, x)) else (some "java/lang/UnsupportedOperationException", 0, x)) else (some "java/lang/UnsupportedOperationException", 0, x)) else (some "java/lang/IndexOutOfBoundsException", 0, x))) else (some "java/lang/IndexOutOfBoundsException", 0, x)) else (some "java/lang/IndexOutOfBoundsException", 0, x)
set_option maxHeartbeats 4000000 in
set_option maxRecDepth 100000 in
theorem met_X4_change (l : Launch) (E : wE) (o : wO) (g : Nat → Nat) (x y : St) (b : Int32) (k : Int32) (v : Int32) (hlt : l.stackTraces = false) (hI : CI x) (hJ : CJ x) : vx_Met l yX4_change wsX4_change ({ frames := 10, cells := 4, slots := 24, locals := 1100 } : Room) (va_Pc [.ref (g 0), .int b, .int k, .int v] (wPreX E o g x y)) (va_Qi (fun (r : Int32) (_ : Unit) => (cp_change x b k v).1 = none ∧ r = (cp_change x b k v).2.1) (fun (_ : Unit) t => wHS E o g (cp_change x b k v).2.2 y t.heap) (wA E)) (wXC E o g x y (fun X => (cp_change x b k v).1 = some X)) 4 24 (wA E) := by
  refine vx_ofW (cc := cX4_change) (maxL := 8) (ret := (some .int)) (by decide) rfl ?_
  intro p e s m args below meth c s₁ B hml hnt hv
  obtain ⟨rfl, ⟨hz, hH, hK⟩, hC⟩ := hv
  have hx := B.exec
  have hb := B.bytes
  have hr := B.returns
  have hts := atoms_spec (ws := wsX4_change) B.pre
  have hown : s.vm.findClass RX4 = some m.cls := findClass_of_methodNamed B.named
  have hlocks := B.notSynchronized
  have hS : va_S (wA E) s.heap s.heap [] := va_S.rf
  have hinX0 : ∀ w ∈ wsX00, w ∈ wsX4_change := fun w h => List.mem_cons_of_mem _ (List.mem_append_left _ (List.mem_append_left _ (List.mem_append_left _ (List.mem_append_left _ (List.mem_append_left _ (List.mem_append_left _ (List.mem_append_left _ (List.mem_append_right _ h))))))))
  have hinX4 : ∀ w ∈ wsX40, w ∈ wsX4_change := fun w h => List.mem_cons_of_mem _ (List.mem_append_left _ (List.mem_append_left _ (List.mem_append_left _ (List.mem_append_left _ (List.mem_append_left _ (List.mem_append_left _ (List.mem_append_right _ h)))))))
  have hinX2 : ∀ w ∈ wsX20, w ∈ wsX4_change := fun w h => List.mem_cons_of_mem _ (List.mem_append_left _ (List.mem_append_left _ (List.mem_append_left _ (List.mem_append_left _ (List.mem_append_left _ (List.mem_append_right _ h))))))
  have hinJx4a65c : ∀ w ∈ wsJx4a65c0, w ∈ wsX4_change := fun w h => List.mem_cons_of_mem _ (List.mem_append_left _ (List.mem_append_left _ (List.mem_append_left _ (List.mem_append_left _ (List.mem_append_right _ h)))))
  have hinX3 : ∀ w ∈ wsX30, w ∈ wsX4_change := fun w h => List.mem_cons_of_mem _ (List.mem_append_left _ (List.mem_append_left _ (List.mem_append_left _ (List.mem_append_right _ h))))
  have hl := lv_entry ([.ref (g 0), .int b, .int k, .int v]) (n := 8) (Nat.le_of_ble_eq_true rfl)
  rw [lg_entry_eq]
  generalize (lg_sl ([.ref (g 0), .int b, .int k, .int v]) ++ List.replicate (8 - (lg_sl ([.ref (g 0), .int b, .int k, .int v])).length) Slot.unset).toArray = ls at hl ⊢
  have hl : lv_has ls 8 [(0, .ref (g 0)), (1, .int b), (2, .int k), (3, .int v)] := hl
  obtain ⟨H, eH⟩ : ∃ z, z = s.heap := ⟨_, rfl⟩
  have hH : wHS E o g x y H := by rw [eH]; exact hH
  have hS : va_S (wA E) s.heap H [] := by rw [eH]; exact hS
  refine W.heapTo eH ?_
  obtain ⟨hn0, hn1, hn2, hn3, hn4, hn5, hc7, hc8, hc5, hc54, hc4, hc50, hc9, hc12, hc10, hcj⟩ := id hI
  refine lv_aload_n hx hb dX4_change_0 rfl (lv_at hl 0 rfl) ?_
  refine lv_iload_n hx hb dX4_change_1 rfl (lv_at hl 1 rfl) ?_
  refine wx_callr (vx_runV (As := [.int b]) (rest := []) ⟨hx, hb, hml, hown, hts⟩ (met_X4_requireBox l E o g x y b hlt hI) (cwV 1 hts gX4_change_X4_requireBox rfl rfl rfl (by decide +kernel) ⟨Nat.le_of_ble_eq_true rfl, Nat.le_of_ble_eq_true rfl⟩) ⟨fun a U f mk q => ⟨q.1, wPreX.calling q.2 a f mk⟩, (va_recv hK (wH_one hH lv_r0 (cel_rt (by omega))) (ci := 6) (q0 := 0) rfl rfl), fun U hU hW => ⟨rfl, wPreX_at hz hS hH hK hC U hU hW⟩⟩ rfl rfl hl.1 rfl (lv_room (Nat.le_of_ble_eq_true rfl)) dX4_change_2 ⟨Nat.le_of_ble_eq_true rfl, Nat.le_of_ble_eq_true rfl⟩) hS (fun q _ h => h) (fun q h => h) (fun q _ h => h) (fun E9 ce q9 u t H locs ht hvm hw hB hz1 hk1 hS hce hcv hcl => ?_) (fun u ra t H locs ht hvm hw hB hz1 hk1 hS => ?_)
  · obtain ⟨⟨rfl, c1⟩, hB⟩ := hB
    have hH := wHS_h ht hB
    have hsp : cp_change x b k v = (some "java/lang/IndexOutOfBoundsException", 0, x) := by
      unfold cp_change
      first | (simp only [(Bool.eq_false_iff.mp c1), ↓reduceIte, and_self, and_true, true_and, Bool.false_eq_true, reduceCtorEq, eq_self, false_and, and_false]; done) | (simp [(Bool.eq_false_iff.mp c1), ↓reduceIte, and_self, and_true, true_and, Bool.false_eq_true, reduceCtorEq, eq_self, false_and, and_false]; done) | simp only [(Bool.eq_false_iff.mp c1), ↓reduceIte, and_self, and_true, true_and, Bool.false_eq_true, reduceCtorEq, eq_self, false_and, and_false]
    exact vx_out (fun x h => (hnt x h).elim) hlocks hce hcv hcl (wX_on hS hH (by rw [hsp])) hS.2.2 (by omega) (by omega)
  · have c1 : inB b (x.1 1 0) = true := hw
    obtain ⟨jb, hjb, rfl⟩ := inB_t c1 (by omega)
    obtain ⟨rfl, hB⟩ := hB
    have hH := wHS_h ht hB
    rw [ix_nI (show jb < 2 ^ 31 by omega)]
    refine lv_astore (lv' := [(4, .ref (g (200 + jb))), (0, .ref (g 0)), (1, .int (nI jb)), (2, .int k), (3, .int v)]) hx hb dX4_change_5 hl (by decide) rfl (fun ls hl => ?_)
    refine lv_aload hx hb dX4_change_7 (lv_at hl 0 rfl) ?_
    refine lv_iload_n hx hb dX4_change_9 rfl (lv_at hl 3 rfl) ?_
    refine wx_callr (vx_runS (As := [.ref (g (200 + jb)), .int k]) (rest := []) ⟨hx, hb, hml, hown, hts⟩ (met_X4_requireSlot l E o g x y jb k hlt hI (show jb < x.1 1 0 by omega)) (va_cwS 2 hts gX4_change_X4_requireSlot rfl rfl rfl (by decide +kernel) ⟨Nat.le_of_ble_eq_true rfl, Nat.le_of_ble_eq_true rfl⟩) ⟨fun a U f mk q => ⟨q.1, wPreX.calling q.2 a f mk⟩, fun U hU hW => ⟨rfl, wPreX_at hz hS hH hK hC U hU hW⟩⟩ rfl rfl hl.1 rfl (lv_room (Nat.le_of_ble_eq_true rfl)) dX4_change_10 ⟨Nat.le_of_ble_eq_true rfl, Nat.le_of_ble_eq_true rfl⟩) hS (fun q _ h => h) (fun q h => h) (fun q _ h => h) (fun E9 ce q9 u t H locs ht hvm hw hB hz1 hk1 hS hce hcv hcl => ?_) (fun u ra t H locs ht hvm hw hB hz1 hk1 hS => ?_)
    · obtain ⟨⟨rfl, c2⟩, hB⟩ := hB
      have hH := wHS_h ht hB
      have hsp : cp_change x (nI jb) k v = (some "java/lang/IndexOutOfBoundsException", 0, x) := by
        unfold cp_change
        first | (simp only [c1, (Bool.eq_false_iff.mp c2), inB_nI hjb (by omega), ix_nI (show jb < 2 ^ 31 by omega), ↓reduceIte, and_self, and_true, true_and, Bool.false_eq_true, reduceCtorEq, eq_self, false_and, and_false]; done) | (simp [c1, (Bool.eq_false_iff.mp c2), inB_nI hjb (by omega), ix_nI (show jb < 2 ^ 31 by omega), ↓reduceIte, and_self, and_true, true_and, Bool.false_eq_true, reduceCtorEq, eq_self, false_and, and_false]; done) | simp only [c1, (Bool.eq_false_iff.mp c2), inB_nI hjb (by omega), ix_nI (show jb < 2 ^ 31 by omega), ↓reduceIte, and_self, and_true, true_and, Bool.false_eq_true, reduceCtorEq, eq_self, false_and, and_false]
      exact vx_out (fun x h => (hnt x h).elim) hlocks hce hcv hcl (wX_on hS hH (by rw [hsp])) hS.2.2 (by omega) (by omega)
    · have c2 : inB k 10 = true := hw
      obtain ⟨jk, hjk, rfl⟩ := inB_t c2 (by omega)
      obtain ⟨rfl, hB⟩ := hB
      have hH := wHS_h ht hB
      rw [ix_nI (show jk < 2 ^ 31 by omega)]
      refine lv_astore (lv' := [(5, .ref (g (300 + (10 * jb + jk)))), (4, .ref (g (200 + jb))), (0, .ref (g 0)), (1, .int (nI jb)), (2, .int (nI jk)), (3, .int v)]) hx hb dX4_change_13 hl (by decide) rfl (fun ls hl => ?_)
      refine lv_iload_n hx hb dX4_change_15 rfl (lv_at hl 5 rfl) ?_
      refine lv_iconst (v := (-1)) hx hb dX4_change_16 (by decide) ?_
      refine lv_icmp_ne (tgt := 24) hx hb dX4_change_17 (by decide) (fun c3 => ?_) (fun c3 => ?_)
      · skip
        refine lv_aload_n hx hb dX4_change_24 rfl (lv_at hl 2 rfl) ?_
        refine lv_iload_n hx hb dX4_change_25 rfl (lv_at hl 5 rfl) ?_
        refine wx_callr (vx_runV (As := [.int v]) (rest := []) ⟨hx, hb, hml, hown, hts⟩ (met_X4_requireDisc l E o g x y v hlt hI) (cwV 1 hts gX4_change_X4_requireDisc rfl rfl rfl (by decide +kernel) ⟨Nat.le_of_ble_eq_true rfl, Nat.le_of_ble_eq_true rfl⟩) ⟨fun a U f mk q => ⟨q.1, wPreX.calling q.2 a f mk⟩, (va_recv hK (wH_one hH lv_r0 (cel_rt (by omega))) (ci := 6) (q0 := 0) rfl rfl), fun U hU hW => ⟨rfl, wPreX_at hz hS hH hK hC U hU hW⟩⟩ rfl rfl hl.1 rfl (lv_room (Nat.le_of_ble_eq_true rfl)) dX4_change_26 ⟨Nat.le_of_ble_eq_true rfl, Nat.le_of_ble_eq_true rfl⟩) hS (fun q _ h => h) (fun q h => h) (fun q _ h => h) (fun E9 ce q9 u t H locs ht hvm hw hB hz1 hk1 hS hce hcv hcl => ?_) (fun u ra t H locs ht hvm hw hB hz1 hk1 hS => ?_)
        · obtain ⟨⟨rfl, c4⟩, hB⟩ := hB
          have hH := wHS_h ht hB
          have hsp : cp_change x (nI jb) (nI jk) v = (some "java/lang/IndexOutOfBoundsException", 0, x) := by
            unfold cp_change
            first | (simp only [c1, c2, c3, (Bool.eq_false_iff.mp c4), inB_nI hjb (by omega), ix_nI (show jb < 2 ^ 31 by omega), inB_nI hjk (by omega), ix_nI (show jk < 2 ^ 31 by omega), ↓reduceIte, and_self, and_true, true_and, Bool.false_eq_true, reduceCtorEq, eq_self, false_and, and_false]; done) | (simp [c1, c2, c3, (Bool.eq_false_iff.mp c4), inB_nI hjb (by omega), ix_nI (show jb < 2 ^ 31 by omega), inB_nI hjk (by omega), ix_nI (show jk < 2 ^ 31 by omega), ↓reduceIte, and_self, and_true, true_and, Bool.false_eq_true, reduceCtorEq, eq_self, false_and, and_false]; done) | simp only [c1, c2, c3, (Bool.eq_false_iff.mp c4), inB_nI hjb (by omega), ix_nI (show jb < 2 ^ 31 by omega), inB_nI hjk (by omega), ix_nI (show jk < 2 ^ 31 by omega), ↓reduceIte, and_self, and_true, true_and, Bool.false_eq_true, reduceCtorEq, eq_self, false_and, and_false]
          exact vx_out (fun x h => (hnt x h).elim) hlocks hce hcv hcl (wX_on hS hH (by rw [hsp])) hS.2.2 (by omega) (by omega)
        · have c4 : inB v (x.1 0 0) = true := hw
          obtain ⟨jv, hjv, rfl⟩ := inB_t c4 (by omega)
          obtain ⟨rfl, hB⟩ := hB
          have hH := wHS_h ht hB
          rw [ix_nI (show jv < 2 ^ 31 by omega)]
          refine lv_astore (lv' := [(6, .ref (g (100 + jv))), (5, .ref (g (300 + (10 * jb + jk)))), (4, .ref (g (200 + jb))), (0, .ref (g 0)), (1, .int (nI jb)), (2, .int (nI jk)), (3, .int (nI jv))]) hx hb dX4_change_29 hl (by decide) rfl (fun ls hl => ?_)
          refine lv_aload hx hb dX4_change_31 (lv_at hl 2 rfl) ?_
          refine wr_get (T := TX0) (N := 15) (ci := 3) (v := .int (nI (x.1 10 jb) - 1)) hx hb hts hinX0 hown hK hH (lv_bx (show jb < x.1 1 0 by omega) hn1) (cel_bx (by omega)) rfl 11 (by decide) (hts (.fieldLink RX4 196 "SelectoRoute$Box" "visitWeek" "I") (by decide +kernel)) (fun _ h => h) rfl dX4_change_33 ?_
          refine lv_aload_n hx hb dX4_change_36 rfl (lv_at hl 3 rfl) ?_
          refine wr_get (T := TX4) (N := 9) (ci := 6) (v := .int (nI (x.1 9 0))) hx hb hts hinX4 hown hK hH lv_r0 (cel_rt (by omega)) rfl 5 (by decide) (hts (.fieldLink RX4 172 "SelectoRoute" "week" "I") (by decide +kernel)) (fun _ h => h) rfl dX4_change_37 ?_
          refine lv_icmp_ne (tgt := 65) hx hb dX4_change_40 (by decide) (fun c5 => ?_) (fun c5 => ?_)
          · have c5 : ¬ ((x.1 10 jb) = (x.1 9 0) + 1) := fun hq => c5 ((vw_eq (by have q0 := hc10 jb; omega) (by omega)).mpr hq)
            have hsp : cp_change x (nI jb) (nI jk) (nI jv) = (some "java/lang/UnsupportedOperationException", 0, x) := by
              unfold cp_change
              first | (simp only [c1, c2, c3, c4, c5, inB_nI hjb (by omega), ix_nI (show jb < 2 ^ 31 by omega), inB_nI hjk (by omega), ix_nI (show jk < 2 ^ 31 by omega), inB_nI hjv (by omega), ix_nI (show jv < 2 ^ 31 by omega), ↓reduceIte, and_self, and_true, true_and, Bool.false_eq_true, reduceCtorEq, eq_self, false_and, and_false]; done) | (simp [c1, c2, c3, c4, c5, inB_nI hjb (by omega), ix_nI (show jb < 2 ^ 31 by omega), inB_nI hjk (by omega), ix_nI (show jk < 2 ^ 31 by omega), inB_nI hjv (by omega), ix_nI (show jv < 2 ^ 31 by omega), ↓reduceIte, and_self, and_true, true_and, Bool.false_eq_true, reduceCtorEq, eq_self, false_and, and_false]; done) | simp only [c1, c2, c3, c4, c5, inB_nI hjb (by omega), ix_nI (show jb < 2 ^ 31 by omega), inB_nI hjk (by omega), ix_nI (show jk < 2 ^ 31 by omega), inB_nI hjv (by omega), ix_nI (show jv < 2 ^ 31 by omega), ↓reduceIte, and_self, and_true, true_and, Bool.false_eq_true, reduceCtorEq, eq_self, false_and, and_false]
            obtain ⟨sa, hsa⟩ := hC.2.2.1 (223, "not visited, the disc not in the van, or too few minutes") (by decide +kernel)
            exact vx_throwS (A := wA E) (names := ["java/lang/RuntimeException", "java/lang/Exception"]) hx hb hlt hown (by decide +kernel) (by decide +kernel) (hts (.classLink RX4 97 "java/lang/UnsupportedOperationException") (by decide +kernel)) (hts (.initialized "java/lang/UnsupportedOperationException") (by decide +kernel)) hsa (hat_xU hts (fun w h => List.mem_cons_of_mem _ (List.mem_append_left _ (List.mem_append_left _ (List.mem_append_right _ h)))) hC) (by decide +kernel) hC.1 hC.2.1 (by rw [← eH] at *; exact hS) (hl.1.trans hml.symm) dX4_change_65 dX4_change_68 dX4_change_69 dX4_change_71 dX4_change_74 (fun x h => (hnt x h).elim) (Nat.lt_of_lt_of_le (by decide : 2 + 3 < 6) (Nat.le_of_ble_eq_true rfl)) (Nat.le_of_ble_eq_true rfl) (Nat.le_of_ble_eq_true rfl) (Nat.le_of_ble_eq_true rfl) hlocks (wX_of hS hH (by rw [hsp])) hS.2.2 (by omega) (by omega)
          · have c5 := (vw_eq (by have q0 := hc10 jb; omega) (by omega)).mp c5
            refine lv_aload hx hb dX4_change_43 (lv_at hl 0 rfl) ?_
            refine lv_ifnull hx hb dX4_change_45 ?_
            refine lv_aload hx hb dX4_change_48 (lv_at hl 0 rfl) ?_
            refine va_calli (va_runV (As := []) (rest := []) ⟨hx, hb, hml, hown, hts⟩ (met_X2_isInVan l E o g x y jv (show jv < x.1 0 0 by omega) hn0) (cwV 0 hts gX4_change_X2_isInVan rfl rfl rfl (by decide +kernel) ⟨Nat.le_of_ble_eq_true rfl, Nat.le_of_ble_eq_true rfl⟩) ⟨fun a U f mk q => ⟨q.1, wPre.calling q.2 a f mk⟩, (va_recv hK (wH_one hH (lv_di (show jv < x.1 0 0 by omega) hn0) (cel_di (by omega))) (ci := 4) (q0 := 0) rfl rfl), fun U hU hW => ⟨rfl, wPre_at hz hS hH hK U hU hW⟩⟩ rfl rfl hl.1 rfl (lv_room (Nat.le_of_ble_eq_true rfl)) dX4_change_50 ⟨Nat.le_of_ble_eq_true rfl, Nat.le_of_ble_eq_true rfl⟩) hS (fun q _ h => h) (fun q h => h) (fun r u t H locs ht hvm hw hB hz1 hk1 hS => ?_)
            have hB := wHS_h ht hB
            try dsimp only at hw
            have hH := hB
            rcases hw with ⟨rfl, c6⟩ | ⟨rfl, c6⟩
            · have c6 : (x.1 8 jv) = 1 := c6
              refine lv_if_eq (tgt := 65) hx hb dX4_change_53 (by decide) (fun hq => absurd hq (show ¬ (1 : Int32) = 0 by decide)) (fun _ => ?_)
              refine lv_aload_n hx hb dX4_change_56 rfl (lv_at hl 3 rfl) ?_
              refine wr_get (T := TX4) (N := 9) (ci := 6) (v := .int (x.2 17 0)) hx hb hts hinX4 hown hK hH lv_r0 (cel_rt (by omega)) rfl 6 (by decide) (hts (.fieldLink RX4 30 "SelectoRoute" "minutes" "I") (by decide +kernel)) (fun _ h => h) rfl dX4_change_57 ?_
              refine lv_bipush (v := 10) hx hb dX4_change_60 (by decide) ?_
              refine lv_icmp_ge (tgt := 75) hx hb dX4_change_62 (by decide) (fun c7 => ?_) (fun c7 => ?_)
              · skip
                refine lv_aload_n hx hb dX4_change_75 rfl (lv_at hl 3 rfl) ?_
                refine lv_dup hx hb dX4_change_76 rfl ?_
                refine wr_get (T := TX4) (N := 9) (ci := 6) (v := .int (x.2 17 0)) hx hb hts hinX4 hown hK hH lv_r0 (cel_rt (by omega)) rfl 6 (by decide) (hts (.fieldLink RX4 30 "SelectoRoute" "minutes" "I") (by decide +kernel)) (fun _ h => h) rfl dX4_change_77 ?_
                refine lv_bipush (v := 10) hx hb dX4_change_80 (by decide) ?_
                refine lv_isub hx hb dX4_change_82 ?_
                refine lv_topi (fun v8 ev8 => ?_)
                refine wr_put (T := TX4) (N := 9) (ci := 6) (v := .int v8) hx hb hts hinX4 tyX4 tyX4_ok nmX4 hown hK hH hS lv_r0 (cel_rt (by omega)) rfl 6 (by decide) (hts (.fieldLink RX4 30 "SelectoRoute" "minutes" "I") (by decide +kernel)) (fun _ h => h) rfl (ty := .int) (by decide +kernel) rfl rfl (Nat.le_of_ble_eq_true rfl) dX4_change_83 (fun H locs hH hS => ?_)
                have hH : wHS E o g (uI x 17 0 v8) y H := pr_6 hH
                refine lv_aload hx hb dX4_change_86 (lv_at hl 2 rfl) ?_
                refine lv_aload hx hb dX4_change_88 (lv_at hl 1 rfl) ?_
                refine lv_aload hx hb dX4_change_90 (lv_at hl 0 rfl) ?_
                refine va_callq (va_runV (As := [.ref (g (300 + (10 * jb + jk))), .ref (g (100 + jv))]) (rest := []) ⟨hx, hb, hml, hown, hts⟩ (met_X0_swap_d l E o g (uI x 17 0 v8) y jb jk (10 * jb + jk) jv (CI_I hI) hJ (show jb < x.1 1 0 by omega) (by omega) rfl (show jv < x.1 0 0 by omega) c6) (cwV 2 hts gX4_change_X0_swap rfl rfl rfl (by decide +kernel) ⟨Nat.le_of_ble_eq_true rfl, Nat.le_of_ble_eq_true rfl⟩) ⟨fun a U f mk q => ⟨q.1, wPre.calling q.2 a f mk⟩, (va_recv hK (wH_one hH (lv_bx (show jb < x.1 1 0 by omega) hn1) (cel_bx (by omega))) (ci := 3) (q0 := 0) rfl rfl), fun U hU hW => ⟨rfl, wPre_at hz hS hH hK U hU hW⟩⟩ rfl rfl hl.1 rfl (lv_room (Nat.le_of_ble_eq_true rfl)) dX4_change_92 ⟨Nat.le_of_ble_eq_true rfl, Nat.le_of_ble_eq_true rfl⟩) hS (fun q _ h => h) (fun q h => h) (fun r u t H locs ht hvm hw hB hz1 hk1 hS => ?_)
                have hB := wHS_h ht hB
                try dsimp only at hw
                obtain rfl := hw
                have hH := hB
                have q7 := hc7 (10 * jb + jk)
                by_cases c9 : (x.1 7 (10 * jb + jk)) = 0
                · skip
                  rw [show (if (uI x 17 0 v8).1 7 (10 * jb + jk) = 0 then (none : Option Nat) else some (g (100 + ((uI x 17 0 v8).1 7 (10 * jb + jk) - 1)))) = none from if_pos c9]
                  refine lv_astoreN (lv' := [(7, .null), (6, .ref (g (100 + jv))), (5, .ref (g (300 + (10 * jb + jk)))), (4, .ref (g (200 + jb))), (0, .ref (g 0)), (1, .int (nI jb)), (2, .int (nI jk)), (3, .int (nI jv))]) hx hb dX4_change_95 hl (by decide) rfl (fun ls hl => ?_)
                  refine lv_aloadN hx hb dX4_change_97 (lv_at hl 0 rfl) ?_
                  refine lv_ifnonnullN hx hb dX4_change_99 ?_
                  refine lv_iconst (v := (-1)) hx hb dX4_change_102 (by decide) ?_
                  refine lv_goto (tgt := 111) hx hb dX4_change_103 (by decide) ?_
                  subst ev8
                  have hsp : cp_change x (nI jb) (nI jk) (nI jv) = (none, (-1), (uI (uN (sw1 (uI x 17 0 ((x.2 17 0) - 10)) (10 * jb + jk) (jv + 1)) 8 jv (2 + (10 * jb + jk))) (100 + jb) ((uI x 17 0 ((x.2 17 0) - 10)).1 12 jv) 0)) := by
                    unfold cp_change
                    first | (simp only [c1, c2, c3, c4, c5, c6, c7, c9, inB_nI hjb (by omega), ix_nI (show jb < 2 ^ 31 by omega), inB_nI hjk (by omega), ix_nI (show jk < 2 ^ 31 by omega), inB_nI hjv (by omega), ix_nI (show jv < 2 ^ 31 by omega), ↓reduceIte, and_self, and_true, true_and, Bool.false_eq_true, reduceCtorEq, eq_self, false_and, and_false]; done) | (simp [c1, c2, c3, c4, c5, c6, c7, c9, inB_nI hjb (by omega), ix_nI (show jb < 2 ^ 31 by omega), inB_nI hjk (by omega), ix_nI (show jk < 2 ^ 31 by omega), inB_nI hjv (by omega), ix_nI (show jv < 2 ^ 31 by omega), ↓reduceIte, and_self, and_true, true_and, Bool.false_eq_true, reduceCtorEq, eq_self, false_and, and_false]; done) | simp only [c1, c2, c3, c4, c5, c6, c7, c9, inB_nI hjb (by omega), ix_nI (show jb < 2 ^ 31 by omega), inB_nI hjk (by omega), ix_nI (show jk < 2 ^ 31 by omega), inB_nI hjv (by omega), ix_nI (show jv < 2 ^ 31 by omega), ↓reduceIte, and_self, and_true, true_and, Bool.false_eq_true, reduceCtorEq, eq_self, false_and, and_false]
                  refine vx_ret ?_
                  refine W.widen (k := 4) (n := 24) (by omega) (by omega) ?_
                  exact W.iret (v := (-1)) hx hb hr (fun t ht hW => ⟨⟨(-1), (), rfl, (by rw [hsp]; exact ⟨rfl, rfl⟩), wHS_t ht (by rw [hsp]; exact hH)⟩, hS.F ht⟩) hS.2.2 dX4_change_111
                · skip
                  rw [show (if (uI x 17 0 v8).1 7 (10 * jb + jk) = 0 then (none : Option Nat) else some (g (100 + ((uI x 17 0 v8).1 7 (10 * jb + jk) - 1)))) = some (g (100 + (x.1 7 (10 * jb + jk) - 1))) from if_neg c9]
                  refine lv_astore (lv' := [(7, .ref (g (100 + ((x.1 7 (10 * jb + jk)) - 1)))), (6, .ref (g (100 + jv))), (5, .ref (g (300 + (10 * jb + jk)))), (4, .ref (g (200 + jb))), (0, .ref (g 0)), (1, .int (nI jb)), (2, .int (nI jk)), (3, .int (nI jv))]) hx hb dX4_change_95 hl (by decide) rfl (fun ls hl => ?_)
                  refine lv_aload hx hb dX4_change_97 (lv_at hl 0 rfl) ?_
                  refine lv_ifnonnull (tgt := 106) hx hb dX4_change_99 (by decide) ?_
                  refine lv_aload hx hb dX4_change_106 (lv_at hl 0 rfl) ?_
                  refine wr_get (T := TX2) (N := 8) (ci := 4) (v := .int (nI ((x.1 7 (10 * jb + jk)) - 1))) hx hb hts hinX2 hown hK hH (lv_di (by rw [(show (uI (uN (sw1 (uI x 17 0 v8) (10 * jb + jk) (jv + 1)) 8 jv (2 + (10 * jb + jk))) (100 + jb) ((uI x 17 0 v8).1 12 jv) 0).1 0 0 = x.1 0 0 from sw1_00 (uI x 17 0 v8) (10 * jb + jk) (jv + 1))]; omega) (by rw [(show (uI (uN (sw1 (uI x 17 0 v8) (10 * jb + jk) (jv + 1)) 8 jv (2 + (10 * jb + jk))) (100 + jb) ((uI x 17 0 v8).1 12 jv) 0).1 0 0 = x.1 0 0 from sw1_00 (uI x 17 0 v8) (10 * jb + jk) (jv + 1))]; exact hn0)) (cel_di (by omega)) rfl 0 (by decide) (hts (.fieldLink RX4 62 "SelectoRoute$Disc" "number" "I") (by decide +kernel)) (fun _ h => h) rfl dX4_change_108 ?_
                  subst ev8
                  have hsp : cp_change x (nI jb) (nI jk) (nI jv) = (none, (nI ((x.1 7 (10 * jb + jk)) - 1)), (uI (uN (sw1 (uI x 17 0 ((x.2 17 0) - 10)) (10 * jb + jk) (jv + 1)) 8 jv (2 + (10 * jb + jk))) (100 + jb) ((uI x 17 0 ((x.2 17 0) - 10)).1 12 jv) 0)) := by
                    unfold cp_change
                    first | (simp only [c1, c2, c3, c4, c5, c6, c7, c9, inB_nI hjb (by omega), ix_nI (show jb < 2 ^ 31 by omega), inB_nI hjk (by omega), ix_nI (show jk < 2 ^ 31 by omega), inB_nI hjv (by omega), ix_nI (show jv < 2 ^ 31 by omega), ↓reduceIte, and_self, and_true, true_and, Bool.false_eq_true, reduceCtorEq, eq_self, false_and, and_false]; done) | (simp [c1, c2, c3, c4, c5, c6, c7, c9, inB_nI hjb (by omega), ix_nI (show jb < 2 ^ 31 by omega), inB_nI hjk (by omega), ix_nI (show jk < 2 ^ 31 by omega), inB_nI hjv (by omega), ix_nI (show jv < 2 ^ 31 by omega), ↓reduceIte, and_self, and_true, true_and, Bool.false_eq_true, reduceCtorEq, eq_self, false_and, and_false]; done) | simp only [c1, c2, c3, c4, c5, c6, c7, c9, inB_nI hjb (by omega), ix_nI (show jb < 2 ^ 31 by omega), inB_nI hjk (by omega), ix_nI (show jk < 2 ^ 31 by omega), inB_nI hjv (by omega), ix_nI (show jv < 2 ^ 31 by omega), ↓reduceIte, and_self, and_true, true_and, Bool.false_eq_true, reduceCtorEq, eq_self, false_and, and_false]
                  refine vx_ret ?_
                  refine W.widen (k := 4) (n := 24) (by omega) (by omega) ?_
                  exact W.iret (v := (nI ((x.1 7 (10 * jb + jk)) - 1))) hx hb hr (fun t ht hW => ⟨⟨(nI ((x.1 7 (10 * jb + jk)) - 1)), (), rfl, (by rw [hsp]; exact ⟨rfl, rfl⟩), wHS_t ht (by rw [hsp]; exact hH)⟩, hS.F ht⟩) hS.2.2 dX4_change_111
              · skip
                have hsp : cp_change x (nI jb) (nI jk) (nI jv) = (some "java/lang/UnsupportedOperationException", 0, x) := by
                  unfold cp_change
                  first | (simp only [c1, c2, c3, c4, c5, c6, c7, inB_nI hjb (by omega), ix_nI (show jb < 2 ^ 31 by omega), inB_nI hjk (by omega), ix_nI (show jk < 2 ^ 31 by omega), inB_nI hjv (by omega), ix_nI (show jv < 2 ^ 31 by omega), ↓reduceIte, and_self, and_true, true_and, Bool.false_eq_true, reduceCtorEq, eq_self, false_and, and_false]; done) | (simp [c1, c2, c3, c4, c5, c6, c7, inB_nI hjb (by omega), ix_nI (show jb < 2 ^ 31 by omega), inB_nI hjk (by omega), ix_nI (show jk < 2 ^ 31 by omega), inB_nI hjv (by omega), ix_nI (show jv < 2 ^ 31 by omega), ↓reduceIte, and_self, and_true, true_and, Bool.false_eq_true, reduceCtorEq, eq_self, false_and, and_false]; done) | simp only [c1, c2, c3, c4, c5, c6, c7, inB_nI hjb (by omega), ix_nI (show jb < 2 ^ 31 by omega), inB_nI hjk (by omega), ix_nI (show jk < 2 ^ 31 by omega), inB_nI hjv (by omega), ix_nI (show jv < 2 ^ 31 by omega), ↓reduceIte, and_self, and_true, true_and, Bool.false_eq_true, reduceCtorEq, eq_self, false_and, and_false]
                obtain ⟨sa, hsa⟩ := hC.2.2.1 (223, "not visited, the disc not in the van, or too few minutes") (by decide +kernel)
                exact vx_throwS (A := wA E) (names := ["java/lang/RuntimeException", "java/lang/Exception"]) hx hb hlt hown (by decide +kernel) (by decide +kernel) (hts (.classLink RX4 97 "java/lang/UnsupportedOperationException") (by decide +kernel)) (hts (.initialized "java/lang/UnsupportedOperationException") (by decide +kernel)) hsa (hat_xU hts (fun w h => List.mem_cons_of_mem _ (List.mem_append_left _ (List.mem_append_left _ (List.mem_append_right _ h)))) hC) (by decide +kernel) hC.1 hC.2.1 (by rw [← eH] at *; exact hS) (hl.1.trans hml.symm) dX4_change_65 dX4_change_68 dX4_change_69 dX4_change_71 dX4_change_74 (fun x h => (hnt x h).elim) (Nat.lt_of_lt_of_le (by decide : 2 + 3 < 6) (Nat.le_of_ble_eq_true rfl)) (Nat.le_of_ble_eq_true rfl) (Nat.le_of_ble_eq_true rfl) (Nat.le_of_ble_eq_true rfl) hlocks (wX_of hS hH (by rw [hsp])) hS.2.2 (by omega) (by omega)
            · have c6 : ¬ ((x.1 8 jv) = 1) := c6
              refine lv_if_eq (tgt := 65) hx hb dX4_change_53 (by decide) (fun _ => ?_) (fun hq => absurd (show (0 : Int32) = 0 by decide) hq)
              have hsp : cp_change x (nI jb) (nI jk) (nI jv) = (some "java/lang/UnsupportedOperationException", 0, x) := by
                unfold cp_change
                first | (simp only [c1, c2, c3, c4, c5, c6, inB_nI hjb (by omega), ix_nI (show jb < 2 ^ 31 by omega), inB_nI hjk (by omega), ix_nI (show jk < 2 ^ 31 by omega), inB_nI hjv (by omega), ix_nI (show jv < 2 ^ 31 by omega), ↓reduceIte, and_self, and_true, true_and, Bool.false_eq_true, reduceCtorEq, eq_self, false_and, and_false]; done) | (simp [c1, c2, c3, c4, c5, c6, inB_nI hjb (by omega), ix_nI (show jb < 2 ^ 31 by omega), inB_nI hjk (by omega), ix_nI (show jk < 2 ^ 31 by omega), inB_nI hjv (by omega), ix_nI (show jv < 2 ^ 31 by omega), ↓reduceIte, and_self, and_true, true_and, Bool.false_eq_true, reduceCtorEq, eq_self, false_and, and_false]; done) | simp only [c1, c2, c3, c4, c5, c6, inB_nI hjb (by omega), ix_nI (show jb < 2 ^ 31 by omega), inB_nI hjk (by omega), ix_nI (show jk < 2 ^ 31 by omega), inB_nI hjv (by omega), ix_nI (show jv < 2 ^ 31 by omega), ↓reduceIte, and_self, and_true, true_and, Bool.false_eq_true, reduceCtorEq, eq_self, false_and, and_false]
              obtain ⟨sa, hsa⟩ := hC.2.2.1 (223, "not visited, the disc not in the van, or too few minutes") (by decide +kernel)
              exact vx_throwS (A := wA E) (names := ["java/lang/RuntimeException", "java/lang/Exception"]) hx hb hlt hown (by decide +kernel) (by decide +kernel) (hts (.classLink RX4 97 "java/lang/UnsupportedOperationException") (by decide +kernel)) (hts (.initialized "java/lang/UnsupportedOperationException") (by decide +kernel)) hsa (hat_xU hts (fun w h => List.mem_cons_of_mem _ (List.mem_append_left _ (List.mem_append_left _ (List.mem_append_right _ h)))) hC) (by decide +kernel) hC.1 hC.2.1 (by rw [← eH] at *; exact hS) (hl.1.trans hml.symm) dX4_change_65 dX4_change_68 dX4_change_69 dX4_change_71 dX4_change_74 (fun x h => (hnt x h).elim) (Nat.lt_of_lt_of_le (by decide : 2 + 3 < 6) (Nat.le_of_ble_eq_true rfl)) (Nat.le_of_ble_eq_true rfl) (Nat.le_of_ble_eq_true rfl) (Nat.le_of_ble_eq_true rfl) hlocks (wX_of hS hH (by rw [hsp])) hS.2.2 (by omega) (by omega)
      · skip
        subst c3
        refine lv_null hx hb dX4_change_20 ?_
        refine lv_goto (tgt := 29) hx hb dX4_change_21 (by decide) ?_
        refine lv_astoreN (lv' := [(6, .null), (5, .ref (g (300 + (10 * jb + jk)))), (4, .ref (g (200 + jb))), (0, .ref (g 0)), (1, .int (nI jb)), (2, .int (nI jk)), (3, .int (-1))]) hx hb dX4_change_29 hl (by decide) rfl (fun ls hl => ?_)
        refine lv_aload hx hb dX4_change_31 (lv_at hl 2 rfl) ?_
        refine wr_get (T := TX0) (N := 15) (ci := 3) (v := .int (nI (x.1 10 jb) - 1)) hx hb hts hinX0 hown hK hH (lv_bx (show jb < x.1 1 0 by omega) hn1) (cel_bx (by omega)) rfl 11 (by decide) (hts (.fieldLink RX4 196 "SelectoRoute$Box" "visitWeek" "I") (by decide +kernel)) (fun _ h => h) rfl dX4_change_33 ?_
        refine lv_aload_n hx hb dX4_change_36 rfl (lv_at hl 3 rfl) ?_
        refine wr_get (T := TX4) (N := 9) (ci := 6) (v := .int (nI (x.1 9 0))) hx hb hts hinX4 hown hK hH lv_r0 (cel_rt (by omega)) rfl 5 (by decide) (hts (.fieldLink RX4 172 "SelectoRoute" "week" "I") (by decide +kernel)) (fun _ h => h) rfl dX4_change_37 ?_
        refine lv_icmp_ne (tgt := 65) hx hb dX4_change_40 (by decide) (fun c10 => ?_) (fun c10 => ?_)
        · have c10 : ¬ ((x.1 10 jb) = (x.1 9 0) + 1) := fun hq => c10 ((vw_eq (by have q0 := hc10 jb; omega) (by omega)).mpr hq)
          have hsp : cp_change x (nI jb) (nI jk) (-1) = (some "java/lang/UnsupportedOperationException", 0, x) := by
            unfold cp_change
            first | (simp only [c1, c2, eq_self, c10, inB_nI hjb (by omega), ix_nI (show jb < 2 ^ 31 by omega), inB_nI hjk (by omega), ix_nI (show jk < 2 ^ 31 by omega), ↓reduceIte, and_self, and_true, true_and, Bool.false_eq_true, reduceCtorEq, eq_self, false_and, and_false]; done) | (simp [c1, c2, eq_self, c10, inB_nI hjb (by omega), ix_nI (show jb < 2 ^ 31 by omega), inB_nI hjk (by omega), ix_nI (show jk < 2 ^ 31 by omega), ↓reduceIte, and_self, and_true, true_and, Bool.false_eq_true, reduceCtorEq, eq_self, false_and, and_false]; done) | simp only [c1, c2, eq_self, c10, inB_nI hjb (by omega), ix_nI (show jb < 2 ^ 31 by omega), inB_nI hjk (by omega), ix_nI (show jk < 2 ^ 31 by omega), ↓reduceIte, and_self, and_true, true_and, Bool.false_eq_true, reduceCtorEq, eq_self, false_and, and_false]
          obtain ⟨sa, hsa⟩ := hC.2.2.1 (223, "not visited, the disc not in the van, or too few minutes") (by decide +kernel)
          exact vx_throwS (A := wA E) (names := ["java/lang/RuntimeException", "java/lang/Exception"]) hx hb hlt hown (by decide +kernel) (by decide +kernel) (hts (.classLink RX4 97 "java/lang/UnsupportedOperationException") (by decide +kernel)) (hts (.initialized "java/lang/UnsupportedOperationException") (by decide +kernel)) hsa (hat_xU hts (fun w h => List.mem_cons_of_mem _ (List.mem_append_left _ (List.mem_append_left _ (List.mem_append_right _ h)))) hC) (by decide +kernel) hC.1 hC.2.1 (by rw [← eH] at *; exact hS) (hl.1.trans hml.symm) dX4_change_65 dX4_change_68 dX4_change_69 dX4_change_71 dX4_change_74 (fun x h => (hnt x h).elim) (Nat.lt_of_lt_of_le (by decide : 2 + 3 < 6) (Nat.le_of_ble_eq_true rfl)) (Nat.le_of_ble_eq_true rfl) (Nat.le_of_ble_eq_true rfl) (Nat.le_of_ble_eq_true rfl) hlocks (wX_of hS hH (by rw [hsp])) hS.2.2 (by omega) (by omega)
        · have c10 := (vw_eq (by have q0 := hc10 jb; omega) (by omega)).mp c10
          refine lv_aloadN hx hb dX4_change_43 (lv_at hl 0 rfl) ?_
          refine lv_ifnullN (tgt := 56) hx hb dX4_change_45 (by decide) ?_
          refine lv_aload_n hx hb dX4_change_56 rfl (lv_at hl 3 rfl) ?_
          refine wr_get (T := TX4) (N := 9) (ci := 6) (v := .int (x.2 17 0)) hx hb hts hinX4 hown hK hH lv_r0 (cel_rt (by omega)) rfl 6 (by decide) (hts (.fieldLink RX4 30 "SelectoRoute" "minutes" "I") (by decide +kernel)) (fun _ h => h) rfl dX4_change_57 ?_
          refine lv_bipush (v := 10) hx hb dX4_change_60 (by decide) ?_
          refine lv_icmp_ge (tgt := 75) hx hb dX4_change_62 (by decide) (fun c11 => ?_) (fun c11 => ?_)
          · skip
            refine lv_aload_n hx hb dX4_change_75 rfl (lv_at hl 3 rfl) ?_
            refine lv_dup hx hb dX4_change_76 rfl ?_
            refine wr_get (T := TX4) (N := 9) (ci := 6) (v := .int (x.2 17 0)) hx hb hts hinX4 hown hK hH lv_r0 (cel_rt (by omega)) rfl 6 (by decide) (hts (.fieldLink RX4 30 "SelectoRoute" "minutes" "I") (by decide +kernel)) (fun _ h => h) rfl dX4_change_77 ?_
            refine lv_bipush (v := 10) hx hb dX4_change_80 (by decide) ?_
            refine lv_isub hx hb dX4_change_82 ?_
            refine lv_topi (fun v12 ev12 => ?_)
            refine wr_put (T := TX4) (N := 9) (ci := 6) (v := .int v12) hx hb hts hinX4 tyX4 tyX4_ok nmX4 hown hK hH hS lv_r0 (cel_rt (by omega)) rfl 6 (by decide) (hts (.fieldLink RX4 30 "SelectoRoute" "minutes" "I") (by decide +kernel)) (fun _ h => h) rfl (ty := .int) (by decide +kernel) rfl rfl (Nat.le_of_ble_eq_true rfl) dX4_change_83 (fun H locs hH hS => ?_)
            have hH : wHS E o g (uI x 17 0 v12) y H := pr_6 hH
            refine lv_aload hx hb dX4_change_86 (lv_at hl 2 rfl) ?_
            refine lv_aload hx hb dX4_change_88 (lv_at hl 1 rfl) ?_
            refine lv_aloadN hx hb dX4_change_90 (lv_at hl 0 rfl) ?_
            refine va_callq (va_runV (As := [.ref (g (300 + (10 * jb + jk))), .null]) (rest := []) ⟨hx, hb, hml, hown, hts⟩ (met_X0_swap_n l E o g (uI x 17 0 v12) y jb jk (10 * jb + jk) (CI_I hI) hJ (show jb < x.1 1 0 by omega) (by omega) rfl) (cwV 2 hts gX4_change_X0_swap rfl rfl rfl (by decide +kernel) ⟨Nat.le_of_ble_eq_true rfl, Nat.le_of_ble_eq_true rfl⟩) ⟨fun a U f mk q => ⟨q.1, wPre.calling q.2 a f mk⟩, (va_recv hK (wH_one hH (lv_bx (show jb < x.1 1 0 by omega) hn1) (cel_bx (by omega))) (ci := 3) (q0 := 0) rfl rfl), fun U hU hW => ⟨rfl, wPre_at hz hS hH hK U hU hW⟩⟩ rfl rfl hl.1 rfl (lv_room (Nat.le_of_ble_eq_true rfl)) dX4_change_92 ⟨Nat.le_of_ble_eq_true rfl, Nat.le_of_ble_eq_true rfl⟩) hS (fun q _ h => h) (fun q h => h) (fun r u t H locs ht hvm hw hB hz1 hk1 hS => ?_)
            have hB := wHS_h ht hB
            try dsimp only at hw
            obtain rfl := hw
            have hH := hB
            have q7 := hc7 (10 * jb + jk)
            by_cases c13 : (x.1 7 (10 * jb + jk)) = 0
            · skip
              rw [show (if (uI x 17 0 v12).1 7 (10 * jb + jk) = 0 then (none : Option Nat) else some (g (100 + ((uI x 17 0 v12).1 7 (10 * jb + jk) - 1)))) = none from if_pos c13]
              refine lv_astoreN (lv' := [(7, .null), (6, .null), (5, .ref (g (300 + (10 * jb + jk)))), (4, .ref (g (200 + jb))), (0, .ref (g 0)), (1, .int (nI jb)), (2, .int (nI jk)), (3, .int (-1))]) hx hb dX4_change_95 hl (by decide) rfl (fun ls hl => ?_)
              refine lv_aloadN hx hb dX4_change_97 (lv_at hl 0 rfl) ?_
              refine lv_ifnonnullN hx hb dX4_change_99 ?_
              refine lv_iconst (v := (-1)) hx hb dX4_change_102 (by decide) ?_
              refine lv_goto (tgt := 111) hx hb dX4_change_103 (by decide) ?_
              subst ev12
              have hsp : cp_change x (nI jb) (nI jk) (-1) = (none, (-1), (sw1 (uI x 17 0 ((x.2 17 0) - 10)) (10 * jb + jk) 0)) := by
                unfold cp_change
                first | (simp only [c1, c2, eq_self, c10, c11, c13, inB_nI hjb (by omega), ix_nI (show jb < 2 ^ 31 by omega), inB_nI hjk (by omega), ix_nI (show jk < 2 ^ 31 by omega), ↓reduceIte, and_self, and_true, true_and, Bool.false_eq_true, reduceCtorEq, eq_self, false_and, and_false]; done) | (simp [c1, c2, eq_self, c10, c11, c13, inB_nI hjb (by omega), ix_nI (show jb < 2 ^ 31 by omega), inB_nI hjk (by omega), ix_nI (show jk < 2 ^ 31 by omega), ↓reduceIte, and_self, and_true, true_and, Bool.false_eq_true, reduceCtorEq, eq_self, false_and, and_false]; done) | simp only [c1, c2, eq_self, c10, c11, c13, inB_nI hjb (by omega), ix_nI (show jb < 2 ^ 31 by omega), inB_nI hjk (by omega), ix_nI (show jk < 2 ^ 31 by omega), ↓reduceIte, and_self, and_true, true_and, Bool.false_eq_true, reduceCtorEq, eq_self, false_and, and_false]
              refine vx_ret ?_
              refine W.widen (k := 4) (n := 24) (by omega) (by omega) ?_
              exact W.iret (v := (-1)) hx hb hr (fun t ht hW => ⟨⟨(-1), (), rfl, (by rw [hsp]; exact ⟨rfl, rfl⟩), wHS_t ht (by rw [hsp]; exact hH)⟩, hS.F ht⟩) hS.2.2 dX4_change_111
            · skip
              rw [show (if (uI x 17 0 v12).1 7 (10 * jb + jk) = 0 then (none : Option Nat) else some (g (100 + ((uI x 17 0 v12).1 7 (10 * jb + jk) - 1)))) = some (g (100 + (x.1 7 (10 * jb + jk) - 1))) from if_neg c13]
              refine lv_astore (lv' := [(7, .ref (g (100 + ((x.1 7 (10 * jb + jk)) - 1)))), (6, .null), (5, .ref (g (300 + (10 * jb + jk)))), (4, .ref (g (200 + jb))), (0, .ref (g 0)), (1, .int (nI jb)), (2, .int (nI jk)), (3, .int (-1))]) hx hb dX4_change_95 hl (by decide) rfl (fun ls hl => ?_)
              refine lv_aload hx hb dX4_change_97 (lv_at hl 0 rfl) ?_
              refine lv_ifnonnull (tgt := 106) hx hb dX4_change_99 (by decide) ?_
              refine lv_aload hx hb dX4_change_106 (lv_at hl 0 rfl) ?_
              refine wr_get (T := TX2) (N := 8) (ci := 4) (v := .int (nI ((x.1 7 (10 * jb + jk)) - 1))) hx hb hts hinX2 hown hK hH (lv_di (by rw [(show (sw1 (uI x 17 0 v12) (10 * jb + jk) 0).1 0 0 = x.1 0 0 from sw1_00 (uI x 17 0 v12) (10 * jb + jk) 0)]; omega) (by rw [(show (sw1 (uI x 17 0 v12) (10 * jb + jk) 0).1 0 0 = x.1 0 0 from sw1_00 (uI x 17 0 v12) (10 * jb + jk) 0)]; exact hn0)) (cel_di (by omega)) rfl 0 (by decide) (hts (.fieldLink RX4 62 "SelectoRoute$Disc" "number" "I") (by decide +kernel)) (fun _ h => h) rfl dX4_change_108 ?_
              subst ev12
              have hsp : cp_change x (nI jb) (nI jk) (-1) = (none, (nI ((x.1 7 (10 * jb + jk)) - 1)), (sw1 (uI x 17 0 ((x.2 17 0) - 10)) (10 * jb + jk) 0)) := by
                unfold cp_change
                first | (simp only [c1, c2, eq_self, c10, c11, c13, inB_nI hjb (by omega), ix_nI (show jb < 2 ^ 31 by omega), inB_nI hjk (by omega), ix_nI (show jk < 2 ^ 31 by omega), ↓reduceIte, and_self, and_true, true_and, Bool.false_eq_true, reduceCtorEq, eq_self, false_and, and_false]; done) | (simp [c1, c2, eq_self, c10, c11, c13, inB_nI hjb (by omega), ix_nI (show jb < 2 ^ 31 by omega), inB_nI hjk (by omega), ix_nI (show jk < 2 ^ 31 by omega), ↓reduceIte, and_self, and_true, true_and, Bool.false_eq_true, reduceCtorEq, eq_self, false_and, and_false]; done) | simp only [c1, c2, eq_self, c10, c11, c13, inB_nI hjb (by omega), ix_nI (show jb < 2 ^ 31 by omega), inB_nI hjk (by omega), ix_nI (show jk < 2 ^ 31 by omega), ↓reduceIte, and_self, and_true, true_and, Bool.false_eq_true, reduceCtorEq, eq_self, false_and, and_false]
              refine vx_ret ?_
              refine W.widen (k := 4) (n := 24) (by omega) (by omega) ?_
              exact W.iret (v := (nI ((x.1 7 (10 * jb + jk)) - 1))) hx hb hr (fun t ht hW => ⟨⟨(nI ((x.1 7 (10 * jb + jk)) - 1)), (), rfl, (by rw [hsp]; exact ⟨rfl, rfl⟩), wHS_t ht (by rw [hsp]; exact hH)⟩, hS.F ht⟩) hS.2.2 dX4_change_111
          · skip
            have hsp : cp_change x (nI jb) (nI jk) (-1) = (some "java/lang/UnsupportedOperationException", 0, x) := by
              unfold cp_change
              first | (simp only [c1, c2, eq_self, c10, c11, inB_nI hjb (by omega), ix_nI (show jb < 2 ^ 31 by omega), inB_nI hjk (by omega), ix_nI (show jk < 2 ^ 31 by omega), ↓reduceIte, and_self, and_true, true_and, Bool.false_eq_true, reduceCtorEq, eq_self, false_and, and_false]; done) | (simp [c1, c2, eq_self, c10, c11, inB_nI hjb (by omega), ix_nI (show jb < 2 ^ 31 by omega), inB_nI hjk (by omega), ix_nI (show jk < 2 ^ 31 by omega), ↓reduceIte, and_self, and_true, true_and, Bool.false_eq_true, reduceCtorEq, eq_self, false_and, and_false]; done) | simp only [c1, c2, eq_self, c10, c11, inB_nI hjb (by omega), ix_nI (show jb < 2 ^ 31 by omega), inB_nI hjk (by omega), ix_nI (show jk < 2 ^ 31 by omega), ↓reduceIte, and_self, and_true, true_and, Bool.false_eq_true, reduceCtorEq, eq_self, false_and, and_false]
            obtain ⟨sa, hsa⟩ := hC.2.2.1 (223, "not visited, the disc not in the van, or too few minutes") (by decide +kernel)
            exact vx_throwS (A := wA E) (names := ["java/lang/RuntimeException", "java/lang/Exception"]) hx hb hlt hown (by decide +kernel) (by decide +kernel) (hts (.classLink RX4 97 "java/lang/UnsupportedOperationException") (by decide +kernel)) (hts (.initialized "java/lang/UnsupportedOperationException") (by decide +kernel)) hsa (hat_xU hts (fun w h => List.mem_cons_of_mem _ (List.mem_append_left _ (List.mem_append_left _ (List.mem_append_right _ h)))) hC) (by decide +kernel) hC.1 hC.2.1 (by rw [← eH] at *; exact hS) (hl.1.trans hml.symm) dX4_change_65 dX4_change_68 dX4_change_69 dX4_change_71 dX4_change_74 (fun x h => (hnt x h).elim) (Nat.lt_of_lt_of_le (by decide : 2 + 3 < 6) (Nat.le_of_ble_eq_true rfl)) (Nat.le_of_ble_eq_true rfl) (Nat.le_of_ble_eq_true rfl) (Nat.le_of_ble_eq_true rfl) hlocks (wX_of hS hH (by rw [hsp])) hS.2.2 (by omega) (by omega)
