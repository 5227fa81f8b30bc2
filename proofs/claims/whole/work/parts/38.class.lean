/-! ===== the class: meanPull ===== -/
def cp_meanPull (x : St)  : Option String × UInt64 × St := if ((fU (stMp x) ((0 : Nat), (0 : Int32)) (x.1 0 0)).1) = 0 then (some "java/lang/ArithmeticException", 0, x) else (none, (FP.ddiv (FP.i2d ((fU (stMp x) ((0 : Nat), (0 : Int32)) (x.1 0 0)).2)) (FP.i2d (nI ((fU (stMp x) ((0 : Nat), (0 : Int32)) (x.1 0 0)).1)))), x)
set_option maxHeartbeats 4000000 in
set_option maxRecDepth 100000 in
theorem met_X4_meanPull (l : Launch) (E : wE) (o : wO) (g : Nat → Nat) (x y : St) (hlt : l.stackTraces = false) (hI : CI x) (hN : ∀ q : Nat × Int32, q = fU (stMp x) ((0 : Nat), (0 : Int32)) (x.1 0 0) → ¬ q.1 = 0 → vf_n64 (FP.ddiv (FP.i2d q.2) (FP.i2d (nI q.1)))) : vx_Met l yX4_meanPull wsX4_meanPull ({ frames := 10, cells := 4, slots := 24, locals := 1100 } : Room) (va_Pc [.ref (g 0)] (wPreX E o g x y)) (va_Qd (fun (r : UInt64) (_ : Unit) => (cp_meanPull x ).1 = none ∧ r = (cp_meanPull x ).2.1) (fun (_ : Unit) t => wHS E o g (cp_meanPull x ).2.2 y t.heap) (wA E)) (wXC E o g x y (fun X => (cp_meanPull x ).1 = some X)) 4 24 (wA E) := by
  refine vx_ofW (cc := cX4_meanPull) (maxL := 5) (ret := (some .double)) (by decide) rfl ?_
  intro p e s m args below meth c s₁ B hml hnt hv
  obtain ⟨rfl, ⟨hz, hH, hK⟩, hC⟩ := hv
  have hx := B.exec
  have hb := B.bytes
  have hr := B.returns
  have hts := atoms_spec (ws := wsX4_meanPull) B.pre
  have hown : s.vm.findClass RX4 = some m.cls := findClass_of_methodNamed B.named
  have hlocks := B.notSynchronized
  have hS : va_S (wA E) s.heap s.heap [] := va_S.rf
  have hinX4 : ∀ w ∈ wsX40, w ∈ wsX4_meanPull := fun w h => List.mem_cons_of_mem _ (List.mem_append_left _ (List.mem_append_left _ (List.mem_append_left _ (List.mem_append_left _ (List.mem_append_right _ h)))))
  have hinX2 : ∀ w ∈ wsX20, w ∈ wsX4_meanPull := fun w h => List.mem_cons_of_mem _ (List.mem_append_left _ (List.mem_append_left _ (List.mem_append_left _ (List.mem_append_right _ h))))
  have hinJx4a65c : ∀ w ∈ wsJx4a65c0, w ∈ wsX4_meanPull := fun w h => List.mem_cons_of_mem _ (List.mem_append_left _ (List.mem_append_left _ (List.mem_append_right _ h)))
  have hinX0 : ∀ w ∈ wsX00, w ∈ wsX4_meanPull := fun w h => List.mem_cons_of_mem _ (List.mem_append_left _ (List.mem_append_right _ h))
  have hl := lv_entry ([.ref (g 0)]) (n := 5) (Nat.le_of_ble_eq_true rfl)
  rw [lg_entry_eq]
  generalize (lg_sl ([.ref (g 0)]) ++ List.replicate (5 - (lg_sl ([.ref (g 0)])).length) Slot.unset).toArray = ls at hl ⊢
  have hl : lv_has ls 5 [(0, .ref (g 0))] := hl
  obtain ⟨H, eH⟩ : ∃ z, z = s.heap := ⟨_, rfl⟩
  have hH : wHS E o g x y H := by rw [eH]; exact hH
  have hS : va_S (wA E) s.heap H [] := by rw [eH]; exact hS
  refine W.heapTo eH ?_
  obtain ⟨hn0, hn1, hn2, hn3, hn4, hn5, hc7, hc8, hc5, hc54, hc4, hc50, hc9, hc12, hc10, hcj⟩ := id hI
  refine W.nameQ (fun Q eQ => ?_)
  refine lv_iconst (v := 0) hx hb dX4_meanPull_0 (by decide) ?_
  refine lv_istore_n (lv' := [(1, .int 0), (0, .ref (g 0))]) hx hb dX4_meanPull_1 rfl hl (by decide) rfl (fun ls hl => ?_)
  refine lv_iconst (v := 0) hx hb dX4_meanPull_2 (by decide) ?_
  refine lv_istore_n (lv' := [(2, .int 0), (1, .int 0), (0, .ref (g 0))]) hx hb dX4_meanPull_3 rfl hl (by decide) rfl (fun ls hl => ?_)
  refine lv_iconst (v := 0) hx hb dX4_meanPull_4 (by decide) ?_
  refine lv_istore_n (lv' := [(3, .int 0), (2, .int 0), (1, .int 0), (0, .ref (g 0))]) hx hb dX4_meanPull_5 rfl hl (by decide) rfl (fun ls hl => ?_)
  have loop : ∀ (k n : Nat), n + k = (x.1 0 0) → ∀ (q : Nat × Int32), q = fU (stMp x) ((0 : Nat), (0 : Int32)) n → q.1 ≤ n → ∀ (H : Heap) (locs : List Loc) (ls : Array Slot), lv_has ls 5 [(1, .int (nI (q.1))), (2, .int (q.2)), (3, .int (nI n)), (0, .ref (g 0))] → wHS E o g x y H → va_S (wA E) s.heap H locs → W p l e ({ frames := 10, cells := 4, slots := 24, locals := 1100 } : Room) s m #[.ref (g 0)] below meth c H locs 0 0 Q (F0 m 6 ls []) := by
    intro k
    induction k with
    | zero =>
      intro n hn q hq hqb H locs ls hl hH hS
      obtain rfl : (x.1 0 0) = n := by omega
      rw [hq] at hl
      try rw [hq] at hqb
      have hl : lv_has ls 5 [(1, .int (nI ((fU (stMp x) ((0 : Nat), (0 : Int32)) (x.1 0 0)).1))), (2, .int ((fU (stMp x) ((0 : Nat), (0 : Int32)) (x.1 0 0)).2)), (3, .int (nI (x.1 0 0))), (0, .ref (g 0))] := hl
      refine lv_iload_n hx hb dX4_meanPull_6 rfl (lv_at hl 2 rfl) ?_
      refine lv_aload_n hx hb dX4_meanPull_7 rfl (lv_at hl 3 rfl) ?_
      refine wr_get (T := TX4) (N := 9) (ci := 6) (v := .ref (g 1)) hx hb hts hinX4 hown hK hH lv_r0 (cel_rt (by omega)) rfl 0 (by decide) (hts (.fieldLink RX4 10 "SelectoRoute" "discs" "Ljava/util/ArrayList;") (by decide +kernel)) (fun _ h => h) rfl dX4_meanPull_8 ?_
      refine va_calli (va_runV (As := []) (rest := [.int (nI (x.1 0 0))]) ⟨hx, hb, hml, hown, hts⟩ (met_AL_size l E g (liv x.1) (cel E.2.1 g x y o.1 o.2) 1 2 (x.2 20 0) (x.1 2 0) (x.1 0 0) E.2.1.2 lv_r1 (cel_rt (by omega))) (cwV 0 hts gX4_meanPull_Jx4a65c_size_8abf5 rfl rfl rfl (by decide +kernel) ⟨Nat.le_of_ble_eq_true rfl, Nat.le_of_ble_eq_true rfl⟩) ⟨fun a U f mk q => ⟨q.1, wPreG.calling q.2 a f mk⟩, (va_recv hK (wH_one hH lv_r1 (cel_rt (by omega))) (ci := 2) (q0 := 0) rfl rfl), fun U hU hW => ⟨rfl, wPreG_at hz hS hH hK U hU hW⟩⟩ rfl rfl hl.1 rfl (lv_room (Nat.le_of_ble_eq_true rfl)) dX4_meanPull_11 ⟨Nat.le_of_ble_eq_true rfl, Nat.le_of_ble_eq_true rfl⟩) hS (fun q _ h => h) (fun q h => h) (fun r u t H locs ht hvm hw hB hz1 hk1 hS => ?_)
      obtain rfl := hw
      have hH : wHS E o g x y H := wG_h ht hB
      refine lv_icmp_ge (tgt := 59) hx hb dX4_meanPull_14 (by decide) (fun _ => ?_) (fun hq => absurd ((nI_leI (a := (x.1 0 0)) (b := (x.1 0 0)) (by omega) (by omega)).mpr (Nat.le_refl _)) hq)
      refine lv_iload_n hx hb dX4_meanPull_59 rfl (lv_at hl 0 rfl) ?_
      refine lv_if_ne (tgt := 74) hx hb dX4_meanPull_60 (by decide) (fun c1 => ?_) (fun c1 => ?_)
      · have c1 : ¬ (((fU (stMp x) ((0 : Nat), (0 : Int32)) (x.1 0 0)).1) = 0) := fun hq => c1 ((nI_eq (a := ((fU (stMp x) ((0 : Nat), (0 : Int32)) (x.1 0 0)).1)) (b := 0) (by omega) (by omega)).mpr hq)
        refine lv_iload_n hx hb dX4_meanPull_74 rfl (lv_at hl 1 rfl) ?_
        refine lv_i2d hx hb dX4_meanPull_75 ?_
        refine lv_iload_n hx hb dX4_meanPull_76 rfl (lv_at hl 0 rfl) ?_
        refine lv_i2d hx hb dX4_meanPull_77 ?_
        refine lv_ddiv hx hb dX4_meanPull_78 (hN _ rfl c1) ?_
        have hsp : cp_meanPull x = (none, (FP.ddiv (FP.i2d ((fU (stMp x) ((0 : Nat), (0 : Int32)) (x.1 0 0)).2)) (FP.i2d (nI ((fU (stMp x) ((0 : Nat), (0 : Int32)) (x.1 0 0)).1)))), x) := by
          unfold cp_meanPull
          first | (simp only [c1, ↓reduceIte, and_self, and_true, true_and, Bool.false_eq_true, reduceCtorEq, eq_self, false_and, and_false]; done) | (simp [c1, ↓reduceIte, and_self, and_true, true_and, Bool.false_eq_true, reduceCtorEq, eq_self, false_and, and_false]; done) | simp only [c1, ↓reduceIte, and_self, and_true, true_and, Bool.false_eq_true, reduceCtorEq, eq_self, false_and, and_false]
        have hx0 : (cp_meanPull x).1 = none := by rw [hsp]
        have hx1 : (cp_meanPull x).2.1 = (FP.ddiv (FP.i2d ((fU (stMp x) ((0 : Nat), (0 : Int32)) (x.1 0 0)).2)) (FP.i2d (nI ((fU (stMp x) ((0 : Nat), (0 : Int32)) (x.1 0 0)).1)))) := by rw [hsp]
        have hx2 : (cp_meanPull x).2.2 = x := by rw [hsp]
        rw [eQ]
        refine vx_ret ?_
        refine W.widen (k := 4) (n := 24) (by omega) (by omega) ?_
        exact W.dret (v := (FP.ddiv (FP.i2d ((fU (stMp x) ((0 : Nat), (0 : Int32)) (x.1 0 0)).2)) (FP.i2d (nI ((fU (stMp x) ((0 : Nat), (0 : Int32)) (x.1 0 0)).1))))) hx hb hr (fun t ht hW => ⟨⟨(FP.ddiv (FP.i2d ((fU (stMp x) ((0 : Nat), (0 : Int32)) (x.1 0 0)).2)) (FP.i2d (nI ((fU (stMp x) ((0 : Nat), (0 : Int32)) (x.1 0 0)).1)))), (), rfl, ⟨hx0, hx1.symm⟩, wHS_t ht (by rw [hx2]; exact hH)⟩, hS.F ht⟩) hS.2.2 dX4_meanPull_79
      · have c1 := (nI_eq (a := ((fU (stMp x) ((0 : Nat), (0 : Int32)) (x.1 0 0)).1)) (b := 0) (by omega) (by omega)).mp c1
        have hsp : cp_meanPull x = (some "java/lang/ArithmeticException", 0, x) := by
          unfold cp_meanPull
          first | (simp only [c1, ↓reduceIte, and_self, and_true, true_and, Bool.false_eq_true, reduceCtorEq, eq_self, false_and, and_false]; done) | (simp [c1, ↓reduceIte, and_self, and_true, true_and, Bool.false_eq_true, reduceCtorEq, eq_self, false_and, and_false]; done) | simp only [c1, ↓reduceIte, and_self, and_true, true_and, Bool.false_eq_true, reduceCtorEq, eq_self, false_and, and_false]
        rw [eQ]
        obtain ⟨sa, hsa⟩ := hC.2.2.1 (267, "no disc in a box") (by decide +kernel)
        exact vx_throwSW (A := wA E) (names := ["java/lang/RuntimeException", "java/lang/Exception"]) hx hb hlt hown (by decide +kernel) (by decide +kernel) (hts (.classLink RX4 262 "java/lang/ArithmeticException") (by decide +kernel)) (hts (.initialized "java/lang/ArithmeticException") (by decide +kernel)) hsa (hat_xR hts (fun w h => List.mem_cons_of_mem _ (List.mem_append_right _ h)) hC) (by decide +kernel) hC.1 hC.2.1 (by rw [← eH] at *; exact hS) (hl.1.trans hml.symm) dX4_meanPull_63 dX4_meanPull_66 dX4_meanPull_67 dX4_meanPull_70 dX4_meanPull_73 (fun x h => (hnt x h).elim) (Nat.lt_of_lt_of_le (by decide : 2 + 3 < 6) (Nat.le_of_ble_eq_true rfl)) (Nat.le_of_ble_eq_true rfl) (Nat.le_of_ble_eq_true rfl) (Nat.le_of_ble_eq_true rfl) hlocks (wX_of hS hH (by rw [hsp])) hS.2.2 (by omega) (by omega)
    | succ k ih =>
      intro n hn q hq hqb H locs ls hl hH hS
      have hlt : n < (x.1 0 0) := by omega
      refine lv_iload_n hx hb dX4_meanPull_6 rfl (lv_at hl 2 rfl) ?_
      refine lv_aload_n hx hb dX4_meanPull_7 rfl (lv_at hl 3 rfl) ?_
      refine wr_get (T := TX4) (N := 9) (ci := 6) (v := .ref (g 1)) hx hb hts hinX4 hown hK hH lv_r0 (cel_rt (by omega)) rfl 0 (by decide) (hts (.fieldLink RX4 10 "SelectoRoute" "discs" "Ljava/util/ArrayList;") (by decide +kernel)) (fun _ h => h) rfl dX4_meanPull_8 ?_
      refine va_calli (va_runV (As := []) (rest := [.int (nI n)]) ⟨hx, hb, hml, hown, hts⟩ (met_AL_size l E g (liv x.1) (cel E.2.1 g x y o.1 o.2) 1 2 (x.2 20 0) (x.1 2 0) (x.1 0 0) E.2.1.2 lv_r1 (cel_rt (by omega))) (cwV 0 hts gX4_meanPull_Jx4a65c_size_8abf5 rfl rfl rfl (by decide +kernel) ⟨Nat.le_of_ble_eq_true rfl, Nat.le_of_ble_eq_true rfl⟩) ⟨fun a U f mk q => ⟨q.1, wPreG.calling q.2 a f mk⟩, (va_recv hK (wH_one hH lv_r1 (cel_rt (by omega))) (ci := 2) (q0 := 0) rfl rfl), fun U hU hW => ⟨rfl, wPreG_at hz hS hH hK U hU hW⟩⟩ rfl rfl hl.1 rfl (lv_room (Nat.le_of_ble_eq_true rfl)) dX4_meanPull_11 ⟨Nat.le_of_ble_eq_true rfl, Nat.le_of_ble_eq_true rfl⟩) hS (fun q _ h => h) (fun q h => h) (fun r u t H locs ht hvm hw hB hz1 hk1 hS => ?_)
      obtain rfl := hw
      have hH : wHS E o g x y H := wG_h ht hB
      refine lv_icmp_ge (tgt := 59) hx hb dX4_meanPull_14 (by decide) (fun hq => absurd ((nI_leI (a := (x.1 0 0)) (b := n) (by omega) (by omega)).mp hq) (Nat.not_le.mpr hlt)) (fun _ => ?_)
      refine lv_aload_n hx hb dX4_meanPull_17 rfl (lv_at hl 3 rfl) ?_
      refine wr_get (T := TX4) (N := 9) (ci := 6) (v := .ref (g 1)) hx hb hts hinX4 hown hK hH lv_r0 (cel_rt (by omega)) rfl 0 (by decide) (hts (.fieldLink RX4 10 "SelectoRoute" "discs" "Ljava/util/ArrayList;") (by decide +kernel)) (fun _ h => h) rfl dX4_meanPull_18 ?_
      refine lv_iload_n hx hb dX4_meanPull_21 rfl (lv_at hl 2 rfl) ?_
      refine va_callr (va_runV (As := [.int (nI n)]) (rest := []) ⟨hx, hb, hml, hown, hts⟩ (met_AL_get l E g (liv x.1) (cel E.2.1 g x y o.1 o.2) 1 2 (x.2 20 0) (x.1 2 0) (x.1 0 0) E.2.1.2 n lv_r1 (cel_rt (by omega)) (show x.1 2 0 ≠ 0 by have hq := (show n < x.1 0 0 by omega); omega) (lv_r2 (show x.1 2 0 ≠ 0 by have hq := (show n < x.1 0 0 by omega); omega)) (fun i => g (100 + i)) (cel_rt (by omega)) (show x.1 0 0 ≤ x.1 2 0 by omega) (show x.1 2 0 < 2 ^ 31 by omega) (show n < x.1 0 0 by omega)) (cwV 1 hts gX4_meanPull_Jx4a65c_get_915e3 rfl rfl rfl (by decide +kernel) ⟨Nat.le_of_ble_eq_true rfl, Nat.le_of_ble_eq_true rfl⟩) ⟨fun a U f mk q => ⟨q.1, wPreG.calling q.2 a f mk⟩, (va_recv hK (wH_one hH lv_r1 (cel_rt (by omega))) (ci := 2) (q0 := 0) rfl rfl), fun U hU hW => ⟨rfl, wPreG_at hz hS hH hK U hU hW⟩⟩ rfl rfl hl.1 rfl (lv_room (Nat.le_of_ble_eq_true rfl)) dX4_meanPull_22 ⟨Nat.le_of_ble_eq_true rfl, Nat.le_of_ble_eq_true rfl⟩) hS (fun q _ h => h) (fun q h => h) (fun u ra t H locs ht hvm hw hB hz1 hk1 hS => ?_)
      obtain ⟨rfl, hB⟩ := hB
      have hH : wHS E o g x y H := wG_h ht hB
      refine va_castS hx hb hown (hts (.classLink RX4 53 "SelectoRoute$Disc") (by decide +kernel)) (hK.1 4 _ rfl).2 (va_recv hK (wH_one hH (lv_di (show n < x.1 0 0 by omega) hn0) (cel_di (by omega))) (ci := 4) (q0 := 0) rfl rfl) dX4_meanPull_25 ?_
      refine lv_astore (lv' := [(4, .ref (g (100 + n))), (1, .int (nI (q.1))), (2, .int (q.2)), (3, .int (nI n)), (0, .ref (g 0))]) hx hb dX4_meanPull_28 hl (by decide) rfl (fun ls hl => ?_)
      refine lv_aload hx hb dX4_meanPull_30 (lv_at hl 0 rfl) ?_
      have q8 := hc8 n
      by_cases c2 : (x.1 8 n) < 2
      · skip
        refine wr_get (T := TX2) (N := 8) (ci := 4) (v := .null) hx hb hts hinX2 hown hK hH (lv_di (show n < x.1 0 0 by omega) hn0) (cel_di (by omega)) rfl 6 (by decide) (hts (.fieldLink RX4 163 "SelectoRoute$Disc" "box" "LSelectoRoute$Box;") (by decide +kernel)) (fun _ h => h) (congrArg some (if_pos c2)) dX4_meanPull_32 ?_
        refine lv_ifnullN (tgt := 53) hx hb dX4_meanPull_35 (by decide) ?_
        obtain ⟨v3, ev3⟩ : ∃ y : Int32, y = (nI n) + 1 := ⟨_, rfl⟩
        refine lv_iinc (v := v3) (lv' := [(3, .int v3), (4, .ref (g (100 + n))), (1, .int (nI (q.1))), (2, .int (q.2)), (0, .ref (g 0))]) hx hb dX4_meanPull_53 hl (k := 3) rfl (by rw [ev3]; rfl) (by decide) rfl (fun ls hl => ?_)
        refine lv_goto (tgt := 6) hx hb dX4_meanPull_56 (by decide) ?_
        have e9 : v3 = nI (n + 1) := by rw [ev3]; exact nI_1 n
        rw [e9] at hl
        exact ih (n + 1) (by omega) q (by rw [fU_s, ← hq]; unfold stMp; simp only [c2, ↓reduceIte]) (by first | omega | (dsimp only; omega)) H locs ls (lv_sub hl [2, 3, 0, 4] rfl) hH hS
      · skip
        refine wr_get (T := TX2) (N := 8) (ci := 4) (v := .ref (g (200 + ((x.1 8 n) - 2) / 10))) hx hb hts hinX2 hown hK hH (lv_di (show n < x.1 0 0 by omega) hn0) (cel_di (by omega)) rfl 6 (by decide) (hts (.fieldLink RX4 163 "SelectoRoute$Disc" "box" "LSelectoRoute$Box;") (by decide +kernel)) (fun _ h => h) (congrArg some (if_neg c2)) dX4_meanPull_32 ?_
        refine lv_ifnull hx hb dX4_meanPull_35 ?_
        obtain ⟨v4, ev4⟩ : ∃ y : Int32, y = (nI (q.1)) + 1 := ⟨_, rfl⟩
        refine lv_iinc (v := v4) (lv' := [(1, .int v4), (4, .ref (g (100 + n))), (2, .int (q.2)), (3, .int (nI n)), (0, .ref (g 0))]) hx hb dX4_meanPull_38 hl (k := 1) rfl (by rw [ev4]; rfl) (by decide) rfl (fun ls hl => ?_)
        refine lv_iload_n hx hb dX4_meanPull_41 rfl (lv_at hl 2 rfl) ?_
        refine lv_aload hx hb dX4_meanPull_42 (lv_at hl 1 rfl) ?_
        refine lv_aload_n hx hb dX4_meanPull_44 rfl (lv_at hl 4 rfl) ?_
        refine wr_get (T := TX4) (N := 9) (ci := 6) (v := .int (nI (x.1 9 0))) hx hb hts hinX4 hown hK hH lv_r0 (cel_rt (by omega)) rfl 5 (by decide) (hts (.fieldLink RX4 172 "SelectoRoute" "week" "I") (by decide +kernel)) (fun _ h => h) rfl dX4_meanPull_45 ?_
        refine va_calli (va_runV (As := [.int (nI (x.1 9 0))]) (rest := [.int (q.2)]) ⟨hx, hb, hml, hown, hts⟩ (met_X2_pullWhereItIs l E o g x y n (nI (x.1 9 0)) (show n < x.1 0 0 by omega) hn0 (hc8 n) hn1) (cwV 1 hts gX4_meanPull_X2_pullWhereItIs rfl rfl rfl (by decide +kernel) ⟨Nat.le_of_ble_eq_true rfl, Nat.le_of_ble_eq_true rfl⟩) ⟨fun a U f mk q => ⟨q.1, wPre.calling q.2 a f mk⟩, (va_recv hK (wH_one hH (lv_di (show n < x.1 0 0 by omega) hn0) (cel_di (by omega))) (ci := 4) (q0 := 0) rfl rfl), fun U hU hW => ⟨rfl, wPre_at hz hS hH hK U hU hW⟩⟩ rfl rfl hl.1 rfl (lv_room (Nat.le_of_ble_eq_true rfl)) dX4_meanPull_48 ⟨Nat.le_of_ble_eq_true rfl, Nat.le_of_ble_eq_true rfl⟩) hS (fun q _ h => h) (fun q h => h) (fun r u t H locs ht hvm hw hB hz1 hk1 hS => ?_)
        have hB := wHS_h ht hB
        try dsimp only at hw
        obtain rfl := hw
        have hH := hB
        refine lv_iadd hx hb dX4_meanPull_51 ?_
        refine lv_istore_n (lv' := [(2, .int ((q.2) + (pW x n (nI (x.1 9 0))))), (1, .int v4), (4, .ref (g (100 + n))), (3, .int (nI n)), (0, .ref (g 0))]) hx hb dX4_meanPull_52 rfl hl (by decide) rfl (fun ls hl => ?_)
        obtain ⟨v5, ev5⟩ : ∃ y : Int32, y = (nI n) + 1 := ⟨_, rfl⟩
        refine lv_iinc (v := v5) (lv' := [(3, .int v5), (2, .int ((q.2) + (pW x n (nI (x.1 9 0))))), (1, .int v4), (4, .ref (g (100 + n))), (0, .ref (g 0))]) hx hb dX4_meanPull_53 hl (k := 3) rfl (by rw [ev5]; rfl) (by decide) rfl (fun ls hl => ?_)
        refine lv_goto (tgt := 6) hx hb dX4_meanPull_56 (by decide) ?_
        have e9 : v5 = nI (n + 1) := by rw [ev5]; exact nI_1 n
        rw [e9] at hl
        have e7 : v4 = nI (q.1 + 1) := by rw [ev4]; exact nI_1 _
        rw [e7] at hl
        exact ih (n + 1) (by omega) (q.1 + 1, (q.2) + (pW x n (nI (x.1 9 0)))) (by rw [fU_s, ← hq]; unfold stMp; simp only [c2, ↓reduceIte]) (by first | omega | (dsimp only; omega)) H locs ls (lv_sub hl [2, 1, 0, 4] rfl) hH hS
  exact loop (x.1 0 0) 0 (by omega) ((0 : Nat), (0 : Int32)) rfl (Nat.le_refl _) H _ ls (lv_sub hl [2, 1, 0, 3] rfl) hH hS
