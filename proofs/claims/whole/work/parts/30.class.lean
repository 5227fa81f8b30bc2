/-! ===== the class: pass ===== -/
theorem fB_1 (x : St) (n : Nat) : (fU stB x n).1 = x.1 := (fU_1 stB stB_1 x n).1
def cp_pass (x : St)  : Option String × Int32 × St := if (x.1 9 0) < 99 then (none, (nI ((x.1 9 0) + 1)), (uI (uN (fU stB x (x.1 1 0)) 9 0 ((x.1 9 0) + 1)) 17 0 600)) else (some "java/lang/IllegalStateException", 0, x)
set_option maxHeartbeats 4000000 in
set_option maxRecDepth 100000 in
theorem met_X4_pass (l : Launch) (E : wE) (o : wO) (g : Nat → Nat) (x y : St) (hlt : l.stackTraces = false) (hI : CI x) : vx_Met l yX4_pass wsX4_pass ({ frames := 10, cells := 4, slots := 24, locals := 1100 } : Room) (va_Pc [.ref (g 0)] (wPreX E o g x y)) (va_Qi (fun (r : Int32) (_ : Unit) => (cp_pass x ).1 = none ∧ r = (cp_pass x ).2.1) (fun (_ : Unit) t => wHS E o g (cp_pass x ).2.2 y t.heap) (wA E)) (wXC E o g x y (fun X => (cp_pass x ).1 = some X)) 4 24 (wA E) := by
  refine vx_ofW (cc := cX4_pass) (maxL := 3) (ret := (some .int)) (by decide) rfl ?_
  intro p e s m args below meth c s₁ B hml hnt hv
  obtain ⟨rfl, ⟨hz, hH, hK⟩, hC⟩ := hv
  have hx := B.exec
  have hb := B.bytes
  have hr := B.returns
  have hts := atoms_spec (ws := wsX4_pass) B.pre
  have hown : s.vm.findClass RX4 = some m.cls := findClass_of_methodNamed B.named
  have hlocks := B.notSynchronized
  have hS : va_S (wA E) s.heap s.heap [] := va_S.rf
  have hinX4 : ∀ w ∈ wsX40, w ∈ wsX4_pass := fun w h => List.mem_cons_of_mem _ (List.mem_append_left _ (List.mem_append_left _ (List.mem_append_left _ (List.mem_append_left _ (List.mem_append_left _ (List.mem_append_right _ h))))))
  have hinX0 : ∀ w ∈ wsX00, w ∈ wsX4_pass := fun w h => List.mem_cons_of_mem _ (List.mem_append_left _ (List.mem_append_left _ (List.mem_append_left _ (List.mem_append_left _ (List.mem_append_right _ h)))))
  have hinJx4a65c : ∀ w ∈ wsJx4a65c0, w ∈ wsX4_pass := fun w h => List.mem_cons_of_mem _ (List.mem_append_left _ (List.mem_append_left _ (List.mem_append_left _ (List.mem_append_right _ h))))
  have hinX3 : ∀ w ∈ wsX30, w ∈ wsX4_pass := fun w h => List.mem_cons_of_mem _ (List.mem_append_left _ (List.mem_append_left _ (List.mem_append_right _ h)))
  have hinX2 : ∀ w ∈ wsX20, w ∈ wsX4_pass := fun w h => List.mem_cons_of_mem _ (List.mem_append_left _ (List.mem_append_right _ h))
  have hl := lv_entry ([.ref (g 0)]) (n := 3) (Nat.le_of_ble_eq_true rfl)
  rw [lg_entry_eq]
  generalize (lg_sl ([.ref (g 0)]) ++ List.replicate (3 - (lg_sl ([.ref (g 0)])).length) Slot.unset).toArray = ls at hl ⊢
  have hl : lv_has ls 3 [(0, .ref (g 0))] := hl
  obtain ⟨H, eH⟩ : ∃ z, z = s.heap := ⟨_, rfl⟩
  have hH : wHS E o g x y H := by rw [eH]; exact hH
  have hS : va_S (wA E) s.heap H [] := by rw [eH]; exact hS
  refine W.heapTo eH ?_
  obtain ⟨hn0, hn1, hn2, hn3, hn4, hn5, hc7, hc8, hc5, hc54, hc4, hc50, hc9, hc12, hc10, hcj⟩ := id hI
  refine W.nameQ (fun Q eQ => ?_)
  refine lv_aload_n hx hb dX4_pass_0 rfl (lv_at hl 0 rfl) ?_
  refine wr_get (T := TX4) (N := 9) (ci := 6) (v := .int (nI (x.1 9 0))) hx hb hts hinX4 hown hK hH lv_r0 (cel_rt (by omega)) rfl 5 (by decide) (hts (.fieldLink RX4 172 "SelectoRoute" "week" "I") (by decide +kernel)) (fun _ h => h) rfl dX4_pass_1 ?_
  refine lv_bipush (v := 99) hx hb dX4_pass_4 (by decide) ?_
  refine lv_icmp_lt (tgt := 19) hx hb dX4_pass_6 (by decide) (fun c1 => ?_) (fun c1 => ?_)
  · have c1 := (nI_ltI (a := (x.1 9 0)) (b := 99) (by omega) (by omega)).mp c1
    refine lv_iconst (v := 0) hx hb dX4_pass_19 (by decide) ?_
    refine lv_istore_n (lv' := [(1, .int 0), (0, .ref (g 0))]) hx hb dX4_pass_20 rfl hl (by decide) rfl (fun ls hl => ?_)
    have loop : ∀ (k n : Nat), n + k = (x.1 1 0) → ∀ (H : Heap) (locs : List Loc) (ls : Array Slot), lv_has ls 3 [(1, .int (nI n)), (0, .ref (g 0))] → wHS E o g (fU stB x n) y H → va_S (wA E) s.heap H locs → W p l e ({ frames := 10, cells := 4, slots := 24, locals := 1100 } : Room) s m #[.ref (g 0)] below meth c H locs 0 0 Q (F0 m 21 ls []) := by
      intro k
      induction k with
      | zero =>
        intro n hn H locs ls hl hH hS
        obtain rfl : n = (x.1 1 0) := by omega
        have hl : lv_has ls 3 [(1, .int (nI (x.1 1 0))), (0, .ref (g 0))] := hl
        refine lv_iload_n hx hb dX4_pass_21 rfl (lv_at hl 0 rfl) ?_
        refine lv_aload_n hx hb dX4_pass_22 rfl (lv_at hl 1 rfl) ?_
        refine wr_get (T := TX4) (N := 9) (ci := 6) (v := .ref (g 3)) hx hb hts hinX4 hown hK hH lv_r0 (cel_rt (by omega)) rfl 1 (by decide) (hts (.fieldLink RX4 16 "SelectoRoute" "boxes" "Ljava/util/ArrayList;") (by decide +kernel)) (fun _ h => h) rfl dX4_pass_23 ?_
        refine va_calli (va_runV (As := []) (rest := [.int (nI (x.1 1 0))]) ⟨hx, hb, hml, hown, hts⟩ (met_AL_size l E g (liv (fU stB x (x.1 1 0)).1) (cel E.2.1 g (fU stB x (x.1 1 0)) y o.1 o.2) 3 4 ((fU stB x (x.1 1 0)).2 21 0) ((fU stB x (x.1 1 0)).1 3 0) ((fU stB x (x.1 1 0)).1 1 0) E.2.1.2 lv_r3 (cel_rt (by omega))) (cwV 0 hts gX4_pass_Jx4a65c_size_8abf5 rfl rfl rfl (by decide +kernel) ⟨Nat.le_of_ble_eq_true rfl, Nat.le_of_ble_eq_true rfl⟩) ⟨fun a U f mk q => ⟨q.1, wPreG.calling q.2 a f mk⟩, (va_recv hK (wH_one hH lv_r3 (cel_rt (by omega))) (ci := 2) (q0 := 0) rfl rfl), fun U hU hW => ⟨rfl, wPreG_at hz hS hH hK U hU hW⟩⟩ rfl rfl hl.1 rfl (lv_room (Nat.le_of_ble_eq_true rfl)) dX4_pass_26 ⟨Nat.le_of_ble_eq_true rfl, Nat.le_of_ble_eq_true rfl⟩) hS (fun q _ h => h) (fun q h => h) (fun r u t H locs ht hvm hw hB hz1 hk1 hS => ?_)
        obtain rfl := hw
        have hH : wHS E o g (fU stB x (x.1 1 0)) y H := wG_h ht hB
        refine lv_tope (show nI (((fU stB x (x.1 1 0)).1 1 0)) = nI ((x.1 1 0)) by simp only [fB_1]) ?_
        refine lv_icmp_ge (tgt := 65) hx hb dX4_pass_29 (by decide) (fun _ => ?_) (fun hq => absurd ((nI_leI (a := (x.1 1 0)) (b := (x.1 1 0)) (by omega) (by omega)).mpr (Nat.le_refl _)) hq)
        refine lv_aload_n hx hb dX4_pass_65 rfl (lv_at hl 1 rfl) ?_
        refine lv_dup hx hb dX4_pass_66 rfl ?_
        refine wr_get (T := TX4) (N := 9) (ci := 6) (v := .int (nI (x.1 9 0))) hx hb hts hinX4 hown hK hH lv_r0 (cel_rt (by omega)) rfl 5 (by decide) (hts (.fieldLink RX4 172 "SelectoRoute" "week" "I") (by decide +kernel)) (fun _ h => h) (congrArg (fun z => some (Value.int z)) (by simp [uI, uN, va_up, fB_1])) dX4_pass_67 ?_
        refine lv_iconst (v := 1) hx hb dX4_pass_70 (by decide) ?_
        refine lv_iadd hx hb dX4_pass_71 ?_
        refine lv_tope (nI_add (x.1 9 0) 1) ?_
        refine wr_put (T := TX4) (N := 9) (ci := 6) (v := .int (nI ((x.1 9 0) + 1))) hx hb hts hinX4 tyX4 tyX4_ok nmX4 hown hK hH hS lv_r0 (cel_rt (by omega)) rfl 5 (by decide) (hts (.fieldLink RX4 172 "SelectoRoute" "week" "I") (by decide +kernel)) (fun _ h => h) rfl (ty := .int) (by decide +kernel) rfl rfl (Nat.le_of_ble_eq_true rfl) dX4_pass_72 (fun H locs hH hS => ?_)
        have hH : wHS E o g (uN (fU stB x (x.1 1 0)) 9 0 ((x.1 9 0) + 1)) y H := pr_5 (v := ((x.1 9 0) + 1)) hH
        refine lv_aload_n hx hb dX4_pass_75 rfl (lv_at hl 1 rfl) ?_
        refine lv_sipush (v := 600) hx hb dX4_pass_76 (by decide) ?_
        refine wr_put (T := TX4) (N := 9) (ci := 6) (v := .int 600) hx hb hts hinX4 tyX4 tyX4_ok nmX4 hown hK hH hS lv_r0 (cel_rt (by omega)) rfl 6 (by decide) (hts (.fieldLink RX4 30 "SelectoRoute" "minutes" "I") (by decide +kernel)) (fun _ h => h) rfl (ty := .int) (by decide +kernel) rfl rfl (Nat.le_of_ble_eq_true rfl) dX4_pass_79 (fun H locs hH hS => ?_)
        have hH : wHS E o g (uI (uN (fU stB x (x.1 1 0)) 9 0 ((x.1 9 0) + 1)) 17 0 600) y H := pr_6 hH
        refine lv_aload_n hx hb dX4_pass_82 rfl (lv_at hl 1 rfl) ?_
        refine wr_get (T := TX4) (N := 9) (ci := 6) (v := .int (nI ((x.1 9 0) + 1))) hx hb hts hinX4 hown hK hH lv_r0 (cel_rt (by omega)) rfl 5 (by decide) (hts (.fieldLink RX4 172 "SelectoRoute" "week" "I") (by decide +kernel)) (fun _ h => h) (congrArg (fun z => some (Value.int z)) (by simp [uI, uN, va_up, fB_1])) dX4_pass_83 ?_
        have hsp : cp_pass x = (none, (nI ((x.1 9 0) + 1)), (uI (uN (fU stB x (x.1 1 0)) 9 0 ((x.1 9 0) + 1)) 17 0 600)) := by
          unfold cp_pass
          first | (simp only [c1, ↓reduceIte, and_self, and_true, true_and, Bool.false_eq_true, reduceCtorEq, eq_self, false_and, and_false]; done) | (simp [c1, ↓reduceIte, and_self, and_true, true_and, Bool.false_eq_true, reduceCtorEq, eq_self, false_and, and_false]; done) | simp only [c1, ↓reduceIte, and_self, and_true, true_and, Bool.false_eq_true, reduceCtorEq, eq_self, false_and, and_false]
        rw [eQ]
        refine vx_ret ?_
        refine W.widen (k := 4) (n := 24) (by omega) (by omega) ?_
        exact W.iret (v := (nI ((x.1 9 0) + 1))) hx hb hr (fun t ht hW => ⟨⟨(nI ((x.1 9 0) + 1)), (), rfl, (by rw [hsp]; exact ⟨rfl, rfl⟩), wHS_t ht (by rw [hsp]; exact hH)⟩, hS.F ht⟩) hS.2.2 dX4_pass_86
      | succ k ih =>
        intro n hn H locs ls hl hH hS
        have hlt : n < (x.1 1 0) := by omega
        obtain ⟨x1, ex1⟩ : ∃ z, z = fU stB x n := ⟨_, rfl⟩
        rw [← ex1] at hH
        have h1 : x1.1 = x.1 := by rw [ex1]; exact (fU_1 stB stB_1 x n).1
        have h10 : x1.2 10 = x.2 10 := by rw [ex1]; exact (fU_1 stB stB_1 x n).2
        have hI1 : CI x1 := CI_I hI h1 h10
        obtain ⟨hp0, hp1, hp2, hp3, hp4, hp5, hd7, hd8, hd5, hd54, hd4, hd50, hd9, hd12, hd10, hdj⟩ := id hI1
        have hlt : n < x1.1 1 0 := by rw [h1]; exact hlt
        refine lv_iload_n hx hb dX4_pass_21 rfl (lv_at hl 0 rfl) ?_
        refine lv_aload_n hx hb dX4_pass_22 rfl (lv_at hl 1 rfl) ?_
        refine wr_get (T := TX4) (N := 9) (ci := 6) (v := .ref (g 3)) hx hb hts hinX4 hown hK hH lv_r0 (cel_rt (by omega)) rfl 1 (by decide) (hts (.fieldLink RX4 16 "SelectoRoute" "boxes" "Ljava/util/ArrayList;") (by decide +kernel)) (fun _ h => h) rfl dX4_pass_23 ?_
        refine va_calli (va_runV (As := []) (rest := [.int (nI n)]) ⟨hx, hb, hml, hown, hts⟩ (met_AL_size l E g (liv x1.1) (cel E.2.1 g x1 y o.1 o.2) 3 4 (x1.2 21 0) (x1.1 3 0) (x1.1 1 0) E.2.1.2 lv_r3 (cel_rt (by omega))) (cwV 0 hts gX4_pass_Jx4a65c_size_8abf5 rfl rfl rfl (by decide +kernel) ⟨Nat.le_of_ble_eq_true rfl, Nat.le_of_ble_eq_true rfl⟩) ⟨fun a U f mk q => ⟨q.1, wPreG.calling q.2 a f mk⟩, (va_recv hK (wH_one hH lv_r3 (cel_rt (by omega))) (ci := 2) (q0 := 0) rfl rfl), fun U hU hW => ⟨rfl, wPreG_at hz hS hH hK U hU hW⟩⟩ rfl rfl hl.1 rfl (lv_room (Nat.le_of_ble_eq_true rfl)) dX4_pass_26 ⟨Nat.le_of_ble_eq_true rfl, Nat.le_of_ble_eq_true rfl⟩) hS (fun q _ h => h) (fun q h => h) (fun r u t H locs ht hvm hw hB hz1 hk1 hS => ?_)
        obtain rfl := hw
        have hH : wHS E o g x1 y H := wG_h ht hB
        refine lv_icmp_ge (tgt := 65) hx hb dX4_pass_29 (by decide) (fun hq => absurd ((nI_leI (a := (x1.1 1 0)) (b := n) (by omega) (by omega)).mp hq) (Nat.not_le.mpr hlt)) (fun _ => ?_)
        refine lv_aload_n hx hb dX4_pass_32 rfl (lv_at hl 1 rfl) ?_
        refine wr_get (T := TX4) (N := 9) (ci := 6) (v := .ref (g 3)) hx hb hts hinX4 hown hK hH lv_r0 (cel_rt (by omega)) rfl 1 (by decide) (hts (.fieldLink RX4 16 "SelectoRoute" "boxes" "Ljava/util/ArrayList;") (by decide +kernel)) (fun _ h => h) rfl dX4_pass_33 ?_
        refine lv_iload_n hx hb dX4_pass_36 rfl (lv_at hl 0 rfl) ?_
        refine va_callr (va_runV (As := [.int (nI n)]) (rest := []) ⟨hx, hb, hml, hown, hts⟩ (met_AL_get l E g (liv x1.1) (cel E.2.1 g x1 y o.1 o.2) 3 4 (x1.2 21 0) (x1.1 3 0) (x1.1 1 0) E.2.1.2 n lv_r3 (cel_rt (by omega)) (show x1.1 3 0 ≠ 0 by have hq := (show n < x1.1 1 0 by omega); omega) (lv_r4 (show x1.1 3 0 ≠ 0 by have hq := (show n < x1.1 1 0 by omega); omega)) (fun i => g (200 + i)) (cel_rt (by omega)) (show x1.1 1 0 ≤ x1.1 3 0 by omega) (show x1.1 3 0 < 2 ^ 31 by omega) (show n < x1.1 1 0 by omega)) (cwV 1 hts gX4_pass_Jx4a65c_get_915e3 rfl rfl rfl (by decide +kernel) ⟨Nat.le_of_ble_eq_true rfl, Nat.le_of_ble_eq_true rfl⟩) ⟨fun a U f mk q => ⟨q.1, wPreG.calling q.2 a f mk⟩, (va_recv hK (wH_one hH lv_r3 (cel_rt (by omega))) (ci := 2) (q0 := 0) rfl rfl), fun U hU hW => ⟨rfl, wPreG_at hz hS hH hK U hU hW⟩⟩ rfl rfl hl.1 rfl (lv_room (Nat.le_of_ble_eq_true rfl)) dX4_pass_37 ⟨Nat.le_of_ble_eq_true rfl, Nat.le_of_ble_eq_true rfl⟩) hS (fun q _ h => h) (fun q h => h) (fun u ra t H locs ht hvm hw hB hz1 hk1 hS => ?_)
        obtain ⟨rfl, hB⟩ := hB
        have hH : wHS E o g x1 y H := wG_h ht hB
        refine va_castS hx hb hown (hts (.classLink RX4 69 "SelectoRoute$Box") (by decide +kernel)) (hK.1 3 _ rfl).2 (va_recv hK (wH_one hH (lv_bx (show n < x1.1 1 0 by omega) hp1) (cel_bx (by omega))) (ci := 3) (q0 := 0) rfl rfl) dX4_pass_40 ?_
        refine lv_astore_n (lv' := [(2, .ref (g (200 + n))), (1, .int (nI n)), (0, .ref (g 0))]) hx hb dX4_pass_43 rfl hl (by decide) rfl (fun ls hl => ?_)
        refine lv_aload_n hx hb dX4_pass_44 rfl (lv_at hl 0 rfl) ?_
        refine wr_get (T := TX0) (N := 15) (ci := 3) (v := .int (x1.2 10 n)) hx hb hts hinX0 hown hK hH (lv_bx (show n < x1.1 1 0 by omega) hp1) (cel_bx (by omega)) rfl 10 (by decide) (hts (.fieldLink RX4 93 "SelectoRoute$Box" "jammed" "Z") (by decide +kernel)) (fun _ h => h) rfl dX4_pass_45 ?_
        refine lv_if_ne (tgt := 59) hx hb dX4_pass_48 (by decide) (fun c2 => ?_) (fun c2 => ?_)
        · skip
          obtain ⟨v3, ev3⟩ : ∃ y : Int32, y = (nI n) + 1 := ⟨_, rfl⟩
          refine lv_iinc (v := v3) (lv' := [(1, .int v3), (2, .ref (g (200 + n))), (0, .ref (g 0))]) hx hb dX4_pass_59 hl (k := 1) rfl (by rw [ev3]; rfl) (by decide) rfl (fun ls hl => ?_)
          refine lv_goto (tgt := 21) hx hb dX4_pass_62 (by decide) ?_
          have e9 : v3 = nI (n + 1) := by rw [ev3]; exact nI_1 n
          rw [e9] at hl
          subst ev3
          have e8 : fU stB x (n + 1) = x1 := by
            show stB n (fU stB x n) = _
            rw [← ex1]
            unfold stB
            simp only [c2, ↓reduceIte]
          exact ih (n + 1) (by omega) H locs ls (lv_sub hl [0, 2] rfl) (by rw [e8]; exact hH) hS
        · skip
          refine lv_aload_n hx hb dX4_pass_51 rfl (lv_at hl 0 rfl) ?_
          refine lv_aload_n hx hb dX4_pass_52 rfl (lv_at hl 2 rfl) ?_
          refine wr_get (T := TX4) (N := 9) (ci := 6) (v := .int (nI (x1.1 9 0))) hx hb hts hinX4 hown hK hH lv_r0 (cel_rt (by omega)) rfl 5 (by decide) (hts (.fieldLink RX4 172 "SelectoRoute" "week" "I") (by decide +kernel)) (fun _ h => h) rfl dX4_pass_53 ?_
          refine va_callv (va_runV (As := [.int (nI (x1.1 9 0))]) (rest := []) ⟨hx, hb, hml, hown, hts⟩ (met_X0_letGuestsPlay l E o g x1 y n (nI (x1.1 9 0)) (CI_I hI1) (show n < x1.1 1 0 by omega)) (cwV 1 hts gX4_pass_X0_letGuestsPlay rfl rfl rfl (by decide +kernel) ⟨Nat.le_of_ble_eq_true rfl, Nat.le_of_ble_eq_true rfl⟩) ⟨fun a U f mk q => ⟨q.1, wPre.calling q.2 a f mk⟩, (va_recv hK (wH_one hH (lv_bx (show n < x1.1 1 0 by omega) hp1) (cel_bx (by omega))) (ci := 3) (q0 := 0) rfl rfl), fun U hU hW => ⟨rfl, wPre_at hz hS hH hK U hU hW⟩⟩ rfl rfl hl.1 rfl (lv_room (Nat.le_of_ble_eq_true rfl)) dX4_pass_56 ⟨Nat.le_of_ble_eq_true rfl, Nat.le_of_ble_eq_true rfl⟩) hS (fun q _ h => h) (fun q h => h) (fun u t H locs ht hvm hw hB hz1 hk1 hS => ?_)
          have hB := wHS_h ht hB
          try dsimp only at hw
          have hH := hB
          obtain ⟨v4, ev4⟩ : ∃ y : Int32, y = (nI n) + 1 := ⟨_, rfl⟩
          refine lv_iinc (v := v4) (lv' := [(1, .int v4), (2, .ref (g (200 + n))), (0, .ref (g 0))]) hx hb dX4_pass_59 hl (k := 1) rfl (by rw [ev4]; rfl) (by decide) rfl (fun ls hl => ?_)
          refine lv_goto (tgt := 21) hx hb dX4_pass_62 (by decide) ?_
          have e9 : v4 = nI (n + 1) := by rw [ev4]; exact nI_1 n
          rw [e9] at hl
          subst ev4
          have e8 : fU stB x (n + 1) = (fU (stU n (nI (x1.1 9 0))) x1 10) := by
            show stB n (fU stB x n) = _
            rw [← ex1]
            unfold stB
            simp only [c2, ↓reduceIte]
          exact ih (n + 1) (by omega) H locs ls (lv_sub hl [0, 2] rfl) (by rw [e8]; exact hH) hS
    exact loop (x.1 1 0) 0 (by omega) H _ ls (lv_sub hl [0, 1] rfl) hH hS
  · have c1 : ¬ ((x.1 9 0) < 99) := fun hq => c1 ((nI_ltI (a := (x.1 9 0)) (b := 99) (by omega) (by omega)).mpr hq)
    have hsp : cp_pass x = (some "java/lang/IllegalStateException", 0, x) := by
      unfold cp_pass
      first | (simp only [c1, ↓reduceIte, and_self, and_true, true_and, Bool.false_eq_true, reduceCtorEq, eq_self, false_and, and_false]; done) | (simp [c1, ↓reduceIte, and_self, and_true, true_and, Bool.false_eq_true, reduceCtorEq, eq_self, false_and, and_false]; done) | simp only [c1, ↓reduceIte, and_self, and_true, true_and, Bool.false_eq_true, reduceCtorEq, eq_self, false_and, and_false]
    rw [eQ]
    obtain ⟨sa, hsa⟩ := hC.2.2.1 (186, "it is the last week") (by decide +kernel)
    exact vx_throwS (A := wA E) (names := ["java/lang/RuntimeException", "java/lang/Exception"]) hx hb hlt hown (by decide +kernel) (by decide +kernel) (hts (.classLink RX4 48 "java/lang/IllegalStateException") (by decide +kernel)) (hts (.initialized "java/lang/IllegalStateException") (by decide +kernel)) hsa (hat_xS hts (fun w h => List.mem_cons_of_mem _ (List.mem_append_right _ h)) hC) (by decide +kernel) hC.1 hC.2.1 (by rw [← eH] at *; exact hS) (hl.1.trans hml.symm) dX4_pass_9 dX4_pass_12 dX4_pass_13 dX4_pass_15 dX4_pass_18 (fun x h => (hnt x h).elim) (Nat.lt_of_lt_of_le (by decide : 2 + 3 < 6) (Nat.le_of_ble_eq_true rfl)) (Nat.le_of_ble_eq_true rfl) (Nat.le_of_ble_eq_true rfl) (Nat.le_of_ble_eq_true rfl) hlocks (wX_of hS hH (by rw [hsp])) hS.2.2 (by omega) (by omega)
