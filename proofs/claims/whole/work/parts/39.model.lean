/-! ===== the model: meanPull ===== -/
def stMq (y : St) (n : Nat) (q : Nat × Int32) : Nat × Int32 := if y.1 7 n = 0 then (q.1, q.2 + pS y n (y.2 5 (n / 10)) (nI (y.1 9 0))) else (q.1 + 1, q.2 + pS y n (y.2 5 (n / 10)) (nI (y.1 9 0)))
def mp_meanPull (y : St)  : UInt64 × St := if ((fU (stMq y) ((0 : Nat), (0 : Int32)) 40).1) = 0 then (FP.dconst0, (uI y 28 0 1)) else ((FP.ddiv (FP.i2d ((fU (stMq y) ((0 : Nat), (0 : Int32)) 40).2)) (FP.i2d (nI ((fU (stMq y) ((0 : Nat), (0 : Int32)) 40).1)))), (uI y 28 0 0))
set_option maxHeartbeats 4000000 in
set_option maxRecDepth 100000 in
theorem met_X5_meanPull (l : Launch) (E : wE) (o : wO) (g : Nat → Nat) (x y : St) (hI : MI y) (hN : ∀ q : Nat × Int32, q = fU (stMq y) ((0 : Nat), (0 : Int32)) 40 → ¬ q.1 = 0 → vf_n64 (FP.ddiv (FP.i2d q.2) (FP.i2d (nI q.1)))) : Met l yX5_meanPull wsX5_meanPull ({ frames := 3, cells := 0, slots := 0, locals := 300 } : Room) (va_Pc [.ref (g 10)] (wPre E o g x y)) (va_Qd (fun (r : UInt64) (_ : Unit) => r = (mp_meanPull y ).1) (fun (_ : Unit) t => wHS E o g x (mp_meanPull y ).2 t.heap) (wA E)) 0 0 (wA E) := by
  refine Met.ofW (cc := cX5_meanPull) (maxL := 4) (ret := (some .double)) (by decide) rfl ?_
  intro p e s m args below meth c s₁ B hml hv
  obtain ⟨rfl, hz, hH, hK⟩ := hv
  have hx := B.exec
  have hb := B.bytes
  have hr := B.returns
  have hts := atoms_spec (ws := wsX5_meanPull) B.pre
  have hown : s.vm.findClass RX5 = some m.cls := findClass_of_methodNamed B.named
  have hlocks := B.notSynchronized
  have hS : va_S (wA E) s.heap s.heap [] := va_S.rf
  have hinX5 : ∀ w ∈ wsX50, w ∈ wsX5_meanPull := fun w h => List.mem_cons_of_mem _ (List.mem_append_left _ (List.mem_append_right _ h))
  have hl := lv_entry ([.ref (g 10)]) (n := 4) (Nat.le_of_ble_eq_true rfl)
  rw [lg_entry_eq]
  generalize (lg_sl ([.ref (g 10)]) ++ List.replicate (4 - (lg_sl ([.ref (g 10)])).length) Slot.unset).toArray = ls at hl ⊢
  have hl : lv_has ls 4 [(0, .ref (g 10))] := hl
  obtain ⟨H, eH⟩ : ∃ z, z = s.heap := ⟨_, rfl⟩
  have hH : wHS E o g x y H := by rw [eH]; exact hH
  have hS : va_S (wA E) s.heap H [] := by rw [eH]; exact hS
  refine W.heapTo eH ?_
  obtain ⟨hm0, hm1, hm7, hm8, hm5, hm6, hm9, hm12, hm11⟩ := id hI
  refine W.nameQ (fun Q eQ => ?_)
  refine lv_iconst (v := 0) hx hb dX5_meanPull_0 (by decide) ?_
  refine lv_istore_n (lv' := [(1, .int 0), (0, .ref (g 10))]) hx hb dX5_meanPull_1 rfl hl (by decide) rfl (fun ls hl => ?_)
  refine lv_iconst (v := 0) hx hb dX5_meanPull_2 (by decide) ?_
  refine lv_istore_n (lv' := [(2, .int 0), (1, .int 0), (0, .ref (g 10))]) hx hb dX5_meanPull_3 rfl hl (by decide) rfl (fun ls hl => ?_)
  refine lv_iconst (v := 0) hx hb dX5_meanPull_4 (by decide) ?_
  refine lv_istore_n (lv' := [(3, .int 0), (2, .int 0), (1, .int 0), (0, .ref (g 10))]) hx hb dX5_meanPull_5 rfl hl (by decide) rfl (fun ls hl => ?_)
  have loop : ∀ (k n : Nat), n + k = 40 → ∀ (q : Nat × Int32), q = fU (stMq y) ((0 : Nat), (0 : Int32)) n → q.1 ≤ n → ∀ (H : Heap) (locs : List Loc) (ls : Array Slot), lv_has ls 4 [(1, .int (nI (q.1))), (2, .int (q.2)), (3, .int (nI n)), (0, .ref (g 10))] → wHS E o g x y H → va_S (wA E) s.heap H locs → W p l e ({ frames := 3, cells := 0, slots := 0, locals := 300 } : Room) s m #[.ref (g 10)] below meth c H locs 0 0 Q (F0 m 6 ls []) := by
    intro k
    induction k with
    | zero =>
      intro n hn q hq hqb H locs ls hl hH hS
      obtain rfl : 40 = n := by omega
      rw [hq] at hl
      try rw [hq] at hqb
      have hl : lv_has ls 4 [(1, .int (nI ((fU (stMq y) ((0 : Nat), (0 : Int32)) 40).1))), (2, .int ((fU (stMq y) ((0 : Nat), (0 : Int32)) 40).2)), (3, .int (nI 40)), (0, .ref (g 10))] := hl
      refine lv_iload_n hx hb dX5_meanPull_6 rfl (lv_at hl 2 rfl) ?_
      refine lv_bipush (v := 40) hx hb dX5_meanPull_7 (by decide) ?_
      refine lv_icmp_ge (tgt := 43) hx hb dX5_meanPull_9 (by decide) (fun _ => ?_) (fun hq => absurd ((nI_leI (a := 40) (b := 40) (by omega) (by omega)).mpr (Nat.le_refl _)) hq)
      refine lv_aload_n hx hb dX5_meanPull_43 rfl (lv_at hl 3 rfl) ?_
      refine lv_iload_n hx hb dX5_meanPull_44 rfl (lv_at hl 0 rfl) ?_
      refine lv_if_le (tgt := 52) hx hb dX5_meanPull_45 (by decide) (fun c1 => ?_) (fun c1 => ?_)
      · have c1 := (nz_le (by omega)).mp c1
        refine lv_iconst (v := 0) hx hb dX5_meanPull_52 (by decide) ?_
        refine lv_iconst (v := 1) hx hb dX5_meanPull_53 (by decide) ?_
        refine va_calli (va_runV (As := [.int 0, .int 1]) (rest := []) ⟨hx, hb, hml, hown, hts⟩ (met_X5_no0 l E o g x y 1) (cwV 2 hts gX5_meanPull_X5_no rfl rfl rfl (by decide +kernel) ⟨Nat.le_of_ble_eq_true rfl, Nat.le_of_ble_eq_true rfl⟩) ⟨fun a U f mk q => ⟨q.1, wPre.calling q.2 a f mk⟩, (va_recv hK (wH_one hH (lv_md (by decide) (by decide)) (cel_md (by omega) (by omega))) (ci := 7) (q0 := 0) rfl rfl), fun U hU hW => ⟨rfl, wPre_at hz hS hH hK U hU hW⟩⟩ rfl rfl hl.1 rfl (lv_room (Nat.le_of_ble_eq_true rfl)) dX5_meanPull_54 ⟨Nat.le_of_ble_eq_true rfl, Nat.le_of_ble_eq_true rfl⟩) hS (fun q _ h => h) (fun q h => h) (fun r u t H locs ht hvm hw hB hz1 hk1 hS => ?_)
        have hB := wHS_h ht hB
        try dsimp only at hw
        obtain rfl := hw
        have hH := hB
        refine lv_if_eq (tgt := 64) hx hb dX5_meanPull_57 (by decide) (fun hq => absurd hq (show ¬ (1 : Int32) = 0 by decide)) (fun _ => ?_)
        refine lv_dconst0 hx hb dX5_meanPull_60 ?_
        refine lv_goto (tgt := 69) hx hb dX5_meanPull_61 (by decide) ?_
        have hsp : mp_meanPull y = (FP.dconst0, (uI y 28 0 1)) := by
          unfold mp_meanPull
          first | (simp only [c1, ↓reduceIte, and_self, and_true, true_and, Bool.false_eq_true, reduceCtorEq, eq_self, false_and, and_false]; done) | (simp [c1, ↓reduceIte, and_self, and_true, true_and, Bool.false_eq_true, reduceCtorEq, eq_self, false_and, and_false]; done) | simp only [c1, ↓reduceIte, and_self, and_true, true_and, Bool.false_eq_true, reduceCtorEq, eq_self, false_and, and_false]
        rw [eQ]
        exact W.dret (v := FP.dconst0) hx hb hr (fun t ht hW => ⟨⟨FP.dconst0, (), rfl, (by rw [hsp]), wHS_t ht (by rw [hsp]; exact hH)⟩, hS.F ht⟩) hS.2.2 dX5_meanPull_69
      · have c1 : ¬ (((fU (stMq y) ((0 : Nat), (0 : Int32)) 40).1) = 0) := fun hq => c1 ((nz_le (by omega)).mpr hq)
        refine lv_iconst (v := 1) hx hb dX5_meanPull_48 (by decide) ?_
        refine lv_goto (tgt := 53) hx hb dX5_meanPull_49 (by decide) ?_
        refine lv_iconst (v := 1) hx hb dX5_meanPull_53 (by decide) ?_
        refine va_calli (va_runV (As := [.int 1, .int 1]) (rest := []) ⟨hx, hb, hml, hown, hts⟩ (met_X5_no1 l E o g x y 1) (cwV 2 hts gX5_meanPull_X5_no rfl rfl rfl (by decide +kernel) ⟨Nat.le_of_ble_eq_true rfl, Nat.le_of_ble_eq_true rfl⟩) ⟨fun a U f mk q => ⟨q.1, wPre.calling q.2 a f mk⟩, (va_recv hK (wH_one hH (lv_md (by decide) (by decide)) (cel_md (by omega) (by omega))) (ci := 7) (q0 := 0) rfl rfl), fun U hU hW => ⟨rfl, wPre_at hz hS hH hK U hU hW⟩⟩ rfl rfl hl.1 rfl (lv_room (Nat.le_of_ble_eq_true rfl)) dX5_meanPull_54 ⟨Nat.le_of_ble_eq_true rfl, Nat.le_of_ble_eq_true rfl⟩) hS (fun q _ h => h) (fun q h => h) (fun r u t H locs ht hvm hw hB hz1 hk1 hS => ?_)
        have hB := wHS_h ht hB
        try dsimp only at hw
        obtain rfl := hw
        have hH := hB
        refine lv_if_eq (tgt := 64) hx hb dX5_meanPull_57 (by decide) (fun _ => ?_) (fun hq => absurd (show (0 : Int32) = 0 by decide) hq)
        refine lv_iload_n hx hb dX5_meanPull_64 rfl (lv_at hl 1 rfl) ?_
        refine lv_i2d hx hb dX5_meanPull_65 ?_
        refine lv_iload_n hx hb dX5_meanPull_66 rfl (lv_at hl 0 rfl) ?_
        refine lv_i2d hx hb dX5_meanPull_67 ?_
        refine lv_ddiv hx hb dX5_meanPull_68 (hN _ rfl c1) ?_
        have hsp : mp_meanPull y = ((FP.ddiv (FP.i2d ((fU (stMq y) ((0 : Nat), (0 : Int32)) 40).2)) (FP.i2d (nI ((fU (stMq y) ((0 : Nat), (0 : Int32)) 40).1)))), (uI y 28 0 0)) := by
          unfold mp_meanPull
          first | (simp only [c1, ↓reduceIte, and_self, and_true, true_and, Bool.false_eq_true, reduceCtorEq, eq_self, false_and, and_false]; done) | (simp [c1, ↓reduceIte, and_self, and_true, true_and, Bool.false_eq_true, reduceCtorEq, eq_self, false_and, and_false]; done) | simp only [c1, ↓reduceIte, and_self, and_true, true_and, Bool.false_eq_true, reduceCtorEq, eq_self, false_and, and_false]
        rw [eQ]
        exact W.dret (v := (FP.ddiv (FP.i2d ((fU (stMq y) ((0 : Nat), (0 : Int32)) 40).2)) (FP.i2d (nI ((fU (stMq y) ((0 : Nat), (0 : Int32)) 40).1))))) hx hb hr (fun t ht hW => ⟨⟨(FP.ddiv (FP.i2d ((fU (stMq y) ((0 : Nat), (0 : Int32)) 40).2)) (FP.i2d (nI ((fU (stMq y) ((0 : Nat), (0 : Int32)) 40).1)))), (), rfl, (by rw [hsp]), wHS_t ht (by rw [hsp]; exact hH)⟩, hS.F ht⟩) hS.2.2 dX5_meanPull_69
    | succ k ih =>
      intro n hn q hq hqb H locs ls hl hH hS
      have hlt : n < 40 := by omega
      refine lv_iload_n hx hb dX5_meanPull_6 rfl (lv_at hl 2 rfl) ?_
      refine lv_bipush (v := 40) hx hb dX5_meanPull_7 (by decide) ?_
      refine lv_icmp_ge (tgt := 43) hx hb dX5_meanPull_9 (by decide) (fun hq => absurd ((nI_leI (a := 40) (b := n) (by omega) (by omega)).mp hq) (Nat.not_le.mpr hlt)) (fun _ => ?_)
      refine lv_iload_n hx hb dX5_meanPull_12 rfl (lv_at hl 0 rfl) ?_
      refine lv_aload_n hx hb dX5_meanPull_13 rfl (lv_at hl 3 rfl) ?_
      refine wr_get (T := TX5) (N := 30) (ci := 7) (v := .ref (g 29)) hx hb hts hinX5 hown hK hH (lv_md (by decide) (by decide)) (cel_md (by omega) (by omega)) rfl 20 (by decide) (hts (.fieldLink RX5 65 "SelectoRouteModel" "slots" "[I") (by decide +kernel)) (fun _ h => h) rfl dX5_meanPull_14 ?_
      refine lv_iload_n hx hb dX5_meanPull_17 rfl (lv_at hl 2 rfl) ?_
      refine wr_iald (v := nI (y.1 7 n)) hx hb hK hH (lv_md (by decide) (by decide)) (cel_md (by decide) (by decide)) 0 rfl (vp_in_nI (n := n) (N := 40) (by omega) (by decide)) (by rw [(nI_clamp (n := n) (by omega))]; try rfl) dX5_meanPull_18 ?_
      refine lv_if_le (tgt := 26) hx hb dX5_meanPull_19 (by decide) (fun c2 => ?_) (fun c2 => ?_)
      · have c2 := (nz_le (by have q0 := hm7 n; omega)).mp c2
        refine lv_iconst (v := 0) hx hb dX5_meanPull_26 (by decide) ?_
        refine lv_iadd hx hb dX5_meanPull_27 ?_
        refine lv_tope (nI_add (q.1) 0) ?_
        refine lv_istore_n (lv' := [(1, .int (nI (q.1))), (2, .int (q.2)), (3, .int (nI n)), (0, .ref (g 10))]) hx hb dX5_meanPull_28 rfl hl (by decide) rfl (fun ls hl => ?_)
        refine lv_iload_n hx hb dX5_meanPull_29 rfl (lv_at hl 1 rfl) ?_
        refine lv_aload_n hx hb dX5_meanPull_30 rfl (lv_at hl 3 rfl) ?_
        refine lv_iload_n hx hb dX5_meanPull_31 rfl (lv_at hl 2 rfl) ?_
        refine va_calli (va_runV (As := [.int (nI n)]) (rest := [.int (q.2)]) ⟨hx, hb, hml, hown, hts⟩ (met_X5_pullOfSlot l E o g x y n (by omega) (show (y.1 7 n) ≤ 30 by have q0 := hm7 n; omega) hm8 hm12) (cwV 1 hts gX5_meanPull_X5_pullOfSlot rfl rfl rfl (by decide +kernel) ⟨Nat.le_of_ble_eq_true rfl, Nat.le_of_ble_eq_true rfl⟩) ⟨fun a U f mk q => ⟨q.1, wPre.calling q.2 a f mk⟩, (va_recv hK (wH_one hH (lv_md (by decide) (by decide)) (cel_md (by omega) (by omega))) (ci := 7) (q0 := 0) rfl rfl), fun U hU hW => ⟨rfl, wPre_at hz hS hH hK U hU hW⟩⟩ rfl rfl hl.1 rfl (lv_room (Nat.le_of_ble_eq_true rfl)) dX5_meanPull_32 ⟨Nat.le_of_ble_eq_true rfl, Nat.le_of_ble_eq_true rfl⟩) hS (fun q _ h => h) (fun q h => h) (fun r u t H locs ht hvm hw hB hz1 hk1 hS => ?_)
        have hB := wHS_h ht hB
        try dsimp only at hw
        obtain rfl := hw
        have hH := hB
        refine lv_iadd hx hb dX5_meanPull_35 ?_
        refine lv_istore_n (lv' := [(2, .int ((q.2) + (pS y n (y.2 5 (n / 10)) (nI (y.1 9 0))))), (1, .int (nI (q.1))), (3, .int (nI n)), (0, .ref (g 10))]) hx hb dX5_meanPull_36 rfl hl (by decide) rfl (fun ls hl => ?_)
        obtain ⟨v3, ev3⟩ : ∃ y : Int32, y = (nI n) + 1 := ⟨_, rfl⟩
        refine lv_iinc (v := v3) (lv' := [(3, .int v3), (2, .int ((q.2) + (pS y n (y.2 5 (n / 10)) (nI (y.1 9 0))))), (1, .int (nI (q.1))), (0, .ref (g 10))]) hx hb dX5_meanPull_37 hl (k := 2) rfl (by rw [ev3]; rfl) (by decide) rfl (fun ls hl => ?_)
        refine lv_goto (tgt := 6) hx hb dX5_meanPull_40 (by decide) ?_
        have e9 : v3 = nI (n + 1) := by rw [ev3]; exact nI_1 n
        rw [e9] at hl
        exact ih (n + 1) (by omega) (q.1, (q.2) + (pS y n (y.2 5 (n / 10)) (nI (y.1 9 0)))) (by rw [fU_s, ← hq]; unfold stMq; simp only [c2, ↓reduceIte]) (by first | omega | (dsimp only; omega)) H locs ls (lv_sub hl [2, 1, 0, 3] rfl) hH hS
      · have c2 : ¬ ((y.1 7 n) = 0) := fun hq => c2 ((nz_le (by have q0 := hm7 n; omega)).mpr hq)
        refine lv_iconst (v := 1) hx hb dX5_meanPull_22 (by decide) ?_
        refine lv_goto (tgt := 27) hx hb dX5_meanPull_23 (by decide) ?_
        refine lv_iadd hx hb dX5_meanPull_27 ?_
        refine lv_tope (nI_add (q.1) 1) ?_
        refine lv_istore_n (lv' := [(1, .int (nI ((q.1) + 1))), (2, .int (q.2)), (3, .int (nI n)), (0, .ref (g 10))]) hx hb dX5_meanPull_28 rfl hl (by decide) rfl (fun ls hl => ?_)
        refine lv_iload_n hx hb dX5_meanPull_29 rfl (lv_at hl 1 rfl) ?_
        refine lv_aload_n hx hb dX5_meanPull_30 rfl (lv_at hl 3 rfl) ?_
        refine lv_iload_n hx hb dX5_meanPull_31 rfl (lv_at hl 2 rfl) ?_
        refine va_calli (va_runV (As := [.int (nI n)]) (rest := [.int (q.2)]) ⟨hx, hb, hml, hown, hts⟩ (met_X5_pullOfSlot l E o g x y n (by omega) (show (y.1 7 n) ≤ 30 by have q0 := hm7 n; omega) hm8 hm12) (cwV 1 hts gX5_meanPull_X5_pullOfSlot rfl rfl rfl (by decide +kernel) ⟨Nat.le_of_ble_eq_true rfl, Nat.le_of_ble_eq_true rfl⟩) ⟨fun a U f mk q => ⟨q.1, wPre.calling q.2 a f mk⟩, (va_recv hK (wH_one hH (lv_md (by decide) (by decide)) (cel_md (by omega) (by omega))) (ci := 7) (q0 := 0) rfl rfl), fun U hU hW => ⟨rfl, wPre_at hz hS hH hK U hU hW⟩⟩ rfl rfl hl.1 rfl (lv_room (Nat.le_of_ble_eq_true rfl)) dX5_meanPull_32 ⟨Nat.le_of_ble_eq_true rfl, Nat.le_of_ble_eq_true rfl⟩) hS (fun q _ h => h) (fun q h => h) (fun r u t H locs ht hvm hw hB hz1 hk1 hS => ?_)
        have hB := wHS_h ht hB
        try dsimp only at hw
        obtain rfl := hw
        have hH := hB
        refine lv_iadd hx hb dX5_meanPull_35 ?_
        refine lv_istore_n (lv' := [(2, .int ((q.2) + (pS y n (y.2 5 (n / 10)) (nI (y.1 9 0))))), (1, .int (nI ((q.1) + 1))), (3, .int (nI n)), (0, .ref (g 10))]) hx hb dX5_meanPull_36 rfl hl (by decide) rfl (fun ls hl => ?_)
        obtain ⟨v4, ev4⟩ : ∃ y : Int32, y = (nI n) + 1 := ⟨_, rfl⟩
        refine lv_iinc (v := v4) (lv' := [(3, .int v4), (2, .int ((q.2) + (pS y n (y.2 5 (n / 10)) (nI (y.1 9 0))))), (1, .int (nI ((q.1) + 1))), (0, .ref (g 10))]) hx hb dX5_meanPull_37 hl (k := 2) rfl (by rw [ev4]; rfl) (by decide) rfl (fun ls hl => ?_)
        refine lv_goto (tgt := 6) hx hb dX5_meanPull_40 (by decide) ?_
        have e9 : v4 = nI (n + 1) := by rw [ev4]; exact nI_1 n
        rw [e9] at hl
        exact ih (n + 1) (by omega) (((q.1) + 1), (q.2) + (pS y n (y.2 5 (n / 10)) (nI (y.1 9 0)))) (by rw [fU_s, ← hq]; unfold stMq; simp only [c2, ↓reduceIte]) (by first | omega | (dsimp only; omega)) H locs ls (lv_sub hl [2, 1, 0, 3] rfl) hH hS
  exact loop 40 0 (by omega) ((0 : Nat), (0 : Int32)) rfl (Nat.le_refl _) H _ ls (lv_sub hl [2, 1, 0, 3] rfl) hH hS
