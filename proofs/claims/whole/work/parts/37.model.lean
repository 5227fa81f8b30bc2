/-! ===== the model: wornShare ===== -/
def mp_wornShare (y : St)  : UInt32 × St := if ((fU (stWs y) ((0 : Nat), (0 : Nat)) (y.1 0 0)).1) = 0 then (FP.fconst0, (uI y 28 0 1)) else ((FP.fdiv (FP.i2f (nI ((fU (stWs y) ((0 : Nat), (0 : Nat)) (y.1 0 0)).2))) (FP.i2f (nI ((fU (stWs y) ((0 : Nat), (0 : Nat)) (y.1 0 0)).1)))), (uI y 28 0 0))
set_option maxHeartbeats 4000000 in
set_option maxRecDepth 100000 in
theorem met_X5_wornShare (l : Launch) (E : wE) (o : wO) (g : Nat → Nat) (x y : St) (hI : MI y) : Met l yX5_wornShare wsX5_wornShare ({ frames := 3, cells := 0, slots := 0, locals := 300 } : Room) (va_Pc [.ref (g 10)] (wPre E o g x y)) (va_Qf (fun (r : UInt32) (_ : Unit) => r = (mp_wornShare y ).1) (fun (_ : Unit) t => wHS E o g x (mp_wornShare y ).2 t.heap) (wA E)) 0 0 (wA E) := by
  refine Met.ofW (cc := cX5_wornShare) (maxL := 4) (ret := (some .float)) (by decide) rfl ?_
  intro p e s m args below meth c s₁ B hml hv
  obtain ⟨rfl, hz, hH, hK⟩ := hv
  have hx := B.exec
  have hb := B.bytes
  have hr := B.returns
  have hts := atoms_spec (ws := wsX5_wornShare) B.pre
  have hown : s.vm.findClass RX5 = some m.cls := findClass_of_methodNamed B.named
  have hlocks := B.notSynchronized
  have hS : va_S (wA E) s.heap s.heap [] := va_S.rf
  have hinX5 : ∀ w ∈ wsX50, w ∈ wsX5_wornShare := fun w h => List.mem_cons_of_mem _ (List.mem_append_left _ (List.mem_append_right _ h))
  have hl := lv_entry ([.ref (g 10)]) (n := 4) (Nat.le_of_ble_eq_true rfl)
  rw [lg_entry_eq]
  generalize (lg_sl ([.ref (g 10)]) ++ List.replicate (4 - (lg_sl ([.ref (g 10)])).length) Slot.unset).toArray = ls at hl ⊢
  have hl : lv_has ls 4 [(0, .ref (g 10))] := hl
  obtain ⟨H, eH⟩ : ∃ z, z = s.heap := ⟨_, rfl⟩
  have hH : wHS E o g x y H := by rw [eH]; exact hH
  have hS : va_S (wA E) s.heap H [] := by rw [eH]; exact hS
  refine W.heapTo eH ?_
  obtain ⟨hm0, hm1, hm7, hm8, hm5, hm6, hm9, hm12, hm11⟩ := id hI
  refine W.nameQ (fun Q eQ => ?_)
  refine lv_iconst (v := 0) hx hb dX5_wornShare_0 (by decide) ?_
  refine lv_istore_n (lv' := [(1, .int 0), (0, .ref (g 10))]) hx hb dX5_wornShare_1 rfl hl (by decide) rfl (fun ls hl => ?_)
  refine lv_iconst (v := 0) hx hb dX5_wornShare_2 (by decide) ?_
  refine lv_istore_n (lv' := [(2, .int 0), (1, .int 0), (0, .ref (g 10))]) hx hb dX5_wornShare_3 rfl hl (by decide) rfl (fun ls hl => ?_)
  refine lv_iconst (v := 0) hx hb dX5_wornShare_4 (by decide) ?_
  refine lv_istore_n (lv' := [(3, .int 0), (2, .int 0), (1, .int 0), (0, .ref (g 10))]) hx hb dX5_wornShare_5 rfl hl (by decide) rfl (fun ls hl => ?_)
  have loop : ∀ (k n : Nat), n + k = (y.1 0 0) → ∀ (q : Nat × Nat), q = fU (stWs y) ((0 : Nat), (0 : Nat)) n → (q.2 ≤ q.1 ∧ q.1 ≤ n) → ∀ (H : Heap) (locs : List Loc) (ls : Array Slot), lv_has ls 4 [(1, .int (nI (q.1))), (2, .int (nI (q.2))), (3, .int (nI n)), (0, .ref (g 10))] → wHS E o g x y H → va_S (wA E) s.heap H locs → W p l e ({ frames := 3, cells := 0, slots := 0, locals := 300 } : Room) s m #[.ref (g 10)] below meth c H locs 0 0 Q (F0 m 6 ls []) := by
    intro k
    induction k with
    | zero =>
      intro n hn q hq hqb H locs ls hl hH hS
      obtain rfl : (y.1 0 0) = n := by omega
      rw [hq] at hl
      try rw [hq] at hqb
      have hl : lv_has ls 4 [(1, .int (nI ((fU (stWs y) ((0 : Nat), (0 : Nat)) (y.1 0 0)).1))), (2, .int (nI ((fU (stWs y) ((0 : Nat), (0 : Nat)) (y.1 0 0)).2))), (3, .int (nI (y.1 0 0))), (0, .ref (g 10))] := hl
      refine lv_iload_n hx hb dX5_wornShare_6 rfl (lv_at hl 2 rfl) ?_
      refine lv_aload_n hx hb dX5_wornShare_7 rfl (lv_at hl 3 rfl) ?_
      refine wr_get (T := TX5) (N := 30) (ci := 7) (v := .int (nI (y.1 0 0))) hx hb hts hinX5 hown hK hH (lv_md (by decide) (by decide)) (cel_md (by omega) (by omega)) rfl 5 (by decide) (hts (.fieldLink RX5 90 "SelectoRouteModel" "discs" "I") (by decide +kernel)) (fun _ h => h) rfl dX5_wornShare_8 ?_
      refine lv_icmp_ge (tgt := 69) hx hb dX5_wornShare_11 (by decide) (fun _ => ?_) (fun hq => absurd ((nI_leI (a := (y.1 0 0)) (b := (y.1 0 0)) (by omega) (by omega)).mpr (Nat.le_refl _)) hq)
      refine lv_aload_n hx hb dX5_wornShare_69 rfl (lv_at hl 3 rfl) ?_
      refine lv_iload_n hx hb dX5_wornShare_70 rfl (lv_at hl 0 rfl) ?_
      refine lv_if_le (tgt := 78) hx hb dX5_wornShare_71 (by decide) (fun c1 => ?_) (fun c1 => ?_)
      · have c1 := (nz_le (by omega)).mp c1
        refine lv_iconst (v := 0) hx hb dX5_wornShare_78 (by decide) ?_
        refine lv_iconst (v := 1) hx hb dX5_wornShare_79 (by decide) ?_
        refine va_calli (va_runV (As := [.int 0, .int 1]) (rest := []) ⟨hx, hb, hml, hown, hts⟩ (met_X5_no0 l E o g x y 1) (cwV 2 hts gX5_wornShare_X5_no rfl rfl rfl (by decide +kernel) ⟨Nat.le_of_ble_eq_true rfl, Nat.le_of_ble_eq_true rfl⟩) ⟨fun a U f mk q => ⟨q.1, wPre.calling q.2 a f mk⟩, (va_recv hK (wH_one hH (lv_md (by decide) (by decide)) (cel_md (by omega) (by omega))) (ci := 7) (q0 := 0) rfl rfl), fun U hU hW => ⟨rfl, wPre_at hz hS hH hK U hU hW⟩⟩ rfl rfl hl.1 rfl (lv_room (Nat.le_of_ble_eq_true rfl)) dX5_wornShare_80 ⟨Nat.le_of_ble_eq_true rfl, Nat.le_of_ble_eq_true rfl⟩) hS (fun q _ h => h) (fun q h => h) (fun r u t H locs ht hvm hw hB hz1 hk1 hS => ?_)
        have hB := wHS_h ht hB
        try dsimp only at hw
        obtain rfl := hw
        have hH := hB
        refine lv_if_eq (tgt := 90) hx hb dX5_wornShare_83 (by decide) (fun hq => absurd hq (show ¬ (1 : Int32) = 0 by decide)) (fun _ => ?_)
        refine lv_fconst0 hx hb dX5_wornShare_86 ?_
        refine lv_goto (tgt := 95) hx hb dX5_wornShare_87 (by decide) ?_
        have hsp : mp_wornShare y = (FP.fconst0, (uI y 28 0 1)) := by
          unfold mp_wornShare
          first | (simp only [c1, ↓reduceIte, and_self, and_true, true_and, Bool.false_eq_true, reduceCtorEq, eq_self, false_and, and_false]; done) | (simp [c1, ↓reduceIte, and_self, and_true, true_and, Bool.false_eq_true, reduceCtorEq, eq_self, false_and, and_false]; done) | simp only [c1, ↓reduceIte, and_self, and_true, true_and, Bool.false_eq_true, reduceCtorEq, eq_self, false_and, and_false]
        rw [eQ]
        exact W.fret (v := FP.fconst0) hx hb hr (fun t ht hW => ⟨⟨FP.fconst0, (), rfl, (by rw [hsp]), wHS_t ht (by rw [hsp]; exact hH)⟩, hS.F ht⟩) hS.2.2 dX5_wornShare_95
      · have c1 : ¬ (((fU (stWs y) ((0 : Nat), (0 : Nat)) (y.1 0 0)).1) = 0) := fun hq => c1 ((nz_le (by omega)).mpr hq)
        refine lv_iconst (v := 1) hx hb dX5_wornShare_74 (by decide) ?_
        refine lv_goto (tgt := 79) hx hb dX5_wornShare_75 (by decide) ?_
        refine lv_iconst (v := 1) hx hb dX5_wornShare_79 (by decide) ?_
        refine va_calli (va_runV (As := [.int 1, .int 1]) (rest := []) ⟨hx, hb, hml, hown, hts⟩ (met_X5_no1 l E o g x y 1) (cwV 2 hts gX5_wornShare_X5_no rfl rfl rfl (by decide +kernel) ⟨Nat.le_of_ble_eq_true rfl, Nat.le_of_ble_eq_true rfl⟩) ⟨fun a U f mk q => ⟨q.1, wPre.calling q.2 a f mk⟩, (va_recv hK (wH_one hH (lv_md (by decide) (by decide)) (cel_md (by omega) (by omega))) (ci := 7) (q0 := 0) rfl rfl), fun U hU hW => ⟨rfl, wPre_at hz hS hH hK U hU hW⟩⟩ rfl rfl hl.1 rfl (lv_room (Nat.le_of_ble_eq_true rfl)) dX5_wornShare_80 ⟨Nat.le_of_ble_eq_true rfl, Nat.le_of_ble_eq_true rfl⟩) hS (fun q _ h => h) (fun q h => h) (fun r u t H locs ht hvm hw hB hz1 hk1 hS => ?_)
        have hB := wHS_h ht hB
        try dsimp only at hw
        obtain rfl := hw
        have hH := hB
        refine lv_if_eq (tgt := 90) hx hb dX5_wornShare_83 (by decide) (fun _ => ?_) (fun hq => absurd (show (0 : Int32) = 0 by decide) hq)
        refine lv_iload_n hx hb dX5_wornShare_90 rfl (lv_at hl 1 rfl) ?_
        refine lv_i2f hx hb dX5_wornShare_91 ?_
        refine lv_iload_n hx hb dX5_wornShare_92 rfl (lv_at hl 0 rfl) ?_
        refine lv_i2f hx hb dX5_wornShare_93 ?_
        refine lv_fdiv hx hb dX5_wornShare_94 (wn_nanf (by omega) (by omega) c1) ?_
        have hsp : mp_wornShare y = ((FP.fdiv (FP.i2f (nI ((fU (stWs y) ((0 : Nat), (0 : Nat)) (y.1 0 0)).2))) (FP.i2f (nI ((fU (stWs y) ((0 : Nat), (0 : Nat)) (y.1 0 0)).1)))), (uI y 28 0 0)) := by
          unfold mp_wornShare
          first | (simp only [c1, ↓reduceIte, and_self, and_true, true_and, Bool.false_eq_true, reduceCtorEq, eq_self, false_and, and_false]; done) | (simp [c1, ↓reduceIte, and_self, and_true, true_and, Bool.false_eq_true, reduceCtorEq, eq_self, false_and, and_false]; done) | simp only [c1, ↓reduceIte, and_self, and_true, true_and, Bool.false_eq_true, reduceCtorEq, eq_self, false_and, and_false]
        rw [eQ]
        exact W.fret (v := (FP.fdiv (FP.i2f (nI ((fU (stWs y) ((0 : Nat), (0 : Nat)) (y.1 0 0)).2))) (FP.i2f (nI ((fU (stWs y) ((0 : Nat), (0 : Nat)) (y.1 0 0)).1))))) hx hb hr (fun t ht hW => ⟨⟨(FP.fdiv (FP.i2f (nI ((fU (stWs y) ((0 : Nat), (0 : Nat)) (y.1 0 0)).2))) (FP.i2f (nI ((fU (stWs y) ((0 : Nat), (0 : Nat)) (y.1 0 0)).1)))), (), rfl, (by rw [hsp]), wHS_t ht (by rw [hsp]; exact hH)⟩, hS.F ht⟩) hS.2.2 dX5_wornShare_95
    | succ k ih =>
      intro n hn q hq hqb H locs ls hl hH hS
      have hlt : n < (y.1 0 0) := by omega
      refine lv_iload_n hx hb dX5_wornShare_6 rfl (lv_at hl 2 rfl) ?_
      refine lv_aload_n hx hb dX5_wornShare_7 rfl (lv_at hl 3 rfl) ?_
      refine wr_get (T := TX5) (N := 30) (ci := 7) (v := .int (nI (y.1 0 0))) hx hb hts hinX5 hown hK hH (lv_md (by decide) (by decide)) (cel_md (by omega) (by omega)) rfl 5 (by decide) (hts (.fieldLink RX5 90 "SelectoRouteModel" "discs" "I") (by decide +kernel)) (fun _ h => h) rfl dX5_wornShare_8 ?_
      refine lv_icmp_ge (tgt := 69) hx hb dX5_wornShare_11 (by decide) (fun hq => absurd ((nI_leI (a := (y.1 0 0)) (b := n) (by omega) (by omega)).mp hq) (Nat.not_le.mpr hlt)) (fun _ => ?_)
      refine lv_iload_n hx hb dX5_wornShare_14 rfl (lv_at hl 0 rfl) ?_
      refine lv_aload_n hx hb dX5_wornShare_15 rfl (lv_at hl 3 rfl) ?_
      refine wr_get (T := TX5) (N := 30) (ci := 7) (v := .ref (g 15)) hx hb hts hinX5 hown hK hH (lv_md (by decide) (by decide)) (cel_md (by omega) (by omega)) rfl 4 (by decide) (hts (.fieldLink RX5 22 "SelectoRouteModel" "place" "[I") (by decide +kernel)) (fun _ h => h) rfl dX5_wornShare_16 ?_
      refine lv_iload_n hx hb dX5_wornShare_19 rfl (lv_at hl 2 rfl) ?_
      refine wr_iald (v := nI (y.1 8 n) - 2) hx hb hK hH (lv_md (by decide) (by decide)) (cel_md (by decide) (by decide)) 0 rfl (vp_in_nI (n := n) (N := 30) (by omega) (by decide)) (by rw [(nI_clamp (n := n) (by omega))]; try rfl) dX5_wornShare_20 ?_
      refine lv_bipush (v := (-2)) hx hb dX5_wornShare_21 (by decide) ?_
      refine lv_icmp_eq (tgt := 30) hx hb dX5_wornShare_23 (by decide) (fun c2 => ?_) (fun c2 => ?_)
      · have c2 := (pl_b (n := (y.1 8 n)) (by have q0 := hm8 n; omega)).mp c2
        refine lv_iconst (v := 0) hx hb dX5_wornShare_30 (by decide) ?_
        refine lv_iadd hx hb dX5_wornShare_31 ?_
        refine lv_tope (nI_add (q.1) 0) ?_
        refine lv_istore_n (lv' := [(1, .int (nI (q.1))), (2, .int (nI (q.2))), (3, .int (nI n)), (0, .ref (g 10))]) hx hb dX5_wornShare_32 rfl hl (by decide) rfl (fun ls hl => ?_)
        refine lv_iload_n hx hb dX5_wornShare_33 rfl (lv_at hl 1 rfl) ?_
        refine lv_aload_n hx hb dX5_wornShare_34 rfl (lv_at hl 3 rfl) ?_
        refine wr_get (T := TX5) (N := 30) (ci := 7) (v := .ref (g 15)) hx hb hts hinX5 hown hK hH (lv_md (by decide) (by decide)) (cel_md (by omega) (by omega)) rfl 4 (by decide) (hts (.fieldLink RX5 22 "SelectoRouteModel" "place" "[I") (by decide +kernel)) (fun _ h => h) rfl dX5_wornShare_35 ?_
        refine lv_iload_n hx hb dX5_wornShare_38 rfl (lv_at hl 2 rfl) ?_
        refine wr_iald (v := nI (y.1 8 n) - 2) hx hb hK hH (lv_md (by decide) (by decide)) (cel_md (by decide) (by decide)) 0 rfl (vp_in_nI (n := n) (N := 30) (by omega) (by decide)) (by rw [(nI_clamp (n := n) (by omega))]; try rfl) dX5_wornShare_39 ?_
        refine lv_bipush (v := (-2)) hx hb dX5_wornShare_40 (by decide) ?_
        refine lv_icmp_eq (tgt := 60) hx hb dX5_wornShare_42 (by decide) (fun _ => ?_) (fun hq => absurd ((pl_b (n := (y.1 8 n)) (by have q0 := hm8 n; omega)).mpr c2) hq)
        refine lv_iconst (v := 0) hx hb dX5_wornShare_60 (by decide) ?_
        refine lv_iadd hx hb dX5_wornShare_61 ?_
        refine lv_tope (nI_add (q.2) 0) ?_
        refine lv_istore_n (lv' := [(2, .int (nI (q.2))), (1, .int (nI (q.1))), (3, .int (nI n)), (0, .ref (g 10))]) hx hb dX5_wornShare_62 rfl hl (by decide) rfl (fun ls hl => ?_)
        obtain ⟨v3, ev3⟩ : ∃ y : Int32, y = (nI n) + 1 := ⟨_, rfl⟩
        refine lv_iinc (v := v3) (lv' := [(3, .int v3), (2, .int (nI (q.2))), (1, .int (nI (q.1))), (0, .ref (g 10))]) hx hb dX5_wornShare_63 hl (k := 2) rfl (by rw [ev3]; rfl) (by decide) rfl (fun ls hl => ?_)
        refine lv_goto (tgt := 6) hx hb dX5_wornShare_66 (by decide) ?_
        have e9 : v3 = nI (n + 1) := by rw [ev3]; exact nI_1 n
        rw [e9] at hl
        exact ih (n + 1) (by omega) q (by rw [fU_s, ← hq]; unfold stWs; simp only [c2, ↓reduceIte]) (by refine ⟨?_, ?_⟩ <;> first | omega | (dsimp only; omega)) H locs ls (lv_sub hl [2, 1, 0, 3] rfl) hH hS
      · have c2 : ¬ ((y.1 8 n) = 0) := fun hq => c2 ((pl_b (n := (y.1 8 n)) (by have q0 := hm8 n; omega)).mpr hq)
        refine lv_iconst (v := 1) hx hb dX5_wornShare_26 (by decide) ?_
        refine lv_goto (tgt := 31) hx hb dX5_wornShare_27 (by decide) ?_
        refine lv_iadd hx hb dX5_wornShare_31 ?_
        refine lv_tope (nI_add (q.1) 1) ?_
        refine lv_istore_n (lv' := [(1, .int (nI ((q.1) + 1))), (2, .int (nI (q.2))), (3, .int (nI n)), (0, .ref (g 10))]) hx hb dX5_wornShare_32 rfl hl (by decide) rfl (fun ls hl => ?_)
        refine lv_iload_n hx hb dX5_wornShare_33 rfl (lv_at hl 1 rfl) ?_
        refine lv_aload_n hx hb dX5_wornShare_34 rfl (lv_at hl 3 rfl) ?_
        refine wr_get (T := TX5) (N := 30) (ci := 7) (v := .ref (g 15)) hx hb hts hinX5 hown hK hH (lv_md (by decide) (by decide)) (cel_md (by omega) (by omega)) rfl 4 (by decide) (hts (.fieldLink RX5 22 "SelectoRouteModel" "place" "[I") (by decide +kernel)) (fun _ h => h) rfl dX5_wornShare_35 ?_
        refine lv_iload_n hx hb dX5_wornShare_38 rfl (lv_at hl 2 rfl) ?_
        refine wr_iald (v := nI (y.1 8 n) - 2) hx hb hK hH (lv_md (by decide) (by decide)) (cel_md (by decide) (by decide)) 0 rfl (vp_in_nI (n := n) (N := 30) (by omega) (by decide)) (by rw [(nI_clamp (n := n) (by omega))]; try rfl) dX5_wornShare_39 ?_
        refine lv_bipush (v := (-2)) hx hb dX5_wornShare_40 (by decide) ?_
        refine lv_icmp_eq (tgt := 60) hx hb dX5_wornShare_42 (by decide) (fun hq => absurd ((pl_b (n := (y.1 8 n)) (by have q0 := hm8 n; omega)).mp hq) c2) (fun _ => ?_)
        refine lv_aload_n hx hb dX5_wornShare_45 rfl (lv_at hl 3 rfl) ?_
        refine wr_get (T := TX5) (N := 30) (ci := 7) (v := .ref (g 14)) hx hb hts hinX5 hown hK hH (lv_md (by decide) (by decide)) (cel_md (by omega) (by omega)) rfl 3 (by decide) (hts (.fieldLink RX5 19 "SelectoRouteModel" "wear" "[I") (by decide +kernel)) (fun _ h => h) rfl dX5_wornShare_46 ?_
        refine lv_iload_n hx hb dX5_wornShare_49 rfl (lv_at hl 2 rfl) ?_
        refine wr_iald (v := (y.2 3 n)) hx hb hK hH (lv_md (by decide) (by decide)) (cel_md (by decide) (by decide)) 0 rfl (vp_in_nI (n := n) (N := 30) (by omega) (by decide)) (by rw [(nI_clamp (n := n) (by omega))]; try rfl) dX5_wornShare_50 ?_
        refine lv_bipush (v := 60) hx hb dX5_wornShare_51 (by decide) ?_
        refine lv_icmp_lt (tgt := 60) hx hb dX5_wornShare_53 (by decide) (fun c4 => ?_) (fun c4 => ?_)
        · skip
          refine lv_iconst (v := 0) hx hb dX5_wornShare_60 (by decide) ?_
          refine lv_iadd hx hb dX5_wornShare_61 ?_
          refine lv_tope (nI_add (q.2) 0) ?_
          refine lv_istore_n (lv' := [(2, .int (nI (q.2))), (1, .int (nI ((q.1) + 1))), (3, .int (nI n)), (0, .ref (g 10))]) hx hb dX5_wornShare_62 rfl hl (by decide) rfl (fun ls hl => ?_)
          obtain ⟨v5, ev5⟩ : ∃ y : Int32, y = (nI n) + 1 := ⟨_, rfl⟩
          refine lv_iinc (v := v5) (lv' := [(3, .int v5), (2, .int (nI (q.2))), (1, .int (nI ((q.1) + 1))), (0, .ref (g 10))]) hx hb dX5_wornShare_63 hl (k := 2) rfl (by rw [ev5]; rfl) (by decide) rfl (fun ls hl => ?_)
          refine lv_goto (tgt := 6) hx hb dX5_wornShare_66 (by decide) ?_
          have e9 : v5 = nI (n + 1) := by rw [ev5]; exact nI_1 n
          rw [e9] at hl
          exact ih (n + 1) (by omega) (((q.1) + 1), (q.2)) (by rw [fU_s, ← hq]; unfold stWs; simp only [c2, c4, ↓reduceIte]) (by refine ⟨?_, ?_⟩ <;> first | omega | (dsimp only; omega)) H locs ls (lv_sub hl [2, 1, 0, 3] rfl) hH hS
        · skip
          refine lv_iconst (v := 1) hx hb dX5_wornShare_56 (by decide) ?_
          refine lv_goto (tgt := 61) hx hb dX5_wornShare_57 (by decide) ?_
          refine lv_iadd hx hb dX5_wornShare_61 ?_
          refine lv_tope (nI_add (q.2) 1) ?_
          refine lv_istore_n (lv' := [(2, .int (nI ((q.2) + 1))), (1, .int (nI ((q.1) + 1))), (3, .int (nI n)), (0, .ref (g 10))]) hx hb dX5_wornShare_62 rfl hl (by decide) rfl (fun ls hl => ?_)
          obtain ⟨v6, ev6⟩ : ∃ y : Int32, y = (nI n) + 1 := ⟨_, rfl⟩
          refine lv_iinc (v := v6) (lv' := [(3, .int v6), (2, .int (nI ((q.2) + 1))), (1, .int (nI ((q.1) + 1))), (0, .ref (g 10))]) hx hb dX5_wornShare_63 hl (k := 2) rfl (by rw [ev6]; rfl) (by decide) rfl (fun ls hl => ?_)
          refine lv_goto (tgt := 6) hx hb dX5_wornShare_66 (by decide) ?_
          have e9 : v6 = nI (n + 1) := by rw [ev6]; exact nI_1 n
          rw [e9] at hl
          exact ih (n + 1) (by omega) (((q.1) + 1), ((q.2) + 1)) (by rw [fU_s, ← hq]; unfold stWs; simp only [c2, c4, ↓reduceIte]) (by refine ⟨?_, ?_⟩ <;> first | omega | (dsimp only; omega)) H locs ls (lv_sub hl [2, 1, 0, 3] rfl) hH hS
  exact loop (y.1 0 0) 0 (by omega) ((0 : Nat), (0 : Nat)) rfl ⟨Nat.le_refl _, Nat.le_refl _⟩ H _ ls (lv_sub hl [2, 1, 0, 3] rfl) hH hS
