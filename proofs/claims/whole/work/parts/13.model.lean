/-! ===== the model: methods with loops ===== -/
theorem W.nameQ {p : Program} {l : Launch} {e : Env} {R : Room} {s : State} {m : MethodId} {args : Array Value} {below : List Frame} {meth : Method} {c : Code} {H : Heap} {locs : List Loc} {cells slots : Nat} {Q : State → Prop} {f : JFrame} (k : ∀ Q0, Q0 = Q → W p l e R s m args below meth c H locs cells slots Q0 f) : W p l e R s m args below meth c H locs cells slots Q f := k Q rfl
/-- steps 0, 1 .. -/
def fU {α : Type} (f : Nat → α → α) (a : α) : Nat → α
  | 0 => a
  | n + 1 => f n (fU f a n)
/-- steps N - 1, N - 2 .. -/
def fD {α : Type} (f : Nat → α → α) (a : α) (N : Nat) : Nat → α
  | 0 => a
  | n + 1 => f (N - 1 - n) (fD f a N n)
/-- a place that may be none: 0, or the place + 1 -/
def bI (q : Nat) : Int32 := if q = 0 then -1 else nI (q - 1)
theorem bI_0 {q : Nat} (h : q = 0) : bI q = -1 := if_pos h
theorem bI_s {q : Nat} (h : ¬ q = 0) : bI q = nI (q - 1) := if_neg h
/-- mostAsked: one song more -/
def stA (y : St) (j i q : Nat) : Nat := if y.2 15 (100 * j + i) < y.2 15 (100 * j + q) then q else i
def stL (y : St) (j i q : Nat) : Nat := if y.1 7 (10 * j + i) = 0 then q else if q = 0 then i + 1 else if y.2 14 (10 * j + (q - 1)) < y.2 14 (10 * j + i) then q else i + 1
def stS (y : St) (j i q : Nat) : Nat := if y.1 8 i = 1 then (if y.2 26 i = 0 then (if q = 0 then i + 1 else if pD y i (y.2 5 j) (nI (y.1 9 0)) ≤ pD y (q - 1) (y.2 5 j) (nI (y.1 9 0)) then q else i + 1) else q) else q
def stW (y : St) (j i q : Nat) : Nat := if y.2 27 i = 0 then (if q = 0 then i + 1 else if pS y (10 * j + (q - 1)) (y.2 5 ((10 * j + (q - 1)) / 10)) (nI (y.1 9 0)) ≤ pS y (10 * j + i) (y.2 5 ((10 * j + i) / 10)) (nI (y.1 9 0)) then q else i + 1) else q
def mp_mostAsked (y : St) (b : Int32) : Int32 × St := if inB b (y.1 1 0) = true then (if (y.2 15 ((100 * (ix b)) + (fD (stA y (ix b)) 0 100 100))) ≤ 0 then (0, (uI (uI y 28 0 0) 28 0 2)) else ((nI (fD (stA y (ix b)) 0 100 100)), (uI (uI y 28 0 0) 28 0 0))) else (0, (uI y 28 0 1))
set_option maxHeartbeats 4000000 in
set_option maxRecDepth 100000 in
theorem met_X5_mostAsked (l : Launch) (E : wE) (o : wO) (g : Nat → Nat) (x y : St) (b : Int32) (hI : MI y) : Met l yX5_mostAsked wsX5_mostAsked ({ frames := 3, cells := 0, slots := 0, locals := 300 } : Room) (va_Pc [.ref (g 10), .int b] (wPre E o g x y)) (va_Qi (fun (r : Int32) (_ : Unit) => r = (mp_mostAsked y b).1) (fun (_ : Unit) t => wHS E o g x (mp_mostAsked y b).2 t.heap) (wA E)) 0 0 (wA E) := by
  refine Met.ofW (cc := cX5_mostAsked) (maxL := 4) (ret := (some .int)) (by decide) rfl ?_
  intro p e s m args below meth c s₁ B hml hv
  obtain ⟨rfl, hz, hH, hK⟩ := hv
  have hx := B.exec
  have hb := B.bytes
  have hr := B.returns
  have hts := atoms_spec (ws := wsX5_mostAsked) B.pre
  have hown : s.vm.findClass RX5 = some m.cls := findClass_of_methodNamed B.named
  have hlocks := B.notSynchronized
  have hS : va_S (wA E) s.heap s.heap [] := va_S.rf
  have hinX5 : ∀ w ∈ wsX50, w ∈ wsX5_mostAsked := fun w h => List.mem_cons_of_mem _ (List.mem_append_left _ (List.mem_append_right _ h))
  have hl := lv_entry ([.ref (g 10), .int b]) (n := 4) (Nat.le_of_ble_eq_true rfl)
  rw [lg_entry_eq]
  generalize (lg_sl ([.ref (g 10), .int b]) ++ List.replicate (4 - (lg_sl ([.ref (g 10), .int b])).length) Slot.unset).toArray = ls at hl ⊢
  have hl : lv_has ls 4 [(0, .ref (g 10)), (1, .int b)] := hl
  obtain ⟨H, eH⟩ : ∃ z, z = s.heap := ⟨_, rfl⟩
  have hH : wHS E o g x y H := by rw [eH]; exact hH
  have hS : va_S (wA E) s.heap H [] := by rw [eH]; exact hS
  refine W.heapTo eH ?_
  obtain ⟨hm0, hm1, hm7, hm8, hm5, hm6, hm9, hm12, hm11⟩ := id hI
  refine W.nameQ (fun Q eQ => ?_)
  refine lv_aload_n hx hb dX5_mostAsked_0 rfl (lv_at hl 0 rfl) ?_
  refine lv_aload_n hx hb dX5_mostAsked_1 rfl (lv_at hl 0 rfl) ?_
  refine lv_iload_n hx hb dX5_mostAsked_2 rfl (lv_at hl 1 rfl) ?_
  refine va_calli (va_runV (As := [.int b]) (rest := [.ref (g 10)]) ⟨hx, hb, hml, hown, hts⟩ (met_X5_isBox l E o g x y b (show (y.1 1 0) ≤ 100 by omega)) (cwV 1 hts gX5_mostAsked_X5_isBox rfl rfl rfl (by decide +kernel) ⟨Nat.le_of_ble_eq_true rfl, Nat.le_of_ble_eq_true rfl⟩) ⟨fun a U f mk q => ⟨q.1, wPre.calling q.2 a f mk⟩, (va_recv hK (wH_one hH (lv_md (by decide) (by decide)) (cel_md (by omega) (by omega))) (ci := 7) (q0 := 0) rfl rfl), fun U hU hW => ⟨rfl, wPre_at hz hS hH hK U hU hW⟩⟩ rfl rfl hl.1 rfl (lv_room (Nat.le_of_ble_eq_true rfl)) dX5_mostAsked_3 ⟨Nat.le_of_ble_eq_true rfl, Nat.le_of_ble_eq_true rfl⟩) hS (fun q _ h => h) (fun q h => h) (fun r u t H locs ht hvm hw hB hz1 hk1 hS => ?_)
  have hB := wHS_h ht hB
  try dsimp only at hw
  have hH := hB
  rcases hw with ⟨rfl, c1⟩ | ⟨rfl, c1⟩
  · have c1 : inB b (y.1 1 0) = true := c1
    obtain ⟨jb, hjb, rfl⟩ := inB_t c1 (by omega)
    refine lv_iconst (v := 1) hx hb dX5_mostAsked_6 (by decide) ?_
    refine va_calli (va_runV (As := [.int 1, .int 1]) (rest := []) ⟨hx, hb, hml, hown, hts⟩ (met_X5_no1 l E o g x y 1) (cwV 2 hts gX5_mostAsked_X5_no rfl rfl rfl (by decide +kernel) ⟨Nat.le_of_ble_eq_true rfl, Nat.le_of_ble_eq_true rfl⟩) ⟨fun a U f mk q => ⟨q.1, wPre.calling q.2 a f mk⟩, (va_recv hK (wH_one hH (lv_md (by decide) (by decide)) (cel_md (by omega) (by omega))) (ci := 7) (q0 := 0) rfl rfl), fun U hU hW => ⟨rfl, wPre_at hz hS hH hK U hU hW⟩⟩ rfl rfl hl.1 rfl (lv_room (Nat.le_of_ble_eq_true rfl)) dX5_mostAsked_7 ⟨Nat.le_of_ble_eq_true rfl, Nat.le_of_ble_eq_true rfl⟩) hS (fun q _ h => h) (fun q h => h) (fun r u t H locs ht hvm hw hB hz1 hk1 hS => ?_)
    have hB := wHS_h ht hB
    try dsimp only at hw
    obtain rfl := hw
    have hH := hB
    refine lv_if_eq (tgt := 15) hx hb dX5_mostAsked_10 (by decide) (fun _ => ?_) (fun hq => absurd (show (0 : Int32) = 0 by decide) hq)
    refine lv_iconst (v := 0) hx hb dX5_mostAsked_15 (by decide) ?_
    refine lv_istore_n (lv' := [(2, .int 0), (0, .ref (g 10)), (1, .int (nI jb))]) hx hb dX5_mostAsked_16 rfl hl (by decide) rfl (fun ls hl => ?_)
    refine lv_bipush (v := 99) hx hb dX5_mostAsked_17 (by decide) ?_
    refine lv_istore_n (lv' := [(3, .int 99), (2, .int 0), (0, .ref (g 10)), (1, .int (nI jb))]) hx hb dX5_mostAsked_19 rfl hl (by decide) rfl (fun ls hl => ?_)
    have loop : ∀ (k n : Nat), n + k = 100 → ∀ (q : Nat), q = fD (stA y jb) 0 100 n → q < 100 → ∀ (H : Heap) (locs : List Loc) (ls : Array Slot), lv_has ls 4 [(2, .int (nI q)), (3, .int (nI k - 1)), (0, .ref (g 10)), (1, .int (nI jb))] → wHS E o g x (uI y 28 0 0) H → va_S (wA E) s.heap H locs → W p l e ({ frames := 3, cells := 0, slots := 0, locals := 300 } : Room) s m #[.ref (g 10), .int (nI jb)] below meth c H locs 0 0 Q (F0 m 20 ls []) := by
      intro k
      induction k with
      | zero =>
        intro n hn q hq hqb H locs ls hl hH hS
        obtain rfl : n = 100 := by omega
        subst hq
        have hl : lv_has ls 4 [(2, .int (nI (fD (stA y jb) 0 100 100))), (3, .int (-1)), (0, .ref (g 10)), (1, .int (nI jb))] := hl
        refine lv_iload_n hx hb dX5_mostAsked_20 rfl (lv_at hl 1 rfl) ?_
        refine lv_if_lt (tgt := 61) hx hb dX5_mostAsked_21 (by decide) (fun _ => ?_) (fun hq => absurd (show ((-1) : Int32) < 0 by decide) hq)
        refine lv_aload_n hx hb dX5_mostAsked_61 rfl (lv_at hl 2 rfl) ?_
        refine lv_aload_n hx hb dX5_mostAsked_62 rfl (lv_at hl 2 rfl) ?_
        refine wr_get (T := TX5) (N := 30) (ci := 7) (v := .ref (g 31)) hx hb hts hinX5 hown hK hH (lv_md (by decide) (by decide)) (cel_md (by omega) (by omega)) rfl 22 (by decide) (hts (.fieldLink RX5 71 "SelectoRouteModel" "asked" "[I") (by decide +kernel)) (fun _ h => h) rfl dX5_mostAsked_63 ?_
        refine lv_bipush (v := 100) hx hb dX5_mostAsked_66 (by decide) ?_
        refine lv_iload_n hx hb dX5_mostAsked_68 rfl (lv_at hl 3 rfl) ?_
        refine lv_imul hx hb dX5_mostAsked_69 ?_
        refine lv_tope (pk_mul 100 jb) ?_
        refine lv_iload_n hx hb dX5_mostAsked_70 rfl (lv_at hl 0 rfl) ?_
        refine lv_iadd hx hb dX5_mostAsked_71 ?_
        refine lv_tope (nI_add (100 * jb) (fD (stA y jb) 0 100 100)) ?_
        refine wr_iald (v := (y.2 15 ((100 * jb) + (fD (stA y jb) 0 100 100)))) hx hb hK hH (lv_md (by decide) (by decide)) (cel_md (by decide) (by decide)) 0 rfl (vp_in_nI (n := ((100 * jb) + (fD (stA y jb) 0 100 100))) (N := 400) (by omega) (by decide)) (by rw [(nI_clamp (n := ((100 * jb) + (fD (stA y jb) 0 100 100))) (by omega))]; try rfl) dX5_mostAsked_72 ?_
        refine lv_if_le (tgt := 80) hx hb dX5_mostAsked_73 (by decide) (fun c2 => ?_) (fun c2 => ?_)
        · skip
          refine lv_iconst (v := 0) hx hb dX5_mostAsked_80 (by decide) ?_
          refine lv_iconst (v := 2) hx hb dX5_mostAsked_81 (by decide) ?_
          refine va_calli (va_runV (As := [.int 0, .int 2]) (rest := []) ⟨hx, hb, hml, hown, hts⟩ (met_X5_no0 l E o g x (uI y 28 0 0) 2) (cwV 2 hts gX5_mostAsked_X5_no rfl rfl rfl (by decide +kernel) ⟨Nat.le_of_ble_eq_true rfl, Nat.le_of_ble_eq_true rfl⟩) ⟨fun a U f mk q => ⟨q.1, wPre.calling q.2 a f mk⟩, (va_recv hK (wH_one hH (lv_md (by decide) (by decide)) (cel_md (by omega) (by omega))) (ci := 7) (q0 := 0) rfl rfl), fun U hU hW => ⟨rfl, wPre_at hz hS hH hK U hU hW⟩⟩ rfl rfl hl.1 rfl (lv_room (Nat.le_of_ble_eq_true rfl)) dX5_mostAsked_82 ⟨Nat.le_of_ble_eq_true rfl, Nat.le_of_ble_eq_true rfl⟩) hS (fun q _ h => h) (fun q h => h) (fun r u t H locs ht hvm hw hB hz1 hk1 hS => ?_)
          have hB := wHS_h ht hB
          try dsimp only at hw
          obtain rfl := hw
          have hH := hB
          refine lv_if_eq (tgt := 92) hx hb dX5_mostAsked_85 (by decide) (fun hq => absurd hq (show ¬ (1 : Int32) = 0 by decide)) (fun _ => ?_)
          refine lv_iconst (v := 0) hx hb dX5_mostAsked_88 (by decide) ?_
          refine lv_goto (tgt := 93) hx hb dX5_mostAsked_89 (by decide) ?_
          have hsp : mp_mostAsked y (nI jb) = (0, (uI (uI y 28 0 0) 28 0 2)) := by
            unfold mp_mostAsked
            first | (simp only [c1, c2, inB_nI hjb (by omega), ix_nI (show jb < 2 ^ 31 by omega), ↓reduceIte, and_self, and_true, true_and, Bool.false_eq_true, reduceCtorEq, eq_self, false_and, and_false]; done) | (simp [c1, c2, inB_nI hjb (by omega), ix_nI (show jb < 2 ^ 31 by omega), ↓reduceIte, and_self, and_true, true_and, Bool.false_eq_true, reduceCtorEq, eq_self, false_and, and_false]; done) | simp only [c1, c2, inB_nI hjb (by omega), ix_nI (show jb < 2 ^ 31 by omega), ↓reduceIte, and_self, and_true, true_and, Bool.false_eq_true, reduceCtorEq, eq_self, false_and, and_false]
          rw [eQ]
          exact W.iret (v := 0) hx hb hr (fun t ht hW => ⟨⟨0, (), rfl, (by rw [hsp]), wHS_t ht (by rw [hsp]; exact hH)⟩, hS.F ht⟩) hS.2.2 dX5_mostAsked_93
        · skip
          refine lv_iconst (v := 1) hx hb dX5_mostAsked_76 (by decide) ?_
          refine lv_goto (tgt := 81) hx hb dX5_mostAsked_77 (by decide) ?_
          refine lv_iconst (v := 2) hx hb dX5_mostAsked_81 (by decide) ?_
          refine va_calli (va_runV (As := [.int 1, .int 2]) (rest := []) ⟨hx, hb, hml, hown, hts⟩ (met_X5_no1 l E o g x (uI y 28 0 0) 2) (cwV 2 hts gX5_mostAsked_X5_no rfl rfl rfl (by decide +kernel) ⟨Nat.le_of_ble_eq_true rfl, Nat.le_of_ble_eq_true rfl⟩) ⟨fun a U f mk q => ⟨q.1, wPre.calling q.2 a f mk⟩, (va_recv hK (wH_one hH (lv_md (by decide) (by decide)) (cel_md (by omega) (by omega))) (ci := 7) (q0 := 0) rfl rfl), fun U hU hW => ⟨rfl, wPre_at hz hS hH hK U hU hW⟩⟩ rfl rfl hl.1 rfl (lv_room (Nat.le_of_ble_eq_true rfl)) dX5_mostAsked_82 ⟨Nat.le_of_ble_eq_true rfl, Nat.le_of_ble_eq_true rfl⟩) hS (fun q _ h => h) (fun q h => h) (fun r u t H locs ht hvm hw hB hz1 hk1 hS => ?_)
          have hB := wHS_h ht hB
          try dsimp only at hw
          obtain rfl := hw
          have hH := hB
          refine lv_if_eq (tgt := 92) hx hb dX5_mostAsked_85 (by decide) (fun _ => ?_) (fun hq => absurd (show (0 : Int32) = 0 by decide) hq)
          refine lv_iload_n hx hb dX5_mostAsked_92 rfl (lv_at hl 0 rfl) ?_
          have hsp : mp_mostAsked y (nI jb) = ((nI (fD (stA y jb) 0 100 100)), (uI (uI y 28 0 0) 28 0 0)) := by
            unfold mp_mostAsked
            first | (simp only [c1, c2, inB_nI hjb (by omega), ix_nI (show jb < 2 ^ 31 by omega), ↓reduceIte, and_self, and_true, true_and, Bool.false_eq_true, reduceCtorEq, eq_self, false_and, and_false]; done) | (simp [c1, c2, inB_nI hjb (by omega), ix_nI (show jb < 2 ^ 31 by omega), ↓reduceIte, and_self, and_true, true_and, Bool.false_eq_true, reduceCtorEq, eq_self, false_and, and_false]; done) | simp only [c1, c2, inB_nI hjb (by omega), ix_nI (show jb < 2 ^ 31 by omega), ↓reduceIte, and_self, and_true, true_and, Bool.false_eq_true, reduceCtorEq, eq_self, false_and, and_false]
          rw [eQ]
          exact W.iret (v := (nI (fD (stA y jb) 0 100 100))) hx hb hr (fun t ht hW => ⟨⟨(nI (fD (stA y jb) 0 100 100)), (), rfl, (by rw [hsp]), wHS_t ht (by rw [hsp]; exact hH)⟩, hS.F ht⟩) hS.2.2 dX5_mostAsked_93
      | succ k ih =>
        intro n hn q hq hqb H locs ls hl hH hS
        have hlt : n < 100 := by omega
        rw [nI_pred] at hl
        refine lv_iload_n hx hb dX5_mostAsked_20 rfl (lv_at hl 1 rfl) ?_
        refine lv_if_lt (tgt := 61) hx hb dX5_mostAsked_21 (by decide) (fun hq => absurd ((nI_ltI (a := k) (b := 0) (by omega) (by omega)).mp hq) (Nat.not_lt_zero _)) (fun _ => ?_)
        refine lv_aload_n hx hb dX5_mostAsked_24 rfl (lv_at hl 2 rfl) ?_
        refine wr_get (T := TX5) (N := 30) (ci := 7) (v := .ref (g 31)) hx hb hts hinX5 hown hK hH (lv_md (by decide) (by decide)) (cel_md (by omega) (by omega)) rfl 22 (by decide) (hts (.fieldLink RX5 71 "SelectoRouteModel" "asked" "[I") (by decide +kernel)) (fun _ h => h) rfl dX5_mostAsked_25 ?_
        refine lv_bipush (v := 100) hx hb dX5_mostAsked_28 (by decide) ?_
        refine lv_iload_n hx hb dX5_mostAsked_30 rfl (lv_at hl 3 rfl) ?_
        refine lv_imul hx hb dX5_mostAsked_31 ?_
        refine lv_tope (pk_mul 100 jb) ?_
        refine lv_iload_n hx hb dX5_mostAsked_32 rfl (lv_at hl 1 rfl) ?_
        refine lv_iadd hx hb dX5_mostAsked_33 ?_
        refine lv_tope (nI_add (100 * jb) k) ?_
        refine wr_iald (v := (y.2 15 ((100 * jb) + k))) hx hb hK hH (lv_md (by decide) (by decide)) (cel_md (by decide) (by decide)) 0 rfl (vp_in_nI (n := ((100 * jb) + k)) (N := 400) (by omega) (by decide)) (by rw [(nI_clamp (n := ((100 * jb) + k)) (by omega))]; try rfl) dX5_mostAsked_34 ?_
        refine lv_aload_n hx hb dX5_mostAsked_35 rfl (lv_at hl 2 rfl) ?_
        refine wr_get (T := TX5) (N := 30) (ci := 7) (v := .ref (g 31)) hx hb hts hinX5 hown hK hH (lv_md (by decide) (by decide)) (cel_md (by omega) (by omega)) rfl 22 (by decide) (hts (.fieldLink RX5 71 "SelectoRouteModel" "asked" "[I") (by decide +kernel)) (fun _ h => h) rfl dX5_mostAsked_36 ?_
        refine lv_bipush (v := 100) hx hb dX5_mostAsked_39 (by decide) ?_
        refine lv_iload_n hx hb dX5_mostAsked_41 rfl (lv_at hl 3 rfl) ?_
        refine lv_imul hx hb dX5_mostAsked_42 ?_
        refine lv_tope (pk_mul 100 jb) ?_
        refine lv_iload_n hx hb dX5_mostAsked_43 rfl (lv_at hl 0 rfl) ?_
        refine lv_iadd hx hb dX5_mostAsked_44 ?_
        refine lv_tope (nI_add (100 * jb) q) ?_
        refine wr_iald (v := (y.2 15 ((100 * jb) + q))) hx hb hK hH (lv_md (by decide) (by decide)) (cel_md (by decide) (by decide)) 0 rfl (vp_in_nI (n := ((100 * jb) + q)) (N := 400) (by omega) (by decide)) (by rw [(nI_clamp (n := ((100 * jb) + q)) (by omega))]; try rfl) dX5_mostAsked_45 ?_
        refine lv_icmp_lt (tgt := 53) hx hb dX5_mostAsked_46 (by decide) (fun c3 => ?_) (fun c3 => ?_)
        · skip
          refine lv_iload_n hx hb dX5_mostAsked_53 rfl (lv_at hl 0 rfl) ?_
          refine lv_istore_n (lv' := [(2, .int (nI q)), (3, .int (nI k)), (0, .ref (g 10)), (1, .int (nI jb))]) hx hb dX5_mostAsked_54 rfl hl (by decide) rfl (fun ls hl => ?_)
          obtain ⟨v4, ev4⟩ : ∃ y : Int32, y = (nI k) + (-1) := ⟨_, rfl⟩
          refine lv_iinc (v := v4) (lv' := [(3, .int v4), (2, .int (nI q)), (0, .ref (g 10)), (1, .int (nI jb))]) hx hb dX5_mostAsked_55 hl (k := 1) rfl (by rw [ev4]; rfl) (by decide) rfl (fun ls hl => ?_)
          refine lv_goto (tgt := 20) hx hb dX5_mostAsked_58 (by decide) ?_
          have e9 : v4 = nI k - 1 := by rw [ev4]; exact (Int32.sub_eq_add_neg (nI k) 1).symm
          rw [e9] at hl
          exact ih (n + 1) (by omega) q (by rw [show fD (stA y jb) 0 100 (n + 1) = (stA y jb) (100 - 1 - n) (fD (stA y jb) 0 100 n) from rfl, show 100 - 1 - n = k by omega, ← hq]; unfold stA; try simp only [c3, ↓reduceIte, and_self, and_true, true_and, false_and, and_false]) (by omega) H locs ls (lv_sub hl [1, 0, 2, 3] rfl) hH hS
        · skip
          refine lv_iload_n hx hb dX5_mostAsked_49 rfl (lv_at hl 1 rfl) ?_
          refine lv_goto (tgt := 54) hx hb dX5_mostAsked_50 (by decide) ?_
          refine lv_istore_n (lv' := [(2, .int (nI k)), (3, .int (nI k)), (0, .ref (g 10)), (1, .int (nI jb))]) hx hb dX5_mostAsked_54 rfl hl (by decide) rfl (fun ls hl => ?_)
          obtain ⟨v5, ev5⟩ : ∃ y : Int32, y = (nI k) + (-1) := ⟨_, rfl⟩
          refine lv_iinc (v := v5) (lv' := [(3, .int v5), (2, .int (nI k)), (0, .ref (g 10)), (1, .int (nI jb))]) hx hb dX5_mostAsked_55 hl (k := 1) rfl (by rw [ev5]; rfl) (by decide) rfl (fun ls hl => ?_)
          refine lv_goto (tgt := 20) hx hb dX5_mostAsked_58 (by decide) ?_
          have e9 : v5 = nI k - 1 := by rw [ev5]; exact (Int32.sub_eq_add_neg (nI k) 1).symm
          rw [e9] at hl
          exact ih (n + 1) (by omega) k (by rw [show fD (stA y jb) 0 100 (n + 1) = (stA y jb) (100 - 1 - n) (fD (stA y jb) 0 100 n) from rfl, show 100 - 1 - n = k by omega, ← hq]; unfold stA; try simp only [c3, ↓reduceIte, and_self, and_true, true_and, false_and, and_false]) (by omega) H locs ls (lv_sub hl [1, 0, 2, 3] rfl) hH hS
    exact loop 100 0 (by omega) 0 rfl (by omega) H locs ls (lv_sub hl [1, 0, 2, 3] rfl) hH hS
  · have c1 : inB b (y.1 1 0) = false := c1
    refine lv_iconst (v := 1) hx hb dX5_mostAsked_6 (by decide) ?_
    refine va_calli (va_runV (As := [.int 0, .int 1]) (rest := []) ⟨hx, hb, hml, hown, hts⟩ (met_X5_no0 l E o g x y 1) (cwV 2 hts gX5_mostAsked_X5_no rfl rfl rfl (by decide +kernel) ⟨Nat.le_of_ble_eq_true rfl, Nat.le_of_ble_eq_true rfl⟩) ⟨fun a U f mk q => ⟨q.1, wPre.calling q.2 a f mk⟩, (va_recv hK (wH_one hH (lv_md (by decide) (by decide)) (cel_md (by omega) (by omega))) (ci := 7) (q0 := 0) rfl rfl), fun U hU hW => ⟨rfl, wPre_at hz hS hH hK U hU hW⟩⟩ rfl rfl hl.1 rfl (lv_room (Nat.le_of_ble_eq_true rfl)) dX5_mostAsked_7 ⟨Nat.le_of_ble_eq_true rfl, Nat.le_of_ble_eq_true rfl⟩) hS (fun q _ h => h) (fun q h => h) (fun r u t H locs ht hvm hw hB hz1 hk1 hS => ?_)
    have hB := wHS_h ht hB
    try dsimp only at hw
    obtain rfl := hw
    have hH := hB
    refine lv_if_eq (tgt := 15) hx hb dX5_mostAsked_10 (by decide) (fun hq => absurd hq (show ¬ (1 : Int32) = 0 by decide)) (fun _ => ?_)
    refine lv_iconst (v := 0) hx hb dX5_mostAsked_13 (by decide) ?_
    have hsp : mp_mostAsked y b = (0, (uI y 28 0 1)) := by
      unfold mp_mostAsked
      first | (simp only [(Bool.eq_false_iff.mp c1), ↓reduceIte, and_self, and_true, true_and, Bool.false_eq_true, reduceCtorEq, eq_self, false_and, and_false]; done) | (simp [(Bool.eq_false_iff.mp c1), ↓reduceIte, and_self, and_true, true_and, Bool.false_eq_true, reduceCtorEq, eq_self, false_and, and_false]; done) | simp only [(Bool.eq_false_iff.mp c1), ↓reduceIte, and_self, and_true, true_and, Bool.false_eq_true, reduceCtorEq, eq_self, false_and, and_false]
    rw [eQ]
    exact W.iret (v := 0) hx hb hr (fun t ht hW => ⟨⟨0, (), rfl, (by rw [hsp]), wHS_t ht (by rw [hsp]; exact hH)⟩, hS.F ht⟩) hS.2.2 dX5_mostAsked_14
def mp_least (y : St) (b : Int32) : Int32 × St := if inB b (y.1 1 0) = true then (if (fD (stL y (ix b)) 0 10 10) = 0 then (0, (uI (uI y 28 0 0) 28 0 2)) else ((nI ((fD (stL y (ix b)) 0 10 10) - 1)), (uI (uI y 28 0 0) 28 0 0))) else (0, (uI y 28 0 1))
set_option maxHeartbeats 4000000 in
set_option maxRecDepth 100000 in
theorem met_X5_least (l : Launch) (E : wE) (o : wO) (g : Nat → Nat) (x y : St) (b : Int32) (hI : MI y) : Met l yX5_least wsX5_least ({ frames := 3, cells := 0, slots := 0, locals := 300 } : Room) (va_Pc [.ref (g 10), .int b] (wPre E o g x y)) (va_Qi (fun (r : Int32) (_ : Unit) => r = (mp_least y b).1) (fun (_ : Unit) t => wHS E o g x (mp_least y b).2 t.heap) (wA E)) 0 0 (wA E) := by
  refine Met.ofW (cc := cX5_least) (maxL := 5) (ret := (some .int)) (by decide) rfl ?_
  intro p e s m args below meth c s₁ B hml hv
  obtain ⟨rfl, hz, hH, hK⟩ := hv
  have hx := B.exec
  have hb := B.bytes
  have hr := B.returns
  have hts := atoms_spec (ws := wsX5_least) B.pre
  have hown : s.vm.findClass RX5 = some m.cls := findClass_of_methodNamed B.named
  have hlocks := B.notSynchronized
  have hS : va_S (wA E) s.heap s.heap [] := va_S.rf
  have hinX5 : ∀ w ∈ wsX50, w ∈ wsX5_least := fun w h => List.mem_cons_of_mem _ (List.mem_append_left _ (List.mem_append_right _ h))
  have hl := lv_entry ([.ref (g 10), .int b]) (n := 5) (Nat.le_of_ble_eq_true rfl)
  rw [lg_entry_eq]
  generalize (lg_sl ([.ref (g 10), .int b]) ++ List.replicate (5 - (lg_sl ([.ref (g 10), .int b])).length) Slot.unset).toArray = ls at hl ⊢
  have hl : lv_has ls 5 [(0, .ref (g 10)), (1, .int b)] := hl
  obtain ⟨H, eH⟩ : ∃ z, z = s.heap := ⟨_, rfl⟩
  have hH : wHS E o g x y H := by rw [eH]; exact hH
  have hS : va_S (wA E) s.heap H [] := by rw [eH]; exact hS
  refine W.heapTo eH ?_
  obtain ⟨hm0, hm1, hm7, hm8, hm5, hm6, hm9, hm12, hm11⟩ := id hI
  refine W.nameQ (fun Q eQ => ?_)
  refine lv_aload_n hx hb dX5_least_0 rfl (lv_at hl 0 rfl) ?_
  refine lv_aload_n hx hb dX5_least_1 rfl (lv_at hl 0 rfl) ?_
  refine lv_iload_n hx hb dX5_least_2 rfl (lv_at hl 1 rfl) ?_
  refine va_calli (va_runV (As := [.int b]) (rest := [.ref (g 10)]) ⟨hx, hb, hml, hown, hts⟩ (met_X5_isBox l E o g x y b (show (y.1 1 0) ≤ 100 by omega)) (cwV 1 hts gX5_least_X5_isBox rfl rfl rfl (by decide +kernel) ⟨Nat.le_of_ble_eq_true rfl, Nat.le_of_ble_eq_true rfl⟩) ⟨fun a U f mk q => ⟨q.1, wPre.calling q.2 a f mk⟩, (va_recv hK (wH_one hH (lv_md (by decide) (by decide)) (cel_md (by omega) (by omega))) (ci := 7) (q0 := 0) rfl rfl), fun U hU hW => ⟨rfl, wPre_at hz hS hH hK U hU hW⟩⟩ rfl rfl hl.1 rfl (lv_room (Nat.le_of_ble_eq_true rfl)) dX5_least_3 ⟨Nat.le_of_ble_eq_true rfl, Nat.le_of_ble_eq_true rfl⟩) hS (fun q _ h => h) (fun q h => h) (fun r u t H locs ht hvm hw hB hz1 hk1 hS => ?_)
  have hB := wHS_h ht hB
  try dsimp only at hw
  have hH := hB
  rcases hw with ⟨rfl, c1⟩ | ⟨rfl, c1⟩
  · have c1 : inB b (y.1 1 0) = true := c1
    obtain ⟨jb, hjb, rfl⟩ := inB_t c1 (by omega)
    refine lv_iconst (v := 1) hx hb dX5_least_6 (by decide) ?_
    refine va_calli (va_runV (As := [.int 1, .int 1]) (rest := []) ⟨hx, hb, hml, hown, hts⟩ (met_X5_no1 l E o g x y 1) (cwV 2 hts gX5_least_X5_no rfl rfl rfl (by decide +kernel) ⟨Nat.le_of_ble_eq_true rfl, Nat.le_of_ble_eq_true rfl⟩) ⟨fun a U f mk q => ⟨q.1, wPre.calling q.2 a f mk⟩, (va_recv hK (wH_one hH (lv_md (by decide) (by decide)) (cel_md (by omega) (by omega))) (ci := 7) (q0 := 0) rfl rfl), fun U hU hW => ⟨rfl, wPre_at hz hS hH hK U hU hW⟩⟩ rfl rfl hl.1 rfl (lv_room (Nat.le_of_ble_eq_true rfl)) dX5_least_7 ⟨Nat.le_of_ble_eq_true rfl, Nat.le_of_ble_eq_true rfl⟩) hS (fun q _ h => h) (fun q h => h) (fun r u t H locs ht hvm hw hB hz1 hk1 hS => ?_)
    have hB := wHS_h ht hB
    try dsimp only at hw
    obtain rfl := hw
    have hH := hB
    refine lv_if_eq (tgt := 15) hx hb dX5_least_10 (by decide) (fun _ => ?_) (fun hq => absurd (show (0 : Int32) = 0 by decide) hq)
    refine lv_iconst (v := (-1)) hx hb dX5_least_15 (by decide) ?_
    refine lv_istore_n (lv' := [(2, .int (-1)), (0, .ref (g 10)), (1, .int (nI jb))]) hx hb dX5_least_16 rfl hl (by decide) rfl (fun ls hl => ?_)
    refine lv_bipush (v := 9) hx hb dX5_least_17 (by decide) ?_
    refine lv_istore_n (lv' := [(3, .int 9), (2, .int (-1)), (0, .ref (g 10)), (1, .int (nI jb))]) hx hb dX5_least_19 rfl hl (by decide) rfl (fun ls hl => ?_)
    have loop : ∀ (k n : Nat), n + k = 10 → ∀ (q : Nat), q = fD (stL y jb) 0 10 n → q ≤ 10 → ∀ (H : Heap) (locs : List Loc) (ls : Array Slot), lv_has ls 5 [(2, .int (bI q)), (3, .int (nI k - 1)), (0, .ref (g 10)), (1, .int (nI jb))] → wHS E o g x (uI y 28 0 0) H → va_S (wA E) s.heap H locs → W p l e ({ frames := 3, cells := 0, slots := 0, locals := 300 } : Room) s m #[.ref (g 10), .int (nI jb)] below meth c H locs 0 0 Q (F0 m 20 ls []) := by
      intro k
      induction k with
      | zero =>
        intro n hn q hq hqb H locs ls hl hH hS
        obtain rfl : n = 10 := by omega
        subst hq
        have hl : lv_has ls 5 [(2, .int (bI (fD (stL y jb) 0 10 10))), (3, .int (-1)), (0, .ref (g 10)), (1, .int (nI jb))] := hl
        by_cases c2 : (fD (stL y jb) 0 10 10) = 0
        · skip
          rw [bI_0 c2] at hl
          refine lv_iload_n hx hb dX5_least_20 rfl (lv_at hl 1 rfl) ?_
          refine lv_if_lt (tgt := 91) hx hb dX5_least_21 (by decide) (fun _ => ?_) (fun hq => absurd (show ((-1) : Int32) < 0 by decide) hq)
          refine lv_aload_n hx hb dX5_least_91 rfl (lv_at hl 2 rfl) ?_
          refine lv_iload_n hx hb dX5_least_92 rfl (lv_at hl 0 rfl) ?_
          refine lv_if_lt (tgt := 100) hx hb dX5_least_93 (by decide) (fun _ => ?_) (fun hq => absurd (show ((-1) : Int32) < 0 by decide) hq)
          refine lv_iconst (v := 0) hx hb dX5_least_100 (by decide) ?_
          refine lv_iconst (v := 2) hx hb dX5_least_101 (by decide) ?_
          refine va_calli (va_runV (As := [.int 0, .int 2]) (rest := []) ⟨hx, hb, hml, hown, hts⟩ (met_X5_no0 l E o g x (uI y 28 0 0) 2) (cwV 2 hts gX5_least_X5_no rfl rfl rfl (by decide +kernel) ⟨Nat.le_of_ble_eq_true rfl, Nat.le_of_ble_eq_true rfl⟩) ⟨fun a U f mk q => ⟨q.1, wPre.calling q.2 a f mk⟩, (va_recv hK (wH_one hH (lv_md (by decide) (by decide)) (cel_md (by omega) (by omega))) (ci := 7) (q0 := 0) rfl rfl), fun U hU hW => ⟨rfl, wPre_at hz hS hH hK U hU hW⟩⟩ rfl rfl hl.1 rfl (lv_room (Nat.le_of_ble_eq_true rfl)) dX5_least_102 ⟨Nat.le_of_ble_eq_true rfl, Nat.le_of_ble_eq_true rfl⟩) hS (fun q _ h => h) (fun q h => h) (fun r u t H locs ht hvm hw hB hz1 hk1 hS => ?_)
          have hB := wHS_h ht hB
          try dsimp only at hw
          obtain rfl := hw
          have hH := hB
          refine lv_if_eq (tgt := 112) hx hb dX5_least_105 (by decide) (fun hq => absurd hq (show ¬ (1 : Int32) = 0 by decide)) (fun _ => ?_)
          refine lv_iconst (v := 0) hx hb dX5_least_108 (by decide) ?_
          refine lv_goto (tgt := 113) hx hb dX5_least_109 (by decide) ?_
          have hsp : mp_least y (nI jb) = (0, (uI (uI y 28 0 0) 28 0 2)) := by
            unfold mp_least
            first | (simp only [c1, c2, inB_nI hjb (by omega), ix_nI (show jb < 2 ^ 31 by omega), ↓reduceIte, and_self, and_true, true_and, Bool.false_eq_true, reduceCtorEq, eq_self, false_and, and_false]; done) | (simp [c1, c2, inB_nI hjb (by omega), ix_nI (show jb < 2 ^ 31 by omega), ↓reduceIte, and_self, and_true, true_and, Bool.false_eq_true, reduceCtorEq, eq_self, false_and, and_false]; done) | simp only [c1, c2, inB_nI hjb (by omega), ix_nI (show jb < 2 ^ 31 by omega), ↓reduceIte, and_self, and_true, true_and, Bool.false_eq_true, reduceCtorEq, eq_self, false_and, and_false]
          rw [eQ]
          exact W.iret (v := 0) hx hb hr (fun t ht hW => ⟨⟨0, (), rfl, (by rw [hsp]), wHS_t ht (by rw [hsp]; exact hH)⟩, hS.F ht⟩) hS.2.2 dX5_least_113
        · skip
          rw [bI_s c2] at hl
          refine lv_iload_n hx hb dX5_least_20 rfl (lv_at hl 1 rfl) ?_
          refine lv_if_lt (tgt := 91) hx hb dX5_least_21 (by decide) (fun _ => ?_) (fun hq => absurd (show ((-1) : Int32) < 0 by decide) hq)
          refine lv_aload_n hx hb dX5_least_91 rfl (lv_at hl 2 rfl) ?_
          refine lv_iload_n hx hb dX5_least_92 rfl (lv_at hl 0 rfl) ?_
          refine lv_if_lt (tgt := 100) hx hb dX5_least_93 (by decide) (fun hq => absurd ((nI_ltI (a := ((fD (stL y jb) 0 10 10) - 1)) (b := 0) (by omega) (by omega)).mp hq) (Nat.not_lt_zero _)) (fun _ => ?_)
          refine lv_iconst (v := 1) hx hb dX5_least_96 (by decide) ?_
          refine lv_goto (tgt := 101) hx hb dX5_least_97 (by decide) ?_
          refine lv_iconst (v := 2) hx hb dX5_least_101 (by decide) ?_
          refine va_calli (va_runV (As := [.int 1, .int 2]) (rest := []) ⟨hx, hb, hml, hown, hts⟩ (met_X5_no1 l E o g x (uI y 28 0 0) 2) (cwV 2 hts gX5_least_X5_no rfl rfl rfl (by decide +kernel) ⟨Nat.le_of_ble_eq_true rfl, Nat.le_of_ble_eq_true rfl⟩) ⟨fun a U f mk q => ⟨q.1, wPre.calling q.2 a f mk⟩, (va_recv hK (wH_one hH (lv_md (by decide) (by decide)) (cel_md (by omega) (by omega))) (ci := 7) (q0 := 0) rfl rfl), fun U hU hW => ⟨rfl, wPre_at hz hS hH hK U hU hW⟩⟩ rfl rfl hl.1 rfl (lv_room (Nat.le_of_ble_eq_true rfl)) dX5_least_102 ⟨Nat.le_of_ble_eq_true rfl, Nat.le_of_ble_eq_true rfl⟩) hS (fun q _ h => h) (fun q h => h) (fun r u t H locs ht hvm hw hB hz1 hk1 hS => ?_)
          have hB := wHS_h ht hB
          try dsimp only at hw
          obtain rfl := hw
          have hH := hB
          refine lv_if_eq (tgt := 112) hx hb dX5_least_105 (by decide) (fun _ => ?_) (fun hq => absurd (show (0 : Int32) = 0 by decide) hq)
          refine lv_iload_n hx hb dX5_least_112 rfl (lv_at hl 0 rfl) ?_
          have hsp : mp_least y (nI jb) = ((nI ((fD (stL y jb) 0 10 10) - 1)), (uI (uI y 28 0 0) 28 0 0)) := by
            unfold mp_least
            first | (simp only [c1, c2, inB_nI hjb (by omega), ix_nI (show jb < 2 ^ 31 by omega), ↓reduceIte, and_self, and_true, true_and, Bool.false_eq_true, reduceCtorEq, eq_self, false_and, and_false]; done) | (simp [c1, c2, inB_nI hjb (by omega), ix_nI (show jb < 2 ^ 31 by omega), ↓reduceIte, and_self, and_true, true_and, Bool.false_eq_true, reduceCtorEq, eq_self, false_and, and_false]; done) | simp only [c1, c2, inB_nI hjb (by omega), ix_nI (show jb < 2 ^ 31 by omega), ↓reduceIte, and_self, and_true, true_and, Bool.false_eq_true, reduceCtorEq, eq_self, false_and, and_false]
          rw [eQ]
          exact W.iret (v := (nI ((fD (stL y jb) 0 10 10) - 1))) hx hb hr (fun t ht hW => ⟨⟨(nI ((fD (stL y jb) 0 10 10) - 1)), (), rfl, (by rw [hsp]), wHS_t ht (by rw [hsp]; exact hH)⟩, hS.F ht⟩) hS.2.2 dX5_least_113
      | succ k ih =>
        intro n hn q hq hqb H locs ls hl hH hS
        have hlt : n < 10 := by omega
        rw [nI_pred] at hl
        by_cases c3 : q = 0
        · skip
          rw [bI_0 c3] at hl
          refine lv_iload_n hx hb dX5_least_20 rfl (lv_at hl 1 rfl) ?_
          refine lv_if_lt (tgt := 91) hx hb dX5_least_21 (by decide) (fun hq => absurd ((nI_ltI (a := k) (b := 0) (by omega) (by omega)).mp hq) (Nat.not_lt_zero _)) (fun _ => ?_)
          refine lv_aload_n hx hb dX5_least_24 rfl (lv_at hl 2 rfl) ?_
          refine wr_get (T := TX5) (N := 30) (ci := 7) (v := .ref (g 29)) hx hb hts hinX5 hown hK hH (lv_md (by decide) (by decide)) (cel_md (by omega) (by omega)) rfl 20 (by decide) (hts (.fieldLink RX5 65 "SelectoRouteModel" "slots" "[I") (by decide +kernel)) (fun _ h => h) rfl dX5_least_25 ?_
          refine lv_bipush (v := 10) hx hb dX5_least_28 (by decide) ?_
          refine lv_iload_n hx hb dX5_least_30 rfl (lv_at hl 3 rfl) ?_
          refine lv_imul hx hb dX5_least_31 ?_
          refine lv_tope (pk_mul 10 jb) ?_
          refine lv_iload_n hx hb dX5_least_32 rfl (lv_at hl 1 rfl) ?_
          refine lv_iadd hx hb dX5_least_33 ?_
          refine lv_tope (nI_add (10 * jb) k) ?_
          refine wr_iald (v := nI (y.1 7 ((10 * jb) + k))) hx hb hK hH (lv_md (by decide) (by decide)) (cel_md (by decide) (by decide)) 0 rfl (vp_in_nI (n := ((10 * jb) + k)) (N := 40) (by omega) (by decide)) (by rw [(nI_clamp (n := ((10 * jb) + k)) (by omega))]; try rfl) dX5_least_34 ?_
          refine lv_if_le (tgt := 42) hx hb dX5_least_35 (by decide) (fun c4 => ?_) (fun c4 => ?_)
          · have c4 := (nz_le (by have q0 := hm7 ((10 * jb) + k); omega)).mp c4
            refine lv_iconst (v := 0) hx hb dX5_least_42 (by decide) ?_
            refine lv_istore (lv' := [(4, .int 0), (2, .int (-1)), (3, .int (nI k)), (0, .ref (g 10)), (1, .int (nI jb))]) hx hb dX5_least_43 hl (by decide) rfl (fun ls hl => ?_)
            refine lv_iload hx hb dX5_least_45 (lv_at hl 0 rfl) ?_
            refine lv_if_eq (tgt := 83) hx hb dX5_least_47 (by decide) (fun _ => ?_) (fun hq => absurd (show (0 : Int32) = 0 by decide) hq)
            refine lv_iload_n hx hb dX5_least_83 rfl (lv_at hl 1 rfl) ?_
            refine lv_istore_n (lv' := [(2, .int (-1)), (4, .int 0), (3, .int (nI k)), (0, .ref (g 10)), (1, .int (nI jb))]) hx hb dX5_least_84 rfl hl (by decide) rfl (fun ls hl => ?_)
            obtain ⟨v5, ev5⟩ : ∃ y : Int32, y = (nI k) + (-1) := ⟨_, rfl⟩
            refine lv_iinc (v := v5) (lv' := [(3, .int v5), (2, .int (-1)), (4, .int 0), (0, .ref (g 10)), (1, .int (nI jb))]) hx hb dX5_least_85 hl (k := 2) rfl (by rw [ev5]; rfl) (by decide) rfl (fun ls hl => ?_)
            refine lv_goto (tgt := 20) hx hb dX5_least_88 (by decide) ?_
            have e9 : v5 = nI k - 1 := by rw [ev5]; exact (Int32.sub_eq_add_neg (nI k) 1).symm
            rw [e9] at hl
            rw [← bI_0 (q := 0) rfl] at hl
            exact ih (n + 1) (by omega) 0 (by rw [show fD (stL y jb) 0 10 (n + 1) = (stL y jb) (10 - 1 - n) (fD (stL y jb) 0 10 n) from rfl, show 10 - 1 - n = k by omega, ← hq]; unfold stL; try simp only [c3, c4, ↓reduceIte, and_self, and_true, true_and, false_and, and_false]) (by omega) H locs ls (lv_sub hl [1, 0, 3, 4] rfl) hH hS
          · have c4 : ¬ ((y.1 7 ((10 * jb) + k)) = 0) := fun hq => c4 ((nz_le (by have q0 := hm7 ((10 * jb) + k); omega)).mpr hq)
            refine lv_iconst (v := 1) hx hb dX5_least_38 (by decide) ?_
            refine lv_goto (tgt := 43) hx hb dX5_least_39 (by decide) ?_
            refine lv_istore (lv' := [(4, .int 1), (2, .int (-1)), (3, .int (nI k)), (0, .ref (g 10)), (1, .int (nI jb))]) hx hb dX5_least_43 hl (by decide) rfl (fun ls hl => ?_)
            refine lv_iload hx hb dX5_least_45 (lv_at hl 0 rfl) ?_
            refine lv_if_eq (tgt := 83) hx hb dX5_least_47 (by decide) (fun hq => absurd hq (show ¬ (1 : Int32) = 0 by decide)) (fun _ => ?_)
            refine lv_iload_n hx hb dX5_least_50 rfl (lv_at hl 1 rfl) ?_
            refine lv_if_lt (tgt := 79) hx hb dX5_least_51 (by decide) (fun _ => ?_) (fun hq => absurd (show ((-1) : Int32) < 0 by decide) hq)
            refine lv_iload_n hx hb dX5_least_79 rfl (lv_at hl 2 rfl) ?_
            refine lv_goto (tgt := 84) hx hb dX5_least_80 (by decide) ?_
            refine lv_istore_n (lv' := [(2, .int (nI k)), (4, .int 1), (3, .int (nI k)), (0, .ref (g 10)), (1, .int (nI jb))]) hx hb dX5_least_84 rfl hl (by decide) rfl (fun ls hl => ?_)
            obtain ⟨v6, ev6⟩ : ∃ y : Int32, y = (nI k) + (-1) := ⟨_, rfl⟩
            refine lv_iinc (v := v6) (lv' := [(3, .int v6), (2, .int (nI k)), (4, .int 1), (0, .ref (g 10)), (1, .int (nI jb))]) hx hb dX5_least_85 hl (k := 2) rfl (by rw [ev6]; rfl) (by decide) rfl (fun ls hl => ?_)
            refine lv_goto (tgt := 20) hx hb dX5_least_88 (by decide) ?_
            have e9 : v6 = nI k - 1 := by rw [ev6]; exact (Int32.sub_eq_add_neg (nI k) 1).symm
            rw [e9] at hl
            exact ih (n + 1) (by omega) (k + 1) (by rw [show fD (stL y jb) 0 10 (n + 1) = (stL y jb) (10 - 1 - n) (fD (stL y jb) 0 10 n) from rfl, show 10 - 1 - n = k by omega, ← hq]; unfold stL; try simp only [c3, c4, ↓reduceIte, and_self, and_true, true_and, false_and, and_false]) (by omega) H locs ls (lv_sub hl [1, 0, 3, 4] rfl) hH hS
        · skip
          rw [bI_s c3] at hl
          refine lv_iload_n hx hb dX5_least_20 rfl (lv_at hl 1 rfl) ?_
          refine lv_if_lt (tgt := 91) hx hb dX5_least_21 (by decide) (fun hq => absurd ((nI_ltI (a := k) (b := 0) (by omega) (by omega)).mp hq) (Nat.not_lt_zero _)) (fun _ => ?_)
          refine lv_aload_n hx hb dX5_least_24 rfl (lv_at hl 2 rfl) ?_
          refine wr_get (T := TX5) (N := 30) (ci := 7) (v := .ref (g 29)) hx hb hts hinX5 hown hK hH (lv_md (by decide) (by decide)) (cel_md (by omega) (by omega)) rfl 20 (by decide) (hts (.fieldLink RX5 65 "SelectoRouteModel" "slots" "[I") (by decide +kernel)) (fun _ h => h) rfl dX5_least_25 ?_
          refine lv_bipush (v := 10) hx hb dX5_least_28 (by decide) ?_
          refine lv_iload_n hx hb dX5_least_30 rfl (lv_at hl 3 rfl) ?_
          refine lv_imul hx hb dX5_least_31 ?_
          refine lv_tope (pk_mul 10 jb) ?_
          refine lv_iload_n hx hb dX5_least_32 rfl (lv_at hl 1 rfl) ?_
          refine lv_iadd hx hb dX5_least_33 ?_
          refine lv_tope (nI_add (10 * jb) k) ?_
          refine wr_iald (v := nI (y.1 7 ((10 * jb) + k))) hx hb hK hH (lv_md (by decide) (by decide)) (cel_md (by decide) (by decide)) 0 rfl (vp_in_nI (n := ((10 * jb) + k)) (N := 40) (by omega) (by decide)) (by rw [(nI_clamp (n := ((10 * jb) + k)) (by omega))]; try rfl) dX5_least_34 ?_
          refine lv_if_le (tgt := 42) hx hb dX5_least_35 (by decide) (fun c7 => ?_) (fun c7 => ?_)
          · have c7 := (nz_le (by have q0 := hm7 ((10 * jb) + k); omega)).mp c7
            refine lv_iconst (v := 0) hx hb dX5_least_42 (by decide) ?_
            refine lv_istore (lv' := [(4, .int 0), (2, .int (nI (q - 1))), (3, .int (nI k)), (0, .ref (g 10)), (1, .int (nI jb))]) hx hb dX5_least_43 hl (by decide) rfl (fun ls hl => ?_)
            refine lv_iload hx hb dX5_least_45 (lv_at hl 0 rfl) ?_
            refine lv_if_eq (tgt := 83) hx hb dX5_least_47 (by decide) (fun _ => ?_) (fun hq => absurd (show (0 : Int32) = 0 by decide) hq)
            refine lv_iload_n hx hb dX5_least_83 rfl (lv_at hl 1 rfl) ?_
            refine lv_istore_n (lv' := [(2, .int (nI (q - 1))), (4, .int 0), (3, .int (nI k)), (0, .ref (g 10)), (1, .int (nI jb))]) hx hb dX5_least_84 rfl hl (by decide) rfl (fun ls hl => ?_)
            obtain ⟨v8, ev8⟩ : ∃ y : Int32, y = (nI k) + (-1) := ⟨_, rfl⟩
            refine lv_iinc (v := v8) (lv' := [(3, .int v8), (2, .int (nI (q - 1))), (4, .int 0), (0, .ref (g 10)), (1, .int (nI jb))]) hx hb dX5_least_85 hl (k := 2) rfl (by rw [ev8]; rfl) (by decide) rfl (fun ls hl => ?_)
            refine lv_goto (tgt := 20) hx hb dX5_least_88 (by decide) ?_
            have e9 : v8 = nI k - 1 := by rw [ev8]; exact (Int32.sub_eq_add_neg (nI k) 1).symm
            rw [e9] at hl
            rw [← bI_s c3] at hl
            exact ih (n + 1) (by omega) q (by rw [show fD (stL y jb) 0 10 (n + 1) = (stL y jb) (10 - 1 - n) (fD (stL y jb) 0 10 n) from rfl, show 10 - 1 - n = k by omega, ← hq]; unfold stL; try simp only [c3, c7, ↓reduceIte, and_self, and_true, true_and, false_and, and_false]) (by omega) H locs ls (lv_sub hl [1, 0, 3, 4] rfl) hH hS
          · have c7 : ¬ ((y.1 7 ((10 * jb) + k)) = 0) := fun hq => c7 ((nz_le (by have q0 := hm7 ((10 * jb) + k); omega)).mpr hq)
            refine lv_iconst (v := 1) hx hb dX5_least_38 (by decide) ?_
            refine lv_goto (tgt := 43) hx hb dX5_least_39 (by decide) ?_
            refine lv_istore (lv' := [(4, .int 1), (2, .int (nI (q - 1))), (3, .int (nI k)), (0, .ref (g 10)), (1, .int (nI jb))]) hx hb dX5_least_43 hl (by decide) rfl (fun ls hl => ?_)
            refine lv_iload hx hb dX5_least_45 (lv_at hl 0 rfl) ?_
            refine lv_if_eq (tgt := 83) hx hb dX5_least_47 (by decide) (fun hq => absurd hq (show ¬ (1 : Int32) = 0 by decide)) (fun _ => ?_)
            refine lv_iload_n hx hb dX5_least_50 rfl (lv_at hl 1 rfl) ?_
            refine lv_if_lt (tgt := 79) hx hb dX5_least_51 (by decide) (fun hq => absurd ((nI_ltI (a := (q - 1)) (b := 0) (by omega) (by omega)).mp hq) (Nat.not_lt_zero _)) (fun _ => ?_)
            refine lv_aload_n hx hb dX5_least_54 rfl (lv_at hl 3 rfl) ?_
            refine wr_get (T := TX5) (N := 30) (ci := 7) (v := .ref (g 30)) hx hb hts hinX5 hown hK hH (lv_md (by decide) (by decide)) (cel_md (by omega) (by omega)) rfl 21 (by decide) (hts (.fieldLink RX5 68 "SelectoRouteModel" "wheel" "[I") (by decide +kernel)) (fun _ h => h) rfl dX5_least_55 ?_
            refine lv_bipush (v := 10) hx hb dX5_least_58 (by decide) ?_
            refine lv_iload_n hx hb dX5_least_60 rfl (lv_at hl 4 rfl) ?_
            refine lv_imul hx hb dX5_least_61 ?_
            refine lv_tope (pk_mul 10 jb) ?_
            refine lv_iload_n hx hb dX5_least_62 rfl (lv_at hl 2 rfl) ?_
            refine lv_iadd hx hb dX5_least_63 ?_
            refine lv_tope (nI_add (10 * jb) k) ?_
            refine wr_iald (v := (y.2 14 ((10 * jb) + k))) hx hb hK hH (lv_md (by decide) (by decide)) (cel_md (by decide) (by decide)) 0 rfl (vp_in_nI (n := ((10 * jb) + k)) (N := 40) (by omega) (by decide)) (by rw [(nI_clamp (n := ((10 * jb) + k)) (by omega))]; try rfl) dX5_least_64 ?_
            refine lv_aload_n hx hb dX5_least_65 rfl (lv_at hl 3 rfl) ?_
            refine wr_get (T := TX5) (N := 30) (ci := 7) (v := .ref (g 30)) hx hb hts hinX5 hown hK hH (lv_md (by decide) (by decide)) (cel_md (by omega) (by omega)) rfl 21 (by decide) (hts (.fieldLink RX5 68 "SelectoRouteModel" "wheel" "[I") (by decide +kernel)) (fun _ h => h) rfl dX5_least_66 ?_
            refine lv_bipush (v := 10) hx hb dX5_least_69 (by decide) ?_
            refine lv_iload_n hx hb dX5_least_71 rfl (lv_at hl 4 rfl) ?_
            refine lv_imul hx hb dX5_least_72 ?_
            refine lv_tope (pk_mul 10 jb) ?_
            refine lv_iload_n hx hb dX5_least_73 rfl (lv_at hl 1 rfl) ?_
            refine lv_iadd hx hb dX5_least_74 ?_
            refine lv_tope (nI_add (10 * jb) (q - 1)) ?_
            refine wr_iald (v := (y.2 14 ((10 * jb) + (q - 1)))) hx hb hK hH (lv_md (by decide) (by decide)) (cel_md (by decide) (by decide)) 0 rfl (vp_in_nI (n := ((10 * jb) + (q - 1))) (N := 40) (by omega) (by decide)) (by rw [(nI_clamp (n := ((10 * jb) + (q - 1))) (by omega))]; try rfl) dX5_least_75 ?_
            refine lv_icmp_gt (tgt := 83) hx hb dX5_least_76 (by decide) (fun c9 => ?_) (fun c9 => ?_)
            · skip
              refine lv_iload_n hx hb dX5_least_83 rfl (lv_at hl 1 rfl) ?_
              refine lv_istore_n (lv' := [(2, .int (nI (q - 1))), (4, .int 1), (3, .int (nI k)), (0, .ref (g 10)), (1, .int (nI jb))]) hx hb dX5_least_84 rfl hl (by decide) rfl (fun ls hl => ?_)
              obtain ⟨v10, ev10⟩ : ∃ y : Int32, y = (nI k) + (-1) := ⟨_, rfl⟩
              refine lv_iinc (v := v10) (lv' := [(3, .int v10), (2, .int (nI (q - 1))), (4, .int 1), (0, .ref (g 10)), (1, .int (nI jb))]) hx hb dX5_least_85 hl (k := 2) rfl (by rw [ev10]; rfl) (by decide) rfl (fun ls hl => ?_)
              refine lv_goto (tgt := 20) hx hb dX5_least_88 (by decide) ?_
              have e9 : v10 = nI k - 1 := by rw [ev10]; exact (Int32.sub_eq_add_neg (nI k) 1).symm
              rw [e9] at hl
              rw [← bI_s c3] at hl
              exact ih (n + 1) (by omega) q (by rw [show fD (stL y jb) 0 10 (n + 1) = (stL y jb) (10 - 1 - n) (fD (stL y jb) 0 10 n) from rfl, show 10 - 1 - n = k by omega, ← hq]; unfold stL; try simp only [c3, c7, c9, ↓reduceIte, and_self, and_true, true_and, false_and, and_false]) (by omega) H locs ls (lv_sub hl [1, 0, 3, 4] rfl) hH hS
            · skip
              refine lv_iload_n hx hb dX5_least_79 rfl (lv_at hl 2 rfl) ?_
              refine lv_goto (tgt := 84) hx hb dX5_least_80 (by decide) ?_
              refine lv_istore_n (lv' := [(2, .int (nI k)), (4, .int 1), (3, .int (nI k)), (0, .ref (g 10)), (1, .int (nI jb))]) hx hb dX5_least_84 rfl hl (by decide) rfl (fun ls hl => ?_)
              obtain ⟨v11, ev11⟩ : ∃ y : Int32, y = (nI k) + (-1) := ⟨_, rfl⟩
              refine lv_iinc (v := v11) (lv' := [(3, .int v11), (2, .int (nI k)), (4, .int 1), (0, .ref (g 10)), (1, .int (nI jb))]) hx hb dX5_least_85 hl (k := 2) rfl (by rw [ev11]; rfl) (by decide) rfl (fun ls hl => ?_)
              refine lv_goto (tgt := 20) hx hb dX5_least_88 (by decide) ?_
              have e9 : v11 = nI k - 1 := by rw [ev11]; exact (Int32.sub_eq_add_neg (nI k) 1).symm
              rw [e9] at hl
              exact ih (n + 1) (by omega) (k + 1) (by rw [show fD (stL y jb) 0 10 (n + 1) = (stL y jb) (10 - 1 - n) (fD (stL y jb) 0 10 n) from rfl, show 10 - 1 - n = k by omega, ← hq]; unfold stL; try simp only [c3, c7, c9, ↓reduceIte, and_self, and_true, true_and, false_and, and_false]) (by omega) H locs ls (lv_sub hl [1, 0, 3, 4] rfl) hH hS
    exact loop 10 0 (by omega) 0 rfl (by omega) H locs ls (lv_sub hl [1, 0, 2, 3] rfl) hH hS
  · have c1 : inB b (y.1 1 0) = false := c1
    refine lv_iconst (v := 1) hx hb dX5_least_6 (by decide) ?_
    refine va_calli (va_runV (As := [.int 0, .int 1]) (rest := []) ⟨hx, hb, hml, hown, hts⟩ (met_X5_no0 l E o g x y 1) (cwV 2 hts gX5_least_X5_no rfl rfl rfl (by decide +kernel) ⟨Nat.le_of_ble_eq_true rfl, Nat.le_of_ble_eq_true rfl⟩) ⟨fun a U f mk q => ⟨q.1, wPre.calling q.2 a f mk⟩, (va_recv hK (wH_one hH (lv_md (by decide) (by decide)) (cel_md (by omega) (by omega))) (ci := 7) (q0 := 0) rfl rfl), fun U hU hW => ⟨rfl, wPre_at hz hS hH hK U hU hW⟩⟩ rfl rfl hl.1 rfl (lv_room (Nat.le_of_ble_eq_true rfl)) dX5_least_7 ⟨Nat.le_of_ble_eq_true rfl, Nat.le_of_ble_eq_true rfl⟩) hS (fun q _ h => h) (fun q h => h) (fun r u t H locs ht hvm hw hB hz1 hk1 hS => ?_)
    have hB := wHS_h ht hB
    try dsimp only at hw
    obtain rfl := hw
    have hH := hB
    refine lv_if_eq (tgt := 15) hx hb dX5_least_10 (by decide) (fun hq => absurd hq (show ¬ (1 : Int32) = 0 by decide)) (fun _ => ?_)
    refine lv_iconst (v := 0) hx hb dX5_least_13 (by decide) ?_
    have hsp : mp_least y b = (0, (uI y 28 0 1)) := by
      unfold mp_least
      first | (simp only [(Bool.eq_false_iff.mp c1), ↓reduceIte, and_self, and_true, true_and, Bool.false_eq_true, reduceCtorEq, eq_self, false_and, and_false]; done) | (simp [(Bool.eq_false_iff.mp c1), ↓reduceIte, and_self, and_true, true_and, Bool.false_eq_true, reduceCtorEq, eq_self, false_and, and_false]; done) | simp only [(Bool.eq_false_iff.mp c1), ↓reduceIte, and_self, and_true, true_and, Bool.false_eq_true, reduceCtorEq, eq_self, false_and, and_false]
    rw [eQ]
    exact W.iret (v := 0) hx hb hr (fun t ht hW => ⟨⟨0, (), rfl, (by rw [hsp]), wHS_t ht (by rw [hsp]; exact hH)⟩, hS.F ht⟩) hS.2.2 dX5_least_14
