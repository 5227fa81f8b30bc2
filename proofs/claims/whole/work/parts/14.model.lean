/-! ===== the model: strongest, weakest, wornShare, checksum, play, pass ===== -/
theorem fU_le (f : Nat → Nat → Nat) (h : ∀ i q, f i q = q ∨ f i q = i + 1) : ∀ n, fU f 0 n ≤ n
  | 0 => Nat.le_refl _
  | n + 1 => by
    have q1 := fU_le f h n
    show f n (fU f 0 n) ≤ n + 1
    rcases h n (fU f 0 n) with e | e <;> rw [e] <;> omega
theorem stS_or (y : St) (j i q : Nat) : stS y j i q = q ∨ stS y j i q = i + 1 := by
  unfold stS
  repeat' split
  all_goals first | exact Or.inl rfl | exact Or.inr rfl
theorem stW_or (y : St) (j i q : Nat) : stW y j i q = q ∨ stW y j i q = i + 1 := by
  unfold stW
  repeat' split
  all_goals first | exact Or.inl rfl | exact Or.inr rfl
def mp_strongest (y : St) (j : Nat) : Int32 × St := ((bI (fU (stS y j) 0 (y.1 0 0))), y)
set_option maxHeartbeats 4000000 in
set_option maxRecDepth 100000 in
theorem met_X5_strongest (l : Launch) (E : wE) (o : wO) (g : Nat → Nat) (x y : St) (j : Nat) (hI : MI y) (hj : j < 4) : Met l yX5_strongest wsX5_strongest ({ frames := 3, cells := 0, slots := 0, locals := 300 } : Room) (va_Pc [.ref (g 10), .int (nI j)] (wPre E o g x y)) (va_Qi (fun (r : Int32) (_ : Unit) => r = (mp_strongest y j).1) (fun (_ : Unit) t => wHS E o g x (mp_strongest y j).2 t.heap) (wA E)) 0 0 (wA E) := by
  refine Met.ofW (cc := cX5_strongest) (maxL := 5) (ret := (some .int)) (by decide) rfl ?_
  intro p e s m args below meth c s₁ B hml hv
  obtain ⟨rfl, hz, hH, hK⟩ := hv
  have hx := B.exec
  have hb := B.bytes
  have hr := B.returns
  have hts := atoms_spec (ws := wsX5_strongest) B.pre
  have hown : s.vm.findClass RX5 = some m.cls := findClass_of_methodNamed B.named
  have hlocks := B.notSynchronized
  have hS : va_S (wA E) s.heap s.heap [] := va_S.rf
  have hinX5 : ∀ w ∈ wsX50, w ∈ wsX5_strongest := fun w h => List.mem_cons_of_mem _ (List.mem_append_left _ (List.mem_append_right _ h))
  have hl := lv_entry ([.ref (g 10), .int (nI j)]) (n := 5) (Nat.le_of_ble_eq_true rfl)
  rw [lg_entry_eq]
  generalize (lg_sl ([.ref (g 10), .int (nI j)]) ++ List.replicate (5 - (lg_sl ([.ref (g 10), .int (nI j)])).length) Slot.unset).toArray = ls at hl ⊢
  have hl : lv_has ls 5 [(0, .ref (g 10)), (1, .int (nI j))] := hl
  obtain ⟨H, eH⟩ : ∃ z, z = s.heap := ⟨_, rfl⟩
  have hH : wHS E o g x y H := by rw [eH]; exact hH
  have hS : va_S (wA E) s.heap H [] := by rw [eH]; exact hS
  refine W.heapTo eH ?_
  obtain ⟨hm0, hm1, hm7, hm8, hm5, hm6, hm9, hm12, hm11⟩ := id hI
  refine W.nameQ (fun Q eQ => ?_)
  refine lv_iconst (v := (-1)) hx hb dX5_strongest_0 (by decide) ?_
  refine lv_istore_n (lv' := [(2, .int (-1)), (0, .ref (g 10)), (1, .int (nI j))]) hx hb dX5_strongest_1 rfl hl (by decide) rfl (fun ls hl => ?_)
  refine lv_iconst (v := 0) hx hb dX5_strongest_2 (by decide) ?_
  refine lv_istore_n (lv' := [(3, .int 0), (2, .int (-1)), (0, .ref (g 10)), (1, .int (nI j))]) hx hb dX5_strongest_3 rfl hl (by decide) rfl (fun ls hl => ?_)
  have loop : ∀ (k n : Nat), n + k = (y.1 0 0) → ∀ (q : Nat), q = fU (stS y j) 0 n → q ≤ n → ∀ (H : Heap) (locs : List Loc) (ls : Array Slot), lv_has ls 5 [(2, .int (bI q)), (3, .int (nI n)), (0, .ref (g 10)), (1, .int (nI j))] → wHS E o g x y H → va_S (wA E) s.heap H locs → W p l e ({ frames := 3, cells := 0, slots := 0, locals := 300 } : Room) s m #[.ref (g 10), .int (nI j)] below meth c H locs 0 0 Q (F0 m 4 ls []) := by
    intro k
    induction k with
    | zero =>
      intro n hn q hq hqb H locs ls hl hH hS
      obtain rfl : n = (y.1 0 0) := by omega
      subst hq
      have hl : lv_has ls 5 [(2, .int (bI (fU (stS y j) 0 (y.1 0 0)))), (3, .int (nI (y.1 0 0))), (0, .ref (g 10)), (1, .int (nI j))] := hl
      refine lv_iload_n hx hb dX5_strongest_4 rfl (lv_at hl 1 rfl) ?_
      refine lv_aload_n hx hb dX5_strongest_5 rfl (lv_at hl 2 rfl) ?_
      refine wr_get (T := TX5) (N := 30) (ci := 7) (v := .int (nI (y.1 0 0))) hx hb hts hinX5 hown hK hH (lv_md (by decide) (by decide)) (cel_md (by omega) (by omega)) rfl 5 (by decide) (hts (.fieldLink RX5 90 "SelectoRouteModel" "discs" "I") (by decide +kernel)) (fun _ h => h) rfl dX5_strongest_6 ?_
      refine lv_icmp_ge (tgt := 72) hx hb dX5_strongest_9 (by decide) (fun _ => ?_) (fun hq => absurd ((nI_leI (a := (y.1 0 0)) (b := (y.1 0 0)) (by omega) (by omega)).mpr (Nat.le_refl _)) hq)
      refine lv_iload_n hx hb dX5_strongest_72 rfl (lv_at hl 0 rfl) ?_
      have hsp : mp_strongest y j = ((bI (fU (stS y j) 0 (y.1 0 0))), y) := by
        unfold mp_strongest
        first | (simp only [↓reduceIte, and_self, and_true, true_and, Bool.false_eq_true, reduceCtorEq, eq_self, false_and, and_false]; done) | (simp [↓reduceIte, and_self, and_true, true_and, Bool.false_eq_true, reduceCtorEq, eq_self, false_and, and_false]; done) | simp only [↓reduceIte, and_self, and_true, true_and, Bool.false_eq_true, reduceCtorEq, eq_self, false_and, and_false]
      rw [eQ]
      exact W.iret (v := (bI (fU (stS y j) 0 (y.1 0 0)))) hx hb hr (fun t ht hW => ⟨⟨(bI (fU (stS y j) 0 (y.1 0 0))), (), rfl, (by rw [hsp]), wHS_t ht (by rw [hsp]; exact hH)⟩, hS.F ht⟩) hS.2.2 dX5_strongest_73
    | succ k ih =>
      intro n hn q hq hqb H locs ls hl hH hS
      have hlt : n < (y.1 0 0) := by omega
      by_cases c1 : q = 0
      · skip
        rw [bI_0 c1] at hl
        refine lv_iload_n hx hb dX5_strongest_4 rfl (lv_at hl 1 rfl) ?_
        refine lv_aload_n hx hb dX5_strongest_5 rfl (lv_at hl 2 rfl) ?_
        refine wr_get (T := TX5) (N := 30) (ci := 7) (v := .int (nI (y.1 0 0))) hx hb hts hinX5 hown hK hH (lv_md (by decide) (by decide)) (cel_md (by omega) (by omega)) rfl 5 (by decide) (hts (.fieldLink RX5 90 "SelectoRouteModel" "discs" "I") (by decide +kernel)) (fun _ h => h) rfl dX5_strongest_6 ?_
        refine lv_icmp_ge (tgt := 72) hx hb dX5_strongest_9 (by decide) (fun hq => absurd ((nI_leI (a := (y.1 0 0)) (b := n) (by omega) (by omega)).mp hq) (Nat.not_le.mpr hlt)) (fun _ => ?_)
        refine lv_aload_n hx hb dX5_strongest_12 rfl (lv_at hl 2 rfl) ?_
        refine lv_iload_n hx hb dX5_strongest_13 rfl (lv_at hl 1 rfl) ?_
        refine va_calli (va_runV (As := [.int (nI n)]) (rest := []) ⟨hx, hb, hml, hown, hts⟩ (met_X5_isInVan l E o g x y n (by omega) (show (y.1 8 n) < 42 by have q0 := hm8 n; omega)) (cwV 1 hts gX5_strongest_X5_isInVan rfl rfl rfl (by decide +kernel) ⟨Nat.le_of_ble_eq_true rfl, Nat.le_of_ble_eq_true rfl⟩) ⟨fun a U f mk q => ⟨q.1, wPre.calling q.2 a f mk⟩, (va_recv hK (wH_one hH (lv_md (by decide) (by decide)) (cel_md (by omega) (by omega))) (ci := 7) (q0 := 0) rfl rfl), fun U hU hW => ⟨rfl, wPre_at hz hS hH hK U hU hW⟩⟩ rfl rfl hl.1 rfl (lv_room (Nat.le_of_ble_eq_true rfl)) dX5_strongest_14 ⟨Nat.le_of_ble_eq_true rfl, Nat.le_of_ble_eq_true rfl⟩) hS (fun q _ h => h) (fun q h => h) (fun r u t H locs ht hvm hw hB hz1 hk1 hS => ?_)
        have hB := wHS_h ht hB
        try dsimp only at hw
        have hH := hB
        rcases hw with ⟨rfl, c2⟩ | ⟨rfl, c2⟩
        · have c2 : (y.1 8 n) = 1 := c2
          refine lv_if_eq (tgt := 33) hx hb dX5_strongest_17 (by decide) (fun hq => absurd hq (show ¬ (1 : Int32) = 0 by decide)) (fun _ => ?_)
          refine lv_aload_n hx hb dX5_strongest_20 rfl (lv_at hl 2 rfl) ?_
          refine wr_get (T := TX5) (N := 30) (ci := 7) (v := .ref (g 32)) hx hb hts hinX5 hown hK hH (lv_md (by decide) (by decide)) (cel_md (by omega) (by omega)) rfl 23 (by decide) (hts (.fieldLink RX5 74 "SelectoRouteModel" "used" "[Z") (by decide +kernel)) (fun _ h => h) rfl dX5_strongest_21 ?_
          refine lv_iload_n hx hb dX5_strongest_24 rfl (lv_at hl 1 rfl) ?_
          refine wr_zald (v := (y.2 26 n)) hx hb hK hH (lv_md (by decide) (by decide)) (cel_md (by decide) (by decide)) 1 rfl (vp_in_nI (n := n) (N := 30) (by omega) (by decide)) (by rw [(nI_clamp (n := n) (by omega))]; try rfl) dX5_strongest_25 ?_
          refine lv_if_ne (tgt := 33) hx hb dX5_strongest_26 (by decide) (fun c3 => ?_) (fun c3 => ?_)
          · skip
            refine lv_iconst (v := 0) hx hb dX5_strongest_33 (by decide) ?_
            refine lv_istore (lv' := [(4, .int 0), (2, .int (-1)), (3, .int (nI n)), (0, .ref (g 10)), (1, .int (nI j))]) hx hb dX5_strongest_34 hl (by decide) rfl (fun ls hl => ?_)
            refine lv_iload hx hb dX5_strongest_36 (lv_at hl 0 rfl) ?_
            refine lv_if_eq (tgt := 64) hx hb dX5_strongest_38 (by decide) (fun _ => ?_) (fun hq => absurd (show (0 : Int32) = 0 by decide) hq)
            refine lv_iload_n hx hb dX5_strongest_64 rfl (lv_at hl 1 rfl) ?_
            refine lv_istore_n (lv' := [(2, .int (-1)), (4, .int 0), (3, .int (nI n)), (0, .ref (g 10)), (1, .int (nI j))]) hx hb dX5_strongest_65 rfl hl (by decide) rfl (fun ls hl => ?_)
            obtain ⟨v4, ev4⟩ : ∃ y : Int32, y = (nI n) + 1 := ⟨_, rfl⟩
            refine lv_iinc (v := v4) (lv' := [(3, .int v4), (2, .int (-1)), (4, .int 0), (0, .ref (g 10)), (1, .int (nI j))]) hx hb dX5_strongest_66 hl (k := 2) rfl (by rw [ev4]; rfl) (by decide) rfl (fun ls hl => ?_)
            refine lv_goto (tgt := 4) hx hb dX5_strongest_69 (by decide) ?_
            have e9 : v4 = nI (n + 1) := by rw [ev4]; exact nI_1 n
            rw [e9] at hl
            rw [← bI_0 (q := 0) rfl] at hl
            exact ih (n + 1) (by omega) 0 (by rw [show fU (stS y j) 0 (n + 1) = (stS y j) n (fU (stS y j) 0 n) from rfl, ← hq]; unfold stS; try simp only [c1, c2, c3, ↓reduceIte, and_self, and_true, true_and, false_and, and_false]) (by omega) H locs ls (lv_sub hl [1, 0, 3, 4] rfl) hH hS
          · skip
            refine lv_iconst (v := 1) hx hb dX5_strongest_29 (by decide) ?_
            refine lv_goto (tgt := 34) hx hb dX5_strongest_30 (by decide) ?_
            refine lv_istore (lv' := [(4, .int 1), (2, .int (-1)), (3, .int (nI n)), (0, .ref (g 10)), (1, .int (nI j))]) hx hb dX5_strongest_34 hl (by decide) rfl (fun ls hl => ?_)
            refine lv_iload hx hb dX5_strongest_36 (lv_at hl 0 rfl) ?_
            refine lv_if_eq (tgt := 64) hx hb dX5_strongest_38 (by decide) (fun hq => absurd hq (show ¬ (1 : Int32) = 0 by decide)) (fun _ => ?_)
            refine lv_iload_n hx hb dX5_strongest_41 rfl (lv_at hl 1 rfl) ?_
            refine lv_if_lt (tgt := 60) hx hb dX5_strongest_42 (by decide) (fun _ => ?_) (fun hq => absurd (show ((-1) : Int32) < 0 by decide) hq)
            refine lv_iload_n hx hb dX5_strongest_60 rfl (lv_at hl 2 rfl) ?_
            refine lv_goto (tgt := 65) hx hb dX5_strongest_61 (by decide) ?_
            refine lv_istore_n (lv' := [(2, .int (nI n)), (4, .int 1), (3, .int (nI n)), (0, .ref (g 10)), (1, .int (nI j))]) hx hb dX5_strongest_65 rfl hl (by decide) rfl (fun ls hl => ?_)
            obtain ⟨v5, ev5⟩ : ∃ y : Int32, y = (nI n) + 1 := ⟨_, rfl⟩
            refine lv_iinc (v := v5) (lv' := [(3, .int v5), (2, .int (nI n)), (4, .int 1), (0, .ref (g 10)), (1, .int (nI j))]) hx hb dX5_strongest_66 hl (k := 2) rfl (by rw [ev5]; rfl) (by decide) rfl (fun ls hl => ?_)
            refine lv_goto (tgt := 4) hx hb dX5_strongest_69 (by decide) ?_
            have e9 : v5 = nI (n + 1) := by rw [ev5]; exact nI_1 n
            rw [e9] at hl
            exact ih (n + 1) (by omega) (n + 1) (by rw [show fU (stS y j) 0 (n + 1) = (stS y j) n (fU (stS y j) 0 n) from rfl, ← hq]; unfold stS; try simp only [c1, c2, c3, ↓reduceIte, and_self, and_true, true_and, false_and, and_false]) (by omega) H locs ls (lv_sub hl [1, 0, 3, 4] rfl) hH hS
        · have c2 : ¬ ((y.1 8 n) = 1) := c2
          refine lv_if_eq (tgt := 33) hx hb dX5_strongest_17 (by decide) (fun _ => ?_) (fun hq => absurd (show (0 : Int32) = 0 by decide) hq)
          refine lv_iconst (v := 0) hx hb dX5_strongest_33 (by decide) ?_
          refine lv_istore (lv' := [(4, .int 0), (2, .int (-1)), (3, .int (nI n)), (0, .ref (g 10)), (1, .int (nI j))]) hx hb dX5_strongest_34 hl (by decide) rfl (fun ls hl => ?_)
          refine lv_iload hx hb dX5_strongest_36 (lv_at hl 0 rfl) ?_
          refine lv_if_eq (tgt := 64) hx hb dX5_strongest_38 (by decide) (fun _ => ?_) (fun hq => absurd (show (0 : Int32) = 0 by decide) hq)
          refine lv_iload_n hx hb dX5_strongest_64 rfl (lv_at hl 1 rfl) ?_
          refine lv_istore_n (lv' := [(2, .int (-1)), (4, .int 0), (3, .int (nI n)), (0, .ref (g 10)), (1, .int (nI j))]) hx hb dX5_strongest_65 rfl hl (by decide) rfl (fun ls hl => ?_)
          obtain ⟨v6, ev6⟩ : ∃ y : Int32, y = (nI n) + 1 := ⟨_, rfl⟩
          refine lv_iinc (v := v6) (lv' := [(3, .int v6), (2, .int (-1)), (4, .int 0), (0, .ref (g 10)), (1, .int (nI j))]) hx hb dX5_strongest_66 hl (k := 2) rfl (by rw [ev6]; rfl) (by decide) rfl (fun ls hl => ?_)
          refine lv_goto (tgt := 4) hx hb dX5_strongest_69 (by decide) ?_
          have e9 : v6 = nI (n + 1) := by rw [ev6]; exact nI_1 n
          rw [e9] at hl
          rw [← bI_0 (q := 0) rfl] at hl
          exact ih (n + 1) (by omega) 0 (by rw [show fU (stS y j) 0 (n + 1) = (stS y j) n (fU (stS y j) 0 n) from rfl, ← hq]; unfold stS; try simp only [c1, c2, ↓reduceIte, and_self, and_true, true_and, false_and, and_false]) (by omega) H locs ls (lv_sub hl [1, 0, 3, 4] rfl) hH hS
      · skip
        rw [bI_s c1] at hl
        refine lv_iload_n hx hb dX5_strongest_4 rfl (lv_at hl 1 rfl) ?_
        refine lv_aload_n hx hb dX5_strongest_5 rfl (lv_at hl 2 rfl) ?_
        refine wr_get (T := TX5) (N := 30) (ci := 7) (v := .int (nI (y.1 0 0))) hx hb hts hinX5 hown hK hH (lv_md (by decide) (by decide)) (cel_md (by omega) (by omega)) rfl 5 (by decide) (hts (.fieldLink RX5 90 "SelectoRouteModel" "discs" "I") (by decide +kernel)) (fun _ h => h) rfl dX5_strongest_6 ?_
        refine lv_icmp_ge (tgt := 72) hx hb dX5_strongest_9 (by decide) (fun hq => absurd ((nI_leI (a := (y.1 0 0)) (b := n) (by omega) (by omega)).mp hq) (Nat.not_le.mpr hlt)) (fun _ => ?_)
        refine lv_aload_n hx hb dX5_strongest_12 rfl (lv_at hl 2 rfl) ?_
        refine lv_iload_n hx hb dX5_strongest_13 rfl (lv_at hl 1 rfl) ?_
        refine va_calli (va_runV (As := [.int (nI n)]) (rest := []) ⟨hx, hb, hml, hown, hts⟩ (met_X5_isInVan l E o g x y n (by omega) (show (y.1 8 n) < 42 by have q0 := hm8 n; omega)) (cwV 1 hts gX5_strongest_X5_isInVan rfl rfl rfl (by decide +kernel) ⟨Nat.le_of_ble_eq_true rfl, Nat.le_of_ble_eq_true rfl⟩) ⟨fun a U f mk q => ⟨q.1, wPre.calling q.2 a f mk⟩, (va_recv hK (wH_one hH (lv_md (by decide) (by decide)) (cel_md (by omega) (by omega))) (ci := 7) (q0 := 0) rfl rfl), fun U hU hW => ⟨rfl, wPre_at hz hS hH hK U hU hW⟩⟩ rfl rfl hl.1 rfl (lv_room (Nat.le_of_ble_eq_true rfl)) dX5_strongest_14 ⟨Nat.le_of_ble_eq_true rfl, Nat.le_of_ble_eq_true rfl⟩) hS (fun q _ h => h) (fun q h => h) (fun r u t H locs ht hvm hw hB hz1 hk1 hS => ?_)
        have hB := wHS_h ht hB
        try dsimp only at hw
        have hH := hB
        rcases hw with ⟨rfl, c7⟩ | ⟨rfl, c7⟩
        · have c7 : (y.1 8 n) = 1 := c7
          refine lv_if_eq (tgt := 33) hx hb dX5_strongest_17 (by decide) (fun hq => absurd hq (show ¬ (1 : Int32) = 0 by decide)) (fun _ => ?_)
          refine lv_aload_n hx hb dX5_strongest_20 rfl (lv_at hl 2 rfl) ?_
          refine wr_get (T := TX5) (N := 30) (ci := 7) (v := .ref (g 32)) hx hb hts hinX5 hown hK hH (lv_md (by decide) (by decide)) (cel_md (by omega) (by omega)) rfl 23 (by decide) (hts (.fieldLink RX5 74 "SelectoRouteModel" "used" "[Z") (by decide +kernel)) (fun _ h => h) rfl dX5_strongest_21 ?_
          refine lv_iload_n hx hb dX5_strongest_24 rfl (lv_at hl 1 rfl) ?_
          refine wr_zald (v := (y.2 26 n)) hx hb hK hH (lv_md (by decide) (by decide)) (cel_md (by decide) (by decide)) 1 rfl (vp_in_nI (n := n) (N := 30) (by omega) (by decide)) (by rw [(nI_clamp (n := n) (by omega))]; try rfl) dX5_strongest_25 ?_
          refine lv_if_ne (tgt := 33) hx hb dX5_strongest_26 (by decide) (fun c8 => ?_) (fun c8 => ?_)
          · skip
            refine lv_iconst (v := 0) hx hb dX5_strongest_33 (by decide) ?_
            refine lv_istore (lv' := [(4, .int 0), (2, .int (nI (q - 1))), (3, .int (nI n)), (0, .ref (g 10)), (1, .int (nI j))]) hx hb dX5_strongest_34 hl (by decide) rfl (fun ls hl => ?_)
            refine lv_iload hx hb dX5_strongest_36 (lv_at hl 0 rfl) ?_
            refine lv_if_eq (tgt := 64) hx hb dX5_strongest_38 (by decide) (fun _ => ?_) (fun hq => absurd (show (0 : Int32) = 0 by decide) hq)
            refine lv_iload_n hx hb dX5_strongest_64 rfl (lv_at hl 1 rfl) ?_
            refine lv_istore_n (lv' := [(2, .int (nI (q - 1))), (4, .int 0), (3, .int (nI n)), (0, .ref (g 10)), (1, .int (nI j))]) hx hb dX5_strongest_65 rfl hl (by decide) rfl (fun ls hl => ?_)
            obtain ⟨v9, ev9⟩ : ∃ y : Int32, y = (nI n) + 1 := ⟨_, rfl⟩
            refine lv_iinc (v := v9) (lv' := [(3, .int v9), (2, .int (nI (q - 1))), (4, .int 0), (0, .ref (g 10)), (1, .int (nI j))]) hx hb dX5_strongest_66 hl (k := 2) rfl (by rw [ev9]; rfl) (by decide) rfl (fun ls hl => ?_)
            refine lv_goto (tgt := 4) hx hb dX5_strongest_69 (by decide) ?_
            have e9 : v9 = nI (n + 1) := by rw [ev9]; exact nI_1 n
            rw [e9] at hl
            rw [← bI_s c1] at hl
            exact ih (n + 1) (by omega) q (by rw [show fU (stS y j) 0 (n + 1) = (stS y j) n (fU (stS y j) 0 n) from rfl, ← hq]; unfold stS; try simp only [c1, c7, c8, ↓reduceIte, and_self, and_true, true_and, false_and, and_false]) (by omega) H locs ls (lv_sub hl [1, 0, 3, 4] rfl) hH hS
          · skip
            refine lv_iconst (v := 1) hx hb dX5_strongest_29 (by decide) ?_
            refine lv_goto (tgt := 34) hx hb dX5_strongest_30 (by decide) ?_
            refine lv_istore (lv' := [(4, .int 1), (2, .int (nI (q - 1))), (3, .int (nI n)), (0, .ref (g 10)), (1, .int (nI j))]) hx hb dX5_strongest_34 hl (by decide) rfl (fun ls hl => ?_)
            refine lv_iload hx hb dX5_strongest_36 (lv_at hl 0 rfl) ?_
            refine lv_if_eq (tgt := 64) hx hb dX5_strongest_38 (by decide) (fun hq => absurd hq (show ¬ (1 : Int32) = 0 by decide)) (fun _ => ?_)
            refine lv_iload_n hx hb dX5_strongest_41 rfl (lv_at hl 1 rfl) ?_
            refine lv_if_lt (tgt := 60) hx hb dX5_strongest_42 (by decide) (fun hq => absurd ((nI_ltI (a := (q - 1)) (b := 0) (by omega) (by omega)).mp hq) (Nat.not_lt_zero _)) (fun _ => ?_)
            refine lv_aload_n hx hb dX5_strongest_45 rfl (lv_at hl 3 rfl) ?_
            refine lv_iload_n hx hb dX5_strongest_46 rfl (lv_at hl 4 rfl) ?_
            refine lv_iload_n hx hb dX5_strongest_47 rfl (lv_at hl 2 rfl) ?_
            refine va_calli (va_runV (As := [.int (nI j), .int (nI n)]) (rest := []) ⟨hx, hb, hml, hown, hts⟩ (met_X5_pullAt_b l E o g x y j n (by omega) (by omega) (show (y.1 8 n) < 42 by have q0 := hm8 n; omega) (show (y.1 12 n) < 100 by have q0 := hm12 n; omega)) (cwV 2 hts gX5_strongest_X5_pullAt rfl rfl rfl (by decide +kernel) ⟨Nat.le_of_ble_eq_true rfl, Nat.le_of_ble_eq_true rfl⟩) ⟨fun a U f mk q => ⟨q.1, wPre.calling q.2 a f mk⟩, (va_recv hK (wH_one hH (lv_md (by decide) (by decide)) (cel_md (by omega) (by omega))) (ci := 7) (q0 := 0) rfl rfl), fun U hU hW => ⟨rfl, wPre_at hz hS hH hK U hU hW⟩⟩ rfl rfl hl.1 rfl (lv_room (Nat.le_of_ble_eq_true rfl)) dX5_strongest_48 ⟨Nat.le_of_ble_eq_true rfl, Nat.le_of_ble_eq_true rfl⟩) hS (fun q _ h => h) (fun q h => h) (fun r u t H locs ht hvm hw hB hz1 hk1 hS => ?_)
            have hB := wHS_h ht hB
            try dsimp only at hw
            obtain rfl := hw
            have hH := hB
            refine lv_aload_n hx hb dX5_strongest_51 rfl (lv_at hl 3 rfl) ?_
            refine lv_iload_n hx hb dX5_strongest_52 rfl (lv_at hl 4 rfl) ?_
            refine lv_iload_n hx hb dX5_strongest_53 rfl (lv_at hl 1 rfl) ?_
            refine va_calli (va_runV (As := [.int (nI j), .int (nI (q - 1))]) (rest := [.int (pD y n (y.2 5 j) (nI (y.1 9 0)))]) ⟨hx, hb, hml, hown, hts⟩ (met_X5_pullAt_b l E o g x y j (q - 1) (by omega) (by omega) (show (y.1 8 (q - 1)) < 42 by have q0 := hm8 (q - 1); omega) (show (y.1 12 (q - 1)) < 100 by have q0 := hm12 (q - 1); omega)) (cwV 2 hts gX5_strongest_X5_pullAt rfl rfl rfl (by decide +kernel) ⟨Nat.le_of_ble_eq_true rfl, Nat.le_of_ble_eq_true rfl⟩) ⟨fun a U f mk q => ⟨q.1, wPre.calling q.2 a f mk⟩, (va_recv hK (wH_one hH (lv_md (by decide) (by decide)) (cel_md (by omega) (by omega))) (ci := 7) (q0 := 0) rfl rfl), fun U hU hW => ⟨rfl, wPre_at hz hS hH hK U hU hW⟩⟩ rfl rfl hl.1 rfl (lv_room (Nat.le_of_ble_eq_true rfl)) dX5_strongest_54 ⟨Nat.le_of_ble_eq_true rfl, Nat.le_of_ble_eq_true rfl⟩) hS (fun q _ h => h) (fun q h => h) (fun r u t H locs ht hvm hw hB hz1 hk1 hS => ?_)
            have hB := wHS_h ht hB
            try dsimp only at hw
            obtain rfl := hw
            have hH := hB
            refine lv_icmp_le (tgt := 64) hx hb dX5_strongest_57 (by decide) (fun c10 => ?_) (fun c10 => ?_)
            · skip
              refine lv_iload_n hx hb dX5_strongest_64 rfl (lv_at hl 1 rfl) ?_
              refine lv_istore_n (lv' := [(2, .int (nI (q - 1))), (4, .int 1), (3, .int (nI n)), (0, .ref (g 10)), (1, .int (nI j))]) hx hb dX5_strongest_65 rfl hl (by decide) rfl (fun ls hl => ?_)
              obtain ⟨v11, ev11⟩ : ∃ y : Int32, y = (nI n) + 1 := ⟨_, rfl⟩
              refine lv_iinc (v := v11) (lv' := [(3, .int v11), (2, .int (nI (q - 1))), (4, .int 1), (0, .ref (g 10)), (1, .int (nI j))]) hx hb dX5_strongest_66 hl (k := 2) rfl (by rw [ev11]; rfl) (by decide) rfl (fun ls hl => ?_)
              refine lv_goto (tgt := 4) hx hb dX5_strongest_69 (by decide) ?_
              have e9 : v11 = nI (n + 1) := by rw [ev11]; exact nI_1 n
              rw [e9] at hl
              rw [← bI_s c1] at hl
              exact ih (n + 1) (by omega) q (by rw [show fU (stS y j) 0 (n + 1) = (stS y j) n (fU (stS y j) 0 n) from rfl, ← hq]; unfold stS; try simp only [c1, c7, c8, c10, ↓reduceIte, and_self, and_true, true_and, false_and, and_false]) (by omega) H locs ls (lv_sub hl [1, 0, 3, 4] rfl) hH hS
            · skip
              refine lv_iload_n hx hb dX5_strongest_60 rfl (lv_at hl 2 rfl) ?_
              refine lv_goto (tgt := 65) hx hb dX5_strongest_61 (by decide) ?_
              refine lv_istore_n (lv' := [(2, .int (nI n)), (4, .int 1), (3, .int (nI n)), (0, .ref (g 10)), (1, .int (nI j))]) hx hb dX5_strongest_65 rfl hl (by decide) rfl (fun ls hl => ?_)
              obtain ⟨v12, ev12⟩ : ∃ y : Int32, y = (nI n) + 1 := ⟨_, rfl⟩
              refine lv_iinc (v := v12) (lv' := [(3, .int v12), (2, .int (nI n)), (4, .int 1), (0, .ref (g 10)), (1, .int (nI j))]) hx hb dX5_strongest_66 hl (k := 2) rfl (by rw [ev12]; rfl) (by decide) rfl (fun ls hl => ?_)
              refine lv_goto (tgt := 4) hx hb dX5_strongest_69 (by decide) ?_
              have e9 : v12 = nI (n + 1) := by rw [ev12]; exact nI_1 n
              rw [e9] at hl
              exact ih (n + 1) (by omega) (n + 1) (by rw [show fU (stS y j) 0 (n + 1) = (stS y j) n (fU (stS y j) 0 n) from rfl, ← hq]; unfold stS; try simp only [c1, c7, c8, c10, ↓reduceIte, and_self, and_true, true_and, false_and, and_false]) (by omega) H locs ls (lv_sub hl [1, 0, 3, 4] rfl) hH hS
        · have c7 : ¬ ((y.1 8 n) = 1) := c7
          refine lv_if_eq (tgt := 33) hx hb dX5_strongest_17 (by decide) (fun _ => ?_) (fun hq => absurd (show (0 : Int32) = 0 by decide) hq)
          refine lv_iconst (v := 0) hx hb dX5_strongest_33 (by decide) ?_
          refine lv_istore (lv' := [(4, .int 0), (2, .int (nI (q - 1))), (3, .int (nI n)), (0, .ref (g 10)), (1, .int (nI j))]) hx hb dX5_strongest_34 hl (by decide) rfl (fun ls hl => ?_)
          refine lv_iload hx hb dX5_strongest_36 (lv_at hl 0 rfl) ?_
          refine lv_if_eq (tgt := 64) hx hb dX5_strongest_38 (by decide) (fun _ => ?_) (fun hq => absurd (show (0 : Int32) = 0 by decide) hq)
          refine lv_iload_n hx hb dX5_strongest_64 rfl (lv_at hl 1 rfl) ?_
          refine lv_istore_n (lv' := [(2, .int (nI (q - 1))), (4, .int 0), (3, .int (nI n)), (0, .ref (g 10)), (1, .int (nI j))]) hx hb dX5_strongest_65 rfl hl (by decide) rfl (fun ls hl => ?_)
          obtain ⟨v13, ev13⟩ : ∃ y : Int32, y = (nI n) + 1 := ⟨_, rfl⟩
          refine lv_iinc (v := v13) (lv' := [(3, .int v13), (2, .int (nI (q - 1))), (4, .int 0), (0, .ref (g 10)), (1, .int (nI j))]) hx hb dX5_strongest_66 hl (k := 2) rfl (by rw [ev13]; rfl) (by decide) rfl (fun ls hl => ?_)
          refine lv_goto (tgt := 4) hx hb dX5_strongest_69 (by decide) ?_
          have e9 : v13 = nI (n + 1) := by rw [ev13]; exact nI_1 n
          rw [e9] at hl
          rw [← bI_s c1] at hl
          exact ih (n + 1) (by omega) q (by rw [show fU (stS y j) 0 (n + 1) = (stS y j) n (fU (stS y j) 0 n) from rfl, ← hq]; unfold stS; try simp only [c1, c7, ↓reduceIte, and_self, and_true, true_and, false_and, and_false]) (by omega) H locs ls (lv_sub hl [1, 0, 3, 4] rfl) hH hS
  exact loop (y.1 0 0) 0 (by omega) 0 rfl (by omega) H _ ls (lv_sub hl [1, 0, 2, 3] rfl) hH hS
def mp_weakest (y : St) (j : Nat) : Int32 × St := ((bI (fU (stW y j) 0 10)), y)
set_option maxHeartbeats 4000000 in
set_option maxRecDepth 100000 in
theorem met_X5_weakest (l : Launch) (E : wE) (o : wO) (g : Nat → Nat) (x y : St) (j : Nat) (hI : MI y) (hj : j < 4) : Met l yX5_weakest wsX5_weakest ({ frames := 3, cells := 0, slots := 0, locals := 300 } : Room) (va_Pc [.ref (g 10), .int (nI j)] (wPre E o g x y)) (va_Qi (fun (r : Int32) (_ : Unit) => r = (mp_weakest y j).1) (fun (_ : Unit) t => wHS E o g x (mp_weakest y j).2 t.heap) (wA E)) 0 0 (wA E) := by
  refine Met.ofW (cc := cX5_weakest) (maxL := 4) (ret := (some .int)) (by decide) rfl ?_
  intro p e s m args below meth c s₁ B hml hv
  obtain ⟨rfl, hz, hH, hK⟩ := hv
  have hx := B.exec
  have hb := B.bytes
  have hr := B.returns
  have hts := atoms_spec (ws := wsX5_weakest) B.pre
  have hown : s.vm.findClass RX5 = some m.cls := findClass_of_methodNamed B.named
  have hlocks := B.notSynchronized
  have hS : va_S (wA E) s.heap s.heap [] := va_S.rf
  have hinX5 : ∀ w ∈ wsX50, w ∈ wsX5_weakest := fun w h => List.mem_cons_of_mem _ (List.mem_append_left _ (List.mem_append_right _ h))
  have hl := lv_entry ([.ref (g 10), .int (nI j)]) (n := 4) (Nat.le_of_ble_eq_true rfl)
  rw [lg_entry_eq]
  generalize (lg_sl ([.ref (g 10), .int (nI j)]) ++ List.replicate (4 - (lg_sl ([.ref (g 10), .int (nI j)])).length) Slot.unset).toArray = ls at hl ⊢
  have hl : lv_has ls 4 [(0, .ref (g 10)), (1, .int (nI j))] := hl
  obtain ⟨H, eH⟩ : ∃ z, z = s.heap := ⟨_, rfl⟩
  have hH : wHS E o g x y H := by rw [eH]; exact hH
  have hS : va_S (wA E) s.heap H [] := by rw [eH]; exact hS
  refine W.heapTo eH ?_
  obtain ⟨hm0, hm1, hm7, hm8, hm5, hm6, hm9, hm12, hm11⟩ := id hI
  refine W.nameQ (fun Q eQ => ?_)
  refine lv_iconst (v := (-1)) hx hb dX5_weakest_0 (by decide) ?_
  refine lv_istore_n (lv' := [(2, .int (-1)), (0, .ref (g 10)), (1, .int (nI j))]) hx hb dX5_weakest_1 rfl hl (by decide) rfl (fun ls hl => ?_)
  refine lv_iconst (v := 0) hx hb dX5_weakest_2 (by decide) ?_
  refine lv_istore_n (lv' := [(3, .int 0), (2, .int (-1)), (0, .ref (g 10)), (1, .int (nI j))]) hx hb dX5_weakest_3 rfl hl (by decide) rfl (fun ls hl => ?_)
  have loop : ∀ (k n : Nat), n + k = 10 → ∀ (q : Nat), q = fU (stW y j) 0 n → q ≤ n → ∀ (H : Heap) (locs : List Loc) (ls : Array Slot), lv_has ls 4 [(2, .int (bI q)), (3, .int (nI n)), (0, .ref (g 10)), (1, .int (nI j))] → wHS E o g x y H → va_S (wA E) s.heap H locs → W p l e ({ frames := 3, cells := 0, slots := 0, locals := 300 } : Room) s m #[.ref (g 10), .int (nI j)] below meth c H locs 0 0 Q (F0 m 4 ls []) := by
    intro k
    induction k with
    | zero =>
      intro n hn q hq hqb H locs ls hl hH hS
      obtain rfl : n = 10 := by omega
      subst hq
      have hl : lv_has ls 4 [(2, .int (bI (fU (stW y j) 0 10))), (3, .int (nI 10)), (0, .ref (g 10)), (1, .int (nI j))] := hl
      refine lv_iload_n hx hb dX5_weakest_4 rfl (lv_at hl 1 rfl) ?_
      refine lv_bipush (v := 10) hx hb dX5_weakest_5 (by decide) ?_
      refine lv_icmp_ge (tgt := 58) hx hb dX5_weakest_7 (by decide) (fun _ => ?_) (fun hq => absurd ((nI_leI (a := 10) (b := 10) (by omega) (by omega)).mpr (Nat.le_refl _)) hq)
      refine lv_iload_n hx hb dX5_weakest_58 rfl (lv_at hl 0 rfl) ?_
      have hsp : mp_weakest y j = ((bI (fU (stW y j) 0 10)), y) := by
        unfold mp_weakest
        first | (simp only [↓reduceIte, and_self, and_true, true_and, Bool.false_eq_true, reduceCtorEq, eq_self, false_and, and_false]; done) | (simp [↓reduceIte, and_self, and_true, true_and, Bool.false_eq_true, reduceCtorEq, eq_self, false_and, and_false]; done) | simp only [↓reduceIte, and_self, and_true, true_and, Bool.false_eq_true, reduceCtorEq, eq_self, false_and, and_false]
      rw [eQ]
      exact W.iret (v := (bI (fU (stW y j) 0 10))) hx hb hr (fun t ht hW => ⟨⟨(bI (fU (stW y j) 0 10)), (), rfl, (by rw [hsp]), wHS_t ht (by rw [hsp]; exact hH)⟩, hS.F ht⟩) hS.2.2 dX5_weakest_59
    | succ k ih =>
      intro n hn q hq hqb H locs ls hl hH hS
      have hlt : n < 10 := by omega
      by_cases c1 : q = 0
      · skip
        rw [bI_0 c1] at hl
        refine lv_iload_n hx hb dX5_weakest_4 rfl (lv_at hl 1 rfl) ?_
        refine lv_bipush (v := 10) hx hb dX5_weakest_5 (by decide) ?_
        refine lv_icmp_ge (tgt := 58) hx hb dX5_weakest_7 (by decide) (fun hq => absurd ((nI_leI (a := 10) (b := n) (by omega) (by omega)).mp hq) (Nat.not_le.mpr hlt)) (fun _ => ?_)
        refine lv_aload_n hx hb dX5_weakest_10 rfl (lv_at hl 2 rfl) ?_
        refine wr_get (T := TX5) (N := 30) (ci := 7) (v := .ref (g 33)) hx hb hts hinX5 hown hK hH (lv_md (by decide) (by decide)) (cel_md (by omega) (by omega)) rfl 24 (by decide) (hts (.fieldLink RX5 77 "SelectoRouteModel" "taken" "[Z") (by decide +kernel)) (fun _ h => h) rfl dX5_weakest_11 ?_
        refine lv_iload_n hx hb dX5_weakest_14 rfl (lv_at hl 1 rfl) ?_
        refine wr_zald (v := (y.2 27 n)) hx hb hK hH (lv_md (by decide) (by decide)) (cel_md (by decide) (by decide)) 1 rfl (vp_in_nI (n := n) (N := 10) (by omega) (by decide)) (by rw [(nI_clamp (n := n) (by omega))]; try rfl) dX5_weakest_15 ?_
        refine lv_if_ne (tgt := 50) hx hb dX5_weakest_16 (by decide) (fun c2 => ?_) (fun c2 => ?_)
        · skip
          refine lv_iload_n hx hb dX5_weakest_50 rfl (lv_at hl 0 rfl) ?_
          refine lv_istore_n (lv' := [(2, .int (-1)), (3, .int (nI n)), (0, .ref (g 10)), (1, .int (nI j))]) hx hb dX5_weakest_51 rfl hl (by decide) rfl (fun ls hl => ?_)
          obtain ⟨v3, ev3⟩ : ∃ y : Int32, y = (nI n) + 1 := ⟨_, rfl⟩
          refine lv_iinc (v := v3) (lv' := [(3, .int v3), (2, .int (-1)), (0, .ref (g 10)), (1, .int (nI j))]) hx hb dX5_weakest_52 hl (k := 1) rfl (by rw [ev3]; rfl) (by decide) rfl (fun ls hl => ?_)
          refine lv_goto (tgt := 4) hx hb dX5_weakest_55 (by decide) ?_
          have e9 : v3 = nI (n + 1) := by rw [ev3]; exact nI_1 n
          rw [e9] at hl
          rw [← bI_0 (q := 0) rfl] at hl
          exact ih (n + 1) (by omega) 0 (by rw [show fU (stW y j) 0 (n + 1) = (stW y j) n (fU (stW y j) 0 n) from rfl, ← hq]; unfold stW; try simp only [c1, c2, ↓reduceIte, and_self, and_true, true_and, false_and, and_false]) (by omega) H locs ls (lv_sub hl [1, 0, 2, 3] rfl) hH hS
        · skip
          refine lv_iload_n hx hb dX5_weakest_19 rfl (lv_at hl 0 rfl) ?_
          refine lv_if_lt (tgt := 46) hx hb dX5_weakest_20 (by decide) (fun _ => ?_) (fun hq => absurd (show ((-1) : Int32) < 0 by decide) hq)
          refine lv_iload_n hx hb dX5_weakest_46 rfl (lv_at hl 1 rfl) ?_
          refine lv_goto (tgt := 51) hx hb dX5_weakest_47 (by decide) ?_
          refine lv_istore_n (lv' := [(2, .int (nI n)), (3, .int (nI n)), (0, .ref (g 10)), (1, .int (nI j))]) hx hb dX5_weakest_51 rfl hl (by decide) rfl (fun ls hl => ?_)
          obtain ⟨v4, ev4⟩ : ∃ y : Int32, y = (nI n) + 1 := ⟨_, rfl⟩
          refine lv_iinc (v := v4) (lv' := [(3, .int v4), (2, .int (nI n)), (0, .ref (g 10)), (1, .int (nI j))]) hx hb dX5_weakest_52 hl (k := 1) rfl (by rw [ev4]; rfl) (by decide) rfl (fun ls hl => ?_)
          refine lv_goto (tgt := 4) hx hb dX5_weakest_55 (by decide) ?_
          have e9 : v4 = nI (n + 1) := by rw [ev4]; exact nI_1 n
          rw [e9] at hl
          exact ih (n + 1) (by omega) (n + 1) (by rw [show fU (stW y j) 0 (n + 1) = (stW y j) n (fU (stW y j) 0 n) from rfl, ← hq]; unfold stW; try simp only [c1, c2, ↓reduceIte, and_self, and_true, true_and, false_and, and_false]) (by omega) H locs ls (lv_sub hl [1, 0, 2, 3] rfl) hH hS
      · skip
        rw [bI_s c1] at hl
        refine lv_iload_n hx hb dX5_weakest_4 rfl (lv_at hl 1 rfl) ?_
        refine lv_bipush (v := 10) hx hb dX5_weakest_5 (by decide) ?_
        refine lv_icmp_ge (tgt := 58) hx hb dX5_weakest_7 (by decide) (fun hq => absurd ((nI_leI (a := 10) (b := n) (by omega) (by omega)).mp hq) (Nat.not_le.mpr hlt)) (fun _ => ?_)
        refine lv_aload_n hx hb dX5_weakest_10 rfl (lv_at hl 2 rfl) ?_
        refine wr_get (T := TX5) (N := 30) (ci := 7) (v := .ref (g 33)) hx hb hts hinX5 hown hK hH (lv_md (by decide) (by decide)) (cel_md (by omega) (by omega)) rfl 24 (by decide) (hts (.fieldLink RX5 77 "SelectoRouteModel" "taken" "[Z") (by decide +kernel)) (fun _ h => h) rfl dX5_weakest_11 ?_
        refine lv_iload_n hx hb dX5_weakest_14 rfl (lv_at hl 1 rfl) ?_
        refine wr_zald (v := (y.2 27 n)) hx hb hK hH (lv_md (by decide) (by decide)) (cel_md (by decide) (by decide)) 1 rfl (vp_in_nI (n := n) (N := 10) (by omega) (by decide)) (by rw [(nI_clamp (n := n) (by omega))]; try rfl) dX5_weakest_15 ?_
        refine lv_if_ne (tgt := 50) hx hb dX5_weakest_16 (by decide) (fun c5 => ?_) (fun c5 => ?_)
        · skip
          refine lv_iload_n hx hb dX5_weakest_50 rfl (lv_at hl 0 rfl) ?_
          refine lv_istore_n (lv' := [(2, .int (nI (q - 1))), (3, .int (nI n)), (0, .ref (g 10)), (1, .int (nI j))]) hx hb dX5_weakest_51 rfl hl (by decide) rfl (fun ls hl => ?_)
          obtain ⟨v6, ev6⟩ : ∃ y : Int32, y = (nI n) + 1 := ⟨_, rfl⟩
          refine lv_iinc (v := v6) (lv' := [(3, .int v6), (2, .int (nI (q - 1))), (0, .ref (g 10)), (1, .int (nI j))]) hx hb dX5_weakest_52 hl (k := 1) rfl (by rw [ev6]; rfl) (by decide) rfl (fun ls hl => ?_)
          refine lv_goto (tgt := 4) hx hb dX5_weakest_55 (by decide) ?_
          have e9 : v6 = nI (n + 1) := by rw [ev6]; exact nI_1 n
          rw [e9] at hl
          rw [← bI_s c1] at hl
          exact ih (n + 1) (by omega) q (by rw [show fU (stW y j) 0 (n + 1) = (stW y j) n (fU (stW y j) 0 n) from rfl, ← hq]; unfold stW; try simp only [c1, c5, ↓reduceIte, and_self, and_true, true_and, false_and, and_false]) (by omega) H locs ls (lv_sub hl [1, 0, 2, 3] rfl) hH hS
        · skip
          refine lv_iload_n hx hb dX5_weakest_19 rfl (lv_at hl 0 rfl) ?_
          refine lv_if_lt (tgt := 46) hx hb dX5_weakest_20 (by decide) (fun hq => absurd ((nI_ltI (a := (q - 1)) (b := 0) (by omega) (by omega)).mp hq) (Nat.not_lt_zero _)) (fun _ => ?_)
          refine lv_aload_n hx hb dX5_weakest_23 rfl (lv_at hl 2 rfl) ?_
          refine lv_bipush (v := 10) hx hb dX5_weakest_24 (by decide) ?_
          refine lv_iload_n hx hb dX5_weakest_26 rfl (lv_at hl 3 rfl) ?_
          refine lv_imul hx hb dX5_weakest_27 ?_
          refine lv_tope (pk_mul 10 j) ?_
          refine lv_iload_n hx hb dX5_weakest_28 rfl (lv_at hl 1 rfl) ?_
          refine lv_iadd hx hb dX5_weakest_29 ?_
          refine lv_tope (nI_add (10 * j) n) ?_
          refine va_calli (va_runV (As := [.int (nI ((10 * j) + n))]) (rest := []) ⟨hx, hb, hml, hown, hts⟩ (met_X5_pullOfSlot l E o g x y ((10 * j) + n) (by omega) (show (y.1 7 ((10 * j) + n)) ≤ 30 by have q0 := hm7 ((10 * j) + n); omega) hm8 hm12) (cwV 1 hts gX5_weakest_X5_pullOfSlot rfl rfl rfl (by decide +kernel) ⟨Nat.le_of_ble_eq_true rfl, Nat.le_of_ble_eq_true rfl⟩) ⟨fun a U f mk q => ⟨q.1, wPre.calling q.2 a f mk⟩, (va_recv hK (wH_one hH (lv_md (by decide) (by decide)) (cel_md (by omega) (by omega))) (ci := 7) (q0 := 0) rfl rfl), fun U hU hW => ⟨rfl, wPre_at hz hS hH hK U hU hW⟩⟩ rfl rfl hl.1 rfl (lv_room (Nat.le_of_ble_eq_true rfl)) dX5_weakest_30 ⟨Nat.le_of_ble_eq_true rfl, Nat.le_of_ble_eq_true rfl⟩) hS (fun q _ h => h) (fun q h => h) (fun r u t H locs ht hvm hw hB hz1 hk1 hS => ?_)
          have hB := wHS_h ht hB
          try dsimp only at hw
          obtain rfl := hw
          have hH := hB
          refine lv_aload_n hx hb dX5_weakest_33 rfl (lv_at hl 2 rfl) ?_
          refine lv_bipush (v := 10) hx hb dX5_weakest_34 (by decide) ?_
          refine lv_iload_n hx hb dX5_weakest_36 rfl (lv_at hl 3 rfl) ?_
          refine lv_imul hx hb dX5_weakest_37 ?_
          refine lv_tope (pk_mul 10 j) ?_
          refine lv_iload_n hx hb dX5_weakest_38 rfl (lv_at hl 0 rfl) ?_
          refine lv_iadd hx hb dX5_weakest_39 ?_
          refine lv_tope (nI_add (10 * j) (q - 1)) ?_
          refine va_calli (va_runV (As := [.int (nI ((10 * j) + (q - 1)))]) (rest := [.int (pS y ((10 * j) + n) (y.2 5 (((10 * j) + n) / 10)) (nI (y.1 9 0)))]) ⟨hx, hb, hml, hown, hts⟩ (met_X5_pullOfSlot l E o g x y ((10 * j) + (q - 1)) (by omega) (show (y.1 7 ((10 * j) + (q - 1))) ≤ 30 by have q0 := hm7 ((10 * j) + (q - 1)); omega) hm8 hm12) (cwV 1 hts gX5_weakest_X5_pullOfSlot rfl rfl rfl (by decide +kernel) ⟨Nat.le_of_ble_eq_true rfl, Nat.le_of_ble_eq_true rfl⟩) ⟨fun a U f mk q => ⟨q.1, wPre.calling q.2 a f mk⟩, (va_recv hK (wH_one hH (lv_md (by decide) (by decide)) (cel_md (by omega) (by omega))) (ci := 7) (q0 := 0) rfl rfl), fun U hU hW => ⟨rfl, wPre_at hz hS hH hK U hU hW⟩⟩ rfl rfl hl.1 rfl (lv_room (Nat.le_of_ble_eq_true rfl)) dX5_weakest_40 ⟨Nat.le_of_ble_eq_true rfl, Nat.le_of_ble_eq_true rfl⟩) hS (fun q _ h => h) (fun q h => h) (fun r u t H locs ht hvm hw hB hz1 hk1 hS => ?_)
          have hB := wHS_h ht hB
          try dsimp only at hw
          obtain rfl := hw
          have hH := hB
          refine lv_icmp_ge (tgt := 50) hx hb dX5_weakest_43 (by decide) (fun c7 => ?_) (fun c7 => ?_)
          · skip
            refine lv_iload_n hx hb dX5_weakest_50 rfl (lv_at hl 0 rfl) ?_
            refine lv_istore_n (lv' := [(2, .int (nI (q - 1))), (3, .int (nI n)), (0, .ref (g 10)), (1, .int (nI j))]) hx hb dX5_weakest_51 rfl hl (by decide) rfl (fun ls hl => ?_)
            obtain ⟨v8, ev8⟩ : ∃ y : Int32, y = (nI n) + 1 := ⟨_, rfl⟩
            refine lv_iinc (v := v8) (lv' := [(3, .int v8), (2, .int (nI (q - 1))), (0, .ref (g 10)), (1, .int (nI j))]) hx hb dX5_weakest_52 hl (k := 1) rfl (by rw [ev8]; rfl) (by decide) rfl (fun ls hl => ?_)
            refine lv_goto (tgt := 4) hx hb dX5_weakest_55 (by decide) ?_
            have e9 : v8 = nI (n + 1) := by rw [ev8]; exact nI_1 n
            rw [e9] at hl
            rw [← bI_s c1] at hl
            exact ih (n + 1) (by omega) q (by rw [show fU (stW y j) 0 (n + 1) = (stW y j) n (fU (stW y j) 0 n) from rfl, ← hq]; unfold stW; try simp only [c1, c5, c7, ↓reduceIte, and_self, and_true, true_and, false_and, and_false]) (by omega) H locs ls (lv_sub hl [1, 0, 2, 3] rfl) hH hS
          · skip
            refine lv_iload_n hx hb dX5_weakest_46 rfl (lv_at hl 1 rfl) ?_
            refine lv_goto (tgt := 51) hx hb dX5_weakest_47 (by decide) ?_
            refine lv_istore_n (lv' := [(2, .int (nI n)), (3, .int (nI n)), (0, .ref (g 10)), (1, .int (nI j))]) hx hb dX5_weakest_51 rfl hl (by decide) rfl (fun ls hl => ?_)
            obtain ⟨v9, ev9⟩ : ∃ y : Int32, y = (nI n) + 1 := ⟨_, rfl⟩
            refine lv_iinc (v := v9) (lv' := [(3, .int v9), (2, .int (nI n)), (0, .ref (g 10)), (1, .int (nI j))]) hx hb dX5_weakest_52 hl (k := 1) rfl (by rw [ev9]; rfl) (by decide) rfl (fun ls hl => ?_)
            refine lv_goto (tgt := 4) hx hb dX5_weakest_55 (by decide) ?_
            have e9 : v9 = nI (n + 1) := by rw [ev9]; exact nI_1 n
            rw [e9] at hl
            exact ih (n + 1) (by omega) (n + 1) (by rw [show fU (stW y j) 0 (n + 1) = (stW y j) n (fU (stW y j) 0 n) from rfl, ← hq]; unfold stW; try simp only [c1, c5, c7, ↓reduceIte, and_self, and_true, true_and, false_and, and_false]) (by omega) H locs ls (lv_sub hl [1, 0, 2, 3] rfl) hH hS
  exact loop 10 0 (by omega) 0 rfl (by omega) H _ ls (lv_sub hl [1, 0, 2, 3] rfl) hH hS
