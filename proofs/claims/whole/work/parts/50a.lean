/-! ===== the class: isSound ===== -/
def cS (x : St) (d a q : Nat) : Nat := if x.1 7 a = d + 1 then q + 1 else q
def cSo (x : St) (d n : Nat) : Nat := fU (cS x d) 0 (10 * n)
def cSi (x : St) (d j n : Nat) : Nat := fU (cS x d) 0 (10 * j + n)
theorem cS_b (x : St) (d : Nat) : ∀ n, fU (cS x d) 0 n ≤ n
  | 0 => Nat.le_refl _
  | n + 1 => by
    have ih := cS_b x d n
    rw [fU_s]
    unfold cS at ih ⊢
    split <;> omega
theorem cS_1 {x : St} (hJ : CJ x) (d : Nat) : ∀ n, (fU (cS x d) 0 n = 0) ∨ (fU (cS x d) 0 n = 1 ∧ ∃ a, a < n ∧ x.1 7 a = d + 1)
  | 0 => Or.inl rfl
  | n + 1 => by
    rw [fU_s]
    rcases cS_1 hJ d n with h | ⟨h, a, ha, ea⟩
    · rw [h]
      by_cases c : x.1 7 n = d + 1
      · rw [show cS x d n 0 = 1 from if_pos c]
        exact Or.inr ⟨rfl, n, by omega, c⟩
      · rw [show cS x d n 0 = 0 from if_neg c]
        exact Or.inl rfl
    · rw [h]
      by_cases c : x.1 7 n = d + 1
      · exfalso
        have e1 := hJ a d ea
        have e2 := hJ n d c
        omega
      · rw [show cS x d n 1 = 1 from if_neg c]
        exact Or.inr ⟨rfl, a, by omega, ea⟩
theorem cSo_le {x : St} (hJ : CJ x) (d n : Nat) : cSo x d n ≤ 1 := by
  unfold cSo
  rcases cS_1 hJ d (10 * n) with h | ⟨h, -⟩ <;> omega
def stN (n : Nat) (x : St) : St := wRL n (wRG n x)
theorem stN_1 (n : Nat) (x : St) : (stN n x).1 = x.1 ∧ (stN n x).2 10 = x.2 10 := by
  have b := wRG_1 n x
  unfold stN
  generalize wRG n x = z at b ⊢
  have a := wRL_1 n z
  generalize wRL n z = w at a ⊢
  exact ⟨a.1.trans b.1, a.2.trans b.2⟩
theorem fN_1 (x : St) (n : Nat) : (fU stN x n).1 = x.1 ∧ (fU stN x n).2 10 = x.2 10 := fU_1 stN stN_1 x n
set_option maxHeartbeats 4000000 in
set_option maxRecDepth 100000 in
theorem met_X4_countSlotsWith (l : Launch) (E : wE) (o : wO) (g : Nat → Nat) (x y : St) (d : Nat) (hI : CI x) (hd : d < x.1 0 0) : Met l yX4_countSlotsWith wsX4_countSlotsWith ({ frames := 4, cells := 0, slots := 0, locals := 500 } : Room) (va_Pc [.ref (g 0), .ref (g (100 + d))] (wPre E o g x y)) (va_Qi (fun (r : Int32) (_ : Unit) => r = nI (cSo x d (x.1 1 0))) (fun (_ : Unit) t => wHS E o g x y t.heap) (wA E)) 0 0 (wA E) := by
  refine Met.ofW (cc := cX4_countSlotsWith) (maxL := 8) (ret := (some .int)) (by decide) rfl ?_
  intro p e s m args below meth c s₁ B hml hv
  obtain ⟨rfl, hz, hH, hK⟩ := hv
  have hx := B.exec
  have hb := B.bytes
  have hr := B.returns
  have hts := atoms_spec (ws := wsX4_countSlotsWith) B.pre
  have hown : s.vm.findClass RX4 = some m.cls := findClass_of_methodNamed B.named
  have hlocks := B.notSynchronized
  have hS : va_S (wA E) s.heap s.heap [] := va_S.rf
  have hinX4 : ∀ w ∈ wsX40, w ∈ wsX4_countSlotsWith := fun w h => List.mem_cons_of_mem _ (List.mem_append_left _ (List.mem_append_left _ (List.mem_append_left _ (List.mem_append_right _ h))))
  have hinX0 : ∀ w ∈ wsX00, w ∈ wsX4_countSlotsWith := fun w h => List.mem_cons_of_mem _ (List.mem_append_left _ (List.mem_append_left _ (List.mem_append_right _ h)))
  have hinX3 : ∀ w ∈ wsX30, w ∈ wsX4_countSlotsWith := fun w h => List.mem_cons_of_mem _ (List.mem_append_left _ (List.mem_append_right _ h))
  have hinJx4a65c : ∀ w ∈ wsJx4a65c0, w ∈ wsX4_countSlotsWith := fun w h => List.mem_cons_of_mem _ (List.mem_append_right _ h)
  have hl := lv_entry ([.ref (g 0), .ref (g (100 + d))]) (n := 8) (Nat.le_of_ble_eq_true rfl)
  rw [lg_entry_eq]
  generalize (lg_sl ([.ref (g 0), .ref (g (100 + d))]) ++ List.replicate (8 - (lg_sl ([.ref (g 0), .ref (g (100 + d))])).length) Slot.unset).toArray = ls at hl ⊢
  have hl : lv_has ls 8 [(0, .ref (g 0)), (1, .ref (g (100 + d)))] := hl
  obtain ⟨H, eH⟩ : ∃ z, z = s.heap := ⟨_, rfl⟩
  have hH : wHS E o g x y H := by rw [eH]; exact hH
  have hS : va_S (wA E) s.heap H [] := by rw [eH]; exact hS
  refine W.heapTo eH ?_
  obtain ⟨hn0, hn1, hn2, hn3, hn4, hn5, hc7, hc8, hc5, hc54, hc4, hc50, hc9, hc12, hc10, hcj⟩ := id hI
  refine W.nameQ (fun Q eQ => ?_)
  refine lv_iconst (v := 0) hx hb dX4_countSlotsWith_0 (by decide) ?_
  refine lv_istore_n (lv' := [(2, .int 0), (0, .ref (g 0)), (1, .ref (g (100 + d)))]) hx hb dX4_countSlotsWith_1 rfl hl (by decide) rfl (fun ls hl => ?_)
  refine lv_iconst (v := 0) hx hb dX4_countSlotsWith_2 (by decide) ?_
  refine lv_istore_n (lv' := [(3, .int 0), (2, .int 0), (0, .ref (g 0)), (1, .ref (g (100 + d)))]) hx hb dX4_countSlotsWith_3 rfl hl (by decide) rfl (fun ls hl => ?_)
  have loop : ∀ (k n : Nat), n + k = (x.1 1 0) → ∀ (q : Nat), q = cSo x d n → q ≤ 10 * n → ∀ (H : Heap) (locs : List Loc) (ls : Array Slot), lv_has ls 8 [(2, .int (nI q)), (3, .int (nI n)), (0, .ref (g 0)), (1, .ref (g (100 + d)))] → wHS E o g x y H → va_S (wA E) s.heap H locs → W p l e ({ frames := 4, cells := 0, slots := 0, locals := 500 } : Room) s m #[.ref (g 0), .ref (g (100 + d))] below meth c H locs 0 0 Q (F0 m 4 ls []) := by
    intro k
    induction k with
    | zero =>
      intro n hn q hq hqb H locs ls hl hH hS
      obtain rfl : (x.1 1 0) = n := by omega
      have hl : lv_has ls 8 [(2, .int (nI q)), (3, .int (nI (x.1 1 0))), (0, .ref (g 0)), (1, .ref (g (100 + d)))] := hl
      refine lv_iload_n hx hb dX4_countSlotsWith_4 rfl (lv_at hl 1 rfl) ?_
      refine lv_aload_n hx hb dX4_countSlotsWith_5 rfl (lv_at hl 2 rfl) ?_
      refine wr_get (T := TX4) (N := 9) (ci := 6) (v := .ref (g 3)) hx hb hts hinX4 hown hK hH lv_r0 (cel_rt (by omega)) rfl 1 (by decide) (hts (.fieldLink RX4 16 "SelectoRoute" "boxes" "Ljava/util/ArrayList;") (by decide +kernel)) (fun _ h => h) rfl dX4_countSlotsWith_6 ?_
      refine va_calli (va_runV (As := []) (rest := [.int (nI (x.1 1 0))]) ⟨hx, hb, hml, hown, hts⟩ (met_AL_size l E g (liv x.1) (cel E.2.1 g x y o.1 o.2) 3 4 (x.2 21 0) (x.1 3 0) (x.1 1 0) E.2.1.2 lv_r3 (cel_rt (by omega))) (cwV 0 hts gX4_countSlotsWith_Jx4a65c_size_8abf5 rfl rfl rfl (by decide +kernel) ⟨Nat.le_of_ble_eq_true rfl, Nat.le_of_ble_eq_true rfl⟩) ⟨fun a U f mk q => ⟨q.1, wPreG.calling q.2 a f mk⟩, (va_recv hK (wH_one hH lv_r3 (cel_rt (by omega))) (ci := 2) (q0 := 0) rfl rfl), fun U hU hW => ⟨rfl, wPreG_at hz hS hH hK U hU hW⟩⟩ rfl rfl hl.1 rfl (lv_room (Nat.le_of_ble_eq_true rfl)) dX4_countSlotsWith_9 ⟨Nat.le_of_ble_eq_true rfl, Nat.le_of_ble_eq_true rfl⟩) hS (fun q _ h => h) (fun q h => h) (fun r u t H locs ht hvm hw hB hz1 hk1 hS => ?_)
      obtain rfl := hw
      have hH : wHS E o g x y H := wG_h ht hB
      refine lv_icmp_ge (tgt := 82) hx hb dX4_countSlotsWith_12 (by decide) (fun _ => ?_) (fun hq => absurd ((nI_leI (a := (x.1 1 0)) (b := (x.1 1 0)) (by omega) (by omega)).mpr (Nat.le_refl _)) hq)
      refine lv_iload_n hx hb dX4_countSlotsWith_82 rfl (lv_at hl 0 rfl) ?_
      rw [eQ]
      exact W.iret (v := (nI q)) hx hb hr (fun t ht hW => ⟨⟨(nI q), (), rfl, (by rw [← hq]), wHS_t ht hH⟩, hS.F ht⟩) hS.2.2 dX4_countSlotsWith_83
    | succ k ih =>
      intro n hn q hq hqb H locs ls hl hH hS
      have hlt : n < (x.1 1 0) := by omega
      refine lv_iload_n hx hb dX4_countSlotsWith_4 rfl (lv_at hl 1 rfl) ?_
      refine lv_aload_n hx hb dX4_countSlotsWith_5 rfl (lv_at hl 2 rfl) ?_
      refine wr_get (T := TX4) (N := 9) (ci := 6) (v := .ref (g 3)) hx hb hts hinX4 hown hK hH lv_r0 (cel_rt (by omega)) rfl 1 (by decide) (hts (.fieldLink RX4 16 "SelectoRoute" "boxes" "Ljava/util/ArrayList;") (by decide +kernel)) (fun _ h => h) rfl dX4_countSlotsWith_6 ?_
      refine va_calli (va_runV (As := []) (rest := [.int (nI n)]) ⟨hx, hb, hml, hown, hts⟩ (met_AL_size l E g (liv x.1) (cel E.2.1 g x y o.1 o.2) 3 4 (x.2 21 0) (x.1 3 0) (x.1 1 0) E.2.1.2 lv_r3 (cel_rt (by omega))) (cwV 0 hts gX4_countSlotsWith_Jx4a65c_size_8abf5 rfl rfl rfl (by decide +kernel) ⟨Nat.le_of_ble_eq_true rfl, Nat.le_of_ble_eq_true rfl⟩) ⟨fun a U f mk q => ⟨q.1, wPreG.calling q.2 a f mk⟩, (va_recv hK (wH_one hH lv_r3 (cel_rt (by omega))) (ci := 2) (q0 := 0) rfl rfl), fun U hU hW => ⟨rfl, wPreG_at hz hS hH hK U hU hW⟩⟩ rfl rfl hl.1 rfl (lv_room (Nat.le_of_ble_eq_true rfl)) dX4_countSlotsWith_9 ⟨Nat.le_of_ble_eq_true rfl, Nat.le_of_ble_eq_true rfl⟩) hS (fun q _ h => h) (fun q h => h) (fun r u t H locs ht hvm hw hB hz1 hk1 hS => ?_)
      obtain rfl := hw
      have hH : wHS E o g x y H := wG_h ht hB
      refine lv_icmp_ge (tgt := 82) hx hb dX4_countSlotsWith_12 (by decide) (fun hq => absurd ((nI_leI (a := (x.1 1 0)) (b := n) (by omega) (by omega)).mp hq) (Nat.not_le.mpr hlt)) (fun _ => ?_)
      refine lv_aload_n hx hb dX4_countSlotsWith_15 rfl (lv_at hl 2 rfl) ?_
      refine wr_get (T := TX4) (N := 9) (ci := 6) (v := .ref (g 3)) hx hb hts hinX4 hown hK hH lv_r0 (cel_rt (by omega)) rfl 1 (by decide) (hts (.fieldLink RX4 16 "SelectoRoute" "boxes" "Ljava/util/ArrayList;") (by decide +kernel)) (fun _ h => h) rfl dX4_countSlotsWith_16 ?_
      refine lv_iload_n hx hb dX4_countSlotsWith_19 rfl (lv_at hl 1 rfl) ?_
      refine va_callr (va_runV (As := [.int (nI n)]) (rest := []) ⟨hx, hb, hml, hown, hts⟩ (met_AL_get l E g (liv x.1) (cel E.2.1 g x y o.1 o.2) 3 4 (x.2 21 0) (x.1 3 0) (x.1 1 0) E.2.1.2 n lv_r3 (cel_rt (by omega)) (show x.1 3 0 ≠ 0 by have hq := (show n < x.1 1 0 by omega); omega) (lv_r4 (show x.1 3 0 ≠ 0 by have hq := (show n < x.1 1 0 by omega); omega)) (fun i => g (200 + i)) (cel_rt (by omega)) (show x.1 1 0 ≤ x.1 3 0 by omega) (show x.1 3 0 < 2 ^ 31 by omega) (show n < x.1 1 0 by omega)) (cwV 1 hts gX4_countSlotsWith_Jx4a65c_get_915e3 rfl rfl rfl (by decide +kernel) ⟨Nat.le_of_ble_eq_true rfl, Nat.le_of_ble_eq_true rfl⟩) ⟨fun a U f mk q => ⟨q.1, wPreG.calling q.2 a f mk⟩, (va_recv hK (wH_one hH lv_r3 (cel_rt (by omega))) (ci := 2) (q0 := 0) rfl rfl), fun U hU hW => ⟨rfl, wPreG_at hz hS hH hK U hU hW⟩⟩ rfl rfl hl.1 rfl (lv_room (Nat.le_of_ble_eq_true rfl)) dX4_countSlotsWith_20 ⟨Nat.le_of_ble_eq_true rfl, Nat.le_of_ble_eq_true rfl⟩) hS (fun q _ h => h) (fun q h => h) (fun u ra t H locs ht hvm hw hB hz1 hk1 hS => ?_)
      obtain ⟨rfl, hB⟩ := hB
      have hH : wHS E o g x y H := wG_h ht hB
      refine va_castS hx hb hown (hts (.classLink RX4 69 RX0) (by decide +kernel)) (hK.1 3 _ rfl).2 (va_recv hK (wH_one hH (lv_bx (show n < x.1 1 0 by omega) hn1) (cel_bx (by omega))) (ci := 3) (q0 := 0) rfl rfl) dX4_countSlotsWith_23 ?_
      refine wr_get (T := TX0) (N := 15) (ci := 3) (v := .ref (g (210 + n))) hx hb hts hinX0 hown hK hH (lv_bx (show n < x.1 1 0 by omega) hn1) (cel_bx (by omega)) rfl 3 (by decide) (hts (.fieldLink RX4 242 "SelectoRoute$Box" "slots" "[LSelectoRoute$Slot;") (by decide +kernel)) (fun _ h => h) rfl dX4_countSlotsWith_26 ?_
      refine lv_astore (lv' := [(4, .ref (g (210 + n))), (2, .int (nI q)), (3, .int (nI n)), (0, .ref (g 0)), (1, .ref (g (100 + d)))]) hx hb dX4_countSlotsWith_29 hl (by decide) rfl (fun ls hl => ?_)
      refine lv_aload hx hb dX4_countSlotsWith_31 (lv_at hl 0 rfl) ?_
      refine wr_alen (v := 10) hx hb hK hH (lv_sa (show n < x.1 1 0 by omega) hn1) (cel_sa (by omega)) 2 rfl rfl dX4_countSlotsWith_33 ?_
      refine lv_istore (lv' := [(5, .int 10), (4, .ref (g (210 + n))), (2, .int (nI q)), (3, .int (nI n)), (0, .ref (g 0)), (1, .ref (g (100 + d)))]) hx hb dX4_countSlotsWith_34 hl (by decide) rfl (fun ls hl => ?_)
      refine lv_iconst (v := 0) hx hb dX4_countSlotsWith_36 (by decide) ?_
      refine lv_istore (lv' := [(6, .int 0), (5, .int 10), (4, .ref (g (210 + n))), (2, .int (nI q)), (3, .int (nI n)), (0, .ref (g 0)), (1, .ref (g (100 + d)))]) hx hb dX4_countSlotsWith_37 hl (by decide) rfl (fun ls hl => ?_)
      obtain ⟨j, ej⟩ : ∃ z, z = n := ⟨_, rfl⟩
      subst ej
      have ih0 := ih
      have hj0 := hlt
      have loop2 : ∀ (k n : Nat), n + k = 10 → ∀ (q : Nat), q = cSi x d j n → q ≤ 10 * j + n → ∀ (H : Heap) (locs : List Loc) (ls : Array Slot), lv_has ls 8 [(2, .int (nI q)), (6, .int (nI n)), (0, .ref (g 0)), (1, .ref (g (100 + d))), (3, .int (nI j)), (4, .ref (g (210 + j))), (5, .int 10)] → wHS E o g x y H → va_S (wA E) s.heap H locs → W p l e ({ frames := 4, cells := 0, slots := 0, locals := 500 } : Room) s m #[.ref (g 0), .ref (g (100 + d))] below meth c H locs 0 0 Q (F0 m 39 ls []) := by
        intro k
        induction k with
        | zero =>
          intro n hn q hq hqb H locs ls hl hH hS
          obtain rfl : 10 = n := by omega
          have hl : lv_has ls 8 [(2, .int (nI q)), (6, .int (nI 10)), (0, .ref (g 0)), (1, .ref (g (100 + d))), (3, .int (nI j)), (4, .ref (g (210 + j))), (5, .int 10)] := hl
          have hq9 := hq
          refine lv_iload hx hb dX4_countSlotsWith_39 (lv_at hl 1 rfl) ?_
          refine lv_iload hx hb dX4_countSlotsWith_41 (lv_at hl 6 rfl) ?_
          refine lv_icmp_ge (tgt := 76) hx hb dX4_countSlotsWith_43 (by decide) (fun _ => ?_) (fun hq => absurd ((nI_leI (a := 10) (b := 10) (by omega) (by omega)).mpr (Nat.le_refl _)) hq)
          obtain ⟨v1, ev1⟩ : ∃ y : Int32, y = (nI j) + 1 := ⟨_, rfl⟩
          refine lv_iinc (v := v1) (lv' := [(3, .int v1), (2, .int (nI q)), (6, .int (nI 10)), (0, .ref (g 0)), (1, .ref (g (100 + d))), (4, .ref (g (210 + j))), (5, .int 10)]) hx hb dX4_countSlotsWith_76 hl (k := 4) rfl (by rw [ev1]; rfl) (by decide) rfl (fun ls hl => ?_)
          refine lv_goto (tgt := 4) hx hb dX4_countSlotsWith_79 (by decide) ?_
          have e9 : v1 = nI (j + 1) := by rw [ev1]; exact nI_1 j
          rw [e9] at hl
          exact ih0 (j + 1) (by omega) q (hq9.trans rfl) (by omega) H locs ls (lv_sub hl [1, 0, 3, 4] rfl) hH hS
        | succ k ih =>
          intro n hn q hq hqb H locs ls hl hH hS
          have hlt : n < 10 := by omega
          refine lv_iload hx hb dX4_countSlotsWith_39 (lv_at hl 1 rfl) ?_
          refine lv_iload hx hb dX4_countSlotsWith_41 (lv_at hl 6 rfl) ?_
          refine lv_icmp_ge (tgt := 76) hx hb dX4_countSlotsWith_43 (by decide) (fun hq => absurd ((nI_leI (a := 10) (b := n) (by omega) (by omega)).mp hq) (Nat.not_le.mpr hlt)) (fun _ => ?_)
          refine lv_aload hx hb dX4_countSlotsWith_46 (lv_at hl 5 rfl) ?_
          refine lv_iload hx hb dX4_countSlotsWith_48 (lv_at hl 1 rfl) ?_
          refine wr_aldq (v := .ref (g (300 + (10 * j + n)))) hx hb hK hH (lv_sa (show j < x.1 1 0 by omega) hn1) (cel_sa (by omega)) 2 rfl (vp_in_nI (n := n) (N := 10) (by omega) (by decide)) (by rw [nI_clamp (n := n) (by omega)]; show Value.ref (g (300 + 10 * j + n)) = _; rw [Nat.add_assoc]) dX4_countSlotsWith_50 ?_
          refine lv_astore (lv' := [(7, .ref (g (300 + (10 * j + n)))), (2, .int (nI q)), (6, .int (nI n)), (0, .ref (g 0)), (1, .ref (g (100 + d))), (3, .int (nI j)), (4, .ref (g (210 + j))), (5, .int 10)]) hx hb dX4_countSlotsWith_51 hl (by decide) rfl (fun ls hl => ?_)
          refine lv_iload_n hx hb dX4_countSlotsWith_53 rfl (lv_at hl 1 rfl) ?_
          refine lv_aload hx hb dX4_countSlotsWith_54 (lv_at hl 0 rfl) ?_
          have q7 := hc7 (10 * j + n)
          by_cases c2 : (x.1 7 (10 * j + n)) = 0
          · skip
            refine wr_get (T := TX3) (N := 3) (ci := 5) (v := .null) hx hb hts hinX3 hown hK hH (lv_sl (show (10 * j + n) < 10 * x.1 1 0 by omega) hn1) cel_sl rfl 1 (by decide) (hts (.fieldLink RX4 118 "SelectoRoute$Slot" "disc" "LSelectoRoute$Disc;") (by decide +kernel)) (fun _ h => h) (congrArg some (if_pos c2)) dX4_countSlotsWith_56 ?_
            refine lv_aload_n hx hb dX4_countSlotsWith_59 rfl (lv_at hl 4 rfl) ?_
            refine lv_acmp_ne (rx := none) (ry := some (g (100 + d))) (tgt := 67) hx hb dX4_countSlotsWith_60 (by decide) (fun _ => ?_) (fun hq => by cases hq)
            refine lv_iconst (v := 0) hx hb dX4_countSlotsWith_67 (by decide) ?_
            refine lv_iadd hx hb dX4_countSlotsWith_68 ?_
            refine lv_tope (nI_add q 0) ?_
            refine lv_istore_n (lv' := [(2, .int (nI q)), (7, .ref (g (300 + (10 * j + n)))), (6, .int (nI n)), (0, .ref (g 0)), (1, .ref (g (100 + d))), (3, .int (nI j)), (4, .ref (g (210 + j))), (5, .int 10)]) hx hb dX4_countSlotsWith_69 rfl hl (by decide) rfl (fun ls hl => ?_)
            obtain ⟨v3, ev3⟩ : ∃ y : Int32, y = (nI n) + 1 := ⟨_, rfl⟩
            refine lv_iinc (v := v3) (lv' := [(6, .int v3), (2, .int (nI q)), (7, .ref (g (300 + (10 * j + n)))), (0, .ref (g 0)), (1, .ref (g (100 + d))), (3, .int (nI j)), (4, .ref (g (210 + j))), (5, .int 10)]) hx hb dX4_countSlotsWith_70 hl (k := 2) rfl (by rw [ev3]; rfl) (by decide) rfl (fun ls hl => ?_)
            refine lv_goto (tgt := 39) hx hb dX4_countSlotsWith_73 (by decide) ?_
            have e9 : v3 = nI (n + 1) := by rw [ev3]; exact nI_1 n
            rw [e9] at hl
            have hq8 : q = fU (cS x d) 0 (10 * j + n) := hq
            exact ih (n + 1) (by omega) q (by show _ = fU (cS x d) 0 (10 * j + n + 1); rw [fU_s, ← hq8]; unfold cS; rw [if_neg (show ¬ x.1 7 (10 * j + n) = d + 1 by omega)]) (by omega) H locs ls (lv_sub hl [1, 0, 3, 4, 5, 6, 7] rfl) hH hS
          · skip
            refine wr_get (T := TX3) (N := 3) (ci := 5) (v := .ref (g (100 + ((x.1 7 (10 * j + n)) - 1)))) hx hb hts hinX3 hown hK hH (lv_sl (show (10 * j + n) < 10 * x.1 1 0 by omega) hn1) cel_sl rfl 1 (by decide) (hts (.fieldLink RX4 118 "SelectoRoute$Slot" "disc" "LSelectoRoute$Disc;") (by decide +kernel)) (fun _ h => h) (congrArg some (if_neg c2)) dX4_countSlotsWith_56 ?_
            refine lv_aload_n hx hb dX4_countSlotsWith_59 rfl (lv_at hl 4 rfl) ?_
            by_cases c4 : x.1 7 (10 * j + n) = d + 1
            · skip
              refine lv_acmp_ne (rx := some (g (100 + (x.1 7 (10 * j + n) - 1)))) (ry := some (g (100 + d))) (tgt := 67) hx hb dX4_countSlotsWith_60 (by decide) (fun hq => absurd (by rw [c4, Nat.add_sub_cancel]) hq) (fun _ => ?_)
              refine lv_iconst (v := 1) hx hb dX4_countSlotsWith_63 (by decide) ?_
              refine lv_goto (tgt := 68) hx hb dX4_countSlotsWith_64 (by decide) ?_
              refine lv_iadd hx hb dX4_countSlotsWith_68 ?_
              refine lv_tope (nI_add q 1) ?_
              refine lv_istore_n (lv' := [(2, .int (nI (q + 1))), (7, .ref (g (300 + (10 * j + n)))), (6, .int (nI n)), (0, .ref (g 0)), (1, .ref (g (100 + d))), (3, .int (nI j)), (4, .ref (g (210 + j))), (5, .int 10)]) hx hb dX4_countSlotsWith_69 rfl hl (by decide) rfl (fun ls hl => ?_)
              obtain ⟨v5, ev5⟩ : ∃ y : Int32, y = (nI n) + 1 := ⟨_, rfl⟩
              refine lv_iinc (v := v5) (lv' := [(6, .int v5), (2, .int (nI (q + 1))), (7, .ref (g (300 + (10 * j + n)))), (0, .ref (g 0)), (1, .ref (g (100 + d))), (3, .int (nI j)), (4, .ref (g (210 + j))), (5, .int 10)]) hx hb dX4_countSlotsWith_70 hl (k := 2) rfl (by rw [ev5]; rfl) (by decide) rfl (fun ls hl => ?_)
              refine lv_goto (tgt := 39) hx hb dX4_countSlotsWith_73 (by decide) ?_
              have e9 : v5 = nI (n + 1) := by rw [ev5]; exact nI_1 n
              rw [e9] at hl
              have hq8 : q = fU (cS x d) 0 (10 * j + n) := hq
              exact ih (n + 1) (by omega) (q + 1) (by show _ = fU (cS x d) 0 (10 * j + n + 1); rw [fU_s, ← hq8]; unfold cS; rw [if_pos c4]) (by omega) H locs ls (lv_sub hl [1, 0, 3, 4, 5, 6, 7] rfl) hH hS
            · skip
              refine lv_acmp_ne (rx := some (g (100 + (x.1 7 (10 * j + n) - 1)))) (ry := some (g (100 + d))) (tgt := 67) hx hb dX4_countSlotsWith_60 (by decide) (fun _ => ?_) (fun hq => absurd (by have e := hH.2.2.1 (100 + (x.1 7 (10 * j + n) - 1)) (100 + d) (lv_di (by omega) hn0) (lv_di hd hn0) (Option.some.inj hq); omega) c4)
              refine lv_iconst (v := 0) hx hb dX4_countSlotsWith_67 (by decide) ?_
              refine lv_iadd hx hb dX4_countSlotsWith_68 ?_
              refine lv_tope (nI_add q 0) ?_
              refine lv_istore_n (lv' := [(2, .int (nI q)), (7, .ref (g (300 + (10 * j + n)))), (6, .int (nI n)), (0, .ref (g 0)), (1, .ref (g (100 + d))), (3, .int (nI j)), (4, .ref (g (210 + j))), (5, .int 10)]) hx hb dX4_countSlotsWith_69 rfl hl (by decide) rfl (fun ls hl => ?_)
              obtain ⟨v6, ev6⟩ : ∃ y : Int32, y = (nI n) + 1 := ⟨_, rfl⟩
              refine lv_iinc (v := v6) (lv' := [(6, .int v6), (2, .int (nI q)), (7, .ref (g (300 + (10 * j + n)))), (0, .ref (g 0)), (1, .ref (g (100 + d))), (3, .int (nI j)), (4, .ref (g (210 + j))), (5, .int 10)]) hx hb dX4_countSlotsWith_70 hl (k := 2) rfl (by rw [ev6]; rfl) (by decide) rfl (fun ls hl => ?_)
              refine lv_goto (tgt := 39) hx hb dX4_countSlotsWith_73 (by decide) ?_
              have e9 : v6 = nI (n + 1) := by rw [ev6]; exact nI_1 n
              rw [e9] at hl
              have hq8 : q = fU (cS x d) 0 (10 * j + n) := hq
              exact ih (n + 1) (by omega) q (by show _ = fU (cS x d) 0 (10 * j + n + 1); rw [fU_s, ← hq8]; unfold cS; rw [if_neg c4]) (by omega) H locs ls (lv_sub hl [1, 0, 3, 4, 5, 6, 7] rfl) hH hS
      exact loop2 10 0 (by omega) q (hq.trans rfl) (by omega) H _ ls (lv_sub hl [3, 0, 5, 6, 4, 2, 1] rfl) hH hS
  exact loop (x.1 1 0) 0 (by omega) 0 rfl (by omega) H _ ls (lv_sub hl [1, 0, 2, 3] rfl) hH hS
set_option maxHeartbeats 4000000 in
set_option maxRecDepth 100000 in
theorem met_X4_hasNoDiscTwice (l : Launch) (E : wE) (o : wO) (g : Nat → Nat) (x y : St) (hI : CI x) (hJ : CJ x) : Met l yX4_hasNoDiscTwice wsX4_hasNoDiscTwice ({ frames := 5, cells := 0, slots := 0, locals := 600 } : Room) (va_Pc [.ref (g 0)] (wPre E o g x y)) (va_Qi (fun (r : Int32) (_ : Unit) => r = 1) (fun (_ : Unit) t => wHS E o g x y t.heap) (wA E)) 0 0 (wA E) := by
  refine Met.ofW (cc := cX4_hasNoDiscTwice) (maxL := 2) (ret := (some .boolean)) (by decide) rfl ?_
  intro p e s m args below meth c s₁ B hml hv
  obtain ⟨rfl, hz, hH, hK⟩ := hv
  have hx := B.exec
  have hb := B.bytes
  have hr := B.returns
  have hts := atoms_spec (ws := wsX4_hasNoDiscTwice) B.pre
  have hown : s.vm.findClass RX4 = some m.cls := findClass_of_methodNamed B.named
  have hlocks := B.notSynchronized
  have hS : va_S (wA E) s.heap s.heap [] := va_S.rf
  have hinX4 : ∀ w ∈ wsX40, w ∈ wsX4_hasNoDiscTwice := fun w h => List.mem_cons_of_mem _ (List.mem_append_left _ (List.mem_append_left _ (List.mem_append_left _ (List.mem_append_right _ h))))
  have hinJx4a65c : ∀ w ∈ wsJx4a65c0, w ∈ wsX4_hasNoDiscTwice := fun w h => List.mem_cons_of_mem _ (List.mem_append_left _ (List.mem_append_left _ (List.mem_append_right _ h)))
  have hinX0 : ∀ w ∈ wsX00, w ∈ wsX4_hasNoDiscTwice := fun w h => List.mem_cons_of_mem _ (List.mem_append_left _ (List.mem_append_right _ h))
  have hinX3 : ∀ w ∈ wsX30, w ∈ wsX4_hasNoDiscTwice := fun w h => List.mem_cons_of_mem _ (List.mem_append_right _ h)
  have hl := lv_entry ([.ref (g 0)]) (n := 2) (Nat.le_of_ble_eq_true rfl)
  rw [lg_entry_eq]
  generalize (lg_sl ([.ref (g 0)]) ++ List.replicate (2 - (lg_sl ([.ref (g 0)])).length) Slot.unset).toArray = ls at hl ⊢
  have hl : lv_has ls 2 [(0, .ref (g 0))] := hl
  obtain ⟨H, eH⟩ : ∃ z, z = s.heap := ⟨_, rfl⟩
  have hH : wHS E o g x y H := by rw [eH]; exact hH
  have hS : va_S (wA E) s.heap H [] := by rw [eH]; exact hS
  refine W.heapTo eH ?_
  obtain ⟨hn0, hn1, hn2, hn3, hn4, hn5, hc7, hc8, hc5, hc54, hc4, hc50, hc9, hc12, hc10, hcj⟩ := id hI
  refine W.nameQ (fun Q eQ => ?_)
  refine lv_iconst (v := 0) hx hb dX4_hasNoDiscTwice_0 (by decide) ?_
  refine lv_istore_n (lv' := [(1, .int 0), (0, .ref (g 0))]) hx hb dX4_hasNoDiscTwice_1 rfl hl (by decide) rfl (fun ls hl => ?_)
  have loop : ∀ (k n : Nat), n + k = (x.1 0 0) → ∀ (H : Heap) (locs : List Loc) (ls : Array Slot), lv_has ls 2 [(1, .int (nI n)), (0, .ref (g 0))] → wHS E o g x y H → va_S (wA E) s.heap H locs → W p l e ({ frames := 5, cells := 0, slots := 0, locals := 600 } : Room) s m #[.ref (g 0)] below meth c H locs 0 0 Q (F0 m 2 ls []) := by
    intro k
    induction k with
    | zero =>
      intro n hn H locs ls hl hH hS
      obtain rfl : (x.1 0 0) = n := by omega
      have hl : lv_has ls 2 [(1, .int (nI (x.1 0 0))), (0, .ref (g 0))] := hl
      refine lv_iload_n hx hb dX4_hasNoDiscTwice_2 rfl (lv_at hl 0 rfl) ?_
      refine lv_aload_n hx hb dX4_hasNoDiscTwice_3 rfl (lv_at hl 1 rfl) ?_
      refine wr_get (T := TX4) (N := 9) (ci := 6) (v := .ref (g 1)) hx hb hts hinX4 hown hK hH lv_r0 (cel_rt (by omega)) rfl 0 (by decide) (hts (.fieldLink RX4 10 "SelectoRoute" "discs" "Ljava/util/ArrayList;") (by decide +kernel)) (fun _ h => h) rfl dX4_hasNoDiscTwice_4 ?_
      refine va_calli (va_runV (As := []) (rest := [.int (nI (x.1 0 0))]) ⟨hx, hb, hml, hown, hts⟩ (met_AL_size l E g (liv x.1) (cel E.2.1 g x y o.1 o.2) 1 2 (x.2 20 0) (x.1 2 0) (x.1 0 0) E.2.1.2 lv_r1 (cel_rt (by omega))) (cwV 0 hts gX4_hasNoDiscTwice_Jx4a65c_size_8abf5 rfl rfl rfl (by decide +kernel) ⟨Nat.le_of_ble_eq_true rfl, Nat.le_of_ble_eq_true rfl⟩) ⟨fun a U f mk q => ⟨q.1, wPreG.calling q.2 a f mk⟩, (va_recv hK (wH_one hH lv_r1 (cel_rt (by omega))) (ci := 2) (q0 := 0) rfl rfl), fun U hU hW => ⟨rfl, wPreG_at hz hS hH hK U hU hW⟩⟩ rfl rfl hl.1 rfl (lv_room (Nat.le_of_ble_eq_true rfl)) dX4_hasNoDiscTwice_7 ⟨Nat.le_of_ble_eq_true rfl, Nat.le_of_ble_eq_true rfl⟩) hS (fun q _ h => h) (fun q h => h) (fun r u t H locs ht hvm hw hB hz1 hk1 hS => ?_)
      obtain rfl := hw
      have hH : wHS E o g x y H := wG_h ht hB
      refine lv_icmp_ge (tgt := 40) hx hb dX4_hasNoDiscTwice_10 (by decide) (fun _ => ?_) (fun hq => absurd ((nI_leI (a := (x.1 0 0)) (b := (x.1 0 0)) (by omega) (by omega)).mpr (Nat.le_refl _)) hq)
      refine lv_iconst (v := 1) hx hb dX4_hasNoDiscTwice_40 (by decide) ?_
      rw [eQ]
      exact W.zret (v := 1) hx hb hr rfl (fun t ht hW => ⟨⟨1, (), rfl, rfl, wHS_t ht hH⟩, hS.F ht⟩) hS.2.2 dX4_hasNoDiscTwice_41
    | succ k ih =>
      intro n hn H locs ls hl hH hS
      have hlt : n < (x.1 0 0) := by omega
      have h1 := cSo_le hJ n (x.1 1 0)
      refine lv_iload_n hx hb dX4_hasNoDiscTwice_2 rfl (lv_at hl 0 rfl) ?_
      refine lv_aload_n hx hb dX4_hasNoDiscTwice_3 rfl (lv_at hl 1 rfl) ?_
      refine wr_get (T := TX4) (N := 9) (ci := 6) (v := .ref (g 1)) hx hb hts hinX4 hown hK hH lv_r0 (cel_rt (by omega)) rfl 0 (by decide) (hts (.fieldLink RX4 10 "SelectoRoute" "discs" "Ljava/util/ArrayList;") (by decide +kernel)) (fun _ h => h) rfl dX4_hasNoDiscTwice_4 ?_
      refine va_calli (va_runV (As := []) (rest := [.int (nI n)]) ⟨hx, hb, hml, hown, hts⟩ (met_AL_size l E g (liv x.1) (cel E.2.1 g x y o.1 o.2) 1 2 (x.2 20 0) (x.1 2 0) (x.1 0 0) E.2.1.2 lv_r1 (cel_rt (by omega))) (cwV 0 hts gX4_hasNoDiscTwice_Jx4a65c_size_8abf5 rfl rfl rfl (by decide +kernel) ⟨Nat.le_of_ble_eq_true rfl, Nat.le_of_ble_eq_true rfl⟩) ⟨fun a U f mk q => ⟨q.1, wPreG.calling q.2 a f mk⟩, (va_recv hK (wH_one hH lv_r1 (cel_rt (by omega))) (ci := 2) (q0 := 0) rfl rfl), fun U hU hW => ⟨rfl, wPreG_at hz hS hH hK U hU hW⟩⟩ rfl rfl hl.1 rfl (lv_room (Nat.le_of_ble_eq_true rfl)) dX4_hasNoDiscTwice_7 ⟨Nat.le_of_ble_eq_true rfl, Nat.le_of_ble_eq_true rfl⟩) hS (fun q _ h => h) (fun q h => h) (fun r u t H locs ht hvm hw hB hz1 hk1 hS => ?_)
      obtain rfl := hw
      have hH : wHS E o g x y H := wG_h ht hB
      refine lv_icmp_ge (tgt := 40) hx hb dX4_hasNoDiscTwice_10 (by decide) (fun hq => absurd ((nI_leI (a := (x.1 0 0)) (b := n) (by omega) (by omega)).mp hq) (Nat.not_le.mpr hlt)) (fun _ => ?_)
      refine lv_aload_n hx hb dX4_hasNoDiscTwice_13 rfl (lv_at hl 1 rfl) ?_
      refine lv_aload_n hx hb dX4_hasNoDiscTwice_14 rfl (lv_at hl 1 rfl) ?_
      refine wr_get (T := TX4) (N := 9) (ci := 6) (v := .ref (g 1)) hx hb hts hinX4 hown hK hH lv_r0 (cel_rt (by omega)) rfl 0 (by decide) (hts (.fieldLink RX4 10 "SelectoRoute" "discs" "Ljava/util/ArrayList;") (by decide +kernel)) (fun _ h => h) rfl dX4_hasNoDiscTwice_15 ?_
      refine lv_iload_n hx hb dX4_hasNoDiscTwice_18 rfl (lv_at hl 0 rfl) ?_
      refine va_callr (va_runV (As := [.int (nI n)]) (rest := [.ref (g 0)]) ⟨hx, hb, hml, hown, hts⟩ (met_AL_get l E g (liv x.1) (cel E.2.1 g x y o.1 o.2) 1 2 (x.2 20 0) (x.1 2 0) (x.1 0 0) E.2.1.2 n lv_r1 (cel_rt (by omega)) (show x.1 2 0 ≠ 0 by have hq := (show n < x.1 0 0 by omega); omega) (lv_r2 (show x.1 2 0 ≠ 0 by have hq := (show n < x.1 0 0 by omega); omega)) (fun i => g (100 + i)) (cel_rt (by omega)) (show x.1 0 0 ≤ x.1 2 0 by omega) (show x.1 2 0 < 2 ^ 31 by omega) (show n < x.1 0 0 by omega)) (cwV 1 hts gX4_hasNoDiscTwice_Jx4a65c_get_915e3 rfl rfl rfl (by decide +kernel) ⟨Nat.le_of_ble_eq_true rfl, Nat.le_of_ble_eq_true rfl⟩) ⟨fun a U f mk q => ⟨q.1, wPreG.calling q.2 a f mk⟩, (va_recv hK (wH_one hH lv_r1 (cel_rt (by omega))) (ci := 2) (q0 := 0) rfl rfl), fun U hU hW => ⟨rfl, wPreG_at hz hS hH hK U hU hW⟩⟩ rfl rfl hl.1 rfl (lv_room (Nat.le_of_ble_eq_true rfl)) dX4_hasNoDiscTwice_19 ⟨Nat.le_of_ble_eq_true rfl, Nat.le_of_ble_eq_true rfl⟩) hS (fun q _ h => h) (fun q h => h) (fun u ra t H locs ht hvm hw hB hz1 hk1 hS => ?_)
      obtain ⟨rfl, hB⟩ := hB
      have hH : wHS E o g x y H := wG_h ht hB
      refine va_castS hx hb hown (hts (.classLink RX4 53 RX2) (by decide +kernel)) (hK.1 4 _ rfl).2 (va_recv hK (wH_one hH (lv_di (show n < x.1 0 0 by omega) hn0) (cel_di (by omega))) (ci := 4) (q0 := 0) rfl rfl) dX4_hasNoDiscTwice_22 ?_
      refine va_calli (va_runV (As := [.ref (g (100 + n))]) (rest := []) ⟨hx, hb, hml, hown, hts⟩ (met_X4_countSlotsWith l E o g x y n hI (show n < x.1 0 0 by omega)) (cwV 1 hts gX4_hasNoDiscTwice_X4_countSlotsWith rfl rfl rfl (by decide +kernel) ⟨Nat.le_of_ble_eq_true rfl, Nat.le_of_ble_eq_true rfl⟩) ⟨fun a U f mk q => ⟨q.1, wPre.calling q.2 a f mk⟩, (va_recv hK (wH_one hH lv_r0 (cel_rt (by omega))) (ci := 6) (q0 := 0) rfl rfl), fun U hU hW => ⟨rfl, wPre_at hz hS hH hK U hU hW⟩⟩ rfl rfl hl.1 rfl (lv_room (Nat.le_of_ble_eq_true rfl)) dX4_hasNoDiscTwice_25 ⟨Nat.le_of_ble_eq_true rfl, Nat.le_of_ble_eq_true rfl⟩) hS (fun q _ h => h) (fun q h => h) (fun r u t H locs ht hvm hw hB hz1 hk1 hS => ?_)
      have hB := wHS_h ht hB
      try dsimp only at hw
      obtain rfl := hw
      have hH := hB
      refine lv_iconst (v := 1) hx hb dX4_hasNoDiscTwice_28 (by decide) ?_
      refine lv_icmp_le (tgt := 34) hx hb dX4_hasNoDiscTwice_29 (by decide) (fun _ => ?_) (fun hq => absurd ((nI_leI (a := (cSo x n (x.1 1 0))) (b := 1) (by omega) (by omega)).mpr h1) hq)
      obtain ⟨v1, ev1⟩ : ∃ y : Int32, y = (nI n) + 1 := ⟨_, rfl⟩
      refine lv_iinc (v := v1) (lv' := [(1, .int v1), (0, .ref (g 0))]) hx hb dX4_hasNoDiscTwice_34 hl (k := 0) rfl (by rw [ev1]; rfl) (by decide) rfl (fun ls hl => ?_)
      refine lv_goto (tgt := 2) hx hb dX4_hasNoDiscTwice_37 (by decide) ?_
      have e9 : v1 = nI (n + 1) := by rw [ev1]; exact nI_1 n
      rw [e9] at hl
      exact ih (n + 1) (by omega) H locs ls (lv_sub hl [0, 1] rfl) hH hS
  exact loop (x.1 0 0) 0 (by omega) H _ ls (lv_sub hl [0, 1] rfl) hH hS
