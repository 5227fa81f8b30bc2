/-! ===== the class: bestWorth ===== -/
theorem fU_0 {α : Type} (f : Nat → α → α) (a : α) : fU f a 0 = a := rfl
theorem fU_s {α : Type} (f : Nat → α → α) (a : α) (n : Nat) : fU f a (n + 1) = f n (fU f a n) := rfl
def stRG (j n : Nat) (x : St) : St := if x.1 8 n = 1 then rk 24 (pD x n (x.2 5 j) (nI (x.1 9 0))) x else x
def stRL (j k : Nat) (x : St) : St := rk 25 (-(pS x (10 * j + k) (x.2 5 j) (nI (x.1 9 0)))) x
def wRG (j : Nat) (x : St) : St := fU (stRG j) (fl 24 0 x) (x.1 0 0)
def wRL (j : Nat) (x : St) : St := fU (stRL j) (fl 25 (-1000) x) 10
theorem stRG_1 (j n : Nat) (x : St) : (stRG j n x).1 = x.1 ∧ (stRG j n x).2 10 = x.2 10 := by
  unfold stRG
  split
  · exact rk_1 (by decide) _ x
  · exact ⟨rfl, rfl⟩
theorem stRL_1 (j n : Nat) (x : St) : (stRL j n x).1 = x.1 ∧ (stRL j n x).2 10 = x.2 10 := rk_1 (by decide) _ x
theorem fRG_1 (j : Nat) (x : St) (n : Nat) : (fU (stRG j) (fl 24 0 x) n).1 = x.1 ∧ (fU (stRG j) (fl 24 0 x) n).2 10 = x.2 10 :=
  ⟨(fU_1 _ (stRG_1 j) _ n).1.trans (fl_1 (by decide) 0 x).1, (fU_1 _ (stRG_1 j) _ n).2.trans (fl_1 (by decide) 0 x).2⟩
theorem fRL_1 (j : Nat) (x : St) (n : Nat) : (fU (stRL j) (fl 25 (-1000) x) n).1 = x.1 ∧ (fU (stRL j) (fl 25 (-1000) x) n).2 10 = x.2 10 :=
  ⟨(fU_1 _ (stRL_1 j) _ n).1.trans (fl_1 (by decide) _ x).1, (fU_1 _ (stRL_1 j) _ n).2.trans (fl_1 (by decide) _ x).2⟩
theorem fRG_x (j : Nat) (x : St) (n : Nat) : (fU (stRG j) (fl 24 0 x) n).1 = x.1 := (fRG_1 j x n).1
theorem wRG_1 (j : Nat) (x : St) : (wRG j x).1 = x.1 ∧ (wRG j x).2 10 = x.2 10 := by unfold wRG; exact fRG_1 j x (x.1 0 0)
theorem wRL_1 (j : Nat) (x : St) : (wRL j x).1 = x.1 ∧ (wRL j x).2 10 = x.2 10 := by unfold wRL; exact fRL_1 j x 10
/-- the sum of the pairs that gain -/
def stSm (x : St) (n : Nat) (q : Int32) : Int32 := q + (if x.2 24 n + x.2 25 n < 0 then 0 else x.2 24 n + x.2 25 n)
set_option maxHeartbeats 4000000 in
set_option maxRecDepth 100000 in
theorem met_X4_rankGains (l : Launch) (E : wE) (o : wO) (g : Nat → Nat) (x y : St) (j : Nat) (hI : CI x) (hj : j < x.1 1 0) : Met l yX4_rankGains wsX4_rankGains ({ frames := 3, cells := 0, slots := 0, locals := 400 } : Room) (va_Pc [.ref (g 0), .ref (g (200 + j))] (wPre E o g x y)) (va_Qv (fun (_ : Unit) => True) (fun (_ : Unit) t => wHS E o g (wRG j x) y t.heap) (wA E)) 0 0 (wA E) := by
  refine Met.ofW (cc := cX4_rankGains) (maxL := 4) (ret := none) (by decide) rfl ?_
  intro p e s m args below meth c s₁ B hml hv
  obtain ⟨rfl, hz, hH, hK⟩ := hv
  have hx := B.exec
  have hb := B.bytes
  have hr := B.returns
  have hts := atoms_spec (ws := wsX4_rankGains) B.pre
  have hown : s.vm.findClass RX4 = some m.cls := findClass_of_methodNamed B.named
  have hlocks := B.notSynchronized
  have hS : va_S (wA E) s.heap s.heap [] := va_S.rf
  have hinX4 : ∀ w ∈ wsX40, w ∈ wsX4_rankGains := fun w h => List.mem_cons_of_mem _ (List.mem_append_left _ (List.mem_append_left _ (List.mem_append_left _ (List.mem_append_left _ (List.mem_append_right _ h)))))
  have hinX0 : ∀ w ∈ wsX00, w ∈ wsX4_rankGains := fun w h => List.mem_cons_of_mem _ (List.mem_append_left _ (List.mem_append_left _ (List.mem_append_left _ (List.mem_append_right _ h))))
  have hinJx4a65c : ∀ w ∈ wsJx4a65c0, w ∈ wsX4_rankGains := fun w h => List.mem_cons_of_mem _ (List.mem_append_left _ (List.mem_append_left _ (List.mem_append_right _ h)))
  have hinX2 : ∀ w ∈ wsX20, w ∈ wsX4_rankGains := fun w h => List.mem_cons_of_mem _ (List.mem_append_left _ (List.mem_append_right _ h))
  have hl := lv_entry ([.ref (g 0), .ref (g (200 + j))]) (n := 4) (Nat.le_of_ble_eq_true rfl)
  rw [lg_entry_eq]
  generalize (lg_sl ([.ref (g 0), .ref (g (200 + j))]) ++ List.replicate (4 - (lg_sl ([.ref (g 0), .ref (g (200 + j))])).length) Slot.unset).toArray = ls at hl ⊢
  have hl : lv_has ls 4 [(0, .ref (g 0)), (1, .ref (g (200 + j)))] := hl
  obtain ⟨H, eH⟩ : ∃ z, z = s.heap := ⟨_, rfl⟩
  have hH : wHS E o g x y H := by rw [eH]; exact hH
  have hS : va_S (wA E) s.heap H [] := by rw [eH]; exact hS
  refine W.heapTo eH ?_
  obtain ⟨hn0, hn1, hn2, hn3, hn4, hn5, hc7, hc8, hc5, hc54, hc4, hc50, hc9, hc12, hc10, hcj⟩ := id hI
  refine W.nameQ (fun Q eQ => ?_)
  refine lv_aload_n hx hb dX4_rankGains_0 rfl (lv_at hl 0 rfl) ?_
  refine wr_get (T := TX4) (N := 9) (ci := 6) (v := .ref (g 5)) hx hb hts hinX4 hown hK hH lv_r0 (cel_rt (by omega)) rfl 2 (by decide) (hts (.fieldLink RX4 19 "SelectoRoute" "mostGained" "[I") (by decide +kernel)) (fun _ h => h) rfl dX4_rankGains_1 ?_
  refine lv_iconst (v := 0) hx hb dX4_rankGains_4 (by decide) ?_
  refine va_callv (va_runS (As := [.ref (g 5), .int 0]) (rest := []) ⟨hx, hb, hml, hown, hts⟩ (met_J7_fill_MG l E o g x y 0 hI) (va_cwS 2 hts gX4_rankGains_J7_fill_53178 rfl rfl rfl (by decide +kernel) ⟨Nat.le_of_ble_eq_true rfl, Nat.le_of_ble_eq_true rfl⟩) ⟨fun a U f mk q => ⟨q.1, wPre.calling q.2 a f mk⟩, fun U hU hW => ⟨rfl, wPre_at hz hS hH hK U hU hW⟩⟩ rfl rfl hl.1 rfl (lv_room (Nat.le_of_ble_eq_true rfl)) dX4_rankGains_5 ⟨Nat.le_of_ble_eq_true rfl, Nat.le_of_ble_eq_true rfl⟩) hS (fun q _ h => h) (fun q h => h) (fun u t H locs ht hvm hw hB hz1 hk1 hS => ?_)
  have hB := wHS_h ht hB
  try dsimp only at hw
  have hH := hB
  refine lv_iconst (v := 0) hx hb dX4_rankGains_8 (by decide) ?_
  refine lv_istore_n (lv' := [(2, .int 0), (0, .ref (g 0)), (1, .ref (g (200 + j)))]) hx hb dX4_rankGains_9 rfl hl (by decide) rfl (fun ls hl => ?_)
  have loop : ∀ (k n : Nat), n + k = (x.1 0 0) → ∀ (H : Heap) (locs : List Loc) (ls : Array Slot), lv_has ls 4 [(2, .int (nI n)), (0, .ref (g 0)), (1, .ref (g (200 + j)))] → wHS E o g (fU (stRG j) (fl 24 0 x) n) y H → va_S (wA E) s.heap H locs → W p l e ({ frames := 3, cells := 0, slots := 0, locals := 400 } : Room) s m #[.ref (g 0), .ref (g (200 + j))] below meth c H locs 0 0 Q (F0 m 10 ls []) := by
    intro k
    induction k with
    | zero =>
      intro n hn H locs ls hl hH hS
      obtain rfl : (x.1 0 0) = n := by omega
      have hl : lv_has ls 4 [(2, .int (nI (x.1 0 0))), (0, .ref (g 0)), (1, .ref (g (200 + j)))] := hl
      refine lv_iload_n hx hb dX4_rankGains_10 rfl (lv_at hl 0 rfl) ?_
      refine lv_aload_n hx hb dX4_rankGains_11 rfl (lv_at hl 1 rfl) ?_
      refine wr_get (T := TX4) (N := 9) (ci := 6) (v := .ref (g 1)) hx hb hts hinX4 hown hK hH lv_r0 (cel_rt (by omega)) rfl 0 (by decide) (hts (.fieldLink RX4 10 "SelectoRoute" "discs" "Ljava/util/ArrayList;") (by decide +kernel)) (fun _ h => h) rfl dX4_rankGains_12 ?_
      refine va_calli (va_runV (As := []) (rest := [.int (nI (x.1 0 0))]) ⟨hx, hb, hml, hown, hts⟩ (met_AL_size l E g (liv (fU (stRG j) (fl 24 0 x) (x.1 0 0)).1) (cel E.2.1 g (fU (stRG j) (fl 24 0 x) (x.1 0 0)) y o.1 o.2) 1 2 ((fU (stRG j) (fl 24 0 x) (x.1 0 0)).2 20 0) ((fU (stRG j) (fl 24 0 x) (x.1 0 0)).1 2 0) ((fU (stRG j) (fl 24 0 x) (x.1 0 0)).1 0 0) E.2.1.2 lv_r1 (cel_rt (by omega))) (cwV 0 hts gX4_rankGains_Jx4a65c_size_8abf5 rfl rfl rfl (by decide +kernel) ⟨Nat.le_of_ble_eq_true rfl, Nat.le_of_ble_eq_true rfl⟩) ⟨fun a U f mk q => ⟨q.1, wPreG.calling q.2 a f mk⟩, (va_recv hK (wH_one hH lv_r1 (cel_rt (by omega))) (ci := 2) (q0 := 0) rfl rfl), fun U hU hW => ⟨rfl, wPreG_at hz hS hH hK U hU hW⟩⟩ rfl rfl hl.1 rfl (lv_room (Nat.le_of_ble_eq_true rfl)) dX4_rankGains_15 ⟨Nat.le_of_ble_eq_true rfl, Nat.le_of_ble_eq_true rfl⟩) hS (fun q _ h => h) (fun q h => h) (fun r u t H locs ht hvm hw hB hz1 hk1 hS => ?_)
      obtain rfl := hw
      have hH : wHS E o g (fU (stRG j) (fl 24 0 x) (x.1 0 0)) y H := wG_h ht hB
      refine lv_tope (show nI (((fU (stRG j) (fl 24 0 x) (x.1 0 0)).1 0 0)) = nI ((x.1 0 0)) by simp only [fRG_x]) ?_
      refine lv_icmp_ge (tgt := 65) hx hb dX4_rankGains_18 (by decide) (fun _ => ?_) (fun hq => absurd ((nI_leI (a := (x.1 0 0)) (b := (x.1 0 0)) (by omega) (by omega)).mpr (Nat.le_refl _)) hq)
      rw [eQ]
      exact W.vret hx hb hr (fun t ht hW => ⟨⟨(), rfl, trivial, wHS_t ht hH⟩, hS.F ht⟩) hS.2.2 dX4_rankGains_65
    | succ k ih =>
      intro n hn H locs ls hl hH hS
      have hlt : n < (x.1 0 0) := by omega
      obtain ⟨x1, ex1⟩ : ∃ z, z = fU (stRG j) (fl 24 0 x) n := ⟨_, rfl⟩
      rw [← ex1] at hH
      have h1 : x1.1 = x.1 := by rw [ex1]; exact (fRG_1 j x n).1
      have h10 : x1.2 10 = x.2 10 := by rw [ex1]; exact (fRG_1 j x n).2
      have hI1 : CI x1 := CI_I hI h1 h10
      obtain ⟨hp0, hp1, hp2, hp3, hp4, hp5, hd7, hd8, hd5, hd54, hd4, hd50, hd9, hd12, hd10, hdj⟩ := id hI1
      have hlt : n < x1.1 0 0 := by rw [h1]; exact hlt
      have hj : j < x1.1 1 0 := by rw [h1]; exact hj
      refine lv_iload_n hx hb dX4_rankGains_10 rfl (lv_at hl 0 rfl) ?_
      refine lv_aload_n hx hb dX4_rankGains_11 rfl (lv_at hl 1 rfl) ?_
      refine wr_get (T := TX4) (N := 9) (ci := 6) (v := .ref (g 1)) hx hb hts hinX4 hown hK hH lv_r0 (cel_rt (by omega)) rfl 0 (by decide) (hts (.fieldLink RX4 10 "SelectoRoute" "discs" "Ljava/util/ArrayList;") (by decide +kernel)) (fun _ h => h) rfl dX4_rankGains_12 ?_
      refine va_calli (va_runV (As := []) (rest := [.int (nI n)]) ⟨hx, hb, hml, hown, hts⟩ (met_AL_size l E g (liv x1.1) (cel E.2.1 g x1 y o.1 o.2) 1 2 (x1.2 20 0) (x1.1 2 0) (x1.1 0 0) E.2.1.2 lv_r1 (cel_rt (by omega))) (cwV 0 hts gX4_rankGains_Jx4a65c_size_8abf5 rfl rfl rfl (by decide +kernel) ⟨Nat.le_of_ble_eq_true rfl, Nat.le_of_ble_eq_true rfl⟩) ⟨fun a U f mk q => ⟨q.1, wPreG.calling q.2 a f mk⟩, (va_recv hK (wH_one hH lv_r1 (cel_rt (by omega))) (ci := 2) (q0 := 0) rfl rfl), fun U hU hW => ⟨rfl, wPreG_at hz hS hH hK U hU hW⟩⟩ rfl rfl hl.1 rfl (lv_room (Nat.le_of_ble_eq_true rfl)) dX4_rankGains_15 ⟨Nat.le_of_ble_eq_true rfl, Nat.le_of_ble_eq_true rfl⟩) hS (fun q _ h => h) (fun q h => h) (fun r u t H locs ht hvm hw hB hz1 hk1 hS => ?_)
      obtain rfl := hw
      have hH : wHS E o g x1 y H := wG_h ht hB
      refine lv_icmp_ge (tgt := 65) hx hb dX4_rankGains_18 (by decide) (fun hq => absurd ((nI_leI (a := (x1.1 0 0)) (b := n) (by omega) (by omega)).mp hq) (Nat.not_le.mpr hlt)) (fun _ => ?_)
      refine lv_aload_n hx hb dX4_rankGains_21 rfl (lv_at hl 1 rfl) ?_
      refine wr_get (T := TX4) (N := 9) (ci := 6) (v := .ref (g 1)) hx hb hts hinX4 hown hK hH lv_r0 (cel_rt (by omega)) rfl 0 (by decide) (hts (.fieldLink RX4 10 "SelectoRoute" "discs" "Ljava/util/ArrayList;") (by decide +kernel)) (fun _ h => h) rfl dX4_rankGains_22 ?_
      refine lv_iload_n hx hb dX4_rankGains_25 rfl (lv_at hl 0 rfl) ?_
      refine va_callr (va_runV (As := [.int (nI n)]) (rest := []) ⟨hx, hb, hml, hown, hts⟩ (met_AL_get l E g (liv x1.1) (cel E.2.1 g x1 y o.1 o.2) 1 2 (x1.2 20 0) (x1.1 2 0) (x1.1 0 0) E.2.1.2 n lv_r1 (cel_rt (by omega)) (show x1.1 2 0 ≠ 0 by have hq := (show n < x1.1 0 0 by omega); omega) (lv_r2 (show x1.1 2 0 ≠ 0 by have hq := (show n < x1.1 0 0 by omega); omega)) (fun i => g (100 + i)) (cel_rt (by omega)) (show x1.1 0 0 ≤ x1.1 2 0 by omega) (show x1.1 2 0 < 2 ^ 31 by omega) (show n < x1.1 0 0 by omega)) (cwV 1 hts gX4_rankGains_Jx4a65c_get_915e3 rfl rfl rfl (by decide +kernel) ⟨Nat.le_of_ble_eq_true rfl, Nat.le_of_ble_eq_true rfl⟩) ⟨fun a U f mk q => ⟨q.1, wPreG.calling q.2 a f mk⟩, (va_recv hK (wH_one hH lv_r1 (cel_rt (by omega))) (ci := 2) (q0 := 0) rfl rfl), fun U hU hW => ⟨rfl, wPreG_at hz hS hH hK U hU hW⟩⟩ rfl rfl hl.1 rfl (lv_room (Nat.le_of_ble_eq_true rfl)) dX4_rankGains_26 ⟨Nat.le_of_ble_eq_true rfl, Nat.le_of_ble_eq_true rfl⟩) hS (fun q _ h => h) (fun q h => h) (fun u ra t H locs ht hvm hw hB hz1 hk1 hS => ?_)
      obtain ⟨rfl, hB⟩ := hB
      have hH : wHS E o g x1 y H := wG_h ht hB
      refine va_castS hx hb hown (hts (.classLink RX4 53 "SelectoRoute$Disc") (by decide +kernel)) (hK.1 4 _ rfl).2 (va_recv hK (wH_one hH (lv_di (show n < x1.1 0 0 by omega) hp0) (cel_di (by omega))) (ci := 4) (q0 := 0) rfl rfl) dX4_rankGains_29 ?_
      refine lv_astore_n (lv' := [(3, .ref (g (100 + n))), (2, .int (nI n)), (0, .ref (g 0)), (1, .ref (g (200 + j)))]) hx hb dX4_rankGains_32 rfl hl (by decide) rfl (fun ls hl => ?_)
      refine lv_aload_n hx hb dX4_rankGains_33 rfl (lv_at hl 0 rfl) ?_
      refine va_calli (va_runV (As := []) (rest := []) ⟨hx, hb, hml, hown, hts⟩ (met_X2_isInVan l E o g x1 y n (show n < x1.1 0 0 by omega) hp0) (cwV 0 hts gX4_rankGains_X2_isInVan rfl rfl rfl (by decide +kernel) ⟨Nat.le_of_ble_eq_true rfl, Nat.le_of_ble_eq_true rfl⟩) ⟨fun a U f mk q => ⟨q.1, wPre.calling q.2 a f mk⟩, (va_recv hK (wH_one hH (lv_di (show n < x1.1 0 0 by omega) hp0) (cel_di (by omega))) (ci := 4) (q0 := 0) rfl rfl), fun U hU hW => ⟨rfl, wPre_at hz hS hH hK U hU hW⟩⟩ rfl rfl hl.1 rfl (lv_room (Nat.le_of_ble_eq_true rfl)) dX4_rankGains_34 ⟨Nat.le_of_ble_eq_true rfl, Nat.le_of_ble_eq_true rfl⟩) hS (fun q _ h => h) (fun q h => h) (fun r u t H locs ht hvm hw hB hz1 hk1 hS => ?_)
      have hB := wHS_h ht hB
      try dsimp only at hw
      have hH := hB
      rcases hw with ⟨rfl, c1⟩ | ⟨rfl, c1⟩
      · have c1 : (x1.1 8 n) = 1 := c1
        refine lv_if_eq (tgt := 59) hx hb dX4_rankGains_37 (by decide) (fun hq => absurd hq (show ¬ (1 : Int32) = 0 by decide)) (fun _ => ?_)
        refine lv_aload_n hx hb dX4_rankGains_40 rfl (lv_at hl 2 rfl) ?_
        refine wr_get (T := TX4) (N := 9) (ci := 6) (v := .ref (g 5)) hx hb hts hinX4 hown hK hH lv_r0 (cel_rt (by omega)) rfl 2 (by decide) (hts (.fieldLink RX4 19 "SelectoRoute" "mostGained" "[I") (by decide +kernel)) (fun _ h => h) rfl dX4_rankGains_41 ?_
        refine lv_aload_n hx hb dX4_rankGains_44 rfl (lv_at hl 0 rfl) ?_
        refine lv_aload_n hx hb dX4_rankGains_45 rfl (lv_at hl 3 rfl) ?_
        refine wr_get (T := TX0) (N := 15) (ci := 3) (v := .int (x1.2 5 j)) hx hb hts hinX0 hown hK hH (lv_bx (show j < x1.1 1 0 by omega) hp1) (cel_bx (by omega)) rfl 2 (by decide) (hts (.fieldLink RX4 179 "SelectoRoute$Box" "taste" "I") (by decide +kernel)) (fun _ h => h) rfl dX4_rankGains_46 ?_
        refine lv_aload_n hx hb dX4_rankGains_49 rfl (lv_at hl 2 rfl) ?_
        refine wr_get (T := TX4) (N := 9) (ci := 6) (v := .int (nI (x1.1 9 0))) hx hb hts hinX4 hown hK hH lv_r0 (cel_rt (by omega)) rfl 5 (by decide) (hts (.fieldLink RX4 172 "SelectoRoute" "week" "I") (by decide +kernel)) (fun _ h => h) rfl dX4_rankGains_50 ?_
        refine va_calli (va_runV (As := [.int (x1.2 5 j), .int (nI (x1.1 9 0))]) (rest := [.ref (g 5)]) ⟨hx, hb, hml, hown, hts⟩ (met_X2_pullFor l E o g x1 y n (x1.2 5 j) (nI (x1.1 9 0)) (show n < x1.1 0 0 by omega) hp0) (cwV 2 hts gX4_rankGains_X2_pullFor rfl rfl rfl (by decide +kernel) ⟨Nat.le_of_ble_eq_true rfl, Nat.le_of_ble_eq_true rfl⟩) ⟨fun a U f mk q => ⟨q.1, wPre.calling q.2 a f mk⟩, (va_recv hK (wH_one hH (lv_di (show n < x1.1 0 0 by omega) hp0) (cel_di (by omega))) (ci := 4) (q0 := 0) rfl rfl), fun U hU hW => ⟨rfl, wPre_at hz hS hH hK U hU hW⟩⟩ rfl rfl hl.1 rfl (lv_room (Nat.le_of_ble_eq_true rfl)) dX4_rankGains_53 ⟨Nat.le_of_ble_eq_true rfl, Nat.le_of_ble_eq_true rfl⟩) hS (fun q _ h => h) (fun q h => h) (fun r u t H locs ht hvm hw hB hz1 hk1 hS => ?_)
        have hB := wHS_h ht hB
        try dsimp only at hw
        obtain rfl := hw
        have hH := hB
        refine va_callv (va_runS (As := [.ref (g 5), .int (pD x1 n (x1.2 5 j) (nI (x1.1 9 0)))]) (rest := []) ⟨hx, hb, hml, hown, hts⟩ (met_X4_rank_MG l E o g x1 y (pD x1 n (x1.2 5 j) (nI (x1.1 9 0))) hI1) (va_cwS 2 hts gX4_rankGains_X4_rank rfl rfl rfl (by decide +kernel) ⟨Nat.le_of_ble_eq_true rfl, Nat.le_of_ble_eq_true rfl⟩) ⟨fun a U f mk q => ⟨q.1, wPre.calling q.2 a f mk⟩, fun U hU hW => ⟨rfl, wPre_at hz hS hH hK U hU hW⟩⟩ rfl rfl hl.1 rfl (lv_room (Nat.le_of_ble_eq_true rfl)) dX4_rankGains_56 ⟨Nat.le_of_ble_eq_true rfl, Nat.le_of_ble_eq_true rfl⟩) hS (fun q _ h => h) (fun q h => h) (fun u t H locs ht hvm hw hB hz1 hk1 hS => ?_)
        have hB := wHS_h ht hB
        try dsimp only at hw
        have hH := hB
        obtain ⟨v2, ev2⟩ : ∃ y : Int32, y = (nI n) + 1 := ⟨_, rfl⟩
        refine lv_iinc (v := v2) (lv' := [(2, .int v2), (3, .ref (g (100 + n))), (0, .ref (g 0)), (1, .ref (g (200 + j)))]) hx hb dX4_rankGains_59 hl (k := 1) rfl (by rw [ev2]; rfl) (by decide) rfl (fun ls hl => ?_)
        refine lv_goto (tgt := 10) hx hb dX4_rankGains_62 (by decide) ?_
        have e9 : v2 = nI (n + 1) := by rw [ev2]; exact nI_1 n
        rw [e9] at hl
        subst ev2
        have e8 : fU (stRG j) (fl 24 0 x) (n + 1) = (rk 24 (pD x1 n (x1.2 5 j) (nI (x1.1 9 0))) x1) := by
          rw [fU_s, ← ex1]
          unfold stRG
          simp only [c1, ↓reduceIte]
        exact ih (n + 1) (by omega) H locs ls (lv_sub hl [0, 2, 3] rfl) (by rw [e8]; exact hH) hS
      · have c1 : ¬ ((x1.1 8 n) = 1) := c1
        refine lv_if_eq (tgt := 59) hx hb dX4_rankGains_37 (by decide) (fun _ => ?_) (fun hq => absurd (show (0 : Int32) = 0 by decide) hq)
        obtain ⟨v3, ev3⟩ : ∃ y : Int32, y = (nI n) + 1 := ⟨_, rfl⟩
        refine lv_iinc (v := v3) (lv' := [(2, .int v3), (3, .ref (g (100 + n))), (0, .ref (g 0)), (1, .ref (g (200 + j)))]) hx hb dX4_rankGains_59 hl (k := 1) rfl (by rw [ev3]; rfl) (by decide) rfl (fun ls hl => ?_)
        refine lv_goto (tgt := 10) hx hb dX4_rankGains_62 (by decide) ?_
        have e9 : v3 = nI (n + 1) := by rw [ev3]; exact nI_1 n
        rw [e9] at hl
        subst ev3
        have e8 : fU (stRG j) (fl 24 0 x) (n + 1) = x1 := by
          rw [fU_s, ← ex1]
          unfold stRG
          simp only [c1, ↓reduceIte]
        exact ih (n + 1) (by omega) H locs ls (lv_sub hl [0, 2, 3] rfl) (by rw [e8]; exact hH) hS
  exact loop (x.1 0 0) 0 (by omega) H _ ls (lv_sub hl [0, 1, 2] rfl) (by rw [fU_0]; exact hH) hS
set_option maxHeartbeats 4000000 in
set_option maxRecDepth 100000 in
theorem met_X4_rankLosses (l : Launch) (E : wE) (o : wO) (g : Nat → Nat) (x y : St) (j : Nat) (hI : CI x) (hj : j < x.1 1 0) : Met l yX4_rankLosses wsX4_rankLosses ({ frames := 3, cells := 0, slots := 0, locals := 400 } : Room) (va_Pc [.ref (g 0), .ref (g (200 + j))] (wPre E o g x y)) (va_Qv (fun (_ : Unit) => True) (fun (_ : Unit) t => wHS E o g (wRL j x) y t.heap) (wA E)) 0 0 (wA E) := by
  refine Met.ofW (cc := cX4_rankLosses) (maxL := 6) (ret := none) (by decide) rfl ?_
  intro p e s m args below meth c s₁ B hml hv
  obtain ⟨rfl, hz, hH, hK⟩ := hv
  have hx := B.exec
  have hb := B.bytes
  have hr := B.returns
  have hts := atoms_spec (ws := wsX4_rankLosses) B.pre
  have hown : s.vm.findClass RX4 = some m.cls := findClass_of_methodNamed B.named
  have hlocks := B.notSynchronized
  have hS : va_S (wA E) s.heap s.heap [] := va_S.rf
  have hinX4 : ∀ w ∈ wsX40, w ∈ wsX4_rankLosses := fun w h => List.mem_cons_of_mem _ (List.mem_append_left _ (List.mem_append_left _ (List.mem_append_left _ (List.mem_append_left _ (List.mem_append_right _ h)))))
  have hinX0 : ∀ w ∈ wsX00, w ∈ wsX4_rankLosses := fun w h => List.mem_cons_of_mem _ (List.mem_append_left _ (List.mem_append_left _ (List.mem_append_left _ (List.mem_append_right _ h))))
  have hinX3 : ∀ w ∈ wsX30, w ∈ wsX4_rankLosses := fun w h => List.mem_cons_of_mem _ (List.mem_append_left _ (List.mem_append_left _ (List.mem_append_right _ h)))
  have hinX2 : ∀ w ∈ wsX20, w ∈ wsX4_rankLosses := fun w h => List.mem_cons_of_mem _ (List.mem_append_left _ (List.mem_append_right _ h))
  have hl := lv_entry ([.ref (g 0), .ref (g (200 + j))]) (n := 6) (Nat.le_of_ble_eq_true rfl)
  rw [lg_entry_eq]
  generalize (lg_sl ([.ref (g 0), .ref (g (200 + j))]) ++ List.replicate (6 - (lg_sl ([.ref (g 0), .ref (g (200 + j))])).length) Slot.unset).toArray = ls at hl ⊢
  have hl : lv_has ls 6 [(0, .ref (g 0)), (1, .ref (g (200 + j)))] := hl
  obtain ⟨H, eH⟩ : ∃ z, z = s.heap := ⟨_, rfl⟩
  have hH : wHS E o g x y H := by rw [eH]; exact hH
  have hS : va_S (wA E) s.heap H [] := by rw [eH]; exact hS
  refine W.heapTo eH ?_
  obtain ⟨hn0, hn1, hn2, hn3, hn4, hn5, hc7, hc8, hc5, hc54, hc4, hc50, hc9, hc12, hc10, hcj⟩ := id hI
  refine W.nameQ (fun Q eQ => ?_)
  refine lv_aload_n hx hb dX4_rankLosses_0 rfl (lv_at hl 0 rfl) ?_
  refine wr_get (T := TX4) (N := 9) (ci := 6) (v := .ref (g 6)) hx hb hts hinX4 hown hK hH lv_r0 (cel_rt (by omega)) rfl 3 (by decide) (hts (.fieldLink RX4 23 "SelectoRoute" "leastLost" "[I") (by decide +kernel)) (fun _ h => h) rfl dX4_rankLosses_1 ?_
  refine lv_sipush (v := (-1000)) hx hb dX4_rankLosses_4 (by decide) ?_
  refine va_callv (va_runS (As := [.ref (g 6), .int (-1000)]) (rest := []) ⟨hx, hb, hml, hown, hts⟩ (met_J7_fill_LL l E o g x y (-1000) hI) (va_cwS 2 hts gX4_rankLosses_J7_fill_53178 rfl rfl rfl (by decide +kernel) ⟨Nat.le_of_ble_eq_true rfl, Nat.le_of_ble_eq_true rfl⟩) ⟨fun a U f mk q => ⟨q.1, wPre.calling q.2 a f mk⟩, fun U hU hW => ⟨rfl, wPre_at hz hS hH hK U hU hW⟩⟩ rfl rfl hl.1 rfl (lv_room (Nat.le_of_ble_eq_true rfl)) dX4_rankLosses_7 ⟨Nat.le_of_ble_eq_true rfl, Nat.le_of_ble_eq_true rfl⟩) hS (fun q _ h => h) (fun q h => h) (fun u t H locs ht hvm hw hB hz1 hk1 hS => ?_)
  have hB := wHS_h ht hB
  try dsimp only at hw
  have hH := hB
  refine lv_aload_n hx hb dX4_rankLosses_10 rfl (lv_at hl 1 rfl) ?_
  refine wr_get (T := TX0) (N := 15) (ci := 3) (v := .ref (g (210 + j))) hx hb hts hinX0 hown hK hH (lv_bx (show j < x.1 1 0 by omega) hn1) (cel_bx (by omega)) rfl 3 (by decide) (hts (.fieldLink RX4 242 "SelectoRoute$Box" "slots" "[LSelectoRoute$Slot;") (by decide +kernel)) (fun _ h => h) rfl dX4_rankLosses_11 ?_
  refine lv_astore_n (lv' := [(2, .ref (g (210 + j))), (0, .ref (g 0)), (1, .ref (g (200 + j)))]) hx hb dX4_rankLosses_14 rfl hl (by decide) rfl (fun ls hl => ?_)
  refine lv_aload_n hx hb dX4_rankLosses_15 rfl (lv_at hl 0 rfl) ?_
  refine wr_alen (v := 10) hx hb hK hH (lv_sa (show j < x.1 1 0 by omega) hn1) (cel_sa (by omega)) 2 rfl rfl dX4_rankLosses_16 ?_
  refine lv_istore_n (lv' := [(3, .int 10), (2, .ref (g (210 + j))), (0, .ref (g 0)), (1, .ref (g (200 + j)))]) hx hb dX4_rankLosses_17 rfl hl (by decide) rfl (fun ls hl => ?_)
  refine lv_iconst (v := 0) hx hb dX4_rankLosses_18 (by decide) ?_
  refine lv_istore (lv' := [(4, .int 0), (3, .int 10), (2, .ref (g (210 + j))), (0, .ref (g 0)), (1, .ref (g (200 + j)))]) hx hb dX4_rankLosses_19 hl (by decide) rfl (fun ls hl => ?_)
  have loop : ∀ (k n : Nat), n + k = 10 → ∀ (H : Heap) (locs : List Loc) (ls : Array Slot), lv_has ls 6 [(4, .int (nI n)), (0, .ref (g 0)), (1, .ref (g (200 + j))), (2, .ref (g (210 + j))), (3, .int 10)] → wHS E o g (fU (stRL j) (fl 25 (-1000) x) n) y H → va_S (wA E) s.heap H locs → W p l e ({ frames := 3, cells := 0, slots := 0, locals := 400 } : Room) s m #[.ref (g 0), .ref (g (200 + j))] below meth c H locs 0 0 Q (F0 m 21 ls []) := by
    intro k
    induction k with
    | zero =>
      intro n hn H locs ls hl hH hS
      obtain rfl : 10 = n := by omega
      have hl : lv_has ls 6 [(4, .int (nI 10)), (0, .ref (g 0)), (1, .ref (g (200 + j))), (2, .ref (g (210 + j))), (3, .int 10)] := hl
      refine lv_iload hx hb dX4_rankLosses_21 (lv_at hl 0 rfl) ?_
      refine lv_iload_n hx hb dX4_rankLosses_23 rfl (lv_at hl 4 rfl) ?_
      refine lv_icmp_ge (tgt := 60) hx hb dX4_rankLosses_24 (by decide) (fun _ => ?_) (fun hq => absurd ((nI_leI (a := 10) (b := 10) (by omega) (by omega)).mpr (Nat.le_refl _)) hq)
      have hH : wHS E o g (wRL j x) y H := by unfold wRL; exact hH
      rw [eQ]
      exact W.vret hx hb hr (fun t ht hW => ⟨⟨(), rfl, trivial, wHS_t ht hH⟩, hS.F ht⟩) hS.2.2 dX4_rankLosses_60
    | succ k ih =>
      intro n hn H locs ls hl hH hS
      have hlt : n < 10 := by omega
      obtain ⟨x1, ex1⟩ : ∃ z, z = fU (stRL j) (fl 25 (-1000) x) n := ⟨_, rfl⟩
      rw [← ex1] at hH
      have h1 : x1.1 = x.1 := by rw [ex1]; exact (fRL_1 j x n).1
      have h10 : x1.2 10 = x.2 10 := by rw [ex1]; exact (fRL_1 j x n).2
      have hI1 : CI x1 := CI_I hI h1 h10
      obtain ⟨hp0, hp1, hp2, hp3, hp4, hp5, hd7, hd8, hd5, hd54, hd4, hd50, hd9, hd12, hd10, hdj⟩ := id hI1
      have hj : j < x1.1 1 0 := by rw [h1]; exact hj
      refine lv_iload hx hb dX4_rankLosses_21 (lv_at hl 0 rfl) ?_
      refine lv_iload_n hx hb dX4_rankLosses_23 rfl (lv_at hl 4 rfl) ?_
      refine lv_icmp_ge (tgt := 60) hx hb dX4_rankLosses_24 (by decide) (fun hq => absurd ((nI_leI (a := 10) (b := n) (by omega) (by omega)).mp hq) (Nat.not_le.mpr hlt)) (fun _ => ?_)
      refine lv_aload_n hx hb dX4_rankLosses_27 rfl (lv_at hl 3 rfl) ?_
      refine lv_iload hx hb dX4_rankLosses_28 (lv_at hl 0 rfl) ?_
      refine wr_aldq (v := .ref (g (300 + (10 * j + n)))) hx hb hK hH (lv_sa (show j < x1.1 1 0 by omega) hp1) (cel_sa (by omega)) 2 rfl (vp_in_nI (n := n) (N := 10) (by omega) (by decide)) (by rw [nI_clamp (n := n) (by omega)]; show Value.ref (g (300 + 10 * j + n)) = _; rw [Nat.add_assoc]) dX4_rankLosses_30 ?_
      refine lv_astore (lv' := [(5, .ref (g (300 + (10 * j + n)))), (4, .int (nI n)), (0, .ref (g 0)), (1, .ref (g (200 + j))), (2, .ref (g (210 + j))), (3, .int 10)]) hx hb dX4_rankLosses_31 hl (by decide) rfl (fun ls hl => ?_)
      refine lv_aload_n hx hb dX4_rankLosses_33 rfl (lv_at hl 2 rfl) ?_
      refine wr_get (T := TX4) (N := 9) (ci := 6) (v := .ref (g 6)) hx hb hts hinX4 hown hK hH lv_r0 (cel_rt (by omega)) rfl 3 (by decide) (hts (.fieldLink RX4 23 "SelectoRoute" "leastLost" "[I") (by decide +kernel)) (fun _ h => h) rfl dX4_rankLosses_34 ?_
      refine lv_aload hx hb dX4_rankLosses_37 (lv_at hl 0 rfl) ?_
      refine lv_aload_n hx hb dX4_rankLosses_39 rfl (lv_at hl 3 rfl) ?_
      refine wr_get (T := TX0) (N := 15) (ci := 3) (v := .int (x1.2 5 j)) hx hb hts hinX0 hown hK hH (lv_bx (show j < x1.1 1 0 by omega) hp1) (cel_bx (by omega)) rfl 2 (by decide) (hts (.fieldLink RX4 179 "SelectoRoute$Box" "taste" "I") (by decide +kernel)) (fun _ h => h) rfl dX4_rankLosses_40 ?_
      refine lv_aload_n hx hb dX4_rankLosses_43 rfl (lv_at hl 2 rfl) ?_
      refine wr_get (T := TX4) (N := 9) (ci := 6) (v := .int (nI (x1.1 9 0))) hx hb hts hinX4 hown hK hH lv_r0 (cel_rt (by omega)) rfl 5 (by decide) (hts (.fieldLink RX4 172 "SelectoRoute" "week" "I") (by decide +kernel)) (fun _ h => h) rfl dX4_rankLosses_44 ?_
      refine va_calli (va_runV (As := [.int (x1.2 5 j), .int (nI (x1.1 9 0))]) (rest := [.ref (g 6)]) ⟨hx, hb, hml, hown, hts⟩ (met_X3_pullFor l E o g x1 y (10 * j + n) (x1.2 5 j) (nI (x1.1 9 0)) (show (10 * j + n) < 10 * x1.1 1 0 by omega) hp1 hp0 (hd7 (10 * j + n))) (cwV 2 hts gX4_rankLosses_X3_pullFor rfl rfl rfl (by decide +kernel) ⟨Nat.le_of_ble_eq_true rfl, Nat.le_of_ble_eq_true rfl⟩) ⟨fun a U f mk q => ⟨q.1, wPre.calling q.2 a f mk⟩, (va_recv hK (wH_one hH (lv_sl (show (10 * j + n) < 10 * x1.1 1 0 by omega) hp1) cel_sl) (ci := 5) (q0 := 0) rfl rfl), fun U hU hW => ⟨rfl, wPre_at hz hS hH hK U hU hW⟩⟩ rfl rfl hl.1 rfl (lv_room (Nat.le_of_ble_eq_true rfl)) dX4_rankLosses_47 ⟨Nat.le_of_ble_eq_true rfl, Nat.le_of_ble_eq_true rfl⟩) hS (fun q _ h => h) (fun q h => h) (fun r u t H locs ht hvm hw hB hz1 hk1 hS => ?_)
      have hB := wHS_h ht hB
      try dsimp only at hw
      obtain rfl := hw
      have hH := hB
      refine lv_ineg hx hb dX4_rankLosses_50 ?_
      refine va_callv (va_runS (As := [.ref (g 6), .int (-(pS x1 (10 * j + n) (x1.2 5 j) (nI (x1.1 9 0))))]) (rest := []) ⟨hx, hb, hml, hown, hts⟩ (met_X4_rank_LL l E o g x1 y (-(pS x1 (10 * j + n) (x1.2 5 j) (nI (x1.1 9 0)))) hI1) (va_cwS 2 hts gX4_rankLosses_X4_rank rfl rfl rfl (by decide +kernel) ⟨Nat.le_of_ble_eq_true rfl, Nat.le_of_ble_eq_true rfl⟩) ⟨fun a U f mk q => ⟨q.1, wPre.calling q.2 a f mk⟩, fun U hU hW => ⟨rfl, wPre_at hz hS hH hK U hU hW⟩⟩ rfl rfl hl.1 rfl (lv_room (Nat.le_of_ble_eq_true rfl)) dX4_rankLosses_51 ⟨Nat.le_of_ble_eq_true rfl, Nat.le_of_ble_eq_true rfl⟩) hS (fun q _ h => h) (fun q h => h) (fun u t H locs ht hvm hw hB hz1 hk1 hS => ?_)
      have hB := wHS_h ht hB
      try dsimp only at hw
      have hH := hB
      obtain ⟨v1, ev1⟩ : ∃ y : Int32, y = (nI n) + 1 := ⟨_, rfl⟩
      refine lv_iinc (v := v1) (lv' := [(4, .int v1), (5, .ref (g (300 + (10 * j + n)))), (0, .ref (g 0)), (1, .ref (g (200 + j))), (2, .ref (g (210 + j))), (3, .int 10)]) hx hb dX4_rankLosses_54 hl (k := 1) rfl (by rw [ev1]; rfl) (by decide) rfl (fun ls hl => ?_)
      refine lv_goto (tgt := 21) hx hb dX4_rankLosses_57 (by decide) ?_
      have e9 : v1 = nI (n + 1) := by rw [ev1]; exact nI_1 n
      rw [e9] at hl
      exact ih (n + 1) (by omega) H locs ls (lv_sub hl [0, 2, 3, 4, 5] rfl) (by rw [fU_s, ← ex1]; unfold stRL; exact hH) hS
  exact loop 10 0 (by omega) H _ ls (lv_sub hl [0, 3, 4, 2, 1] rfl) (by rw [fU_0]; exact hH) hS
set_option maxHeartbeats 4000000 in
set_option maxRecDepth 100000 in
theorem met_X4_gainByBest (l : Launch) (E : wE) (o : wO) (g : Nat → Nat) (x y : St) (j mn : Nat) (hI : CI x) (hj : j < x.1 1 0) (hm : mn ≤ 3) : Met l yX4_gainByBest wsX4_gainByBest ({ frames := 4, cells := 0, slots := 0, locals := 500 } : Room) (va_Pc [.ref (g 0), .ref (g (200 + j)), .int (nI mn)] (wPre E o g x y)) (va_Qi (fun (r : Int32) (_ : Unit) => r = fU (stSm (wRL j (wRG j x))) 0 mn) (fun (_ : Unit) t => wHS E o g (wRL j (wRG j x)) y t.heap) (wA E)) 0 0 (wA E) := by
  refine Met.ofW (cc := cX4_gainByBest) (maxL := 5) (ret := (some .int)) (by decide) rfl ?_
  intro p e s m args below meth c s₁ B hml hv
  obtain ⟨rfl, hz, hH, hK⟩ := hv
  have hx := B.exec
  have hb := B.bytes
  have hr := B.returns
  have hts := atoms_spec (ws := wsX4_gainByBest) B.pre
  have hown : s.vm.findClass RX4 = some m.cls := findClass_of_methodNamed B.named
  have hlocks := B.notSynchronized
  have hS : va_S (wA E) s.heap s.heap [] := va_S.rf
  have hinX4 : ∀ w ∈ wsX40, w ∈ wsX4_gainByBest := fun w h => List.mem_cons_of_mem _ (List.mem_append_left _ (List.mem_append_left _ (List.mem_append_left _ (List.mem_append_left _ (List.mem_append_left _ (List.mem_append_right _ h))))))
  have hinX0 : ∀ w ∈ wsX00, w ∈ wsX4_gainByBest := fun w h => List.mem_cons_of_mem _ (List.mem_append_left _ (List.mem_append_left _ (List.mem_append_left _ (List.mem_append_left _ (List.mem_append_right _ h)))))
  have hinJx4a65c : ∀ w ∈ wsJx4a65c0, w ∈ wsX4_gainByBest := fun w h => List.mem_cons_of_mem _ (List.mem_append_left _ (List.mem_append_left _ (List.mem_append_left _ (List.mem_append_right _ h))))
  have hinX2 : ∀ w ∈ wsX20, w ∈ wsX4_gainByBest := fun w h => List.mem_cons_of_mem _ (List.mem_append_left _ (List.mem_append_left _ (List.mem_append_right _ h)))
  have hinX3 : ∀ w ∈ wsX30, w ∈ wsX4_gainByBest := fun w h => List.mem_cons_of_mem _ (List.mem_append_left _ (List.mem_append_right _ h))
  have hl := lv_entry ([.ref (g 0), .ref (g (200 + j)), .int (nI mn)]) (n := 5) (Nat.le_of_ble_eq_true rfl)
  rw [lg_entry_eq]
  generalize (lg_sl ([.ref (g 0), .ref (g (200 + j)), .int (nI mn)]) ++ List.replicate (5 - (lg_sl ([.ref (g 0), .ref (g (200 + j)), .int (nI mn)])).length) Slot.unset).toArray = ls at hl ⊢
  have hl : lv_has ls 5 [(0, .ref (g 0)), (1, .ref (g (200 + j))), (2, .int (nI mn))] := hl
  obtain ⟨H, eH⟩ : ∃ z, z = s.heap := ⟨_, rfl⟩
  have hH : wHS E o g x y H := by rw [eH]; exact hH
  have hS : va_S (wA E) s.heap H [] := by rw [eH]; exact hS
  refine W.heapTo eH ?_
  obtain ⟨hn0, hn1, hn2, hn3, hn4, hn5, hc7, hc8, hc5, hc54, hc4, hc50, hc9, hc12, hc10, hcj⟩ := id hI
  refine W.nameQ (fun Q eQ => ?_)
  refine lv_aload_n hx hb dX4_gainByBest_0 rfl (lv_at hl 0 rfl) ?_
  refine lv_aload_n hx hb dX4_gainByBest_1 rfl (lv_at hl 1 rfl) ?_
  refine va_callv (va_runV (As := [.ref (g (200 + j))]) (rest := []) ⟨hx, hb, hml, hown, hts⟩ (met_X4_rankGains l E o g x y j hI (show j < x.1 1 0 by omega)) (cwV 1 hts gX4_gainByBest_X4_rankGains rfl rfl rfl (by decide +kernel) ⟨Nat.le_of_ble_eq_true rfl, Nat.le_of_ble_eq_true rfl⟩) ⟨fun a U f mk q => ⟨q.1, wPre.calling q.2 a f mk⟩, (va_recv hK (wH_one hH lv_r0 (cel_rt (by omega))) (ci := 6) (q0 := 0) rfl rfl), fun U hU hW => ⟨rfl, wPre_at hz hS hH hK U hU hW⟩⟩ rfl rfl hl.1 rfl (lv_room (Nat.le_of_ble_eq_true rfl)) dX4_gainByBest_2 ⟨Nat.le_of_ble_eq_true rfl, Nat.le_of_ble_eq_true rfl⟩) hS (fun q _ h => h) (fun q h => h) (fun u t H locs ht hvm hw hB hz1 hk1 hS => ?_)
  have hB := wHS_h ht hB
  try dsimp only at hw
  have hH := hB
  refine lv_aload_n hx hb dX4_gainByBest_5 rfl (lv_at hl 0 rfl) ?_
  refine lv_aload_n hx hb dX4_gainByBest_6 rfl (lv_at hl 1 rfl) ?_
  refine va_callv (va_runV (As := [.ref (g (200 + j))]) (rest := []) ⟨hx, hb, hml, hown, hts⟩ (met_X4_rankLosses l E o g (wRG j x) y j (CI_I hI (wRG_1 j x).1 (wRG_1 j x).2) (by rw [(wRG_1 j x).1]; omega)) (cwV 1 hts gX4_gainByBest_X4_rankLosses rfl rfl rfl (by decide +kernel) ⟨Nat.le_of_ble_eq_true rfl, Nat.le_of_ble_eq_true rfl⟩) ⟨fun a U f mk q => ⟨q.1, wPre.calling q.2 a f mk⟩, (va_recv hK (wH_one hH lv_r0 (cel_rt (by omega))) (ci := 6) (q0 := 0) rfl rfl), fun U hU hW => ⟨rfl, wPre_at hz hS hH hK U hU hW⟩⟩ rfl rfl hl.1 rfl (lv_room (Nat.le_of_ble_eq_true rfl)) dX4_gainByBest_7 ⟨Nat.le_of_ble_eq_true rfl, Nat.le_of_ble_eq_true rfl⟩) hS (fun q _ h => h) (fun q h => h) (fun u t H locs ht hvm hw hB hz1 hk1 hS => ?_)
  have hB := wHS_h ht hB
  try dsimp only at hw
  have hH := hB
  refine lv_iconst (v := 0) hx hb dX4_gainByBest_10 (by decide) ?_
  refine lv_istore_n (lv' := [(3, .int 0), (0, .ref (g 0)), (1, .ref (g (200 + j))), (2, .int (nI mn))]) hx hb dX4_gainByBest_11 rfl hl (by decide) rfl (fun ls hl => ?_)
  refine lv_iconst (v := 0) hx hb dX4_gainByBest_12 (by decide) ?_
  refine lv_istore (lv' := [(4, .int 0), (3, .int 0), (0, .ref (g 0)), (1, .ref (g (200 + j))), (2, .int (nI mn))]) hx hb dX4_gainByBest_13 hl (by decide) rfl (fun ls hl => ?_)
  have loop : ∀ (k n : Nat), n + k = mn → ∀ (q : Int32), q = fU (stSm (wRL j (wRG j x))) 0 n → True → ∀ (H : Heap) (locs : List Loc) (ls : Array Slot), lv_has ls 5 [(3, .int q), (4, .int (nI n)), (0, .ref (g 0)), (1, .ref (g (200 + j))), (2, .int (nI mn))] → wHS E o g (wRL j (wRG j x)) y H → va_S (wA E) s.heap H locs → W p l e ({ frames := 4, cells := 0, slots := 0, locals := 500 } : Room) s m #[.ref (g 0), .ref (g (200 + j)), .int (nI mn)] below meth c H locs 0 0 Q (F0 m 15 ls []) := by
    intro k
    induction k with
    | zero =>
      intro n hn q hq hqb H locs ls hl hH hS
      obtain rfl : mn = n := by omega
      rw [hq] at hl
      try rw [hq] at hqb
      have hl : lv_has ls 5 [(3, .int (fU (stSm (wRL j (wRG j x))) 0 mn)), (4, .int (nI mn)), (0, .ref (g 0)), (1, .ref (g (200 + j))), (2, .int (nI mn))] := hl
      refine lv_iload hx hb dX4_gainByBest_15 (lv_at hl 1 rfl) ?_
      refine lv_iload_n hx hb dX4_gainByBest_17 rfl (lv_at hl 4 rfl) ?_
      refine lv_icmp_ge (tgt := 69) hx hb dX4_gainByBest_18 (by decide) (fun _ => ?_) (fun hq => absurd ((nI_leI (a := mn) (b := mn) (by omega) (by omega)).mpr (Nat.le_refl _)) hq)
      refine lv_iload_n hx hb dX4_gainByBest_69 rfl (lv_at hl 0 rfl) ?_
      rw [eQ]
      exact W.iret (v := (fU (stSm (wRL j (wRG j x))) 0 mn)) hx hb hr (fun t ht hW => ⟨⟨(fU (stSm (wRL j (wRG j x))) 0 mn), (), rfl, rfl, wHS_t ht hH⟩, hS.F ht⟩) hS.2.2 dX4_gainByBest_70
    | succ k ih =>
      intro n hn q hq hqb H locs ls hl hH hS
      have hlt : n < mn := by omega
      refine lv_iload hx hb dX4_gainByBest_15 (lv_at hl 1 rfl) ?_
      refine lv_iload_n hx hb dX4_gainByBest_17 rfl (lv_at hl 4 rfl) ?_
      refine lv_icmp_ge (tgt := 69) hx hb dX4_gainByBest_18 (by decide) (fun hq => absurd ((nI_leI (a := mn) (b := n) (by omega) (by omega)).mp hq) (Nat.not_le.mpr hlt)) (fun _ => ?_)
      refine lv_iload hx hb dX4_gainByBest_21 (lv_at hl 1 rfl) ?_
      refine lv_aload_n hx hb dX4_gainByBest_23 rfl (lv_at hl 2 rfl) ?_
      refine wr_get (T := TX4) (N := 9) (ci := 6) (v := .ref (g 5)) hx hb hts hinX4 hown hK hH lv_r0 (cel_rt (by omega)) rfl 2 (by decide) (hts (.fieldLink RX4 19 "SelectoRoute" "mostGained" "[I") (by decide +kernel)) (fun _ h => h) rfl dX4_gainByBest_24 ?_
      refine wr_alen (v := 3) hx hb hK hH lv_r5 (cel_rt (by omega)) 0 rfl rfl dX4_gainByBest_27 ?_
      refine lv_icmp_ge (tgt := 69) hx hb dX4_gainByBest_28 (by decide) (fun hq => absurd ((nI_leI (a := 3) (b := n) (by omega) (by omega)).mp hq) (Nat.not_le.mpr (show n < 3 by omega))) (fun _ => ?_)
      refine lv_iload hx hb dX4_gainByBest_31 (lv_at hl 1 rfl) ?_
      refine lv_aload_n hx hb dX4_gainByBest_33 rfl (lv_at hl 2 rfl) ?_
      refine wr_get (T := TX4) (N := 9) (ci := 6) (v := .ref (g 6)) hx hb hts hinX4 hown hK hH lv_r0 (cel_rt (by omega)) rfl 3 (by decide) (hts (.fieldLink RX4 23 "SelectoRoute" "leastLost" "[I") (by decide +kernel)) (fun _ h => h) rfl dX4_gainByBest_34 ?_
      refine wr_alen (v := 3) hx hb hK hH lv_r6 (cel_rt (by omega)) 0 rfl rfl dX4_gainByBest_37 ?_
      refine lv_icmp_ge (tgt := 69) hx hb dX4_gainByBest_38 (by decide) (fun hq => absurd ((nI_leI (a := 3) (b := n) (by omega) (by omega)).mp hq) (Nat.not_le.mpr (show n < 3 by omega))) (fun _ => ?_)
      refine lv_iload_n hx hb dX4_gainByBest_41 rfl (lv_at hl 0 rfl) ?_
      refine lv_aload_n hx hb dX4_gainByBest_42 rfl (lv_at hl 2 rfl) ?_
      refine wr_get (T := TX4) (N := 9) (ci := 6) (v := .ref (g 5)) hx hb hts hinX4 hown hK hH lv_r0 (cel_rt (by omega)) rfl 2 (by decide) (hts (.fieldLink RX4 19 "SelectoRoute" "mostGained" "[I") (by decide +kernel)) (fun _ h => h) rfl dX4_gainByBest_43 ?_
      refine lv_iload hx hb dX4_gainByBest_46 (lv_at hl 1 rfl) ?_
      refine wr_iald (v := ((wRL j (wRG j x)).2 24 n)) hx hb hK hH lv_r5 (cel_rt (by omega)) 0 rfl (vp_in_nI (n := n) (N := 3) (by omega) (by decide)) (by rw [(nI_clamp (n := n) (by omega))]; try rfl) dX4_gainByBest_48 ?_
      refine lv_aload_n hx hb dX4_gainByBest_49 rfl (lv_at hl 2 rfl) ?_
      refine wr_get (T := TX4) (N := 9) (ci := 6) (v := .ref (g 6)) hx hb hts hinX4 hown hK hH lv_r0 (cel_rt (by omega)) rfl 3 (by decide) (hts (.fieldLink RX4 23 "SelectoRoute" "leastLost" "[I") (by decide +kernel)) (fun _ h => h) rfl dX4_gainByBest_50 ?_
      refine lv_iload hx hb dX4_gainByBest_53 (lv_at hl 1 rfl) ?_
      refine wr_iald (v := ((wRL j (wRG j x)).2 25 n)) hx hb hK hH lv_r6 (cel_rt (by omega)) 0 rfl (vp_in_nI (n := n) (N := 3) (by omega) (by decide)) (by rw [(nI_clamp (n := n) (by omega))]; try rfl) dX4_gainByBest_55 ?_
      refine lv_iadd hx hb dX4_gainByBest_56 ?_
      refine lv_iconst (v := 0) hx hb dX4_gainByBest_57 (by decide) ?_
      refine va_mmax hx hb (hml.trans hl.1.symm) hown (hts (.methodLink RX4 309 Lib.Math.max.name) (by decide +kernel)) (hts (.static Lib.Math.max.name) (by decide +kernel)) (hts (.initialized "java/lang/Math") (by decide +kernel)) (hts (.code Lib.Math.max.name Lib.Math.max.code 2 (some .int)) (by decide +kernel)) (Nat.le_of_ble_eq_true rfl) (Nat.le_of_ble_eq_true rfl) (Nat.le_of_ble_eq_true rfl) (Nat.le_of_ble_eq_true rfl) dX4_gainByBest_58 ?_
      refine lv_iadd hx hb dX4_gainByBest_61 ?_
      refine lv_istore_n (lv' := [(3, .int (q + (if (((wRL j (wRG j x)).2 24 n) + ((wRL j (wRG j x)).2 25 n)) < 0 then 0 else (((wRL j (wRG j x)).2 24 n) + ((wRL j (wRG j x)).2 25 n))))), (4, .int (nI n)), (0, .ref (g 0)), (1, .ref (g (200 + j))), (2, .int (nI mn))]) hx hb dX4_gainByBest_62 rfl hl (by decide) rfl (fun ls hl => ?_)
      obtain ⟨v1, ev1⟩ : ∃ y : Int32, y = (nI n) + 1 := ⟨_, rfl⟩
      refine lv_iinc (v := v1) (lv' := [(4, .int v1), (3, .int (q + (if (((wRL j (wRG j x)).2 24 n) + ((wRL j (wRG j x)).2 25 n)) < 0 then 0 else (((wRL j (wRG j x)).2 24 n) + ((wRL j (wRG j x)).2 25 n))))), (0, .ref (g 0)), (1, .ref (g (200 + j))), (2, .int (nI mn))]) hx hb dX4_gainByBest_63 hl (k := 1) rfl (by rw [ev1]; rfl) (by decide) rfl (fun ls hl => ?_)
      refine lv_goto (tgt := 15) hx hb dX4_gainByBest_66 (by decide) ?_
      have e9 : v1 = nI (n + 1) := by rw [ev1]; exact nI_1 n
      rw [e9] at hl
      exact ih (n + 1) (by omega) (q + (if (((wRL j (wRG j x)).2 24 n) + ((wRL j (wRG j x)).2 25 n)) < 0 then 0 else (((wRL j (wRG j x)).2 24 n) + ((wRL j (wRG j x)).2 25 n)))) (by rw [fU_s, ← hq]; unfold stSm; try simp only [eq_self, ↓reduceIte, and_self, and_true, true_and, false_and, and_false]) trivial H locs ls (lv_sub hl [1, 0, 2, 3, 4] rfl) hH hS
  exact loop mn 0 (by omega) 0 rfl trivial H _ ls (lv_sub hl [1, 0, 2, 3, 4] rfl) hH hS
def cp_bestWorth (x : St) (b : Int32) (v : Int32) : Option String × Int32 × St := if inB b (x.1 1 0) = true then (if 0 ≤ v ∧ v ≤ 3 then (none, (fU (stSm (wRL (ix b) (wRG (ix b) x))) 0 (ix v)), (wRL (ix b) (wRG (ix b) x))) else (some "java/lang/IllegalArgumentException", 0, x)) else (some "java/lang/IndexOutOfBoundsException", 0, x)
set_option maxHeartbeats 4000000 in
set_option maxRecDepth 100000 in
theorem met_X4_bestWorth (l : Launch) (E : wE) (o : wO) (g : Nat → Nat) (x y : St) (b : Int32) (v : Int32) (hlt : l.stackTraces = false) (hI : CI x) : vx_Met l yX4_bestWorth wsX4_bestWorth ({ frames := 10, cells := 4, slots := 24, locals := 1100 } : Room) (va_Pc [.ref (g 0), .int b, .int v] (wPreX E o g x y)) (va_Qi (fun (r : Int32) (_ : Unit) => (cp_bestWorth x b v).1 = none ∧ r = (cp_bestWorth x b v).2.1) (fun (_ : Unit) t => wHS E o g (cp_bestWorth x b v).2.2 y t.heap) (wA E)) (wXC E o g x y (fun X => (cp_bestWorth x b v).1 = some X)) 4 24 (wA E) := by
  refine vx_ofW (cc := cX4_bestWorth) (maxL := 4) (ret := (some .int)) (by decide) rfl ?_
  intro p e s m args below meth c s₁ B hml hnt hv
  obtain ⟨rfl, ⟨hz, hH, hK⟩, hC⟩ := hv
  have hx := B.exec
  have hb := B.bytes
  have hr := B.returns
  have hts := atoms_spec (ws := wsX4_bestWorth) B.pre
  have hown : s.vm.findClass RX4 = some m.cls := findClass_of_methodNamed B.named
  have hlocks := B.notSynchronized
  have hS : va_S (wA E) s.heap s.heap [] := va_S.rf
  have hinX4 : ∀ w ∈ wsX40, w ∈ wsX4_bestWorth := fun w h => List.mem_cons_of_mem _ (List.mem_append_left _ (List.mem_append_left _ (List.mem_append_left _ (List.mem_append_left _ (List.mem_append_left _ (List.mem_append_left _ (List.mem_append_left _ (List.mem_append_right _ h))))))))
  have hinJx4a65c : ∀ w ∈ wsJx4a65c0, w ∈ wsX4_bestWorth := fun w h => List.mem_cons_of_mem _ (List.mem_append_left _ (List.mem_append_left _ (List.mem_append_left _ (List.mem_append_left _ (List.mem_append_left _ (List.mem_append_left _ (List.mem_append_right _ h)))))))
  have hinX0 : ∀ w ∈ wsX00, w ∈ wsX4_bestWorth := fun w h => List.mem_cons_of_mem _ (List.mem_append_left _ (List.mem_append_left _ (List.mem_append_left _ (List.mem_append_left _ (List.mem_append_left _ (List.mem_append_right _ h))))))
  have hinX2 : ∀ w ∈ wsX20, w ∈ wsX4_bestWorth := fun w h => List.mem_cons_of_mem _ (List.mem_append_left _ (List.mem_append_left _ (List.mem_append_left _ (List.mem_append_left _ (List.mem_append_right _ h)))))
  have hinX3 : ∀ w ∈ wsX30, w ∈ wsX4_bestWorth := fun w h => List.mem_cons_of_mem _ (List.mem_append_left _ (List.mem_append_left _ (List.mem_append_left _ (List.mem_append_right _ h))))
  have hl := lv_entry ([.ref (g 0), .int b, .int v]) (n := 4) (Nat.le_of_ble_eq_true rfl)
  rw [lg_entry_eq]
  generalize (lg_sl ([.ref (g 0), .int b, .int v]) ++ List.replicate (4 - (lg_sl ([.ref (g 0), .int b, .int v])).length) Slot.unset).toArray = ls at hl ⊢
  have hl : lv_has ls 4 [(0, .ref (g 0)), (1, .int b), (2, .int v)] := hl
  obtain ⟨H, eH⟩ : ∃ z, z = s.heap := ⟨_, rfl⟩
  have hH : wHS E o g x y H := by rw [eH]; exact hH
  have hS : va_S (wA E) s.heap H [] := by rw [eH]; exact hS
  refine W.heapTo eH ?_
  obtain ⟨hn0, hn1, hn2, hn3, hn4, hn5, hc7, hc8, hc5, hc54, hc4, hc50, hc9, hc12, hc10, hcj⟩ := id hI
  refine lv_aload_n hx hb dX4_bestWorth_0 rfl (lv_at hl 0 rfl) ?_
  refine lv_iload_n hx hb dX4_bestWorth_1 rfl (lv_at hl 1 rfl) ?_
  refine wx_callr (vx_runV (As := [.int b]) (rest := []) ⟨hx, hb, hml, hown, hts⟩ (met_X4_requireBox l E o g x y b hlt hI) (cwV 1 hts gX4_bestWorth_X4_requireBox rfl rfl rfl (by decide +kernel) ⟨Nat.le_of_ble_eq_true rfl, Nat.le_of_ble_eq_true rfl⟩) ⟨fun a U f mk q => ⟨q.1, wPreX.calling q.2 a f mk⟩, (va_recv hK (wH_one hH lv_r0 (cel_rt (by omega))) (ci := 6) (q0 := 0) rfl rfl), fun U hU hW => ⟨rfl, wPreX_at hz hS hH hK hC U hU hW⟩⟩ rfl rfl hl.1 rfl (lv_room (Nat.le_of_ble_eq_true rfl)) dX4_bestWorth_2 ⟨Nat.le_of_ble_eq_true rfl, Nat.le_of_ble_eq_true rfl⟩) hS (fun q _ h => h) (fun q h => h) (fun q _ h => h) (fun E9 ce q9 u t H locs ht hvm hw hB hz1 hk1 hS hce hcv hcl => ?_) (fun u ra t H locs ht hvm hw hB hz1 hk1 hS => ?_)
  · obtain ⟨⟨rfl, c1⟩, hB⟩ := hB
    have hH := wHS_h ht hB
    have hsp : cp_bestWorth x b v = (some "java/lang/IndexOutOfBoundsException", 0, x) := by
      unfold cp_bestWorth
      first | (simp only [(Bool.eq_false_iff.mp c1), ↓reduceIte, and_self, and_true, true_and, Bool.false_eq_true, reduceCtorEq, eq_self, false_and, and_false]; done) | (simp [(Bool.eq_false_iff.mp c1), ↓reduceIte, and_self, and_true, true_and, Bool.false_eq_true, reduceCtorEq, eq_self, false_and, and_false]; done) | simp only [(Bool.eq_false_iff.mp c1), ↓reduceIte, and_self, and_true, true_and, Bool.false_eq_true, reduceCtorEq, eq_self, false_and, and_false]
    exact vx_out (fun x h => (hnt x h).elim) hlocks hce hcv hcl (wX_on hS hH (by rw [hsp])) hS.2.2 (by omega) (by omega)
  · have c1 : inB b (x.1 1 0) = true := hw
    obtain ⟨jb, hjb, rfl⟩ := inB_t c1 (by omega)
    obtain ⟨rfl, hB⟩ := hB
    have hH := wHS_h ht hB
    rw [ix_nI (show jb < 2 ^ 31 by omega)]
    refine lv_astore_n (lv' := [(3, .ref (g (200 + jb))), (0, .ref (g 0)), (1, .int (nI jb)), (2, .int v)]) hx hb dX4_bestWorth_5 rfl hl (by decide) rfl (fun ls hl => ?_)
    refine lv_iload_n hx hb dX4_bestWorth_6 rfl (lv_at hl 3 rfl) ?_
    refine lv_iconst (v := 0) hx hb dX4_bestWorth_7 (by decide) ?_
    refine lv_iconst (v := 3) hx hb dX4_bestWorth_8 (by decide) ?_
    refine va_calli (va_runS (As := [.int v, .int 0, .int 3]) (rest := []) ⟨hx, hb, hml, hown, hts⟩ (met_X4_isWithin l E o g x y v 0 3) (va_cwS 3 hts gX4_bestWorth_X4_isWithin rfl rfl rfl (by decide +kernel) ⟨Nat.le_of_ble_eq_true rfl, Nat.le_of_ble_eq_true rfl⟩) ⟨fun a U f mk q => ⟨q.1, wPre.calling q.2 a f mk⟩, fun U hU hW => ⟨rfl, wPre_at hz hS hH hK U hU hW⟩⟩ rfl rfl hl.1 rfl (lv_room (Nat.le_of_ble_eq_true rfl)) dX4_bestWorth_9 ⟨Nat.le_of_ble_eq_true rfl, Nat.le_of_ble_eq_true rfl⟩) hS (fun q _ h => h) (fun q h => h) (fun r u t H locs ht hvm hw hB hz1 hk1 hS => ?_)
    have hB := wHS_h ht hB
    try dsimp only at hw
    have hH := hB
    rcases hw with ⟨rfl, c2⟩ | ⟨rfl, c2⟩
    · obtain ⟨jv, hjv, rfl⟩ := in_nat (n := 3) (by decide) c2
      refine lv_if_ne (tgt := 25) hx hb dX4_bestWorth_12 (by decide) (fun _ => ?_) (fun hq => absurd hq (show ¬ (1 : Int32) = 0 by decide))
      refine lv_aload_n hx hb dX4_bestWorth_25 rfl (lv_at hl 1 rfl) ?_
      refine lv_aload_n hx hb dX4_bestWorth_26 rfl (lv_at hl 0 rfl) ?_
      refine lv_iload_n hx hb dX4_bestWorth_27 rfl (lv_at hl 3 rfl) ?_
      refine va_calli (va_runV (As := [.ref (g (200 + jb)), .int (nI jv)]) (rest := []) ⟨hx, hb, hml, hown, hts⟩ (met_X4_gainByBest l E o g x y jb jv (CI_I hI) (show jb < x.1 1 0 by omega) (by omega)) (cwV 2 hts gX4_bestWorth_X4_gainByBest rfl rfl rfl (by decide +kernel) ⟨Nat.le_of_ble_eq_true rfl, Nat.le_of_ble_eq_true rfl⟩) ⟨fun a U f mk q => ⟨q.1, wPre.calling q.2 a f mk⟩, (va_recv hK (wH_one hH lv_r0 (cel_rt (by omega))) (ci := 6) (q0 := 0) rfl rfl), fun U hU hW => ⟨rfl, wPre_at hz hS hH hK U hU hW⟩⟩ rfl rfl hl.1 rfl (lv_room (Nat.le_of_ble_eq_true rfl)) dX4_bestWorth_28 ⟨Nat.le_of_ble_eq_true rfl, Nat.le_of_ble_eq_true rfl⟩) hS (fun q _ h => h) (fun q h => h) (fun r u t H locs ht hvm hw hB hz1 hk1 hS => ?_)
      have hB := wHS_h ht hB
      try dsimp only at hw
      obtain rfl := hw
      have hH := hB
      have hsp : cp_bestWorth x (nI jb) (nI jv) = (none, (fU (stSm (wRL jb (wRG jb x))) 0 jv), (wRL jb (wRG jb x))) := by
        unfold cp_bestWorth
        first | (simp only [c1, c2, inB_nI hjb (by omega), ix_nI (show jb < 2 ^ 31 by omega), inB_nI hjv (by omega), ix_nI (show jv < 2 ^ 31 by omega), ↓reduceIte, and_self, and_true, true_and, Bool.false_eq_true, reduceCtorEq, eq_self, false_and, and_false]; done) | (simp [c1, c2, inB_nI hjb (by omega), ix_nI (show jb < 2 ^ 31 by omega), inB_nI hjv (by omega), ix_nI (show jv < 2 ^ 31 by omega), ↓reduceIte, and_self, and_true, true_and, Bool.false_eq_true, reduceCtorEq, eq_self, false_and, and_false]; done) | simp only [c1, c2, inB_nI hjb (by omega), ix_nI (show jb < 2 ^ 31 by omega), inB_nI hjv (by omega), ix_nI (show jv < 2 ^ 31 by omega), ↓reduceIte, and_self, and_true, true_and, Bool.false_eq_true, reduceCtorEq, eq_self, false_and, and_false]
      have hx0 : (cp_bestWorth x (nI jb) (nI jv)).1 = none := by rw [hsp]
      have hx1 : (cp_bestWorth x (nI jb) (nI jv)).2.1 = (fU (stSm (wRL jb (wRG jb x))) 0 jv) := by rw [hsp]
      have hx2 : (cp_bestWorth x (nI jb) (nI jv)).2.2 = (wRL jb (wRG jb x)) := by rw [hsp]
      refine vx_ret ?_
      refine W.widen (k := 4) (n := 24) (by omega) (by omega) ?_
      exact W.iret (v := (fU (stSm (wRL jb (wRG jb x))) 0 jv)) hx hb hr (fun t ht hW => ⟨⟨(fU (stSm (wRL jb (wRG jb x))) 0 jv), (), rfl, ⟨hx0, hx1.symm⟩, wHS_t ht (by rw [hx2]; exact hH)⟩, hS.F ht⟩) hS.2.2 dX4_bestWorth_31
    · skip
      refine lv_if_ne (tgt := 25) hx hb dX4_bestWorth_12 (by decide) (fun hq => absurd (show (0 : Int32) = 0 by decide) hq) (fun _ => ?_)
      have hsp : cp_bestWorth x (nI jb) v = (some "java/lang/IllegalArgumentException", 0, x) := by
        unfold cp_bestWorth
        first | (simp only [c1, c2, inB_nI hjb (by omega), ix_nI (show jb < 2 ^ 31 by omega), ↓reduceIte, and_self, and_true, true_and, Bool.false_eq_true, reduceCtorEq, eq_self, false_and, and_false]; done) | (simp [c1, c2, inB_nI hjb (by omega), ix_nI (show jb < 2 ^ 31 by omega), ↓reduceIte, and_self, and_true, true_and, Bool.false_eq_true, reduceCtorEq, eq_self, false_and, and_false]; done) | simp only [c1, c2, inB_nI hjb (by omega), ix_nI (show jb < 2 ^ 31 by omega), ↓reduceIte, and_self, and_true, true_and, Bool.false_eq_true, reduceCtorEq, eq_self, false_and, and_false]
      obtain ⟨sa, hsa⟩ := hC.2.2.1 (253, "so many changes are out of range") (by decide +kernel)
      exact vx_throwS (A := wA E) (names := ["java/lang/RuntimeException", "java/lang/Exception"]) hx hb hlt hown (by decide +kernel) (by decide +kernel) (hts (.classLink RX4 37 "java/lang/IllegalArgumentException") (by decide +kernel)) (hts (.initialized "java/lang/IllegalArgumentException") (by decide +kernel)) hsa (hat_xA hts (fun w h => List.mem_cons_of_mem _ (List.mem_append_left _ (List.mem_append_left _ (List.mem_append_right _ h)))) hC) (by decide +kernel) hC.1 hC.2.1 (by rw [← eH] at *; exact hS) (hl.1.trans hml.symm) dX4_bestWorth_15 dX4_bestWorth_18 dX4_bestWorth_19 dX4_bestWorth_21 dX4_bestWorth_24 (fun x h => (hnt x h).elim) (Nat.lt_of_lt_of_le (by decide : 2 + 3 < 6) (Nat.le_of_ble_eq_true rfl)) (Nat.le_of_ble_eq_true rfl) (Nat.le_of_ble_eq_true rfl) (Nat.le_of_ble_eq_true rfl) hlocks (wX_of hS hH (by rw [hsp])) hS.2.2 (by omega) (by omega)
