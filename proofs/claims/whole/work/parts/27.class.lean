/-! ===== the class: changes of discs ===== -/
theorem up_up {α : Type} (F : Nat → α) (t : Nat) (a b : α) : va_up (va_up F t a) t b = va_up F t b := by
  funext z
  simp only [va_up]
  split <;> rfl
theorem pd_6 {E : wE} {o : wO} {g : Nat → Nat} {x y : St} {H : Heap} {d : Nat} (hd : d < 100) (hp : ¬ x.1 8 d < 2) (h : wH E.1 E.2.2 g (liv x.1) (va_up (cel E.2.1 g x y o.1 o.2) (100 + d) (.inr (4, [.int (nI d), .int (nI (x.1 12 d)), .int (x.2 1 d), .int (x.2 2 d), .int (x.2 3 d), .int (if x.1 8 d = 0 then 1 else 0), .null, .int (if x.1 8 d < 2 then x.2 23 d else nI ((x.1 8 d - 2) % 10))]))) H) : wHS E o g (uI (uN x 8 d 1) 23 d (nI ((x.1 8 d - 2) % 10))) y H :=
  wH_to h (fun _ h => h) (by have h0 : ¬ x.1 8 d = 0 := by omega
                             rw [cel_di hd]; simp [cDi, uN, uI, va_up, hp, h0]) (cel_cg (100 + d) (fun t _ _ => rfl) (fun i hi => by have hij : i ≠ d := (by omega); simp [cDi, uN, uI, va_up, hij]) (fun _ _ => rfl) (fun _ _ => rfl) (fun i _ => by show cQa _ _ (uN x 8 d 1) i = _; exact cQa_N (by decide) (by decide) (by decide)) (fun i _ _ => by show cAs _ (uI x 23 d (nI ((x.1 8 d - 2) % 10))) i = _; exact cAs_I (by decide)) (fun _ _ => rfl))
theorem pd_67 {E : wE} {o : wO} {g : Nat → Nat} {x y : St} {H : Heap} {d j k : Nat} {c1 : va_E} (hd : d < 100) (hk : k < 10) (h : wH E.1 E.2.2 g (liv x.1) (va_up (va_up (cel E.2.1 g x y o.1 o.2) (100 + d) c1) (100 + d) (.inr (4, [.int (nI d), .int (nI (x.1 12 d)), .int (x.2 1 d), .int (x.2 2 d), .int (x.2 3 d), .int 0, .ref (g (200 + j)), .int (nI k)]))) H) : wHS E o g (uN x 8 d (2 + (10 * j + k))) y H := by
  rw [up_up] at h
  exact wH_to h (fun _ h => h) (by
    have h1 : (10 * j + k) / 10 = j := by omega
    have h2 : (10 * j + k) % 10 = k := by omega
    have h3 : ¬ (2 + (10 * j + k) < 2) := by omega
    have h4 : ¬ (2 + (10 * j + k) = 0) := by omega
    have h5 : 2 + (10 * j + k) - 2 = 10 * j + k := by omega
    rw [cel_di hd]; first | done | simp only [cDi, uN, va_up, ↓reduceIte, h1, h2, h3, h4, h5, (by decide : ¬ ((12 : Nat) = 8))]) (cel_cg (100 + d) (fun t _ _ => rfl) (fun i hi => by have hij : i ≠ d := (by omega); simp [cDi, uN, va_up, hij]) (fun _ _ => rfl) (fun _ _ => rfl) (fun _ _ => by first | rfl | exact cQa_N (by decide) (by decide) (by decide)) (fun _ _ _ => by first | rfl | exact cAs_I (by decide) | exact cAs_F (by decide)) (fun _ _ => rfl))
/-- the disc of the slot a goes to the van -/
def sw0 (x : St) (a : Nat) : St := if x.1 7 a = 0 then x else uI (uN x 8 (x.1 7 a - 1) 1) 23 (x.1 7 a - 1) (nI ((x.1 8 (x.1 7 a - 1) - 2) % 10))
def sw1 (x : St) (a v : Nat) : St := uI (uN (sw0 x a) 7 a v) 14 a 0
/-- what lies in slots and what stands at discs is one thing -/
def CJ (x : St) : Prop := ∀ a d, x.1 7 a = d + 1 → x.1 8 d = 2 + a
theorem CJ.not {x : St} (h : CJ x) {a : Nat} (c : ¬ x.1 7 a = 0) : ¬ x.1 8 (x.1 7 a - 1) < 2 := by
  have q := h a (x.1 7 a - 1) (by omega)
  omega
set_option maxHeartbeats 4000000 in
set_option maxRecDepth 100000 in
theorem met_X0_forget (l : Launch) (E : wE) (o : wO) (g : Nat → Nat) (x y : St) (j so : Nat) (hn1 : x.1 1 0 ≤ 4) (hj : j < x.1 1 0) (hso : so < 100) : Met l yX0_forget wsX0_forget ({ frames := 0, cells := 0, slots := 0, locals := 0 } : Room) (va_Pc [.ref (g (200 + j)), .int (nI so)] (wPre E o g x y)) (va_Qv (fun (_ : Unit) => True) (fun (_ : Unit) t => wHS E o g (uI x (100 + j) so 0) y t.heap) (wA E)) 0 0 (wA E) := by
  refine Met.ofW (cc := cX0_forget) (maxL := 2) (ret := none) (by decide) rfl ?_
  intro p e s m args below meth c s₁ B hml hv
  obtain ⟨rfl, hz, hH, hK⟩ := hv
  have hx := B.exec
  have hb := B.bytes
  have hr := B.returns
  have hts := atoms_spec (ws := wsX0_forget) B.pre
  have hown : s.vm.findClass RX0 = some m.cls := findClass_of_methodNamed B.named
  have hlocks := B.notSynchronized
  have hS : va_S (wA E) s.heap s.heap [] := va_S.rf
  have hinX0 : ∀ w ∈ wsX00, w ∈ wsX0_forget := fun w h => List.mem_cons_of_mem _ (List.mem_append_left _ (List.mem_append_right _ h))
  have hl := lv_entry ([.ref (g (200 + j)), .int (nI so)]) (n := 2) (Nat.le_of_ble_eq_true rfl)
  rw [lg_entry_eq]
  generalize (lg_sl ([.ref (g (200 + j)), .int (nI so)]) ++ List.replicate (2 - (lg_sl ([.ref (g (200 + j)), .int (nI so)])).length) Slot.unset).toArray = ls at hl ⊢
  have hl : lv_has ls 2 [(0, .ref (g (200 + j))), (1, .int (nI so))] := hl
  obtain ⟨H, eH⟩ : ∃ z, z = s.heap := ⟨_, rfl⟩
  have hH : wHS E o g x y H := by rw [eH]; exact hH
  have hS : va_S (wA E) s.heap H [] := by rw [eH]; exact hS
  refine W.heapTo eH ?_
  refine lv_iload_n hx hb dX0_forget_0 rfl (lv_at hl 1 rfl) ?_
  refine lv_if_lt (tgt := 20) hx hb dX0_forget_1 (by decide) (fun hq => absurd ((nI_ltI (a := so) (b := 0) (by omega) (by omega)).mp hq) (Nat.not_lt_zero _)) (fun _ => ?_)
  refine lv_iload_n hx hb dX0_forget_4 rfl (lv_at hl 1 rfl) ?_
  refine lv_aload_n hx hb dX0_forget_5 rfl (lv_at hl 0 rfl) ?_
  refine wr_get (T := TX0) (N := 15) (ci := 3) (v := .ref (g (240 + j))) hx hb hts hinX0 hown hK hH (lv_bx (show j < x.1 1 0 by omega) hn1) (cel_bx (by omega)) rfl 5 (by decide) (hts (.fieldLink RX0 24 "SelectoRoute$Box" "asked" "[I") (by decide +kernel)) (fun _ h => h) rfl dX0_forget_6 ?_
  refine wr_alen (v := 100) hx hb hK hH (lv_as (show j < x.1 1 0 by omega) hn1) (cel_as (by omega)) 0 rfl rfl dX0_forget_9 ?_
  refine lv_icmp_ge (tgt := 20) hx hb dX0_forget_10 (by decide) (fun hq => absurd ((nI_leI (a := 100) (b := so) (by omega) (by omega)).mp hq) (Nat.not_le.mpr hso)) (fun _ => ?_)
  refine lv_aload_n hx hb dX0_forget_13 rfl (lv_at hl 0 rfl) ?_
  refine wr_get (T := TX0) (N := 15) (ci := 3) (v := .ref (g (240 + j))) hx hb hts hinX0 hown hK hH (lv_bx (show j < x.1 1 0 by omega) hn1) (cel_bx (by omega)) rfl 5 (by decide) (hts (.fieldLink RX0 24 "SelectoRoute$Box" "asked" "[I") (by decide +kernel)) (fun _ h => h) rfl dX0_forget_14 ?_
  refine lv_iload_n hx hb dX0_forget_17 rfl (lv_at hl 1 rfl) ?_
  refine lv_iconst (v := 0) hx hb dX0_forget_18 (by decide) ?_
  refine wr_iast hx hb hK hH hS (lv_as (show j < x.1 1 0 by omega) hn1) (cel_as (by omega)) 0 rfl (vp_in_nI (n := so) (N := 100) (by omega) (by decide)) dX0_forget_19 (fun H locs hH hS => ?_)
  have hH : wHS E o g (uI x (100 + j) so 0) y H := pa_as1 (v := 0) (nI_clamp (n := so) (by omega)) (by omega) hH
  exact W.vret hx hb hr (fun t ht hW => ⟨⟨(), rfl, trivial, wHS_t ht hH⟩, hS.F ht⟩) hS.2.2 dX0_forget_20
set_option maxHeartbeats 4000000 in
set_option maxRecDepth 100000 in
theorem met_X0_swap_n (l : Launch) (E : wE) (o : wO) (g : Nat → Nat) (x y : St) (j k a : Nat) (hI : CI x) (hJ : CJ x) (hj : j < x.1 1 0) (hk : k < 10) (hak : a = 10 * j + k) : Met l yX0_swap wsX0_swap ({ frames := 1, cells := 0, slots := 0, locals := 100 } : Room) (va_Pc [.ref (g (200 + j)), .ref (g (300 + a)), .null] (wPre E o g x y)) (va_Qq (fun (r : Option Nat) (_ : Unit) => r = if x.1 7 a = 0 then none else some (g (100 + (x.1 7 a - 1)))) (fun (_ : Unit) t => wHS E o g (sw1 x a 0) y t.heap) (wA E)) 0 0 (wA E) := by
  refine Met.ofW (cc := cX0_swap) (maxL := 4) (ret := (some (.object "SelectoRoute$Disc"))) (by decide) rfl ?_
  intro p e s m args below meth c s₁ B hml hv
  obtain ⟨rfl, hz, hH, hK⟩ := hv
  have hx := B.exec
  have hb := B.bytes
  have hr := B.returns
  have hts := atoms_spec (ws := wsX0_swap) B.pre
  have hown : s.vm.findClass RX0 = some m.cls := findClass_of_methodNamed B.named
  have hlocks := B.notSynchronized
  have hS : va_S (wA E) s.heap s.heap [] := va_S.rf
  have hinX3 : ∀ w ∈ wsX30, w ∈ wsX0_swap := fun w h => List.mem_cons_of_mem _ (List.mem_append_left _ (List.mem_append_left _ (List.mem_append_left _ (List.mem_append_right _ h))))
  have hinX2 : ∀ w ∈ wsX20, w ∈ wsX0_swap := fun w h => List.mem_cons_of_mem _ (List.mem_append_left _ (List.mem_append_left _ (List.mem_append_right _ h)))
  have hinX0 : ∀ w ∈ wsX00, w ∈ wsX0_swap := fun w h => List.mem_cons_of_mem _ (List.mem_append_left _ (List.mem_append_right _ h))
  have hl := lv_entry ([.ref (g (200 + j)), .ref (g (300 + a)), .null]) (n := 4) (Nat.le_of_ble_eq_true rfl)
  rw [lg_entry_eq]
  generalize (lg_sl ([.ref (g (200 + j)), .ref (g (300 + a)), .null]) ++ List.replicate (4 - (lg_sl ([.ref (g (200 + j)), .ref (g (300 + a)), .null])).length) Slot.unset).toArray = ls at hl ⊢
  have hl : lv_has ls 4 [(0, .ref (g (200 + j))), (1, .ref (g (300 + a))), (2, .null)] := hl
  obtain ⟨H, eH⟩ : ∃ z, z = s.heap := ⟨_, rfl⟩
  have hH : wHS E o g x y H := by rw [eH]; exact hH
  have hS : va_S (wA E) s.heap H [] := by rw [eH]; exact hS
  refine W.heapTo eH ?_
  obtain ⟨hn0, hn1, hn2, hn3, hn4, hn5, hc7, hc8, hc5, hc54, hc4, hc50, hc9, hc12, hc10, hcj⟩ := id hI
  refine lv_aload_n hx hb dX0_swap_0 rfl (lv_at hl 1 rfl) ?_
  have q7 := hc7 a
  by_cases c1 : (x.1 7 a) = 0
  · skip
    refine wr_get (T := TX3) (N := 3) (ci := 5) (v := .null) hx hb hts hinX3 hown hK hH (lv_sl (show a < 10 * x.1 1 0 by omega) hn1) cel_sl rfl 1 (by decide) (hts (.fieldLink RX0 52 "SelectoRoute$Slot" "disc" "LSelectoRoute$Disc;") (by decide +kernel)) (fun _ h => h) (congrArg some (if_pos c1)) dX0_swap_1 ?_
    refine lv_astore_nN (lv' := [(3, .null), (0, .ref (g (200 + j))), (1, .ref (g (300 + a))), (2, .null)]) hx hb dX0_swap_4 rfl hl (by decide) rfl (fun ls hl => ?_)
    refine lv_aload_nN hx hb dX0_swap_5 rfl (lv_at hl 0 rfl) ?_
    refine lv_ifnullN (tgt := 14) hx hb dX0_swap_6 (by decide) ?_
    refine lv_aload_n hx hb dX0_swap_14 rfl (lv_at hl 2 rfl) ?_
    refine lv_aload_nN hx hb dX0_swap_15 rfl (lv_at hl 3 rfl) ?_
    have hH : wHS E o g (sw0 x a) y H := by unfold sw0; rw [if_pos c1]; exact hH
    have hs1 : (sw0 x a).1 1 0 = x.1 1 0 := by unfold sw0; split <;> rfl
    have hs0 : (sw0 x a).1 0 0 = x.1 0 0 := by unfold sw0; split <;> rfl
    refine wr_put (T := TX3) (N := 3) (ci := 5) (v := .null) hx hb hts hinX3 tyX3 tyX3_ok nmX3 hown hK hH hS (lv_sl (by rw [(show (sw0 x a).1 1 0 = x.1 1 0 by simp only [sw1, sw0, uI, uN]; split <;> rfl)]; omega) (by rw [(show (sw0 x a).1 1 0 = x.1 1 0 by simp only [sw1, sw0, uI, uN]; split <;> rfl)]; exact hn1)) cel_sl rfl 1 (by decide) (hts (.fieldLink RX0 52 "SelectoRoute$Slot" "disc" "LSelectoRoute$Disc;") (by decide +kernel)) (fun _ h => h) rfl (ty := (.object "SelectoRoute$Disc")) (by decide +kernel) rfl rfl (Nat.le_of_ble_eq_true rfl) dX0_swap_16 (fun H locs hH hS => ?_)
    have hH : wHS E o g (uN (sw0 x a) 7 a 0) y H := ps_1 (v := 0) hH
    refine lv_aload_n hx hb dX0_swap_19 rfl (lv_at hl 2 rfl) ?_
    refine lv_iconst (v := 0) hx hb dX0_swap_20 (by decide) ?_
    refine wr_put (T := TX3) (N := 3) (ci := 5) (v := .int 0) hx hb hts hinX3 tyX3 tyX3_ok nmX3 hown hK hH hS (lv_sl (by rw [(show (uN (sw0 x a) 7 a 0).1 1 0 = x.1 1 0 by simp only [sw1, sw0, uI, uN]; split <;> rfl)]; omega) (by rw [(show (uN (sw0 x a) 7 a 0).1 1 0 = x.1 1 0 by simp only [sw1, sw0, uI, uN]; split <;> rfl)]; exact hn1)) cel_sl rfl 2 (by decide) (hts (.fieldLink RX0 75 "SelectoRoute$Slot" "wheel" "I") (by decide +kernel)) (fun _ h => h) rfl (ty := .int) (by decide +kernel) rfl rfl (Nat.le_of_ble_eq_true rfl) dX0_swap_21 (fun H locs hH hS => ?_)
    have hH : wHS E o g (sw1 x a 0) y H := ps_2 hH
    refine lv_aload_nN hx hb dX0_swap_24 rfl (lv_at hl 3 rfl) ?_
    refine lv_ifnullN (tgt := 49) hx hb dX0_swap_25 (by decide) ?_
    refine lv_aload_nN hx hb dX0_swap_49 rfl (lv_at hl 0 rfl) ?_
    exact W.aret (v := .null) hx hb hr (Or.inl ⟨_, rfl⟩) (Or.inl rfl) (fun t ht hW => ⟨⟨none, (), rfl, (by rw [if_pos c1]), wHS_t ht hH⟩, hS.F ht⟩) hS.2.2 dX0_swap_50
  · skip
    refine wr_get (T := TX3) (N := 3) (ci := 5) (v := .ref (g (100 + ((x.1 7 a) - 1)))) hx hb hts hinX3 hown hK hH (lv_sl (show a < 10 * x.1 1 0 by omega) hn1) cel_sl rfl 1 (by decide) (hts (.fieldLink RX0 52 "SelectoRoute$Slot" "disc" "LSelectoRoute$Disc;") (by decide +kernel)) (fun _ h => h) (congrArg some (if_neg c1)) dX0_swap_1 ?_
    refine lv_astore_n (lv' := [(3, .ref (g (100 + ((x.1 7 a) - 1)))), (0, .ref (g (200 + j))), (1, .ref (g (300 + a))), (2, .null)]) hx hb dX0_swap_4 rfl hl (by decide) rfl (fun ls hl => ?_)
    refine lv_aload_n hx hb dX0_swap_5 rfl (lv_at hl 0 rfl) ?_
    refine lv_ifnull hx hb dX0_swap_6 ?_
    refine lv_aload_n hx hb dX0_swap_9 rfl (lv_at hl 0 rfl) ?_
    refine lv_null hx hb dX0_swap_10 ?_
    refine wr_put (T := TX2) (N := 8) (ci := 4) (v := .null) hx hb hts hinX2 tyX2 tyX2_ok nmX2 hown hK hH hS (lv_di (show ((x.1 7 a) - 1) < x.1 0 0 by have q0 := hc7 a; omega) hn0) (cel_di (by omega)) rfl 6 (by decide) (hts (.fieldLink RX0 97 "SelectoRoute$Disc" "box" "LSelectoRoute$Box;") (by decide +kernel)) (fun _ h => h) rfl (ty := (.object "SelectoRoute$Box")) (by decide +kernel) rfl rfl (Nat.le_of_ble_eq_true rfl) dX0_swap_11 (fun H locs hH hS => ?_)
    have hH := pd_6 (by omega) (hJ.not c1) hH
    have hH : wHS E o g (sw0 x a) y H := by unfold sw0; rw [if_neg c1]; exact hH
    refine lv_aload_n hx hb dX0_swap_14 rfl (lv_at hl 2 rfl) ?_
    refine lv_aload_nN hx hb dX0_swap_15 rfl (lv_at hl 3 rfl) ?_
    have hs1 : (sw0 x a).1 1 0 = x.1 1 0 := by unfold sw0; split <;> rfl
    have hs0 : (sw0 x a).1 0 0 = x.1 0 0 := by unfold sw0; split <;> rfl
    refine wr_put (T := TX3) (N := 3) (ci := 5) (v := .null) hx hb hts hinX3 tyX3 tyX3_ok nmX3 hown hK hH hS (lv_sl (by rw [(show (sw0 x a).1 1 0 = x.1 1 0 by simp only [sw1, sw0, uI, uN]; split <;> rfl)]; omega) (by rw [(show (sw0 x a).1 1 0 = x.1 1 0 by simp only [sw1, sw0, uI, uN]; split <;> rfl)]; exact hn1)) cel_sl rfl 1 (by decide) (hts (.fieldLink RX0 52 "SelectoRoute$Slot" "disc" "LSelectoRoute$Disc;") (by decide +kernel)) (fun _ h => h) rfl (ty := (.object "SelectoRoute$Disc")) (by decide +kernel) rfl rfl (Nat.le_of_ble_eq_true rfl) dX0_swap_16 (fun H locs hH hS => ?_)
    have hH : wHS E o g (uN (sw0 x a) 7 a 0) y H := ps_1 (v := 0) hH
    refine lv_aload_n hx hb dX0_swap_19 rfl (lv_at hl 2 rfl) ?_
    refine lv_iconst (v := 0) hx hb dX0_swap_20 (by decide) ?_
    refine wr_put (T := TX3) (N := 3) (ci := 5) (v := .int 0) hx hb hts hinX3 tyX3 tyX3_ok nmX3 hown hK hH hS (lv_sl (by rw [(show (uN (sw0 x a) 7 a 0).1 1 0 = x.1 1 0 by simp only [sw1, sw0, uI, uN]; split <;> rfl)]; omega) (by rw [(show (uN (sw0 x a) 7 a 0).1 1 0 = x.1 1 0 by simp only [sw1, sw0, uI, uN]; split <;> rfl)]; exact hn1)) cel_sl rfl 2 (by decide) (hts (.fieldLink RX0 75 "SelectoRoute$Slot" "wheel" "I") (by decide +kernel)) (fun _ h => h) rfl (ty := .int) (by decide +kernel) rfl rfl (Nat.le_of_ble_eq_true rfl) dX0_swap_21 (fun H locs hH hS => ?_)
    have hH : wHS E o g (sw1 x a 0) y H := ps_2 hH
    refine lv_aload_nN hx hb dX0_swap_24 rfl (lv_at hl 3 rfl) ?_
    refine lv_ifnullN (tgt := 49) hx hb dX0_swap_25 (by decide) ?_
    refine lv_aload_n hx hb dX0_swap_49 rfl (lv_at hl 0 rfl) ?_
    exact W.aret (v := .ref (g (100 + ((x.1 7 a) - 1)))) hx hb hr (Or.inl ⟨_, rfl⟩) (Or.inr ⟨_, rfl⟩) (fun t ht hW => ⟨⟨some (g (100 + ((x.1 7 a) - 1))), (), rfl, (by rw [if_neg c1]), wHS_t ht hH⟩, hS.F ht⟩) hS.2.2 dX0_swap_50
set_option maxHeartbeats 4000000 in
set_option maxRecDepth 100000 in
theorem met_X0_swap_d (l : Launch) (E : wE) (o : wO) (g : Nat → Nat) (x y : St) (j k a d : Nat) (hI : CI x) (hJ : CJ x) (hj : j < x.1 1 0) (hk : k < 10) (hak : a = 10 * j + k) (hd : d < x.1 0 0) (hd1 : x.1 8 d = 1) : Met l yX0_swap wsX0_swap ({ frames := 1, cells := 0, slots := 0, locals := 100 } : Room) (va_Pc [.ref (g (200 + j)), .ref (g (300 + a)), .ref (g (100 + d))] (wPre E o g x y)) (va_Qq (fun (r : Option Nat) (_ : Unit) => r = if x.1 7 a = 0 then none else some (g (100 + (x.1 7 a - 1)))) (fun (_ : Unit) t => wHS E o g (uI (uN (sw1 x a (d + 1)) 8 d (2 + a)) (100 + j) (x.1 12 d) 0) y t.heap) (wA E)) 0 0 (wA E) := by
  refine Met.ofW (cc := cX0_swap) (maxL := 4) (ret := (some (.object "SelectoRoute$Disc"))) (by decide) rfl ?_
  intro p e s m args below meth c s₁ B hml hv
  obtain ⟨rfl, hz, hH, hK⟩ := hv
  have hx := B.exec
  have hb := B.bytes
  have hr := B.returns
  have hts := atoms_spec (ws := wsX0_swap) B.pre
  have hown : s.vm.findClass RX0 = some m.cls := findClass_of_methodNamed B.named
  have hlocks := B.notSynchronized
  have hS : va_S (wA E) s.heap s.heap [] := va_S.rf
  have hinX3 : ∀ w ∈ wsX30, w ∈ wsX0_swap := fun w h => List.mem_cons_of_mem _ (List.mem_append_left _ (List.mem_append_left _ (List.mem_append_left _ (List.mem_append_right _ h))))
  have hinX2 : ∀ w ∈ wsX20, w ∈ wsX0_swap := fun w h => List.mem_cons_of_mem _ (List.mem_append_left _ (List.mem_append_left _ (List.mem_append_right _ h)))
  have hinX0 : ∀ w ∈ wsX00, w ∈ wsX0_swap := fun w h => List.mem_cons_of_mem _ (List.mem_append_left _ (List.mem_append_right _ h))
  have hl := lv_entry ([.ref (g (200 + j)), .ref (g (300 + a)), .ref (g (100 + d))]) (n := 4) (Nat.le_of_ble_eq_true rfl)
  rw [lg_entry_eq]
  generalize (lg_sl ([.ref (g (200 + j)), .ref (g (300 + a)), .ref (g (100 + d))]) ++ List.replicate (4 - (lg_sl ([.ref (g (200 + j)), .ref (g (300 + a)), .ref (g (100 + d))])).length) Slot.unset).toArray = ls at hl ⊢
  have hl : lv_has ls 4 [(0, .ref (g (200 + j))), (1, .ref (g (300 + a))), (2, .ref (g (100 + d)))] := hl
  obtain ⟨H, eH⟩ : ∃ z, z = s.heap := ⟨_, rfl⟩
  have hH : wHS E o g x y H := by rw [eH]; exact hH
  have hS : va_S (wA E) s.heap H [] := by rw [eH]; exact hS
  refine W.heapTo eH ?_
  obtain ⟨hn0, hn1, hn2, hn3, hn4, hn5, hc7, hc8, hc5, hc54, hc4, hc50, hc9, hc12, hc10, hcj⟩ := id hI
  refine lv_aload_n hx hb dX0_swap_0 rfl (lv_at hl 1 rfl) ?_
  have q7 := hc7 a
  by_cases c1 : (x.1 7 a) = 0
  · skip
    refine wr_get (T := TX3) (N := 3) (ci := 5) (v := .null) hx hb hts hinX3 hown hK hH (lv_sl (show a < 10 * x.1 1 0 by omega) hn1) cel_sl rfl 1 (by decide) (hts (.fieldLink RX0 52 "SelectoRoute$Slot" "disc" "LSelectoRoute$Disc;") (by decide +kernel)) (fun _ h => h) (congrArg some (if_pos c1)) dX0_swap_1 ?_
    refine lv_astore_nN (lv' := [(3, .null), (0, .ref (g (200 + j))), (1, .ref (g (300 + a))), (2, .ref (g (100 + d)))]) hx hb dX0_swap_4 rfl hl (by decide) rfl (fun ls hl => ?_)
    refine lv_aload_nN hx hb dX0_swap_5 rfl (lv_at hl 0 rfl) ?_
    refine lv_ifnullN (tgt := 14) hx hb dX0_swap_6 (by decide) ?_
    refine lv_aload_n hx hb dX0_swap_14 rfl (lv_at hl 2 rfl) ?_
    refine lv_aload_n hx hb dX0_swap_15 rfl (lv_at hl 3 rfl) ?_
    have hH : wHS E o g (sw0 x a) y H := by unfold sw0; rw [if_pos c1]; exact hH
    have hs1 : (sw0 x a).1 1 0 = x.1 1 0 := by unfold sw0; split <;> rfl
    have hs0 : (sw0 x a).1 0 0 = x.1 0 0 := by unfold sw0; split <;> rfl
    refine wr_put (T := TX3) (N := 3) (ci := 5) (v := .ref (g (100 + d))) hx hb hts hinX3 tyX3 tyX3_ok nmX3 hown hK hH hS (lv_sl (by rw [(show (sw0 x a).1 1 0 = x.1 1 0 by simp only [sw1, sw0, uI, uN]; split <;> rfl)]; omega) (by rw [(show (sw0 x a).1 1 0 = x.1 1 0 by simp only [sw1, sw0, uI, uN]; split <;> rfl)]; exact hn1)) cel_sl rfl 1 (by decide) (hts (.fieldLink RX0 52 "SelectoRoute$Slot" "disc" "LSelectoRoute$Disc;") (by decide +kernel)) (fun _ h => h) rfl (ty := (.object "SelectoRoute$Disc")) (by decide +kernel) rfl rfl (Nat.le_of_ble_eq_true rfl) dX0_swap_16 (fun H locs hH hS => ?_)
    have hH : wHS E o g (uN (sw0 x a) 7 a (d + 1)) y H := ps_1 (v := (d + 1)) hH
    refine lv_aload_n hx hb dX0_swap_19 rfl (lv_at hl 2 rfl) ?_
    refine lv_iconst (v := 0) hx hb dX0_swap_20 (by decide) ?_
    refine wr_put (T := TX3) (N := 3) (ci := 5) (v := .int 0) hx hb hts hinX3 tyX3 tyX3_ok nmX3 hown hK hH hS (lv_sl (by rw [(show (uN (sw0 x a) 7 a (d + 1)).1 1 0 = x.1 1 0 by simp only [sw1, sw0, uI, uN]; split <;> rfl)]; omega) (by rw [(show (uN (sw0 x a) 7 a (d + 1)).1 1 0 = x.1 1 0 by simp only [sw1, sw0, uI, uN]; split <;> rfl)]; exact hn1)) cel_sl rfl 2 (by decide) (hts (.fieldLink RX0 75 "SelectoRoute$Slot" "wheel" "I") (by decide +kernel)) (fun _ h => h) rfl (ty := .int) (by decide +kernel) rfl rfl (Nat.le_of_ble_eq_true rfl) dX0_swap_21 (fun H locs hH hS => ?_)
    have hH : wHS E o g (sw1 x a (d + 1)) y H := ps_2 hH
    refine lv_aload_n hx hb dX0_swap_24 rfl (lv_at hl 3 rfl) ?_
    refine lv_ifnull hx hb dX0_swap_25 ?_
    refine lv_aload_n hx hb dX0_swap_28 rfl (lv_at hl 3 rfl) ?_
    refine lv_aload_n hx hb dX0_swap_29 rfl (lv_at hl 1 rfl) ?_
    refine wr_put (T := TX2) (N := 8) (ci := 4) (v := .ref (g (200 + j))) hx hb hts hinX2 tyX2 tyX2_ok nmX2 hown hK hH hS (lv_di (by rw [(show (sw1 x a (d + 1)).1 0 0 = x.1 0 0 by simp only [sw1, sw0, uI, uN]; split <;> rfl)]; omega) (by rw [(show (sw1 x a (d + 1)).1 0 0 = x.1 0 0 by simp only [sw1, sw0, uI, uN]; split <;> rfl)]; exact hn0)) (cel_di (by omega)) rfl 6 (by decide) (hts (.fieldLink RX0 97 "SelectoRoute$Disc" "box" "LSelectoRoute$Box;") (by decide +kernel)) (fun _ h => h) rfl (ty := (.object "SelectoRoute$Box")) (by decide +kernel) rfl rfl (Nat.le_of_ble_eq_true rfl) dX0_swap_30 (fun H locs hH hS => ?_)
    refine lv_aload_n hx hb dX0_swap_33 rfl (lv_at hl 3 rfl) ?_
    refine lv_aload_n hx hb dX0_swap_34 rfl (lv_at hl 2 rfl) ?_
    refine wr_get (T := TX3) (N := 3) (ci := 5) (v := .int (nI (a % 10))) hx hb hts hinX3 hown hK hH (lv_sl (by rw [(show (sw1 x a (d + 1)).1 1 0 = x.1 1 0 by simp only [sw1, sw0, uI, uN]; split <;> rfl)]; omega) (by rw [(show (sw1 x a (d + 1)).1 1 0 = x.1 1 0 by simp only [sw1, sw0, uI, uN]; split <;> rfl)]; exact hn1)) ((va_up_ne _ _ (show 300 + a ≠ 100 + d by omega)).trans cel_sl) rfl 0 (by decide) (hts (.fieldLink RX0 101 "SelectoRoute$Slot" "number" "I") (by decide +kernel)) (fun _ h => h) rfl dX0_swap_35 ?_
    refine wr_put (T := TX2) (N := 8) (ci := 4) (v := .int (nI (a % 10))) hx hb hts hinX2 tyX2 tyX2_ok nmX2 hown hK hH hS (lv_di (by rw [(show (sw1 x a (d + 1)).1 0 0 = x.1 0 0 by simp only [sw1, sw0, uI, uN]; split <;> rfl)]; omega) (by rw [(show (sw1 x a (d + 1)).1 0 0 = x.1 0 0 by simp only [sw1, sw0, uI, uN]; split <;> rfl)]; exact hn0)) (va_up_self _ _ _) rfl 7 (by decide) (hts (.fieldLink RX0 102 "SelectoRoute$Disc" "slot" "I") (by decide +kernel)) (fun _ h => h) rfl (ty := .int) (by decide +kernel) rfl rfl (Nat.le_of_ble_eq_true rfl) dX0_swap_38 (fun H locs hH hS => ?_)
    have h81 : (sw1 x a (d + 1)).1 8 d = 1 := by
      unfold sw1 sw0
      split
      · simp [uI, uN, va_up, hd1]
      · by_cases e : d = x.1 7 a - 1
        · first | (simp [uI, uN, va_up, e]; done) | (simp [uI, uN, va_up, e]; rw [← e]; exact hd1)
        · simp [uI, uN, va_up, e, hd1]
    have ha10 : a % 10 = k := by omega
    have hH : wHS E o g (uN (sw1 x a (d + 1)) 8 d (2 + (10 * j + k))) y H := by
      refine pd_67 (c1 := .inl (E.2.1.1 0, 0, .inl (fun _ => 0))) (by omega) hk ?_
      rw [up_up]; rw [up_up] at hH; rw [ha10] at hH; simpa [h81] using hH
    rw [← hak] at hH
    refine lv_aload_n hx hb dX0_swap_41 rfl (lv_at hl 1 rfl) ?_
    refine lv_aload_n hx hb dX0_swap_42 rfl (lv_at hl 3 rfl) ?_
    have h12 : (sw1 x a (d + 1)).1 12 d = x.1 12 d := by unfold sw1 sw0; split <;> rfl
    refine wr_get (T := TX2) (N := 8) (ci := 4) (v := .int (nI (x.1 12 d))) hx hb hts hinX2 hown hK hH (lv_di (by rw [(show (uN (sw1 x a (d + 1)) 8 d (2 + a)).1 0 0 = x.1 0 0 by simp only [sw1, sw0, uI, uN]; split <;> rfl)]; omega) (by rw [(show (uN (sw1 x a (d + 1)) 8 d (2 + a)).1 0 0 = x.1 0 0 by simp only [sw1, sw0, uI, uN]; split <;> rfl)]; exact hn0)) (cel_di (by omega)) rfl 1 (by decide) (hts (.fieldLink RX0 105 "SelectoRoute$Disc" "song" "I") (by decide +kernel)) (fun _ h => h) (by rw [← h12]; rfl) dX0_swap_43 ?_
    refine va_callv (va_runV (As := [.int (nI (x.1 12 d))]) (rest := []) ⟨hx, hb, hml, hown, hts⟩ (met_X0_forget l E o g (uN (sw1 x a (d + 1)) 8 d (2 + a)) y j (x.1 12 d) (by rw [(show (uN (sw1 x a (d + 1)) 8 d (2 + a)).1 1 0 = x.1 1 0 by simp only [sw1, sw0, uI, uN]; split <;> rfl)]; exact hn1) (by rw [(show (uN (sw1 x a (d + 1)) 8 d (2 + a)).1 1 0 = x.1 1 0 by simp only [sw1, sw0, uI, uN]; split <;> rfl)]; exact hj) (by have q := hc12 d; omega)) (cwV 1 hts gX0_swap_X0_forget rfl rfl rfl (by decide +kernel) ⟨Nat.le_of_ble_eq_true rfl, Nat.le_of_ble_eq_true rfl⟩) ⟨fun a U f mk q => ⟨q.1, wPre.calling q.2 a f mk⟩, (va_recv hK (wH_one hH (lv_bx (by rw [(show (uN (sw1 x a (d + 1)) 8 d (2 + a)).1 1 0 = x.1 1 0 by simp only [sw1, sw0, uI, uN]; split <;> rfl)]; exact hj) (by rw [(show (uN (sw1 x a (d + 1)) 8 d (2 + a)).1 1 0 = x.1 1 0 by simp only [sw1, sw0, uI, uN]; split <;> rfl)]; exact hn1)) (cel_bx (by omega))) (ci := 3) (q0 := 0) rfl rfl), fun U hU hW => ⟨rfl, wPre_at hz hS hH hK U hU hW⟩⟩ rfl rfl hl.1 rfl (lv_room (Nat.le_of_ble_eq_true rfl)) dX0_swap_46 ⟨Nat.le_of_ble_eq_true rfl, Nat.le_of_ble_eq_true rfl⟩) hS (fun q _ h => h) (fun q h => h) (fun u t H locs ht hvm hw hB hz1 hk1 hS => ?_)
    have hB := wHS_h ht hB
    try dsimp only at hw
    have hH := hB
    refine lv_aload_nN hx hb dX0_swap_49 rfl (lv_at hl 0 rfl) ?_
    exact W.aret (v := .null) hx hb hr (Or.inl ⟨_, rfl⟩) (Or.inl rfl) (fun t ht hW => ⟨⟨none, (), rfl, (by rw [if_pos c1]), wHS_t ht hH⟩, hS.F ht⟩) hS.2.2 dX0_swap_50
  · skip
    refine wr_get (T := TX3) (N := 3) (ci := 5) (v := .ref (g (100 + ((x.1 7 a) - 1)))) hx hb hts hinX3 hown hK hH (lv_sl (show a < 10 * x.1 1 0 by omega) hn1) cel_sl rfl 1 (by decide) (hts (.fieldLink RX0 52 "SelectoRoute$Slot" "disc" "LSelectoRoute$Disc;") (by decide +kernel)) (fun _ h => h) (congrArg some (if_neg c1)) dX0_swap_1 ?_
    refine lv_astore_n (lv' := [(3, .ref (g (100 + ((x.1 7 a) - 1)))), (0, .ref (g (200 + j))), (1, .ref (g (300 + a))), (2, .ref (g (100 + d)))]) hx hb dX0_swap_4 rfl hl (by decide) rfl (fun ls hl => ?_)
    refine lv_aload_n hx hb dX0_swap_5 rfl (lv_at hl 0 rfl) ?_
    refine lv_ifnull hx hb dX0_swap_6 ?_
    refine lv_aload_n hx hb dX0_swap_9 rfl (lv_at hl 0 rfl) ?_
    refine lv_null hx hb dX0_swap_10 ?_
    refine wr_put (T := TX2) (N := 8) (ci := 4) (v := .null) hx hb hts hinX2 tyX2 tyX2_ok nmX2 hown hK hH hS (lv_di (show ((x.1 7 a) - 1) < x.1 0 0 by have q0 := hc7 a; omega) hn0) (cel_di (by omega)) rfl 6 (by decide) (hts (.fieldLink RX0 97 "SelectoRoute$Disc" "box" "LSelectoRoute$Box;") (by decide +kernel)) (fun _ h => h) rfl (ty := (.object "SelectoRoute$Box")) (by decide +kernel) rfl rfl (Nat.le_of_ble_eq_true rfl) dX0_swap_11 (fun H locs hH hS => ?_)
    have hH := pd_6 (by omega) (hJ.not c1) hH
    have hH : wHS E o g (sw0 x a) y H := by unfold sw0; rw [if_neg c1]; exact hH
    refine lv_aload_n hx hb dX0_swap_14 rfl (lv_at hl 2 rfl) ?_
    refine lv_aload_n hx hb dX0_swap_15 rfl (lv_at hl 3 rfl) ?_
    have hs1 : (sw0 x a).1 1 0 = x.1 1 0 := by unfold sw0; split <;> rfl
    have hs0 : (sw0 x a).1 0 0 = x.1 0 0 := by unfold sw0; split <;> rfl
    refine wr_put (T := TX3) (N := 3) (ci := 5) (v := .ref (g (100 + d))) hx hb hts hinX3 tyX3 tyX3_ok nmX3 hown hK hH hS (lv_sl (by rw [(show (sw0 x a).1 1 0 = x.1 1 0 by simp only [sw1, sw0, uI, uN]; split <;> rfl)]; omega) (by rw [(show (sw0 x a).1 1 0 = x.1 1 0 by simp only [sw1, sw0, uI, uN]; split <;> rfl)]; exact hn1)) cel_sl rfl 1 (by decide) (hts (.fieldLink RX0 52 "SelectoRoute$Slot" "disc" "LSelectoRoute$Disc;") (by decide +kernel)) (fun _ h => h) rfl (ty := (.object "SelectoRoute$Disc")) (by decide +kernel) rfl rfl (Nat.le_of_ble_eq_true rfl) dX0_swap_16 (fun H locs hH hS => ?_)
    have hH : wHS E o g (uN (sw0 x a) 7 a (d + 1)) y H := ps_1 (v := (d + 1)) hH
    refine lv_aload_n hx hb dX0_swap_19 rfl (lv_at hl 2 rfl) ?_
    refine lv_iconst (v := 0) hx hb dX0_swap_20 (by decide) ?_
    refine wr_put (T := TX3) (N := 3) (ci := 5) (v := .int 0) hx hb hts hinX3 tyX3 tyX3_ok nmX3 hown hK hH hS (lv_sl (by rw [(show (uN (sw0 x a) 7 a (d + 1)).1 1 0 = x.1 1 0 by simp only [sw1, sw0, uI, uN]; split <;> rfl)]; omega) (by rw [(show (uN (sw0 x a) 7 a (d + 1)).1 1 0 = x.1 1 0 by simp only [sw1, sw0, uI, uN]; split <;> rfl)]; exact hn1)) cel_sl rfl 2 (by decide) (hts (.fieldLink RX0 75 "SelectoRoute$Slot" "wheel" "I") (by decide +kernel)) (fun _ h => h) rfl (ty := .int) (by decide +kernel) rfl rfl (Nat.le_of_ble_eq_true rfl) dX0_swap_21 (fun H locs hH hS => ?_)
    have hH : wHS E o g (sw1 x a (d + 1)) y H := ps_2 hH
    refine lv_aload_n hx hb dX0_swap_24 rfl (lv_at hl 3 rfl) ?_
    refine lv_ifnull hx hb dX0_swap_25 ?_
    refine lv_aload_n hx hb dX0_swap_28 rfl (lv_at hl 3 rfl) ?_
    refine lv_aload_n hx hb dX0_swap_29 rfl (lv_at hl 1 rfl) ?_
    refine wr_put (T := TX2) (N := 8) (ci := 4) (v := .ref (g (200 + j))) hx hb hts hinX2 tyX2 tyX2_ok nmX2 hown hK hH hS (lv_di (by rw [(show (sw1 x a (d + 1)).1 0 0 = x.1 0 0 by simp only [sw1, sw0, uI, uN]; split <;> rfl)]; omega) (by rw [(show (sw1 x a (d + 1)).1 0 0 = x.1 0 0 by simp only [sw1, sw0, uI, uN]; split <;> rfl)]; exact hn0)) (cel_di (by omega)) rfl 6 (by decide) (hts (.fieldLink RX0 97 "SelectoRoute$Disc" "box" "LSelectoRoute$Box;") (by decide +kernel)) (fun _ h => h) rfl (ty := (.object "SelectoRoute$Box")) (by decide +kernel) rfl rfl (Nat.le_of_ble_eq_true rfl) dX0_swap_30 (fun H locs hH hS => ?_)
    refine lv_aload_n hx hb dX0_swap_33 rfl (lv_at hl 3 rfl) ?_
    refine lv_aload_n hx hb dX0_swap_34 rfl (lv_at hl 2 rfl) ?_
    refine wr_get (T := TX3) (N := 3) (ci := 5) (v := .int (nI (a % 10))) hx hb hts hinX3 hown hK hH (lv_sl (by rw [(show (sw1 x a (d + 1)).1 1 0 = x.1 1 0 by simp only [sw1, sw0, uI, uN]; split <;> rfl)]; omega) (by rw [(show (sw1 x a (d + 1)).1 1 0 = x.1 1 0 by simp only [sw1, sw0, uI, uN]; split <;> rfl)]; exact hn1)) ((va_up_ne _ _ (show 300 + a ≠ 100 + d by omega)).trans cel_sl) rfl 0 (by decide) (hts (.fieldLink RX0 101 "SelectoRoute$Slot" "number" "I") (by decide +kernel)) (fun _ h => h) rfl dX0_swap_35 ?_
    refine wr_put (T := TX2) (N := 8) (ci := 4) (v := .int (nI (a % 10))) hx hb hts hinX2 tyX2 tyX2_ok nmX2 hown hK hH hS (lv_di (by rw [(show (sw1 x a (d + 1)).1 0 0 = x.1 0 0 by simp only [sw1, sw0, uI, uN]; split <;> rfl)]; omega) (by rw [(show (sw1 x a (d + 1)).1 0 0 = x.1 0 0 by simp only [sw1, sw0, uI, uN]; split <;> rfl)]; exact hn0)) (va_up_self _ _ _) rfl 7 (by decide) (hts (.fieldLink RX0 102 "SelectoRoute$Disc" "slot" "I") (by decide +kernel)) (fun _ h => h) rfl (ty := .int) (by decide +kernel) rfl rfl (Nat.le_of_ble_eq_true rfl) dX0_swap_38 (fun H locs hH hS => ?_)
    have h81 : (sw1 x a (d + 1)).1 8 d = 1 := by
      unfold sw1 sw0
      split
      · simp [uI, uN, va_up, hd1]
      · by_cases e : d = x.1 7 a - 1
        · first | (simp [uI, uN, va_up, e]; done) | (simp [uI, uN, va_up, e]; rw [← e]; exact hd1)
        · simp [uI, uN, va_up, e, hd1]
    have ha10 : a % 10 = k := by omega
    have hH : wHS E o g (uN (sw1 x a (d + 1)) 8 d (2 + (10 * j + k))) y H := by
      refine pd_67 (c1 := .inl (E.2.1.1 0, 0, .inl (fun _ => 0))) (by omega) hk ?_
      rw [up_up]; rw [up_up] at hH; rw [ha10] at hH; simpa [h81] using hH
    rw [← hak] at hH
    refine lv_aload_n hx hb dX0_swap_41 rfl (lv_at hl 1 rfl) ?_
    refine lv_aload_n hx hb dX0_swap_42 rfl (lv_at hl 3 rfl) ?_
    have h12 : (sw1 x a (d + 1)).1 12 d = x.1 12 d := by unfold sw1 sw0; split <;> rfl
    refine wr_get (T := TX2) (N := 8) (ci := 4) (v := .int (nI (x.1 12 d))) hx hb hts hinX2 hown hK hH (lv_di (by rw [(show (uN (sw1 x a (d + 1)) 8 d (2 + a)).1 0 0 = x.1 0 0 by simp only [sw1, sw0, uI, uN]; split <;> rfl)]; omega) (by rw [(show (uN (sw1 x a (d + 1)) 8 d (2 + a)).1 0 0 = x.1 0 0 by simp only [sw1, sw0, uI, uN]; split <;> rfl)]; exact hn0)) (cel_di (by omega)) rfl 1 (by decide) (hts (.fieldLink RX0 105 "SelectoRoute$Disc" "song" "I") (by decide +kernel)) (fun _ h => h) (by rw [← h12]; rfl) dX0_swap_43 ?_
    refine va_callv (va_runV (As := [.int (nI (x.1 12 d))]) (rest := []) ⟨hx, hb, hml, hown, hts⟩ (met_X0_forget l E o g (uN (sw1 x a (d + 1)) 8 d (2 + a)) y j (x.1 12 d) (by rw [(show (uN (sw1 x a (d + 1)) 8 d (2 + a)).1 1 0 = x.1 1 0 by simp only [sw1, sw0, uI, uN]; split <;> rfl)]; exact hn1) (by rw [(show (uN (sw1 x a (d + 1)) 8 d (2 + a)).1 1 0 = x.1 1 0 by simp only [sw1, sw0, uI, uN]; split <;> rfl)]; exact hj) (by have q := hc12 d; omega)) (cwV 1 hts gX0_swap_X0_forget rfl rfl rfl (by decide +kernel) ⟨Nat.le_of_ble_eq_true rfl, Nat.le_of_ble_eq_true rfl⟩) ⟨fun a U f mk q => ⟨q.1, wPre.calling q.2 a f mk⟩, (va_recv hK (wH_one hH (lv_bx (by rw [(show (uN (sw1 x a (d + 1)) 8 d (2 + a)).1 1 0 = x.1 1 0 by simp only [sw1, sw0, uI, uN]; split <;> rfl)]; exact hj) (by rw [(show (uN (sw1 x a (d + 1)) 8 d (2 + a)).1 1 0 = x.1 1 0 by simp only [sw1, sw0, uI, uN]; split <;> rfl)]; exact hn1)) (cel_bx (by omega))) (ci := 3) (q0 := 0) rfl rfl), fun U hU hW => ⟨rfl, wPre_at hz hS hH hK U hU hW⟩⟩ rfl rfl hl.1 rfl (lv_room (Nat.le_of_ble_eq_true rfl)) dX0_swap_46 ⟨Nat.le_of_ble_eq_true rfl, Nat.le_of_ble_eq_true rfl⟩) hS (fun q _ h => h) (fun q h => h) (fun u t H locs ht hvm hw hB hz1 hk1 hS => ?_)
    have hB := wHS_h ht hB
    try dsimp only at hw
    have hH := hB
    refine lv_aload_n hx hb dX0_swap_49 rfl (lv_at hl 0 rfl) ?_
    exact W.aret (v := .ref (g (100 + ((x.1 7 a) - 1)))) hx hb hr (Or.inl ⟨_, rfl⟩) (Or.inr ⟨_, rfl⟩) (fun t ht hW => ⟨⟨some (g (100 + ((x.1 7 a) - 1))), (), rfl, (by rw [if_neg c1]), wHS_t ht hH⟩, hS.F ht⟩) hS.2.2 dX0_swap_50
