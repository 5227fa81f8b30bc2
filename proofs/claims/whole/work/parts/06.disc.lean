/-! ===== discs and slots: their reads ===== -/
theorem W.heapTo {p : Program} {l : Launch} {e : Env} {R : Room} {s : State} {m : MethodId} {args : Array Value} {below : List Frame} {meth : Method} {c : Code} {H H2 : Heap} {locs : List Loc} {cells slots : Nat} {Q : State → Prop} {f : JFrame} (h : H = H2) (k : W p l e R s m args below meth c H locs cells slots Q f) : W p l e R s m args below meth c H2 locs cells slots Q f := h ▸ k
/-- the pull of a disc that is not burnt, in its weeks; ta: the taste, w: the week -/
def pB (so ta st fr we w : Int32) : Int32 :=
  let a := if st - 2 * (w - fr) < st / 5 then st / 5 else st - 2 * (w - fr)
  let b := if so - so / 10 * 10 = ta then a + a / 2 else a
  if b - we / 10 < 0 then 0 else b - we / 10
def pD (x : St) (d : Nat) (ta w : Int32) : Int32 := if x.1 8 d = 0 then 0 else if x.2 2 d ≤ w then pB (nI (x.1 12 d)) ta (x.2 1 d) (x.2 2 d) (x.2 3 d) w else 0
def pS (x : St) (a : Nat) (ta w : Int32) : Int32 := if x.1 7 a = 0 then 0 else pD x (x.1 7 a - 1) ta w
/-- the pull where it is -/
def pW (x : St) (d : Nat) (w : Int32) : Int32 := pD x d (if x.1 8 d < 2 then -1 else x.2 5 ((x.1 8 d - 2) / 10)) w
set_option maxHeartbeats 4000000 in
set_option maxRecDepth 100000 in
theorem met_X2_isInVan (l : Launch) (E : wE) (o : wO) (g : Nat → Nat) (x y : St) (d : Nat) (hd : d < x.1 0 0) (hn : x.1 0 0 ≤ 30) : Met l yX2_isInVan wsX2_isInVan ({ frames := 0, cells := 0, slots := 0, locals := 0 } : Room) (va_Pc [.ref (g (100 + d))] (wPre E o g x y)) (va_Qi (fun (r : Int32) (_ : Unit) => (r = 1 ∧ x.1 8 d = 1) ∨ (r = 0 ∧ x.1 8 d ≠ 1)) (fun (_ : Unit) t => wHS E o g x y t.heap) (wA E)) 0 0 (wA E) := by
  refine Met.ofW (cc := cX2_isInVan) (maxL := 1) (ret := (some .boolean)) (by decide) rfl ?_
  intro p e s m args below meth c s₁ B hml hv
  obtain ⟨rfl, hz, hH, hK⟩ := hv
  have hx := B.exec
  have hb := B.bytes
  have hr := B.returns
  have hts := atoms_spec (ws := wsX2_isInVan) B.pre
  have hown : s.vm.findClass RX2 = some m.cls := findClass_of_methodNamed B.named
  have hlocks := B.notSynchronized
  have hS : va_S (wA E) s.heap s.heap [] := va_S.rf
  have hinX2 : ∀ w ∈ wsX20, w ∈ wsX2_isInVan := fun w h => List.mem_cons_of_mem _ (List.mem_append_right _ h)
  have hl := lv_entry ([.ref (g (100 + d))]) (n := 1) (Nat.le_of_ble_eq_true rfl)
  rw [lg_entry_eq]
  generalize (lg_sl ([.ref (g (100 + d))]) ++ List.replicate (1 - (lg_sl ([.ref (g (100 + d))])).length) Slot.unset).toArray = ls at hl ⊢
  have hl : lv_has ls 1 [(0, .ref (g (100 + d)))] := hl
  obtain ⟨H, eH⟩ : ∃ z, z = s.heap := ⟨_, rfl⟩
  have hH : wHS E o g x y H := by rw [eH]; exact hH
  have hS : va_S (wA E) s.heap H [] := by rw [eH]; exact hS
  refine W.heapTo eH ?_
  refine lv_aload_n hx hb dX2_isInVan_0 rfl (lv_at hl 0 rfl) ?_
  by_cases c1 : (x.1 8 d) = 0
  · skip
    refine wr_get (T := TX2) (N := 8) (ci := 4) (v := .int 1) hx hb hts hinX2 hown hK hH (lv_di hd hn) (cel_di (by omega)) rfl 5 (by decide) (hts (.fieldLink RX2 24 "SelectoRoute$Disc" "burnt" "Z") (by decide +kernel)) (fun _ h => h) (congrArg (fun z => some (Value.int z)) (if_pos c1)) dX2_isInVan_1 ?_
    refine lv_if_ne (tgt := 18) hx hb dX2_isInVan_4 (by decide) (fun _ => ?_) (fun hq => absurd hq (show ¬ (1 : Int32) = 0 by decide))
    refine lv_iconst (v := 0) hx hb dX2_isInVan_18 (by decide) ?_
    exact W.zret (v := 0) hx hb hr rfl (fun t ht hW => ⟨⟨0, (), rfl, Or.inr ⟨rfl, by omega⟩, wHS_t ht hH⟩, hS.F ht⟩) hS.2.2 dX2_isInVan_19
  · skip
    refine wr_get (T := TX2) (N := 8) (ci := 4) (v := .int 0) hx hb hts hinX2 hown hK hH (lv_di hd hn) (cel_di (by omega)) rfl 5 (by decide) (hts (.fieldLink RX2 24 "SelectoRoute$Disc" "burnt" "Z") (by decide +kernel)) (fun _ h => h) (congrArg (fun z => some (Value.int z)) (if_neg c1)) dX2_isInVan_1 ?_
    refine lv_if_ne (tgt := 18) hx hb dX2_isInVan_4 (by decide) (fun hq => absurd (show (0 : Int32) = 0 by decide) hq) (fun _ => ?_)
    refine lv_aload_n hx hb dX2_isInVan_7 rfl (lv_at hl 0 rfl) ?_
    by_cases c2 : (x.1 8 d) < 2
    · skip
      refine wr_get (T := TX2) (N := 8) (ci := 4) (v := .null) hx hb hts hinX2 hown hK hH (lv_di hd hn) (cel_di (by omega)) rfl 6 (by decide) (hts (.fieldLink RX2 28 "SelectoRoute$Disc" "box" "LSelectoRoute$Box;") (by decide +kernel)) (fun _ h => h) (congrArg some (if_pos c2)) dX2_isInVan_8 ?_
      refine lv_ifnonnullN hx hb dX2_isInVan_11 ?_
      refine lv_iconst (v := 1) hx hb dX2_isInVan_14 (by decide) ?_
      refine lv_goto (tgt := 19) hx hb dX2_isInVan_15 (by decide) ?_
      exact W.zret (v := 1) hx hb hr rfl (fun t ht hW => ⟨⟨1, (), rfl, Or.inl ⟨rfl, by omega⟩, wHS_t ht hH⟩, hS.F ht⟩) hS.2.2 dX2_isInVan_19
    · skip
      refine wr_get (T := TX2) (N := 8) (ci := 4) (v := .ref (g (200 + ((x.1 8 d) - 2) / 10))) hx hb hts hinX2 hown hK hH (lv_di hd hn) (cel_di (by omega)) rfl 6 (by decide) (hts (.fieldLink RX2 28 "SelectoRoute$Disc" "box" "LSelectoRoute$Box;") (by decide +kernel)) (fun _ h => h) (congrArg some (if_neg c2)) dX2_isInVan_8 ?_
      refine lv_ifnonnull (tgt := 18) hx hb dX2_isInVan_11 (by decide) ?_
      refine lv_iconst (v := 0) hx hb dX2_isInVan_18 (by decide) ?_
      exact W.zret (v := 0) hx hb hr rfl (fun t ht hW => ⟨⟨0, (), rfl, Or.inr ⟨rfl, by omega⟩, wHS_t ht hH⟩, hS.F ht⟩) hS.2.2 dX2_isInVan_19
set_option maxHeartbeats 4000000 in
set_option maxRecDepth 100000 in
theorem met_X2_isWorn (l : Launch) (E : wE) (o : wO) (g : Nat → Nat) (x y : St) (d : Nat) (hd : d < x.1 0 0) (hn : x.1 0 0 ≤ 30) : Met l yX2_isWorn wsX2_isWorn ({ frames := 0, cells := 0, slots := 0, locals := 0 } : Room) (va_Pc [.ref (g (100 + d))] (wPre E o g x y)) (va_Qi (fun (r : Int32) (_ : Unit) => (r = 1 ∧ ¬ x.2 3 d < 60) ∨ (r = 0 ∧ x.2 3 d < 60)) (fun (_ : Unit) t => wHS E o g x y t.heap) (wA E)) 0 0 (wA E) := by
  refine Met.ofW (cc := cX2_isWorn) (maxL := 1) (ret := (some .boolean)) (by decide) rfl ?_
  intro p e s m args below meth c s₁ B hml hv
  obtain ⟨rfl, hz, hH, hK⟩ := hv
  have hx := B.exec
  have hb := B.bytes
  have hr := B.returns
  have hts := atoms_spec (ws := wsX2_isWorn) B.pre
  have hown : s.vm.findClass RX2 = some m.cls := findClass_of_methodNamed B.named
  have hlocks := B.notSynchronized
  have hS : va_S (wA E) s.heap s.heap [] := va_S.rf
  have hinX2 : ∀ w ∈ wsX20, w ∈ wsX2_isWorn := fun w h => List.mem_cons_of_mem _ (List.mem_append_right _ h)
  have hl := lv_entry ([.ref (g (100 + d))]) (n := 1) (Nat.le_of_ble_eq_true rfl)
  rw [lg_entry_eq]
  generalize (lg_sl ([.ref (g (100 + d))]) ++ List.replicate (1 - (lg_sl ([.ref (g (100 + d))])).length) Slot.unset).toArray = ls at hl ⊢
  have hl : lv_has ls 1 [(0, .ref (g (100 + d)))] := hl
  obtain ⟨H, eH⟩ : ∃ z, z = s.heap := ⟨_, rfl⟩
  have hH : wHS E o g x y H := by rw [eH]; exact hH
  have hS : va_S (wA E) s.heap H [] := by rw [eH]; exact hS
  refine W.heapTo eH ?_
  refine lv_aload_n hx hb dX2_isWorn_0 rfl (lv_at hl 0 rfl) ?_
  refine wr_get (T := TX2) (N := 8) (ci := 4) (v := .int (x.2 3 d)) hx hb hts hinX2 hown hK hH (lv_di hd hn) (cel_di (by omega)) rfl 4 (by decide) (hts (.fieldLink RX2 32 "SelectoRoute$Disc" "wear" "I") (by decide +kernel)) (fun _ h => h) rfl dX2_isWorn_1 ?_
  refine lv_bipush (v := 60) hx hb dX2_isWorn_4 (by decide) ?_
  refine lv_icmp_lt (tgt := 13) hx hb dX2_isWorn_6 (by decide) (fun c1 => ?_) (fun c1 => ?_)
  · skip
    refine lv_iconst (v := 0) hx hb dX2_isWorn_13 (by decide) ?_
    exact W.zret (v := 0) hx hb hr rfl (fun t ht hW => ⟨⟨0, (), rfl, Or.inr ⟨rfl, c1⟩, wHS_t ht hH⟩, hS.F ht⟩) hS.2.2 dX2_isWorn_14
  · skip
    refine lv_iconst (v := 1) hx hb dX2_isWorn_9 (by decide) ?_
    refine lv_goto (tgt := 14) hx hb dX2_isWorn_10 (by decide) ?_
    exact W.zret (v := 1) hx hb hr rfl (fun t ht hW => ⟨⟨1, (), rfl, Or.inl ⟨rfl, c1⟩, wHS_t ht hH⟩, hS.F ht⟩) hS.2.2 dX2_isWorn_14
set_option maxHeartbeats 4000000 in
set_option maxRecDepth 100000 in
theorem met_X2_pullFor (l : Launch) (E : wE) (o : wO) (g : Nat → Nat) (x y : St) (d : Nat) (ta w : Int32) (hd : d < x.1 0 0) (hn : x.1 0 0 ≤ 30) : Met l yX2_pullFor wsX2_pullFor ({ frames := 1, cells := 0, slots := 0, locals := 100 } : Room) (va_Pc [.ref (g (100 + d)), .int ta, .int w] (wPre E o g x y)) (va_Qi (fun (r : Int32) (_ : Unit) => r = pD x d ta w) (fun (_ : Unit) t => wHS E o g x y t.heap) (wA E)) 0 0 (wA E) := by
  refine Met.ofW (cc := cX2_pullFor) (maxL := 4) (ret := (some .int)) (by decide) rfl ?_
  intro p e s m args below meth c s₁ B hml hv
  obtain ⟨rfl, hz, hH, hK⟩ := hv
  have hx := B.exec
  have hb := B.bytes
  have hr := B.returns
  have hts := atoms_spec (ws := wsX2_pullFor) B.pre
  have hown : s.vm.findClass RX2 = some m.cls := findClass_of_methodNamed B.named
  have hlocks := B.notSynchronized
  have hS : va_S (wA E) s.heap s.heap [] := va_S.rf
  have hinX2 : ∀ w ∈ wsX20, w ∈ wsX2_pullFor := fun w h => List.mem_cons_of_mem _ (List.mem_append_right _ h)
  have hl := lv_entry ([.ref (g (100 + d)), .int ta, .int w]) (n := 4) (Nat.le_of_ble_eq_true rfl)
  rw [lg_entry_eq]
  generalize (lg_sl ([.ref (g (100 + d)), .int ta, .int w]) ++ List.replicate (4 - (lg_sl ([.ref (g (100 + d)), .int ta, .int w])).length) Slot.unset).toArray = ls at hl ⊢
  have hl : lv_has ls 4 [(0, .ref (g (100 + d))), (1, .int ta), (2, .int w)] := hl
  obtain ⟨H, eH⟩ : ∃ z, z = s.heap := ⟨_, rfl⟩
  have hH : wHS E o g x y H := by rw [eH]; exact hH
  have hS : va_S (wA E) s.heap H [] := by rw [eH]; exact hS
  refine W.heapTo eH ?_
  refine lv_aload_n hx hb dX2_pullFor_0 rfl (lv_at hl 0 rfl) ?_
  by_cases c1 : (x.1 8 d) = 0
  · skip
    refine wr_get (T := TX2) (N := 8) (ci := 4) (v := .int 1) hx hb hts hinX2 hown hK hH (lv_di hd hn) (cel_di (by omega)) rfl 5 (by decide) (hts (.fieldLink RX2 24 "SelectoRoute$Disc" "burnt" "Z") (by decide +kernel)) (fun _ h => h) (congrArg (fun z => some (Value.int z)) (if_pos c1)) dX2_pullFor_1 ?_
    refine lv_if_ne (tgt := 15) hx hb dX2_pullFor_4 (by decide) (fun _ => ?_) (fun hq => absurd hq (show ¬ (1 : Int32) = 0 by decide))
    refine lv_iconst (v := 0) hx hb dX2_pullFor_15 (by decide) ?_
    exact W.iret (v := 0) hx hb hr (fun t ht hW => ⟨⟨0, (), rfl, by simp only [pD, pB, c1, ↓reduceIte], wHS_t ht hH⟩, hS.F ht⟩) hS.2.2 dX2_pullFor_16
  · skip
    refine wr_get (T := TX2) (N := 8) (ci := 4) (v := .int 0) hx hb hts hinX2 hown hK hH (lv_di hd hn) (cel_di (by omega)) rfl 5 (by decide) (hts (.fieldLink RX2 24 "SelectoRoute$Disc" "burnt" "Z") (by decide +kernel)) (fun _ h => h) (congrArg (fun z => some (Value.int z)) (if_neg c1)) dX2_pullFor_1 ?_
    refine lv_if_ne (tgt := 15) hx hb dX2_pullFor_4 (by decide) (fun hq => absurd (show (0 : Int32) = 0 by decide) hq) (fun _ => ?_)
    refine lv_iload_n hx hb dX2_pullFor_7 rfl (lv_at hl 2 rfl) ?_
    refine lv_aload_n hx hb dX2_pullFor_8 rfl (lv_at hl 0 rfl) ?_
    refine wr_get (T := TX2) (N := 8) (ci := 4) (v := .int (x.2 2 d)) hx hb hts hinX2 hown hK hH (lv_di hd hn) (cel_di (by omega)) rfl 3 (by decide) (hts (.fieldLink RX2 21 "SelectoRoute$Disc" "firstWeek" "I") (by decide +kernel)) (fun _ h => h) rfl dX2_pullFor_9 ?_
    refine lv_icmp_ge (tgt := 17) hx hb dX2_pullFor_12 (by decide) (fun c2 => ?_) (fun c2 => ?_)
    · skip
      refine lv_aload_n hx hb dX2_pullFor_17 rfl (lv_at hl 0 rfl) ?_
      refine wr_get (T := TX2) (N := 8) (ci := 4) (v := .int (x.2 1 d)) hx hb hts hinX2 hown hK hH (lv_di hd hn) (cel_di (by omega)) rfl 2 (by decide) (hts (.fieldLink RX2 18 "SelectoRoute$Disc" "strength" "I") (by decide +kernel)) (fun _ h => h) rfl dX2_pullFor_18 ?_
      refine lv_iconst (v := 2) hx hb dX2_pullFor_21 (by decide) ?_
      refine lv_iload_n hx hb dX2_pullFor_22 rfl (lv_at hl 2 rfl) ?_
      refine lv_aload_n hx hb dX2_pullFor_23 rfl (lv_at hl 0 rfl) ?_
      refine wr_get (T := TX2) (N := 8) (ci := 4) (v := .int (x.2 2 d)) hx hb hts hinX2 hown hK hH (lv_di hd hn) (cel_di (by omega)) rfl 3 (by decide) (hts (.fieldLink RX2 21 "SelectoRoute$Disc" "firstWeek" "I") (by decide +kernel)) (fun _ h => h) rfl dX2_pullFor_24 ?_
      refine lv_isub hx hb dX2_pullFor_27 ?_
      refine lv_imul hx hb dX2_pullFor_28 ?_
      refine lv_isub hx hb dX2_pullFor_29 ?_
      refine lv_aload_n hx hb dX2_pullFor_30 rfl (lv_at hl 0 rfl) ?_
      refine wr_get (T := TX2) (N := 8) (ci := 4) (v := .int (x.2 1 d)) hx hb hts hinX2 hown hK hH (lv_di hd hn) (cel_di (by omega)) rfl 2 (by decide) (hts (.fieldLink RX2 18 "SelectoRoute$Disc" "strength" "I") (by decide +kernel)) (fun _ h => h) rfl dX2_pullFor_31 ?_
      refine lv_iconst (v := 5) hx hb dX2_pullFor_34 (by decide) ?_
      refine lv_idiv hx hb dX2_pullFor_35 (by decide) ?_
      refine va_mmax hx hb (hml.trans hl.1.symm) hown (hts (.methodLink RX2 35 Lib.Math.max.name) (by decide +kernel)) (hts (.static Lib.Math.max.name) (by decide +kernel)) (hts (.initialized "java/lang/Math") (by decide +kernel)) (hts (.code Lib.Math.max.name Lib.Math.max.code 2 (some .int)) (by decide +kernel)) (Nat.le_of_ble_eq_true rfl) (Nat.le_of_ble_eq_true rfl) (Nat.le_of_ble_eq_true rfl) (Nat.le_of_ble_eq_true rfl) dX2_pullFor_36 ?_
      refine lv_istore_n (lv' := [(3, .int (if ((x.2 1 d) - (2 * (w - (x.2 2 d)))) < ((x.2 1 d) / 5) then ((x.2 1 d) / 5) else ((x.2 1 d) - (2 * (w - (x.2 2 d)))))), (0, .ref (g (100 + d))), (1, .int ta), (2, .int w)]) hx hb dX2_pullFor_39 rfl hl (by decide) rfl (fun ls hl => ?_)
      refine lv_aload_n hx hb dX2_pullFor_40 rfl (lv_at hl 1 rfl) ?_
      refine wr_get (T := TX2) (N := 8) (ci := 4) (v := .int (nI (x.1 12 d))) hx hb hts hinX2 hown hK hH (lv_di hd hn) (cel_di (by omega)) rfl 1 (by decide) (hts (.fieldLink RX2 15 "SelectoRoute$Disc" "song" "I") (by decide +kernel)) (fun _ h => h) rfl dX2_pullFor_41 ?_
      refine lv_bipush (v := 10) hx hb dX2_pullFor_44 (by decide) ?_
      refine lv_irem hx hb dX2_pullFor_46 (by decide) ?_
      refine lv_iload_n hx hb dX2_pullFor_47 rfl (lv_at hl 2 rfl) ?_
      refine lv_icmp_ne (tgt := 57) hx hb dX2_pullFor_48 (by decide) (fun c3 => ?_) (fun c3 => ?_)
      · skip
        refine lv_iload_n hx hb dX2_pullFor_57 rfl (lv_at hl 0 rfl) ?_
        refine lv_aload_n hx hb dX2_pullFor_58 rfl (lv_at hl 1 rfl) ?_
        refine wr_get (T := TX2) (N := 8) (ci := 4) (v := .int (x.2 3 d)) hx hb hts hinX2 hown hK hH (lv_di hd hn) (cel_di (by omega)) rfl 4 (by decide) (hts (.fieldLink RX2 32 "SelectoRoute$Disc" "wear" "I") (by decide +kernel)) (fun _ h => h) rfl dX2_pullFor_59 ?_
        refine lv_bipush (v := 10) hx hb dX2_pullFor_62 (by decide) ?_
        refine lv_idiv hx hb dX2_pullFor_64 (by decide) ?_
        refine lv_isub hx hb dX2_pullFor_65 ?_
        refine lv_iconst (v := 0) hx hb dX2_pullFor_66 (by decide) ?_
        refine va_mmax hx hb (hml.trans hl.1.symm) hown (hts (.methodLink RX2 35 Lib.Math.max.name) (by decide +kernel)) (hts (.static Lib.Math.max.name) (by decide +kernel)) (hts (.initialized "java/lang/Math") (by decide +kernel)) (hts (.code Lib.Math.max.name Lib.Math.max.code 2 (some .int)) (by decide +kernel)) (Nat.le_of_ble_eq_true rfl) (Nat.le_of_ble_eq_true rfl) (Nat.le_of_ble_eq_true rfl) (Nat.le_of_ble_eq_true rfl) dX2_pullFor_67 ?_
        exact W.iret (v := (if ((if ((x.2 1 d) - (2 * (w - (x.2 2 d)))) < ((x.2 1 d) / 5) then ((x.2 1 d) / 5) else ((x.2 1 d) - (2 * (w - (x.2 2 d))))) - ((x.2 3 d) / 10)) < 0 then 0 else ((if ((x.2 1 d) - (2 * (w - (x.2 2 d)))) < ((x.2 1 d) / 5) then ((x.2 1 d) / 5) else ((x.2 1 d) - (2 * (w - (x.2 2 d))))) - ((x.2 3 d) / 10)))) hx hb hr (fun t ht hW => ⟨⟨(if ((if ((x.2 1 d) - (2 * (w - (x.2 2 d)))) < ((x.2 1 d) / 5) then ((x.2 1 d) / 5) else ((x.2 1 d) - (2 * (w - (x.2 2 d))))) - ((x.2 3 d) / 10)) < 0 then 0 else ((if ((x.2 1 d) - (2 * (w - (x.2 2 d)))) < ((x.2 1 d) / 5) then ((x.2 1 d) / 5) else ((x.2 1 d) - (2 * (w - (x.2 2 d))))) - ((x.2 3 d) / 10))), (), rfl, by simp only [pD, pB, c1, c2, c3, ↓reduceIte], wHS_t ht hH⟩, hS.F ht⟩) hS.2.2 dX2_pullFor_70
      · skip
        refine lv_iload_n hx hb dX2_pullFor_51 rfl (lv_at hl 0 rfl) ?_
        refine lv_iload_n hx hb dX2_pullFor_52 rfl (lv_at hl 0 rfl) ?_
        refine lv_iconst (v := 2) hx hb dX2_pullFor_53 (by decide) ?_
        refine lv_idiv hx hb dX2_pullFor_54 (by decide) ?_
        refine lv_iadd hx hb dX2_pullFor_55 ?_
        refine lv_istore_n (lv' := [(3, .int ((if ((x.2 1 d) - (2 * (w - (x.2 2 d)))) < ((x.2 1 d) / 5) then ((x.2 1 d) / 5) else ((x.2 1 d) - (2 * (w - (x.2 2 d))))) + ((if ((x.2 1 d) - (2 * (w - (x.2 2 d)))) < ((x.2 1 d) / 5) then ((x.2 1 d) / 5) else ((x.2 1 d) - (2 * (w - (x.2 2 d))))) / 2))), (0, .ref (g (100 + d))), (1, .int ta), (2, .int w)]) hx hb dX2_pullFor_56 rfl hl (by decide) rfl (fun ls hl => ?_)
        refine lv_iload_n hx hb dX2_pullFor_57 rfl (lv_at hl 0 rfl) ?_
        refine lv_aload_n hx hb dX2_pullFor_58 rfl (lv_at hl 1 rfl) ?_
        refine wr_get (T := TX2) (N := 8) (ci := 4) (v := .int (x.2 3 d)) hx hb hts hinX2 hown hK hH (lv_di hd hn) (cel_di (by omega)) rfl 4 (by decide) (hts (.fieldLink RX2 32 "SelectoRoute$Disc" "wear" "I") (by decide +kernel)) (fun _ h => h) rfl dX2_pullFor_59 ?_
        refine lv_bipush (v := 10) hx hb dX2_pullFor_62 (by decide) ?_
        refine lv_idiv hx hb dX2_pullFor_64 (by decide) ?_
        refine lv_isub hx hb dX2_pullFor_65 ?_
        refine lv_iconst (v := 0) hx hb dX2_pullFor_66 (by decide) ?_
        refine va_mmax hx hb (hml.trans hl.1.symm) hown (hts (.methodLink RX2 35 Lib.Math.max.name) (by decide +kernel)) (hts (.static Lib.Math.max.name) (by decide +kernel)) (hts (.initialized "java/lang/Math") (by decide +kernel)) (hts (.code Lib.Math.max.name Lib.Math.max.code 2 (some .int)) (by decide +kernel)) (Nat.le_of_ble_eq_true rfl) (Nat.le_of_ble_eq_true rfl) (Nat.le_of_ble_eq_true rfl) (Nat.le_of_ble_eq_true rfl) dX2_pullFor_67 ?_
        exact W.iret (v := (if (((if ((x.2 1 d) - (2 * (w - (x.2 2 d)))) < ((x.2 1 d) / 5) then ((x.2 1 d) / 5) else ((x.2 1 d) - (2 * (w - (x.2 2 d))))) + ((if ((x.2 1 d) - (2 * (w - (x.2 2 d)))) < ((x.2 1 d) / 5) then ((x.2 1 d) / 5) else ((x.2 1 d) - (2 * (w - (x.2 2 d))))) / 2)) - ((x.2 3 d) / 10)) < 0 then 0 else (((if ((x.2 1 d) - (2 * (w - (x.2 2 d)))) < ((x.2 1 d) / 5) then ((x.2 1 d) / 5) else ((x.2 1 d) - (2 * (w - (x.2 2 d))))) + ((if ((x.2 1 d) - (2 * (w - (x.2 2 d)))) < ((x.2 1 d) / 5) then ((x.2 1 d) / 5) else ((x.2 1 d) - (2 * (w - (x.2 2 d))))) / 2)) - ((x.2 3 d) / 10)))) hx hb hr (fun t ht hW => ⟨⟨(if (((if ((x.2 1 d) - (2 * (w - (x.2 2 d)))) < ((x.2 1 d) / 5) then ((x.2 1 d) / 5) else ((x.2 1 d) - (2 * (w - (x.2 2 d))))) + ((if ((x.2 1 d) - (2 * (w - (x.2 2 d)))) < ((x.2 1 d) / 5) then ((x.2 1 d) / 5) else ((x.2 1 d) - (2 * (w - (x.2 2 d))))) / 2)) - ((x.2 3 d) / 10)) < 0 then 0 else (((if ((x.2 1 d) - (2 * (w - (x.2 2 d)))) < ((x.2 1 d) / 5) then ((x.2 1 d) / 5) else ((x.2 1 d) - (2 * (w - (x.2 2 d))))) + ((if ((x.2 1 d) - (2 * (w - (x.2 2 d)))) < ((x.2 1 d) / 5) then ((x.2 1 d) / 5) else ((x.2 1 d) - (2 * (w - (x.2 2 d))))) / 2)) - ((x.2 3 d) / 10))), (), rfl, by simp only [pD, pB, c1, c2, c3, ↓reduceIte], wHS_t ht hH⟩, hS.F ht⟩) hS.2.2 dX2_pullFor_70
    · skip
      refine lv_iconst (v := 0) hx hb dX2_pullFor_15 (by decide) ?_
      exact W.iret (v := 0) hx hb hr (fun t ht hW => ⟨⟨0, (), rfl, by simp only [pD, pB, c1, c2, ↓reduceIte], wHS_t ht hH⟩, hS.F ht⟩) hS.2.2 dX2_pullFor_16
set_option maxHeartbeats 4000000 in
set_option maxRecDepth 100000 in
theorem met_X2_pullWhereItIs (l : Launch) (E : wE) (o : wO) (g : Nat → Nat) (x y : St) (d : Nat) (w : Int32) (hd : d < x.1 0 0) (hn : x.1 0 0 ≤ 30) (hp : x.1 8 d < 2 + 10 * x.1 1 0) (hm : x.1 1 0 ≤ 4) : Met l yX2_pullWhereItIs wsX2_pullWhereItIs ({ frames := 2, cells := 0, slots := 0, locals := 200 } : Room) (va_Pc [.ref (g (100 + d)), .int w] (wPre E o g x y)) (va_Qi (fun (r : Int32) (_ : Unit) => r = pW x d w) (fun (_ : Unit) t => wHS E o g x y t.heap) (wA E)) 0 0 (wA E) := by
  refine Met.ofW (cc := cX2_pullWhereItIs) (maxL := 2) (ret := (some .int)) (by decide) rfl ?_
  intro p e s m args below meth c s₁ B hml hv
  obtain ⟨rfl, hz, hH, hK⟩ := hv
  have hx := B.exec
  have hb := B.bytes
  have hr := B.returns
  have hts := atoms_spec (ws := wsX2_pullWhereItIs) B.pre
  have hown : s.vm.findClass RX2 = some m.cls := findClass_of_methodNamed B.named
  have hlocks := B.notSynchronized
  have hS : va_S (wA E) s.heap s.heap [] := va_S.rf
  have hinX2 : ∀ w ∈ wsX20, w ∈ wsX2_pullWhereItIs := fun w h => List.mem_cons_of_mem _ (List.mem_append_left _ (List.mem_append_right _ h))
  have hinX0 : ∀ w ∈ wsX00, w ∈ wsX2_pullWhereItIs := fun w h => List.mem_cons_of_mem _ (List.mem_append_right _ h)
  have hl := lv_entry ([.ref (g (100 + d)), .int w]) (n := 2) (Nat.le_of_ble_eq_true rfl)
  rw [lg_entry_eq]
  generalize (lg_sl ([.ref (g (100 + d)), .int w]) ++ List.replicate (2 - (lg_sl ([.ref (g (100 + d)), .int w])).length) Slot.unset).toArray = ls at hl ⊢
  have hl : lv_has ls 2 [(0, .ref (g (100 + d))), (1, .int w)] := hl
  obtain ⟨H, eH⟩ : ∃ z, z = s.heap := ⟨_, rfl⟩
  have hH : wHS E o g x y H := by rw [eH]; exact hH
  have hS : va_S (wA E) s.heap H [] := by rw [eH]; exact hS
  refine W.heapTo eH ?_
  refine lv_aload_n hx hb dX2_pullWhereItIs_0 rfl (lv_at hl 0 rfl) ?_
  refine lv_aload_n hx hb dX2_pullWhereItIs_1 rfl (lv_at hl 0 rfl) ?_
  by_cases c1 : (x.1 8 d) < 2
  · skip
    refine wr_get (T := TX2) (N := 8) (ci := 4) (v := .null) hx hb hts hinX2 hown hK hH (lv_di hd hn) (cel_di (by omega)) rfl 6 (by decide) (hts (.fieldLink RX2 28 "SelectoRoute$Disc" "box" "LSelectoRoute$Box;") (by decide +kernel)) (fun _ h => h) (congrArg some (if_pos c1)) dX2_pullWhereItIs_2 ?_
    refine lv_ifnonnullN hx hb dX2_pullWhereItIs_5 ?_
    refine lv_iconst (v := (-1)) hx hb dX2_pullWhereItIs_8 (by decide) ?_
    refine lv_goto (tgt := 19) hx hb dX2_pullWhereItIs_9 (by decide) ?_
    refine lv_iload_n hx hb dX2_pullWhereItIs_19 rfl (lv_at hl 1 rfl) ?_
    refine va_calli (va_runV (As := [.int (-1), .int w]) (rest := []) ⟨hx, hb, hml, hown, hts⟩ (met_X2_pullFor l E o g x y d (-1) w hd hn) (cwV 2 hts gX2_pullWhereItIs_X2_pullFor rfl rfl rfl (by decide +kernel) ⟨Nat.le_of_ble_eq_true rfl, Nat.le_of_ble_eq_true rfl⟩) ⟨fun a U f mk q => ⟨q.1, wPre.calling q.2 a f mk⟩, (va_recv hK (wH_one hH (lv_di hd hn) (cel_di (by omega))) (ci := 4) (q0 := 0) rfl rfl), fun U hU hW => ⟨rfl, wPre_at hz hS hH hK U hU hW⟩⟩ rfl rfl hl.1 rfl (lv_room (Nat.le_of_ble_eq_true rfl)) dX2_pullWhereItIs_20 ⟨Nat.le_of_ble_eq_true rfl, Nat.le_of_ble_eq_true rfl⟩) hS (fun q _ h => h) (fun q h => h) (fun r u t H locs ht hvm hw hB hz1 hk1 hS => ?_)
    have hB := wHS_h ht hB
    try dsimp only at hw
    obtain rfl := hw
    have hH := hB
    exact W.iret (v := (pD x d (-1) w)) hx hb hr (fun t ht hW => ⟨⟨(pD x d (-1) w), (), rfl, by simp only [pW, c1, ↓reduceIte], wHS_t ht hH⟩, hS.F ht⟩) hS.2.2 dX2_pullWhereItIs_23
  · skip
    refine wr_get (T := TX2) (N := 8) (ci := 4) (v := .ref (g (200 + ((x.1 8 d) - 2) / 10))) hx hb hts hinX2 hown hK hH (lv_di hd hn) (cel_di (by omega)) rfl 6 (by decide) (hts (.fieldLink RX2 28 "SelectoRoute$Disc" "box" "LSelectoRoute$Box;") (by decide +kernel)) (fun _ h => h) (congrArg some (if_neg c1)) dX2_pullWhereItIs_2 ?_
    refine lv_ifnonnull (tgt := 12) hx hb dX2_pullWhereItIs_5 (by decide) ?_
    refine lv_aload_n hx hb dX2_pullWhereItIs_12 rfl (lv_at hl 0 rfl) ?_
    refine wr_get (T := TX2) (N := 8) (ci := 4) (v := .ref (g (200 + ((x.1 8 d) - 2) / 10))) hx hb hts hinX2 hown hK hH (lv_di hd hn) (cel_di (by omega)) rfl 6 (by decide) (hts (.fieldLink RX2 28 "SelectoRoute$Disc" "box" "LSelectoRoute$Box;") (by decide +kernel)) (fun _ h => h) (congrArg some (if_neg c1)) dX2_pullWhereItIs_13 ?_
    refine wr_get (T := TX0) (N := 15) (ci := 3) (v := .int (x.2 5 (((x.1 8 d) - 2) / 10))) hx hb hts hinX0 hown hK hH (lv_bx (by omega) hm) (cel_bx (by omega)) rfl 2 (by decide) (hts (.fieldLink RX2 41 "SelectoRoute$Box" "taste" "I") (by decide +kernel)) (fun _ h => h) rfl dX2_pullWhereItIs_16 ?_
    refine lv_iload_n hx hb dX2_pullWhereItIs_19 rfl (lv_at hl 1 rfl) ?_
    refine va_calli (va_runV (As := [.int (x.2 5 (((x.1 8 d) - 2) / 10)), .int w]) (rest := []) ⟨hx, hb, hml, hown, hts⟩ (met_X2_pullFor l E o g x y d (x.2 5 (((x.1 8 d) - 2) / 10)) w hd hn) (cwV 2 hts gX2_pullWhereItIs_X2_pullFor rfl rfl rfl (by decide +kernel) ⟨Nat.le_of_ble_eq_true rfl, Nat.le_of_ble_eq_true rfl⟩) ⟨fun a U f mk q => ⟨q.1, wPre.calling q.2 a f mk⟩, (va_recv hK (wH_one hH (lv_di hd hn) (cel_di (by omega))) (ci := 4) (q0 := 0) rfl rfl), fun U hU hW => ⟨rfl, wPre_at hz hS hH hK U hU hW⟩⟩ rfl rfl hl.1 rfl (lv_room (Nat.le_of_ble_eq_true rfl)) dX2_pullWhereItIs_20 ⟨Nat.le_of_ble_eq_true rfl, Nat.le_of_ble_eq_true rfl⟩) hS (fun q _ h => h) (fun q h => h) (fun r u t H locs ht hvm hw hB hz1 hk1 hS => ?_)
    have hB := wHS_h ht hB
    try dsimp only at hw
    obtain rfl := hw
    have hH := hB
    exact W.iret (v := (pD x d (x.2 5 (((x.1 8 d) - 2) / 10)) w)) hx hb hr (fun t ht hW => ⟨⟨(pD x d (x.2 5 (((x.1 8 d) - 2) / 10)) w), (), rfl, by simp only [pW, c1, ↓reduceIte], wHS_t ht hH⟩, hS.F ht⟩) hS.2.2 dX2_pullWhereItIs_23
set_option maxHeartbeats 4000000 in
set_option maxRecDepth 100000 in
theorem met_X3_pullFor (l : Launch) (E : wE) (o : wO) (g : Nat → Nat) (x y : St) (a : Nat) (ta w : Int32) (ha : a < 10 * x.1 1 0) (hm : x.1 1 0 ≤ 4) (hn : x.1 0 0 ≤ 30) (hs : x.1 7 a ≤ x.1 0 0) : Met l yX3_pullFor wsX3_pullFor ({ frames := 2, cells := 0, slots := 0, locals := 200 } : Room) (va_Pc [.ref (g (300 + a)), .int ta, .int w] (wPre E o g x y)) (va_Qi (fun (r : Int32) (_ : Unit) => r = pS x a ta w) (fun (_ : Unit) t => wHS E o g x y t.heap) (wA E)) 0 0 (wA E) := by
  refine Met.ofW (cc := cX3_pullFor) (maxL := 3) (ret := (some .int)) (by decide) rfl ?_
  intro p e s m args below meth c s₁ B hml hv
  obtain ⟨rfl, hz, hH, hK⟩ := hv
  have hx := B.exec
  have hb := B.bytes
  have hr := B.returns
  have hts := atoms_spec (ws := wsX3_pullFor) B.pre
  have hown : s.vm.findClass RX3 = some m.cls := findClass_of_methodNamed B.named
  have hlocks := B.notSynchronized
  have hS : va_S (wA E) s.heap s.heap [] := va_S.rf
  have hinX3 : ∀ w ∈ wsX30, w ∈ wsX3_pullFor := fun w h => List.mem_cons_of_mem _ (List.mem_append_left _ (List.mem_append_right _ h))
  have hinX2 : ∀ w ∈ wsX20, w ∈ wsX3_pullFor := fun w h => List.mem_cons_of_mem _ (List.mem_append_right _ h)
  have hl := lv_entry ([.ref (g (300 + a)), .int ta, .int w]) (n := 3) (Nat.le_of_ble_eq_true rfl)
  rw [lg_entry_eq]
  generalize (lg_sl ([.ref (g (300 + a)), .int ta, .int w]) ++ List.replicate (3 - (lg_sl ([.ref (g (300 + a)), .int ta, .int w])).length) Slot.unset).toArray = ls at hl ⊢
  have hl : lv_has ls 3 [(0, .ref (g (300 + a))), (1, .int ta), (2, .int w)] := hl
  obtain ⟨H, eH⟩ : ∃ z, z = s.heap := ⟨_, rfl⟩
  have hH : wHS E o g x y H := by rw [eH]; exact hH
  have hS : va_S (wA E) s.heap H [] := by rw [eH]; exact hS
  refine W.heapTo eH ?_
  refine lv_aload_n hx hb dX3_pullFor_0 rfl (lv_at hl 0 rfl) ?_
  by_cases c1 : (x.1 7 a) = 0
  · skip
    refine wr_get (T := TX3) (N := 3) (ci := 5) (v := .null) hx hb hts hinX3 hown hK hH (lv_sl ha hm) cel_sl rfl 1 (by decide) (hts (.fieldLink RX3 13 "SelectoRoute$Slot" "disc" "LSelectoRoute$Disc;") (by decide +kernel)) (fun _ h => h) (congrArg some (if_pos c1)) dX3_pullFor_1 ?_
    refine lv_ifnonnullN hx hb dX3_pullFor_4 ?_
    refine lv_iconst (v := 0) hx hb dX3_pullFor_7 (by decide) ?_
    refine lv_goto (tgt := 20) hx hb dX3_pullFor_8 (by decide) ?_
    exact W.iret (v := 0) hx hb hr (fun t ht hW => ⟨⟨0, (), rfl, by simp only [pS, c1, ↓reduceIte], wHS_t ht hH⟩, hS.F ht⟩) hS.2.2 dX3_pullFor_20
  · skip
    refine wr_get (T := TX3) (N := 3) (ci := 5) (v := .ref (g (100 + ((x.1 7 a) - 1)))) hx hb hts hinX3 hown hK hH (lv_sl ha hm) cel_sl rfl 1 (by decide) (hts (.fieldLink RX3 13 "SelectoRoute$Slot" "disc" "LSelectoRoute$Disc;") (by decide +kernel)) (fun _ h => h) (congrArg some (if_neg c1)) dX3_pullFor_1 ?_
    refine lv_ifnonnull (tgt := 11) hx hb dX3_pullFor_4 (by decide) ?_
    refine lv_aload_n hx hb dX3_pullFor_11 rfl (lv_at hl 0 rfl) ?_
    refine wr_get (T := TX3) (N := 3) (ci := 5) (v := .ref (g (100 + ((x.1 7 a) - 1)))) hx hb hts hinX3 hown hK hH (lv_sl ha hm) cel_sl rfl 1 (by decide) (hts (.fieldLink RX3 13 "SelectoRoute$Slot" "disc" "LSelectoRoute$Disc;") (by decide +kernel)) (fun _ h => h) (congrArg some (if_neg c1)) dX3_pullFor_12 ?_
    refine lv_iload_n hx hb dX3_pullFor_15 rfl (lv_at hl 1 rfl) ?_
    refine lv_iload_n hx hb dX3_pullFor_16 rfl (lv_at hl 2 rfl) ?_
    refine va_calli (va_runV (As := [.int ta, .int w]) (rest := []) ⟨hx, hb, hml, hown, hts⟩ (met_X2_pullFor l E o g x y ((x.1 7 a) - 1) ta w (by omega) hn) (cwV 2 hts gX3_pullFor_X2_pullFor rfl rfl rfl (by decide +kernel) ⟨Nat.le_of_ble_eq_true rfl, Nat.le_of_ble_eq_true rfl⟩) ⟨fun a U f mk q => ⟨q.1, wPre.calling q.2 a f mk⟩, (va_recv hK (wH_one hH (lv_di (by omega) hn) (cel_di (by omega))) (ci := 4) (q0 := 0) rfl rfl), fun U hU hW => ⟨rfl, wPre_at hz hS hH hK U hU hW⟩⟩ rfl rfl hl.1 rfl (lv_room (Nat.le_of_ble_eq_true rfl)) dX3_pullFor_17 ⟨Nat.le_of_ble_eq_true rfl, Nat.le_of_ble_eq_true rfl⟩) hS (fun q _ h => h) (fun q h => h) (fun r u t H locs ht hvm hw hB hz1 hk1 hS => ?_)
    have hB := wHS_h ht hB
    try dsimp only at hw
    obtain rfl := hw
    have hH := hB
    exact W.iret (v := (pD x ((x.1 7 a) - 1) ta w)) hx hb hr (fun t ht hW => ⟨⟨(pD x ((x.1 7 a) - 1) ta w), (), rfl, by simp only [pS, c1, ↓reduceIte], wHS_t ht hH⟩, hS.F ht⟩) hS.2.2 dX3_pullFor_20
