/-! ===== the class: coins, keys, plays ===== -/
/-- addresses that the law holds stay -/
def gE (g g9 : Nat → Nat) : Prop := ∀ t, t < 100 → t ≠ 2 → t ≠ 4 → g9 t = g t
theorem gE.rf (g : Nat → Nat) : gE g g := fun _ _ _ _ => rfl
/-- the rooms of the lists -/
def CQ (x : St) : Prop := (∀ j, x.1 4 j = 0 ∨ x.1 4 j = 10) ∧ (x.1 3 0 = 0 ∨ x.1 3 0 = 10) ∧ (x.1 2 0 = 0 ∨ x.1 2 0 = 10 ∨ x.1 2 0 = 15 ∨ x.1 2 0 = 22 ∨ x.1 2 0 = 33)
def wCoinA (E : wE) (a : Nat) (ad : Nat → Nat) (U : State) (H : Heap) : Prop := va_Z "SelectoRoute" "COINS" "[LSelectoRoute$Coin;" (.ref a) (wA E) U H ∧ va_T (.object "SelectoRoute$Coin") a 4 (fun i => .ref (ad i)) (wA E) U H ∧ va_Ef 4 "SelectoRoute$Coin" "sign" "I" (fun i => .int (cSg i)) ad (wA E) U H ∧ va_Ef 4 "SelectoRoute$Coin" "credits" "I" (fun i => .int (cCr i)) ad (wA E) U H ∧ va_Ef 4 "SelectoRoute$Coin" "cents" "I" (fun i => .int (cCe i)) ad (wA E) U H
theorem wCoinA.call {E : wE} {a : Nat} {ad : Nat → Nat} {s U : State} {H : Heap} {locs : List Loc} (h : wCoinA E a ad s s.heap) (hS : va_S (wA E) s.heap H locs) (hU : U.heap = H) (hW : s.WarmedH U.vm) : wCoinA E a ad U U.heap := by
  obtain ⟨h5, h6, h7, h8, h9⟩ := h
  rw [hU]
  exact ⟨(h5.kept hS.2.1).moved hW.alike, (h6.kept hS.2.1).moved hW.alike, (h7.kept hS.2.1).moved hW.alike, (h8.kept hS.2.1).moved hW.alike, (h9.kept hS.2.1).moved hW.alike⟩
theorem wCoinA.calling {E : wE} {b : Nat} {ad : Nat → Nat} {U : State} (h : wCoinA E b ad U U.heap) (a : Array Value) (f : JFrame) (mk : MethodId) : wCoinA E b ad (U.calling f mk a) (U.calling f mk a).heap := by
  obtain ⟨h5, h6, h7, h8, h9⟩ := h
  have al : U.vm.Alike (U.calling f mk a).vm := Vm.Alike.refl U.vm
  exact ⟨h5.moved al, h6.moved al, h7.moved al, h8.moved al, h9.moved al⟩
/-- which coin a sign is: 1 .. 4, or 0 -/
def cIx (v : Int32) : Nat := if v = 110 then 1 else if v = 100 then 2 else if v = 113 then 3 else if v = 115 then 4 else 0
theorem cIx_le (v : Int32) : cIx v ≤ 4 := by
  unfold cIx
  repeat' split
  all_goals decide
def capQ (x : St) (j : Nat) : Nat := if x.1 4 j = 0 then 10 else x.1 4 j
theorem addC_q {E : wE} {g : Nat → Nat} {x y : St} {oL : Nat → Int64} {oD : Nat → UInt64} {j : Nat} (hI : CI x) (hQ : CQ x) (hj : j < x.1 1 0) (h8 : x.1 5 j < 8) : AddC E g (liv x.1) (cel E.2.1 g x y oL oD) (220 + j) (230 + j) (x.1 4 j) (x.1 5 j) (capQ x j) (fun i => g (300 + 10 * j + x.1 (50 + j) i)) := by
  obtain ⟨hn0, hn1, hn2, hn3, hn4, hn5, hc7, hc8, hc5, hc54, hc4, hc50, hc9, hc12, hc10, hcj⟩ := id hI
  have q54 := hc54 j
  unfold AddC capQ
  by_cases h4 : x.1 4 j = 0
  · refine Or.inl ⟨h4, by omega, fun q => ?_, by omega, if_pos h4⟩
    have e : 230 + j - 230 = j := by omega
    unfold liv at q
    rw [e] at q
    omega
  · have h10 := (hQ.1 j).resolve_left h4
    exact Or.inr (Or.inl ⟨lv_qa hj hn1 h4, by rw [cel_qa (by omega)]; rfl, by omega, by omega, if_neg h4⟩)
theorem el_q {E : wE} {g : Nat → Nat} {x y : St} {oL : Nat → Int64} {oD : Nat → UInt64} {j : Nat} (hI : CI x) (hj : j < x.1 1 0) (i : Nat) : elO g (liv x.1) (cel E.2.1 g x y oL oD) (220 + j) (g (300 + 10 * j + x.1 (50 + j) i)) := by
  obtain ⟨hn0, hn1, hn2, hn3, hn4, hn5, hc7, hc8, hc5, hc54, hc4, hc50, hc9, hc12, hc10, hcj⟩ := id hI
  have q5 := hc50 j i
  exact ⟨300 + (10 * j + x.1 (50 + j) i), 5, _, (RX3, TX3, 3), lv_sl (by omega) hn1, by omega, by rw [Nat.add_assoc], cel_sl, rfl, by decide +kernel⟩
theorem CI_rem {x : St} (hI : CI x) {j n : Nat} {md9 : Int32} (hn : n ≤ x.1 5 j) : CI (qRem x j n md9) := by
  obtain ⟨hn0, hn1, hn2, hn3, hn4, hn5, hc7, hc8, hc5, hc54, hc4, hc50, hc9, hc12, hc10, hcj⟩ := id hI
  have e0 : ∀ m, m ≠ 5 → m < 50 → (qRem x j n md9).1 m = x.1 m := fun m a b => qRem_k _ _ _ _ a (by omega)
  unfold CI
  simp only [e0 0 (by decide) (by decide), e0 1 (by decide) (by decide), e0 2 (by decide) (by decide), e0 3 (by decide) (by decide), e0 4 (by decide) (by decide), e0 7 (by decide) (by decide), e0 8 (by decide) (by decide), e0 9 (by decide) (by decide), e0 10 (by decide) (by decide), e0 12 (by decide) (by decide), qRem_2 x j n md9 (m := 10) (by decide)]
  refine ⟨hn0, hn1, hn2, hn3, hn4, hn5, hc7, hc8, fun i => ?_, fun i => ?_, hc4, fun i a => ?_, hc9, hc12, hc10, hcj⟩
  · rw [qRem_5]
    have a := hc5 i
    have b := hc5 j
    split <;> omega
  · rw [qRem_5]
    have a := hc54 i
    have b := hc54 j
    split
    · rename_i q; subst q; omega
    · exact a
  · by_cases q : i = j
    · subst q; rw [qRem_50]; exact hc50 i (a + 1)
    · rw [qRem_k _ _ _ _ (by omega) (by omega)]; exact hc50 i a
/-- the slot a plays, or its credit comes back -/
def pn2 (x : St) (j a : Nat) : Int32 × St := if x.1 7 a = 0 then (0, uI x 7 j (x.2 7 j + 1)) else if x.2 3 (x.1 7 a - 1) < 60 then (1, plD x j a (x.1 7 a - 1) 1) else (0, uI x 7 j (x.2 7 j + 1))
def cp_playNext (x : St) (j : Nat) : Int32 × St := pn2 (qRem x j (x.1 5 j - 1) (x.2 22 j + 1)) j (10 * j + x.1 (50 + j) 0)
set_option maxHeartbeats 4000000 in
set_option maxRecDepth 100000 in
theorem met_X4_coinOf (l : Launch) (E : wE) (o : wO) (g : Nat → Nat) (x y : St) (ca : Nat) (ad : Nat → Nat) (v : Int32) : Met l yX4_coinOf wsX4_coinOf ({ frames := 0, cells := 0, slots := 0, locals := 0 } : Room) (va_Pc [.int v] (fun U => wPre E o g x y U ∧ wCoinA E ca ad U U.heap)) (va_Qq (fun (r : Option Nat) (_ : Unit) => r = if cIx v = 0 then none else some (ad (cIx v - 1))) (fun (_ : Unit) t => wHS E o g x y t.heap) (wA E)) 0 0 (wA E) := by
  refine Met.ofW (cc := cX4_coinOf) (maxL := 5) (ret := (some (.object "SelectoRoute$Coin"))) (by decide) rfl ?_
  intro p e s m args below meth c s₁ B hml hv
  obtain ⟨rfl, ⟨hz, hH, hK⟩, hco⟩ := hv
  have hx := B.exec
  have hb := B.bytes
  have hr := B.returns
  have hts := atoms_spec (ws := wsX4_coinOf) B.pre
  have hown : s.vm.findClass RX4 = some m.cls := findClass_of_methodNamed B.named
  have hlocks := B.notSynchronized
  have hS : va_S (wA E) s.heap s.heap [] := va_S.rf
  have hl := lv_entry ([.int v]) (n := 5) (Nat.le_of_ble_eq_true rfl)
  rw [lg_entry_eq]
  generalize (lg_sl ([.int v]) ++ List.replicate (5 - (lg_sl ([.int v])).length) Slot.unset).toArray = ls at hl ⊢
  have hl : lv_has ls 5 [(0, .int v)] := hl
  obtain ⟨H, eH⟩ : ∃ z, z = s.heap := ⟨_, rfl⟩
  have hH : wHS E o g x y H := by rw [eH]; exact hH
  have hS : va_S (wA E) s.heap H [] := by rw [eH]; exact hS
  refine W.heapTo eH ?_
  refine va_gets hx hb hco.1 hS hown (hts (.fieldLink RX4 285 "SelectoRoute" "COINS" "[LSelectoRoute$Coin;") (by decide +kernel)) (fun _ h => h) dX4_coinOf_0 ?_
  refine lv_astore_n (lv' := [(1, .ref ca), (0, .int v)]) hx hb dX4_coinOf_3 rfl hl (by decide) rfl (fun ls hl => ?_)
  refine lv_aload_n hx hb dX4_coinOf_4 rfl (lv_at hl 0 rfl) ?_
  refine va_tlen (v := 4) hx hb hco.2.1 hS rfl dX4_coinOf_5 ?_
  refine lv_istore_n (lv' := [(2, .int 4), (1, .ref ca), (0, .int v)]) hx hb dX4_coinOf_6 rfl hl (by decide) rfl (fun ls hl => ?_)
  refine lv_iconst (v := 0) hx hb dX4_coinOf_7 (by decide) ?_
  refine lv_istore_n (lv' := [(3, .int 0), (2, .int 4), (1, .ref ca), (0, .int v)]) hx hb dX4_coinOf_8 rfl hl (by decide) rfl (fun ls hl => ?_)
  refine lv_iload_n hx hb dX4_coinOf_9 rfl (lv_at hl 0 rfl) ?_
  refine lv_iload_n hx hb dX4_coinOf_10 rfl (lv_at hl 1 rfl) ?_
  refine lv_icmp_ge (tgt := 37) hx hb dX4_coinOf_11 (by decide) (fun hq => absurd hq (show ¬ (4 : Int32) ≤ 0 by decide)) (fun _ => ?_)
  refine lv_aload_n hx hb dX4_coinOf_14 rfl (lv_at hl 2 rfl) ?_
  refine lv_iload_n hx hb dX4_coinOf_15 rfl (lv_at hl 0 rfl) ?_
  refine vb_tq (v := .ref (ad 0)) hx hb hco.2.1 hS (i := 0) (by unfold vp_in; decide) rfl dX4_coinOf_16 ?_
  refine lv_astore (lv' := [(4, .ref (ad 0)), (3, .int 0), (2, .int 4), (1, .ref ca), (0, .int v)]) hx hb dX4_coinOf_17 hl (by decide) rfl (fun ls hl => ?_)
  refine lv_aload hx hb dX4_coinOf_19 (lv_at hl 0 rfl) ?_
  refine va_getX (i := 0) hx hb hco.2.2.1 (by decide) hS hown (hts (.fieldLink RX4 289 "SelectoRoute$Coin" "sign" "I") (by decide +kernel)) (fun _ h => h) dX4_coinOf_21 ?_
  refine lv_tope (show cSg 0 = 110 from rfl) ?_
  refine lv_iload_n hx hb dX4_coinOf_24 rfl (lv_at hl 4 rfl) ?_
  refine lv_icmp_ne (tgt := 31) hx hb dX4_coinOf_25 (by decide) (fun c1 => ?_) (fun c1 => ?_)
  · have c1 : ¬ (v = 110) := fun q => c1 q.symm
    refine lv_iinc (v := 1) (lv' := [(3, .int 1), (4, .ref (ad 0)), (2, .int 4), (1, .ref ca), (0, .int v)]) hx hb dX4_coinOf_31 hl (k := 1) rfl rfl (by decide) rfl (fun ls hl => ?_)
    refine lv_goto (tgt := 9) hx hb dX4_coinOf_34 (by decide) ?_
    refine lv_iload_n hx hb dX4_coinOf_9 rfl (lv_at hl 0 rfl) ?_
    refine lv_iload_n hx hb dX4_coinOf_10 rfl (lv_at hl 2 rfl) ?_
    refine lv_icmp_ge (tgt := 37) hx hb dX4_coinOf_11 (by decide) (fun hq => absurd hq (show ¬ (4 : Int32) ≤ 1 by decide)) (fun _ => ?_)
    refine lv_aload_n hx hb dX4_coinOf_14 rfl (lv_at hl 3 rfl) ?_
    refine lv_iload_n hx hb dX4_coinOf_15 rfl (lv_at hl 0 rfl) ?_
    refine vb_tq (v := .ref (ad 1)) hx hb hco.2.1 hS (i := 1) (by unfold vp_in; decide) rfl dX4_coinOf_16 ?_
    refine lv_astore (lv' := [(4, .ref (ad 1)), (3, .int 1), (2, .int 4), (1, .ref ca), (0, .int v)]) hx hb dX4_coinOf_17 hl (by decide) rfl (fun ls hl => ?_)
    refine lv_aload hx hb dX4_coinOf_19 (lv_at hl 0 rfl) ?_
    refine va_getX (i := 1) hx hb hco.2.2.1 (by decide) hS hown (hts (.fieldLink RX4 289 "SelectoRoute$Coin" "sign" "I") (by decide +kernel)) (fun _ h => h) dX4_coinOf_21 ?_
    refine lv_tope (show cSg 1 = 100 from rfl) ?_
    refine lv_iload_n hx hb dX4_coinOf_24 rfl (lv_at hl 4 rfl) ?_
    refine lv_icmp_ne (tgt := 31) hx hb dX4_coinOf_25 (by decide) (fun c2 => ?_) (fun c2 => ?_)
    · have c2 : ¬ (v = 100) := fun q => c2 q.symm
      refine lv_iinc (v := 2) (lv' := [(3, .int 2), (4, .ref (ad 1)), (2, .int 4), (1, .ref ca), (0, .int v)]) hx hb dX4_coinOf_31 hl (k := 1) rfl rfl (by decide) rfl (fun ls hl => ?_)
      refine lv_goto (tgt := 9) hx hb dX4_coinOf_34 (by decide) ?_
      refine lv_iload_n hx hb dX4_coinOf_9 rfl (lv_at hl 0 rfl) ?_
      refine lv_iload_n hx hb dX4_coinOf_10 rfl (lv_at hl 2 rfl) ?_
      refine lv_icmp_ge (tgt := 37) hx hb dX4_coinOf_11 (by decide) (fun hq => absurd hq (show ¬ (4 : Int32) ≤ 2 by decide)) (fun _ => ?_)
      refine lv_aload_n hx hb dX4_coinOf_14 rfl (lv_at hl 3 rfl) ?_
      refine lv_iload_n hx hb dX4_coinOf_15 rfl (lv_at hl 0 rfl) ?_
      refine vb_tq (v := .ref (ad 2)) hx hb hco.2.1 hS (i := 2) (by unfold vp_in; decide) rfl dX4_coinOf_16 ?_
      refine lv_astore (lv' := [(4, .ref (ad 2)), (3, .int 2), (2, .int 4), (1, .ref ca), (0, .int v)]) hx hb dX4_coinOf_17 hl (by decide) rfl (fun ls hl => ?_)
      refine lv_aload hx hb dX4_coinOf_19 (lv_at hl 0 rfl) ?_
      refine va_getX (i := 2) hx hb hco.2.2.1 (by decide) hS hown (hts (.fieldLink RX4 289 "SelectoRoute$Coin" "sign" "I") (by decide +kernel)) (fun _ h => h) dX4_coinOf_21 ?_
      refine lv_tope (show cSg 2 = 113 from rfl) ?_
      refine lv_iload_n hx hb dX4_coinOf_24 rfl (lv_at hl 4 rfl) ?_
      refine lv_icmp_ne (tgt := 31) hx hb dX4_coinOf_25 (by decide) (fun c3 => ?_) (fun c3 => ?_)
      · have c3 : ¬ (v = 113) := fun q => c3 q.symm
        refine lv_iinc (v := 3) (lv' := [(3, .int 3), (4, .ref (ad 2)), (2, .int 4), (1, .ref ca), (0, .int v)]) hx hb dX4_coinOf_31 hl (k := 1) rfl rfl (by decide) rfl (fun ls hl => ?_)
        refine lv_goto (tgt := 9) hx hb dX4_coinOf_34 (by decide) ?_
        refine lv_iload_n hx hb dX4_coinOf_9 rfl (lv_at hl 0 rfl) ?_
        refine lv_iload_n hx hb dX4_coinOf_10 rfl (lv_at hl 2 rfl) ?_
        refine lv_icmp_ge (tgt := 37) hx hb dX4_coinOf_11 (by decide) (fun hq => absurd hq (show ¬ (4 : Int32) ≤ 3 by decide)) (fun _ => ?_)
        refine lv_aload_n hx hb dX4_coinOf_14 rfl (lv_at hl 3 rfl) ?_
        refine lv_iload_n hx hb dX4_coinOf_15 rfl (lv_at hl 0 rfl) ?_
        refine vb_tq (v := .ref (ad 3)) hx hb hco.2.1 hS (i := 3) (by unfold vp_in; decide) rfl dX4_coinOf_16 ?_
        refine lv_astore (lv' := [(4, .ref (ad 3)), (3, .int 3), (2, .int 4), (1, .ref ca), (0, .int v)]) hx hb dX4_coinOf_17 hl (by decide) rfl (fun ls hl => ?_)
        refine lv_aload hx hb dX4_coinOf_19 (lv_at hl 0 rfl) ?_
        refine va_getX (i := 3) hx hb hco.2.2.1 (by decide) hS hown (hts (.fieldLink RX4 289 "SelectoRoute$Coin" "sign" "I") (by decide +kernel)) (fun _ h => h) dX4_coinOf_21 ?_
        refine lv_tope (show cSg 3 = 115 from rfl) ?_
        refine lv_iload_n hx hb dX4_coinOf_24 rfl (lv_at hl 4 rfl) ?_
        refine lv_icmp_ne (tgt := 31) hx hb dX4_coinOf_25 (by decide) (fun c4 => ?_) (fun c4 => ?_)
        · have c4 : ¬ (v = 115) := fun q => c4 q.symm
          refine lv_iinc (v := 4) (lv' := [(3, .int 4), (4, .ref (ad 3)), (2, .int 4), (1, .ref ca), (0, .int v)]) hx hb dX4_coinOf_31 hl (k := 1) rfl rfl (by decide) rfl (fun ls hl => ?_)
          refine lv_goto (tgt := 9) hx hb dX4_coinOf_34 (by decide) ?_
          refine lv_iload_n hx hb dX4_coinOf_9 rfl (lv_at hl 0 rfl) ?_
          refine lv_iload_n hx hb dX4_coinOf_10 rfl (lv_at hl 2 rfl) ?_
          refine lv_icmp_ge (tgt := 37) hx hb dX4_coinOf_11 (by decide) (fun _ => ?_) (fun hq => absurd (show (4 : Int32) ≤ 4 by decide) hq)
          refine lv_null hx hb dX4_coinOf_37 ?_
          exact W.aret (v := .null) hx hb hr (Or.inl ⟨_, rfl⟩) (Or.inl rfl) (fun t ht hW => ⟨⟨none, (), rfl, (by unfold cIx; simp [c1, c2, c3, c4]), wHS_t ht hH⟩, hS.F ht⟩) hS.2.2 dX4_coinOf_38
        · have c4 : (v = 115) := c4.symm
          refine lv_aload hx hb dX4_coinOf_28 (lv_at hl 0 rfl) ?_
          exact W.aret (v := .ref (ad 3)) hx hb hr (Or.inl ⟨_, rfl⟩) (Or.inr ⟨_, rfl⟩) (fun t ht hW => ⟨⟨some (ad 3), (), rfl, (by unfold cIx; simp [c1, c2, c3, c4]), wHS_t ht hH⟩, hS.F ht⟩) hS.2.2 dX4_coinOf_30
      · have c3 : (v = 113) := c3.symm
        refine lv_aload hx hb dX4_coinOf_28 (lv_at hl 0 rfl) ?_
        exact W.aret (v := .ref (ad 2)) hx hb hr (Or.inl ⟨_, rfl⟩) (Or.inr ⟨_, rfl⟩) (fun t ht hW => ⟨⟨some (ad 2), (), rfl, (by unfold cIx; simp [c1, c2, c3]), wHS_t ht hH⟩, hS.F ht⟩) hS.2.2 dX4_coinOf_30
    · have c2 : (v = 100) := c2.symm
      refine lv_aload hx hb dX4_coinOf_28 (lv_at hl 0 rfl) ?_
      exact W.aret (v := .ref (ad 1)) hx hb hr (Or.inl ⟨_, rfl⟩) (Or.inr ⟨_, rfl⟩) (fun t ht hW => ⟨⟨some (ad 1), (), rfl, (by unfold cIx; simp [c1, c2]), wHS_t ht hH⟩, hS.F ht⟩) hS.2.2 dX4_coinOf_30
  · have c1 : (v = 110) := c1.symm
    refine lv_aload hx hb dX4_coinOf_28 (lv_at hl 0 rfl) ?_
    exact W.aret (v := .ref (ad 0)) hx hb hr (Or.inl ⟨_, rfl⟩) (Or.inr ⟨_, rfl⟩) (fun t ht hW => ⟨⟨some (ad 0), (), rfl, (by unfold cIx; simp [c1]), wHS_t ht hH⟩, hS.F ht⟩) hS.2.2 dX4_coinOf_30
def cp_insert (x : St) (b : Int32) (v : Int32) : Option String × Int32 × St := if inB b (x.1 1 0) = true then (if cIx v = 0 then (some "java/lang/IllegalArgumentException", 0, x) else (if (x.2 10 (ix b)) = 0 then (if ((x.2 7 (ix b)) + (cCr (cIx v - 1))) ≤ 99 then (none, ((x.2 7 (ix b)) + (cCr (cIx v - 1))), (uI (uI x 7 (ix b) ((x.2 7 (ix b)) + (cCr (cIx v - 1)))) 8 (ix b) ((x.2 8 (ix b)) + (cCe (cIx v - 1))))) else (some "java/lang/IllegalStateException", 0, x)) else (some "java/lang/UnsupportedOperationException", 0, x))) else (some "java/lang/IndexOutOfBoundsException", 0, x)
set_option maxHeartbeats 4000000 in
set_option maxRecDepth 100000 in
theorem met_X4_insert (l : Launch) (E : wE) (o : wO) (g : Nat → Nat) (x y : St) (b : Int32) (v : Int32) (hlt : l.stackTraces = false) (hI : CI x) : vx_Met l yX4_insert wsX4_insert ({ frames := 10, cells := 4, slots := 24, locals := 1100 } : Room) (va_Pc [.ref (g 0), .int b, .int v] (wPreZ E o g x y)) (va_Qi (fun (r : Int32) (_ : Unit) => (cp_insert x b v).1 = none ∧ r = (cp_insert x b v).2.1) (fun (_ : Unit) t => ∃ g9 : Nat → Nat, gE g g9 ∧ wHS E o g9 (cp_insert x b v).2.2 y t.heap) (wA E)) (wXC E o g x y (fun X => (cp_insert x b v).1 = some X)) 4 24 (wA E) := by
  refine vx_ofW (cc := cX4_insert) (maxL := 5) (ret := (some .int)) (by decide) rfl ?_
  intro p e s m args below meth c s₁ B hml hnt hv
  obtain ⟨rfl, ⟨⟨hz, hH, hK⟩, hC⟩, hDD⟩ := hv
  have hx := B.exec
  have hb := B.bytes
  have hr := B.returns
  have hts := atoms_spec (ws := wsX4_insert) B.pre
  have hown : s.vm.findClass RX4 = some m.cls := findClass_of_methodNamed B.named
  have hlocks := B.notSynchronized
  have hS : va_S (wA E) s.heap s.heap [] := va_S.rf
  have hinX0 : ∀ w ∈ wsX00, w ∈ wsX4_insert := fun w h => List.mem_cons_of_mem _ (List.mem_append_left _ (List.mem_append_left _ (List.mem_append_left _ (List.mem_append_left _ (List.mem_append_left _ (List.mem_append_left _ (List.mem_append_right _ h)))))))
  have hinX4 : ∀ w ∈ wsX40, w ∈ wsX4_insert := fun w h => List.mem_cons_of_mem _ (List.mem_append_left _ (List.mem_append_left _ (List.mem_append_left _ (List.mem_append_left _ (List.mem_append_left _ (List.mem_append_right _ h))))))
  have hinJx4a65c : ∀ w ∈ wsJx4a65c0, w ∈ wsX4_insert := fun w h => List.mem_cons_of_mem _ (List.mem_append_left _ (List.mem_append_left _ (List.mem_append_left _ (List.mem_append_left _ (List.mem_append_right _ h)))))
  have hl := lv_entry ([.ref (g 0), .int b, .int v]) (n := 5) (Nat.le_of_ble_eq_true rfl)
  rw [lg_entry_eq]
  generalize (lg_sl ([.ref (g 0), .int b, .int v]) ++ List.replicate (5 - (lg_sl ([.ref (g 0), .int b, .int v])).length) Slot.unset).toArray = ls at hl ⊢
  have hl : lv_has ls 5 [(0, .ref (g 0)), (1, .int b), (2, .int v)] := hl
  obtain ⟨H, eH⟩ : ∃ z, z = s.heap := ⟨_, rfl⟩
  have hH : wHS E o g x y H := by rw [eH]; exact hH
  have hS : va_S (wA E) s.heap H [] := by rw [eH]; exact hS
  refine W.heapTo eH ?_
  obtain ⟨hn0, hn1, hn2, hn3, hn4, hn5, hc7, hc8, hc5, hc54, hc4, hc50, hc9, hc12, hc10, hcj⟩ := id hI
  refine lv_aload_n hx hb dX4_insert_0 rfl (lv_at hl 0 rfl) ?_
  refine lv_iload_n hx hb dX4_insert_1 rfl (lv_at hl 1 rfl) ?_
  refine wx_callr (vx_runV (As := [.int b]) (rest := []) ⟨hx, hb, hml, hown, hts⟩ (met_X4_requireBox l E o g x y b hlt hI) (cwV 1 hts gX4_insert_X4_requireBox rfl rfl rfl (by decide +kernel) ⟨Nat.le_of_ble_eq_true rfl, Nat.le_of_ble_eq_true rfl⟩) ⟨fun a U f mk q => ⟨q.1, wPreX.calling q.2 a f mk⟩, (va_recv hK (wH_one hH lv_r0 (cel_rt (by omega))) (ci := 6) (q0 := 0) rfl rfl), fun U hU hW => ⟨rfl, wPreX_at hz hS hH hK hC U hU hW⟩⟩ rfl rfl hl.1 rfl (lv_room (Nat.le_of_ble_eq_true rfl)) dX4_insert_2 ⟨Nat.le_of_ble_eq_true rfl, Nat.le_of_ble_eq_true rfl⟩) hS (fun q _ h => h) (fun q h => h) (fun q _ h => h) (fun E9 ce q9 u t H locs ht hvm hw hB hz1 hk1 hS hce hcv hcl => ?_) (fun u ra t H locs ht hvm hw hB hz1 hk1 hS => ?_)
  · obtain ⟨⟨rfl, c1⟩, hB⟩ := hB
    have hH := wHS_h ht hB
    have hsp : cp_insert x b v = (some "java/lang/IndexOutOfBoundsException", 0, x) := by
      unfold cp_insert
      first | (simp only [(Bool.eq_false_iff.mp c1), ↓reduceIte, and_self, and_true, true_and, Bool.false_eq_true, reduceCtorEq, eq_self, false_and, and_false]; done) | (simp [(Bool.eq_false_iff.mp c1), ↓reduceIte, and_self, and_true, true_and, Bool.false_eq_true, reduceCtorEq, eq_self, false_and, and_false]; done) | simp only [(Bool.eq_false_iff.mp c1), ↓reduceIte, and_self, and_true, true_and, Bool.false_eq_true, reduceCtorEq, eq_self, false_and, and_false]
    exact vx_out (fun x h => (hnt x h).elim) hlocks hce hcv hcl (wX_on hS hH (by rw [hsp])) hS.2.2 (by omega) (by omega)
  · have c1 : inB b (x.1 1 0) = true := hw
    obtain ⟨jb, hjb, rfl⟩ := inB_t c1 (by omega)
    obtain ⟨rfl, hB⟩ := hB
    have hH := wHS_h ht hB
    rw [ix_nI (show jb < 2 ^ 31 by omega)]
    refine lv_astore_n (lv' := [(3, .ref (g (200 + jb))), (0, .ref (g 0)), (1, .int (nI jb)), (2, .int v)]) hx hb dX4_insert_5 rfl hl (by decide) rfl (fun ls hl => ?_)
    refine lv_iload_n hx hb dX4_insert_6 rfl (lv_at hl 3 rfl) ?_
    obtain ⟨ca, ad, hco⟩ := hDD.2.2.2.2
    refine va_callq (va_runS (As := [.int v]) (rest := []) ⟨hx, hb, hml, hown, hts⟩ (met_X4_coinOf l E o g x y ca ad v) (va_cwS 1 hts gX4_insert_X4_coinOf rfl rfl rfl (by decide +kernel) ⟨Nat.le_of_ble_eq_true rfl, Nat.le_of_ble_eq_true rfl⟩) ⟨fun a U f mk q => ⟨q.1, wPre.calling q.2.1 a f mk, wCoinA.calling q.2.2 a f mk⟩, fun U hU hW => ⟨rfl, wPre_at hz hS hH hK U hU hW, wCoinA.call hco hS hU hW⟩⟩ rfl rfl hl.1 rfl (lv_room (Nat.le_of_ble_eq_true rfl)) dX4_insert_7 ⟨by exact Nat.le_of_ble_eq_true rfl, by exact Nat.le_of_ble_eq_true rfl⟩) hS (fun q _ h => h) (fun q h => h) (fun r u t H locs ht hvm hw hB hz1 hk1 hS => ?_)
    obtain rfl := hw
    have hH := wHS_h ht hB
    by_cases c2 : cIx v = 0
    · skip
      rw [if_pos c2]
      refine lv_astoreN (lv' := [(4, .null), (3, .ref (g (200 + jb))), (0, .ref (g 0)), (1, .int (nI jb)), (2, .int v)]) hx hb dX4_insert_10 hl (by decide) rfl (fun ls hl => ?_)
      refine lv_aloadN hx hb dX4_insert_12 (lv_at hl 0 rfl) ?_
      refine lv_ifnonnullN hx hb dX4_insert_14 ?_
      have hsp : cp_insert x (nI jb) v = (some "java/lang/IllegalArgumentException", 0, x) := by
        unfold cp_insert
        first | (simp only [c1, c2, inB_nI hjb (by omega), ix_nI (show jb < 2 ^ 31 by omega), ↓reduceIte, and_self, and_true, true_and, Bool.false_eq_true, reduceCtorEq, eq_self, false_and, and_false]; done) | (simp [c1, c2, inB_nI hjb (by omega), ix_nI (show jb < 2 ^ 31 by omega), ↓reduceIte, and_self, and_true, true_and, Bool.false_eq_true, reduceCtorEq, eq_self, false_and, and_false]; done) | simp only [c1, c2, inB_nI hjb (by omega), ix_nI (show jb < 2 ^ 31 by omega), ↓reduceIte, and_self, and_true, true_and, Bool.false_eq_true, reduceCtorEq, eq_self, false_and, and_false]
      obtain ⟨sa, hsa⟩ := hC.2.2.1 (91, "no such coin") (by decide +kernel)
      exact vx_throwS (A := wA E) (names := ["java/lang/RuntimeException", "java/lang/Exception"]) hx hb hlt hown (by decide +kernel) (by decide +kernel) (hts (.classLink RX4 37 "java/lang/IllegalArgumentException") (by decide +kernel)) (hts (.initialized "java/lang/IllegalArgumentException") (by decide +kernel)) hsa (hat_xA hts (fun w h => List.mem_cons_of_mem _ (List.mem_append_left _ (List.mem_append_left _ (List.mem_append_left _ (List.mem_append_right _ h))))) hC) (by decide +kernel) hC.1 hC.2.1 (by rw [← eH] at *; exact hS) (hl.1.trans hml.symm) dX4_insert_17 dX4_insert_20 dX4_insert_21 dX4_insert_23 dX4_insert_26 (fun x h => (hnt x h).elim) (Nat.lt_of_lt_of_le (by decide : 2 + 3 < 6) (Nat.le_of_ble_eq_true rfl)) (Nat.le_of_ble_eq_true rfl) (Nat.le_of_ble_eq_true rfl) (Nat.le_of_ble_eq_true rfl) hlocks (wX_of hS hH (by rw [hsp])) hS.2.2 (by omega) (by omega)
    · skip
      rw [if_neg c2]
      have hc4 : cIx v - 1 < 4 := by have q4 := cIx_le v; omega
      refine lv_astore (lv' := [(4, .ref (ad (cIx v - 1))), (3, .ref (g (200 + jb))), (0, .ref (g 0)), (1, .int (nI jb)), (2, .int v)]) hx hb dX4_insert_10 hl (by decide) rfl (fun ls hl => ?_)
      refine lv_aload hx hb dX4_insert_12 (lv_at hl 0 rfl) ?_
      refine lv_ifnonnull (tgt := 27) hx hb dX4_insert_14 (by decide) ?_
      refine lv_aload_n hx hb dX4_insert_27 rfl (lv_at hl 1 rfl) ?_
      refine wr_get (T := TX0) (N := 15) (ci := 3) (v := .int (x.2 10 jb)) hx hb hts hinX0 hown hK hH (lv_bx (show jb < x.1 1 0 by omega) hn1) (cel_bx (by omega)) rfl 10 (by decide) (hts (.fieldLink RX4 93 "SelectoRoute$Box" "jammed" "Z") (by decide +kernel)) (fun _ h => h) rfl dX4_insert_28 ?_
      refine lv_if_eq (tgt := 44) hx hb dX4_insert_31 (by decide) (fun c3 => ?_) (fun c3 => ?_)
      · skip
        refine lv_aload_n hx hb dX4_insert_44 rfl (lv_at hl 1 rfl) ?_
        refine wr_get (T := TX0) (N := 15) (ci := 3) (v := .int (x.2 7 jb)) hx hb hts hinX0 hown hK hH (lv_bx (show jb < x.1 1 0 by omega) hn1) (cel_bx (by omega)) rfl 7 (by decide) (hts (.fieldLink RX4 102 "SelectoRoute$Box" "credits" "I") (by decide +kernel)) (fun _ h => h) rfl dX4_insert_45 ?_
        refine lv_aload hx hb dX4_insert_48 (lv_at hl 0 rfl) ?_
        refine va_getX (i := (cIx v - 1)) hx hb hco.2.2.2.1 hc4 hS hown (hts (.fieldLink RX4 105 "SelectoRoute$Coin" "credits" "I") (by decide +kernel)) (fun _ h => h) dX4_insert_50 ?_
        refine lv_iadd hx hb dX4_insert_53 ?_
        refine lv_bipush (v := 99) hx hb dX4_insert_54 (by decide) ?_
        refine lv_icmp_le (tgt := 69) hx hb dX4_insert_56 (by decide) (fun c4 => ?_) (fun c4 => ?_)
        · skip
          refine lv_aload_n hx hb dX4_insert_69 rfl (lv_at hl 1 rfl) ?_
          refine lv_dup hx hb dX4_insert_70 rfl ?_
          refine wr_get (T := TX0) (N := 15) (ci := 3) (v := .int (x.2 7 jb)) hx hb hts hinX0 hown hK hH (lv_bx (show jb < x.1 1 0 by omega) hn1) (cel_bx (by omega)) rfl 7 (by decide) (hts (.fieldLink RX4 102 "SelectoRoute$Box" "credits" "I") (by decide +kernel)) (fun _ h => h) rfl dX4_insert_71 ?_
          refine lv_aload hx hb dX4_insert_74 (lv_at hl 0 rfl) ?_
          refine va_getX (i := (cIx v - 1)) hx hb hco.2.2.2.1 hc4 hS hown (hts (.fieldLink RX4 105 "SelectoRoute$Coin" "credits" "I") (by decide +kernel)) (fun _ h => h) dX4_insert_76 ?_
          refine lv_iadd hx hb dX4_insert_79 ?_
          refine lv_topi (fun v5 ev5 => ?_)
          refine wr_put (T := TX0) (N := 15) (ci := 3) (v := .int v5) hx hb hts hinX0 tyX0 tyX0_ok nmX0 hown hK hH hS (lv_bx (show jb < x.1 1 0 by omega) hn1) (cel_bx (by omega)) rfl 7 (by decide) (hts (.fieldLink RX4 102 "SelectoRoute$Box" "credits" "I") (by decide +kernel)) (fun _ h => h) rfl (ty := .int) (by decide +kernel) rfl rfl (Nat.le_of_ble_eq_true rfl) dX4_insert_80 (fun H locs hH hS => ?_)
          have hH : wHS E o g (uI x 7 jb v5) y H := pb_7 (by omega) hH
          refine lv_aload_n hx hb dX4_insert_83 rfl (lv_at hl 1 rfl) ?_
          refine lv_dup hx hb dX4_insert_84 rfl ?_
          refine wr_get (T := TX0) (N := 15) (ci := 3) (v := .int (x.2 8 jb)) hx hb hts hinX0 hown hK hH (lv_bx (show jb < x.1 1 0 by omega) hn1) (cel_bx (by omega)) rfl 8 (by decide) (hts (.fieldLink RX4 110 "SelectoRoute$Box" "cents" "I") (by decide +kernel)) (fun _ h => h) rfl dX4_insert_85 ?_
          refine lv_aload hx hb dX4_insert_88 (lv_at hl 0 rfl) ?_
          refine va_getX (i := (cIx v - 1)) hx hb hco.2.2.2.2 hc4 hS hown (hts (.fieldLink RX4 113 "SelectoRoute$Coin" "cents" "I") (by decide +kernel)) (fun _ h => h) dX4_insert_90 ?_
          refine lv_iadd hx hb dX4_insert_93 ?_
          refine lv_topi (fun v6 ev6 => ?_)
          refine wr_put (T := TX0) (N := 15) (ci := 3) (v := .int v6) hx hb hts hinX0 tyX0 tyX0_ok nmX0 hown hK hH hS (lv_bx (show jb < x.1 1 0 by omega) hn1) (cel_bx (by omega)) rfl 8 (by decide) (hts (.fieldLink RX4 110 "SelectoRoute$Box" "cents" "I") (by decide +kernel)) (fun _ h => h) rfl (ty := .int) (by decide +kernel) rfl rfl (Nat.le_of_ble_eq_true rfl) dX4_insert_94 (fun H locs hH hS => ?_)
          have hH : wHS E o g (uI (uI x 7 jb v5) 8 jb v6) y H := pb_8 (by omega) hH
          refine lv_aload_n hx hb dX4_insert_97 rfl (lv_at hl 1 rfl) ?_
          refine wr_get (T := TX0) (N := 15) (ci := 3) (v := .int v5) hx hb hts hinX0 hown hK hH (lv_bx (show jb < x.1 1 0 by omega) hn1) (cel_bx (by omega)) rfl 7 (by decide) (hts (.fieldLink RX4 102 "SelectoRoute$Box" "credits" "I") (by decide +kernel)) (fun _ h => h) (congrArg (fun z => some (Value.int z)) (by simp [uI, uN, va_up])) dX4_insert_98 ?_
          subst ev6
          subst ev5
          have hsp : cp_insert x (nI jb) v = (none, ((x.2 7 jb) + (cCr (cIx v - 1))), (uI (uI x 7 jb ((x.2 7 jb) + (cCr (cIx v - 1)))) 8 jb ((x.2 8 jb) + (cCe (cIx v - 1))))) := by
            unfold cp_insert
            first | (simp only [c1, c2, c3, c4, inB_nI hjb (by omega), ix_nI (show jb < 2 ^ 31 by omega), ↓reduceIte, and_self, and_true, true_and, Bool.false_eq_true, reduceCtorEq, eq_self, false_and, and_false]; done) | (simp [c1, c2, c3, c4, inB_nI hjb (by omega), ix_nI (show jb < 2 ^ 31 by omega), ↓reduceIte, and_self, and_true, true_and, Bool.false_eq_true, reduceCtorEq, eq_self, false_and, and_false]; done) | simp only [c1, c2, c3, c4, inB_nI hjb (by omega), ix_nI (show jb < 2 ^ 31 by omega), ↓reduceIte, and_self, and_true, true_and, Bool.false_eq_true, reduceCtorEq, eq_self, false_and, and_false]
          have hx0 : (cp_insert x (nI jb) v).1 = none := by rw [hsp]
          have hx1 : (cp_insert x (nI jb) v).2.1 = ((x.2 7 jb) + (cCr (cIx v - 1))) := by rw [hsp]
          have hx2 : (cp_insert x (nI jb) v).2.2 = (uI (uI x 7 jb ((x.2 7 jb) + (cCr (cIx v - 1)))) 8 jb ((x.2 8 jb) + (cCe (cIx v - 1)))) := by rw [hsp]
          refine vx_ret ?_
          refine W.widen (k := 4) (n := 24) (by omega) (by omega) ?_
          exact W.iret (v := ((x.2 7 jb) + (cCr (cIx v - 1)))) hx hb hr (fun t ht hW => ⟨⟨((x.2 7 jb) + (cCr (cIx v - 1))), (), rfl, ⟨hx0, hx1.symm⟩, g, gE.rf g, by rw [hx2]; exact wHS_t ht hH⟩, hS.F ht⟩) hS.2.2 dX4_insert_101
        · skip
          have hsp : cp_insert x (nI jb) v = (some "java/lang/IllegalStateException", 0, x) := by
            unfold cp_insert
            first | (simp only [c1, c2, c3, c4, inB_nI hjb (by omega), ix_nI (show jb < 2 ^ 31 by omega), ↓reduceIte, and_self, and_true, true_and, Bool.false_eq_true, reduceCtorEq, eq_self, false_and, and_false]; done) | (simp [c1, c2, c3, c4, inB_nI hjb (by omega), ix_nI (show jb < 2 ^ 31 by omega), ↓reduceIte, and_self, and_true, true_and, Bool.false_eq_true, reduceCtorEq, eq_self, false_and, and_false]; done) | simp only [c1, c2, c3, c4, inB_nI hjb (by omega), ix_nI (show jb < 2 ^ 31 by omega), ↓reduceIte, and_self, and_true, true_and, Bool.false_eq_true, reduceCtorEq, eq_self, false_and, and_false]
          obtain ⟨sa, hsa⟩ := hC.2.2.1 (108, "too many credits") (by decide +kernel)
          exact vx_throwS (A := wA E) (names := ["java/lang/RuntimeException", "java/lang/Exception"]) hx hb hlt hown (by decide +kernel) (by decide +kernel) (hts (.classLink RX4 48 "java/lang/IllegalStateException") (by decide +kernel)) (hts (.initialized "java/lang/IllegalStateException") (by decide +kernel)) hsa (hat_xS hts (fun w h => List.mem_cons_of_mem _ (List.mem_append_left _ (List.mem_append_right _ h))) hC) (by decide +kernel) hC.1 hC.2.1 (by rw [← eH] at *; exact hS) (hl.1.trans hml.symm) dX4_insert_59 dX4_insert_62 dX4_insert_63 dX4_insert_65 dX4_insert_68 (fun x h => (hnt x h).elim) (Nat.lt_of_lt_of_le (by decide : 2 + 3 < 6) (Nat.le_of_ble_eq_true rfl)) (Nat.le_of_ble_eq_true rfl) (Nat.le_of_ble_eq_true rfl) (Nat.le_of_ble_eq_true rfl) hlocks (wX_of hS hH (by rw [hsp])) hS.2.2 (by omega) (by omega)
      · skip
        have hsp : cp_insert x (nI jb) v = (some "java/lang/UnsupportedOperationException", 0, x) := by
          unfold cp_insert
          first | (simp only [c1, c2, c3, inB_nI hjb (by omega), ix_nI (show jb < 2 ^ 31 by omega), ↓reduceIte, and_self, and_true, true_and, Bool.false_eq_true, reduceCtorEq, eq_self, false_and, and_false]; done) | (simp [c1, c2, c3, inB_nI hjb (by omega), ix_nI (show jb < 2 ^ 31 by omega), ↓reduceIte, and_self, and_true, true_and, Bool.false_eq_true, reduceCtorEq, eq_self, false_and, and_false]; done) | simp only [c1, c2, c3, inB_nI hjb (by omega), ix_nI (show jb < 2 ^ 31 by omega), ↓reduceIte, and_self, and_true, true_and, Bool.false_eq_true, reduceCtorEq, eq_self, false_and, and_false]
        obtain ⟨sa, hsa⟩ := hC.2.2.1 (99, "the box is jammed") (by decide +kernel)
        exact vx_throwS (A := wA E) (names := ["java/lang/RuntimeException", "java/lang/Exception"]) hx hb hlt hown (by decide +kernel) (by decide +kernel) (hts (.classLink RX4 97 "java/lang/UnsupportedOperationException") (by decide +kernel)) (hts (.initialized "java/lang/UnsupportedOperationException") (by decide +kernel)) hsa (hat_xU hts (fun w h => List.mem_cons_of_mem _ (List.mem_append_left _ (List.mem_append_left _ (List.mem_append_right _ h)))) hC) (by decide +kernel) hC.1 hC.2.1 (by rw [← eH] at *; exact hS) (hl.1.trans hml.symm) dX4_insert_34 dX4_insert_37 dX4_insert_38 dX4_insert_40 dX4_insert_43 (fun x h => (hnt x h).elim) (Nat.lt_of_lt_of_le (by decide : 2 + 3 < 6) (Nat.le_of_ble_eq_true rfl)) (Nat.le_of_ble_eq_true rfl) (Nat.le_of_ble_eq_true rfl) (Nat.le_of_ble_eq_true rfl) hlocks (wX_of hS hH (by rw [hsp])) hS.2.2 (by omega) (by omega)
def cp_press (x : St) (b : Int32) (k : Int32) : Option String × Int32 × St := if inB b (x.1 1 0) = true then (if inB k 10 = true then (if (x.2 7 (ix b)) ≤ 0 then (some "java/lang/UnsupportedOperationException", 0, x) else (if (x.1 7 (10 * (ix b) + (ix k))) = 0 then (some "java/lang/UnsupportedOperationException", 0, x) else (if (x.1 5 (ix b)) < 8 then (none, (nI ((qAdd (uI x 7 (ix b) ((x.2 7 (ix b)) - 1)) (ix b) (ix k) (capQ (uI x 7 (ix b) ((x.2 7 (ix b)) - 1)) (ix b)) ((uI x 7 (ix b) ((x.2 7 (ix b)) - 1)).2 22 (ix b) + 1)).1 5 (ix b))), (qAdd (uI x 7 (ix b) ((x.2 7 (ix b)) - 1)) (ix b) (ix k) (capQ (uI x 7 (ix b) ((x.2 7 (ix b)) - 1)) (ix b)) ((uI x 7 (ix b) ((x.2 7 (ix b)) - 1)).2 22 (ix b) + 1))) else (some "java/lang/IllegalStateException", 0, x)))) else (some "java/lang/IndexOutOfBoundsException", 0, x)) else (some "java/lang/IndexOutOfBoundsException", 0, x)
set_option maxHeartbeats 4000000 in
set_option maxRecDepth 100000 in
theorem met_X4_press (l : Launch) (E : wE) (o : wO) (g : Nat → Nat) (x y : St) (b : Int32) (k : Int32) (hlt : l.stackTraces = false) (hI : CI x) (hQ : CQ x) : vx_Met l yX4_press wsX4_press ({ frames := 12, cells := 5, slots := 124, locals := 1300 } : Room) (va_Pc [.ref (g 0), .int b, .int k] (wPreZ E o g x y)) (va_Qi (fun (r : Int32) (_ : Unit) => (cp_press x b k).1 = none ∧ r = (cp_press x b k).2.1) (fun (_ : Unit) t => ∃ g9 : Nat → Nat, gE g g9 ∧ wHS E o g9 (cp_press x b k).2.2 y t.heap) (wA E)) (wXC E o g x y (fun X => (cp_press x b k).1 = some X)) 5 124 (wA E) := by
  refine vx_ofW (cc := cX4_press) (maxL := 5) (ret := (some .int)) (by decide) rfl ?_
  intro p e s m args below meth c s₁ B hml hnt hv
  obtain ⟨rfl, ⟨⟨hz, hH, hK⟩, hC⟩, hDD⟩ := hv
  have hx := B.exec
  have hb := B.bytes
  have hr := B.returns
  have hts := atoms_spec (ws := wsX4_press) B.pre
  have hown : s.vm.findClass RX4 = some m.cls := findClass_of_methodNamed B.named
  have hlocks := B.notSynchronized
  have hS : va_S (wA E) s.heap s.heap [] := va_S.rf
  have hinX0 : ∀ w ∈ wsX00, w ∈ wsX4_press := fun w h => List.mem_cons_of_mem _ (List.mem_append_left _ (List.mem_append_left _ (List.mem_append_left _ (List.mem_append_left _ (List.mem_append_left _ (List.mem_append_left _ (List.mem_append_right _ h)))))))
  have hinX3 : ∀ w ∈ wsX30, w ∈ wsX4_press := fun w h => List.mem_cons_of_mem _ (List.mem_append_left _ (List.mem_append_left _ (List.mem_append_left _ (List.mem_append_left _ (List.mem_append_left _ (List.mem_append_right _ h))))))
  have hinX4 : ∀ w ∈ wsX40, w ∈ wsX4_press := fun w h => List.mem_cons_of_mem _ (List.mem_append_left _ (List.mem_append_left _ (List.mem_append_left _ (List.mem_append_left _ (List.mem_append_right _ h)))))
  have hinJx4a65c : ∀ w ∈ wsJx4a65c0, w ∈ wsX4_press := fun w h => List.mem_cons_of_mem _ (List.mem_append_left _ (List.mem_append_left _ (List.mem_append_left _ (List.mem_append_right _ h))))
  have hl := lv_entry ([.ref (g 0), .int b, .int k]) (n := 5) (Nat.le_of_ble_eq_true rfl)
  rw [lg_entry_eq]
  generalize (lg_sl ([.ref (g 0), .int b, .int k]) ++ List.replicate (5 - (lg_sl ([.ref (g 0), .int b, .int k])).length) Slot.unset).toArray = ls at hl ⊢
  have hl : lv_has ls 5 [(0, .ref (g 0)), (1, .int b), (2, .int k)] := hl
  obtain ⟨H, eH⟩ : ∃ z, z = s.heap := ⟨_, rfl⟩
  have hH : wHS E o g x y H := by rw [eH]; exact hH
  have hS : va_S (wA E) s.heap H [] := by rw [eH]; exact hS
  refine W.heapTo eH ?_
  obtain ⟨hn0, hn1, hn2, hn3, hn4, hn5, hc7, hc8, hc5, hc54, hc4, hc50, hc9, hc12, hc10, hcj⟩ := id hI
  refine lv_aload_n hx hb dX4_press_0 rfl (lv_at hl 0 rfl) ?_
  refine lv_iload_n hx hb dX4_press_1 rfl (lv_at hl 1 rfl) ?_
  refine wx_callr (vx_runV (As := [.int b]) (rest := []) ⟨hx, hb, hml, hown, hts⟩ (met_X4_requireBox l E o g x y b hlt hI) (cwV 1 hts gX4_press_X4_requireBox rfl rfl rfl (by decide +kernel) ⟨Nat.le_of_ble_eq_true rfl, Nat.le_of_ble_eq_true rfl⟩) ⟨fun a U f mk q => ⟨q.1, wPreX.calling q.2 a f mk⟩, (va_recv hK (wH_one hH lv_r0 (cel_rt (by omega))) (ci := 6) (q0 := 0) rfl rfl), fun U hU hW => ⟨rfl, wPreX_at hz hS hH hK hC U hU hW⟩⟩ rfl rfl hl.1 rfl (lv_room (Nat.le_of_ble_eq_true rfl)) dX4_press_2 ⟨Nat.le_of_ble_eq_true rfl, Nat.le_of_ble_eq_true rfl⟩) hS (fun q _ h => h) (fun q h => h) (fun q _ h => h) (fun E9 ce q9 u t H locs ht hvm hw hB hz1 hk1 hS hce hcv hcl => ?_) (fun u ra t H locs ht hvm hw hB hz1 hk1 hS => ?_)
  · obtain ⟨⟨rfl, c1⟩, hB⟩ := hB
    have hH := wHS_h ht hB
    have hsp : cp_press x b k = (some "java/lang/IndexOutOfBoundsException", 0, x) := by
      unfold cp_press
      first | (simp only [(Bool.eq_false_iff.mp c1), ↓reduceIte, and_self, and_true, true_and, Bool.false_eq_true, reduceCtorEq, eq_self, false_and, and_false]; done) | (simp [(Bool.eq_false_iff.mp c1), ↓reduceIte, and_self, and_true, true_and, Bool.false_eq_true, reduceCtorEq, eq_self, false_and, and_false]; done) | simp only [(Bool.eq_false_iff.mp c1), ↓reduceIte, and_self, and_true, true_and, Bool.false_eq_true, reduceCtorEq, eq_self, false_and, and_false]
    exact vx_out (fun x h => (hnt x h).elim) hlocks hce hcv hcl (wX_on hS hH (by rw [hsp])) hS.2.2 (by omega) (by omega)
  · have c1 : inB b (x.1 1 0) = true := hw
    obtain ⟨jb, hjb, rfl⟩ := inB_t c1 (by omega)
    obtain ⟨rfl, hB⟩ := hB
    have hH := wHS_h ht hB
    rw [ix_nI (show jb < 2 ^ 31 by omega)]
    refine lv_astore_n (lv' := [(3, .ref (g (200 + jb))), (0, .ref (g 0)), (1, .int (nI jb)), (2, .int k)]) hx hb dX4_press_5 rfl hl (by decide) rfl (fun ls hl => ?_)
    refine lv_aload_n hx hb dX4_press_6 rfl (lv_at hl 0 rfl) ?_
    refine lv_iload_n hx hb dX4_press_7 rfl (lv_at hl 3 rfl) ?_
    refine wx_callr (vx_runS (As := [.ref (g (200 + jb)), .int k]) (rest := []) ⟨hx, hb, hml, hown, hts⟩ (met_X4_requireSlot l E o g x y jb k hlt hI (show jb < x.1 1 0 by omega)) (va_cwS 2 hts gX4_press_X4_requireSlot rfl rfl rfl (by decide +kernel) ⟨Nat.le_of_ble_eq_true rfl, Nat.le_of_ble_eq_true rfl⟩) ⟨fun a U f mk q => ⟨q.1, wPreX.calling q.2 a f mk⟩, fun U hU hW => ⟨rfl, wPreX_at hz hS hH hK hC U hU hW⟩⟩ rfl rfl hl.1 rfl (lv_room (Nat.le_of_ble_eq_true rfl)) dX4_press_8 ⟨Nat.le_of_ble_eq_true rfl, Nat.le_of_ble_eq_true rfl⟩) hS (fun q _ h => h) (fun q h => h) (fun q _ h => h) (fun E9 ce q9 u t H locs ht hvm hw hB hz1 hk1 hS hce hcv hcl => ?_) (fun u ra t H locs ht hvm hw hB hz1 hk1 hS => ?_)
    · obtain ⟨⟨rfl, c2⟩, hB⟩ := hB
      have hH := wHS_h ht hB
      have hsp : cp_press x (nI jb) k = (some "java/lang/IndexOutOfBoundsException", 0, x) := by
        unfold cp_press
        first | (simp only [c1, (Bool.eq_false_iff.mp c2), inB_nI hjb (by omega), ix_nI (show jb < 2 ^ 31 by omega), ↓reduceIte, and_self, and_true, true_and, Bool.false_eq_true, reduceCtorEq, eq_self, false_and, and_false]; done) | (simp [c1, (Bool.eq_false_iff.mp c2), inB_nI hjb (by omega), ix_nI (show jb < 2 ^ 31 by omega), ↓reduceIte, and_self, and_true, true_and, Bool.false_eq_true, reduceCtorEq, eq_self, false_and, and_false]; done) | simp only [c1, (Bool.eq_false_iff.mp c2), inB_nI hjb (by omega), ix_nI (show jb < 2 ^ 31 by omega), ↓reduceIte, and_self, and_true, true_and, Bool.false_eq_true, reduceCtorEq, eq_self, false_and, and_false]
      exact vx_out (fun x h => (hnt x h).elim) hlocks hce hcv hcl (wX_on hS hH (by rw [hsp])) hS.2.2 (by omega) (by omega)
    · have c2 : inB k 10 = true := hw
      obtain ⟨jk, hjk, rfl⟩ := inB_t c2 (by omega)
      obtain ⟨rfl, hB⟩ := hB
      have hH := wHS_h ht hB
      rw [ix_nI (show jk < 2 ^ 31 by omega)]
      refine lv_astore (lv' := [(4, .ref (g (300 + (10 * jb + jk)))), (3, .ref (g (200 + jb))), (0, .ref (g 0)), (1, .int (nI jb)), (2, .int (nI jk))]) hx hb dX4_press_11 hl (by decide) rfl (fun ls hl => ?_)
      refine lv_aload_n hx hb dX4_press_13 rfl (lv_at hl 1 rfl) ?_
      refine wr_get (T := TX0) (N := 15) (ci := 3) (v := .int (x.2 7 jb)) hx hb hts hinX0 hown hK hH (lv_bx (show jb < x.1 1 0 by omega) hn1) (cel_bx (by omega)) rfl 7 (by decide) (hts (.fieldLink RX4 102 "SelectoRoute$Box" "credits" "I") (by decide +kernel)) (fun _ h => h) rfl dX4_press_14 ?_
      refine lv_if_le (tgt := 28) hx hb dX4_press_17 (by decide) (fun c3 => ?_) (fun c3 => ?_)
      · skip
        have hsp : cp_press x (nI jb) (nI jk) = (some "java/lang/UnsupportedOperationException", 0, x) := by
          unfold cp_press
          first | (simp only [c1, c2, c3, inB_nI hjb (by omega), ix_nI (show jb < 2 ^ 31 by omega), inB_nI hjk (by omega), ix_nI (show jk < 2 ^ 31 by omega), ↓reduceIte, and_self, and_true, true_and, Bool.false_eq_true, reduceCtorEq, eq_self, false_and, and_false]; done) | (simp [c1, c2, c3, inB_nI hjb (by omega), ix_nI (show jb < 2 ^ 31 by omega), inB_nI hjk (by omega), ix_nI (show jk < 2 ^ 31 by omega), ↓reduceIte, and_self, and_true, true_and, Bool.false_eq_true, reduceCtorEq, eq_self, false_and, and_false]; done) | simp only [c1, c2, c3, inB_nI hjb (by omega), ix_nI (show jb < 2 ^ 31 by omega), inB_nI hjk (by omega), ix_nI (show jk < 2 ^ 31 by omega), ↓reduceIte, and_self, and_true, true_and, Bool.false_eq_true, reduceCtorEq, eq_self, false_and, and_false]
        obtain ⟨sa, hsa⟩ := hC.2.2.1 (124, "no credit, or an empty slot") (by decide +kernel)
        exact vx_throwS (A := wA E) (names := ["java/lang/RuntimeException", "java/lang/Exception"]) hx hb hlt hown (by decide +kernel) (by decide +kernel) (hts (.classLink RX4 97 "java/lang/UnsupportedOperationException") (by decide +kernel)) (hts (.initialized "java/lang/UnsupportedOperationException") (by decide +kernel)) hsa (hat_xU hts (fun w h => List.mem_cons_of_mem _ (List.mem_append_left _ (List.mem_append_left _ (List.mem_append_right _ h)))) hC) (by decide +kernel) hC.1 hC.2.1 (by rw [← eH] at *; exact hS) (hl.1.trans hml.symm) dX4_press_28 dX4_press_31 dX4_press_32 dX4_press_34 dX4_press_37 (fun x h => (hnt x h).elim) (Nat.lt_of_lt_of_le (by decide : 2 + 3 < 6) (Nat.le_of_ble_eq_true rfl)) (Nat.le_of_ble_eq_true rfl) (Nat.le_of_ble_eq_true rfl) (Nat.le_of_ble_eq_true rfl) hlocks (wX_of hS hH (by rw [hsp])) hS.2.2 (by omega) (by omega)
      · skip
        refine lv_aload hx hb dX4_press_20 (lv_at hl 0 rfl) ?_
        have q7 := hc7 (10 * jb + jk)
        by_cases c4 : (x.1 7 (10 * jb + jk)) = 0
        · skip
          refine wr_get (T := TX3) (N := 3) (ci := 5) (v := .null) hx hb hts hinX3 hown hK hH (lv_sl (show (10 * jb + jk) < 10 * x.1 1 0 by omega) hn1) cel_sl rfl 1 (by decide) (hts (.fieldLink RX4 118 "SelectoRoute$Slot" "disc" "LSelectoRoute$Disc;") (by decide +kernel)) (fun _ h => h) (congrArg some (if_pos c4)) dX4_press_22 ?_
          refine lv_ifnonnullN hx hb dX4_press_25 ?_
          have hsp : cp_press x (nI jb) (nI jk) = (some "java/lang/UnsupportedOperationException", 0, x) := by
            unfold cp_press
            first | (simp only [c1, c2, c3, c4, inB_nI hjb (by omega), ix_nI (show jb < 2 ^ 31 by omega), inB_nI hjk (by omega), ix_nI (show jk < 2 ^ 31 by omega), ↓reduceIte, and_self, and_true, true_and, Bool.false_eq_true, reduceCtorEq, eq_self, false_and, and_false]; done) | (simp [c1, c2, c3, c4, inB_nI hjb (by omega), ix_nI (show jb < 2 ^ 31 by omega), inB_nI hjk (by omega), ix_nI (show jk < 2 ^ 31 by omega), ↓reduceIte, and_self, and_true, true_and, Bool.false_eq_true, reduceCtorEq, eq_self, false_and, and_false]; done) | simp only [c1, c2, c3, c4, inB_nI hjb (by omega), ix_nI (show jb < 2 ^ 31 by omega), inB_nI hjk (by omega), ix_nI (show jk < 2 ^ 31 by omega), ↓reduceIte, and_self, and_true, true_and, Bool.false_eq_true, reduceCtorEq, eq_self, false_and, and_false]
          obtain ⟨sa, hsa⟩ := hC.2.2.1 (124, "no credit, or an empty slot") (by decide +kernel)
          exact vx_throwS (A := wA E) (names := ["java/lang/RuntimeException", "java/lang/Exception"]) hx hb hlt hown (by decide +kernel) (by decide +kernel) (hts (.classLink RX4 97 "java/lang/UnsupportedOperationException") (by decide +kernel)) (hts (.initialized "java/lang/UnsupportedOperationException") (by decide +kernel)) hsa (hat_xU hts (fun w h => List.mem_cons_of_mem _ (List.mem_append_left _ (List.mem_append_left _ (List.mem_append_right _ h)))) hC) (by decide +kernel) hC.1 hC.2.1 (by rw [← eH] at *; exact hS) (hl.1.trans hml.symm) dX4_press_28 dX4_press_31 dX4_press_32 dX4_press_34 dX4_press_37 (fun x h => (hnt x h).elim) (Nat.lt_of_lt_of_le (by decide : 2 + 3 < 6) (Nat.le_of_ble_eq_true rfl)) (Nat.le_of_ble_eq_true rfl) (Nat.le_of_ble_eq_true rfl) (Nat.le_of_ble_eq_true rfl) hlocks (wX_of hS hH (by rw [hsp])) hS.2.2 (by omega) (by omega)
        · skip
          refine wr_get (T := TX3) (N := 3) (ci := 5) (v := .ref (g (100 + ((x.1 7 (10 * jb + jk)) - 1)))) hx hb hts hinX3 hown hK hH (lv_sl (show (10 * jb + jk) < 10 * x.1 1 0 by omega) hn1) cel_sl rfl 1 (by decide) (hts (.fieldLink RX4 118 "SelectoRoute$Slot" "disc" "LSelectoRoute$Disc;") (by decide +kernel)) (fun _ h => h) (congrArg some (if_neg c4)) dX4_press_22 ?_
          refine lv_ifnonnull (tgt := 38) hx hb dX4_press_25 (by decide) ?_
          refine lv_aload_n hx hb dX4_press_38 rfl (lv_at hl 1 rfl) ?_
          refine wr_get (T := TX0) (N := 15) (ci := 3) (v := .ref (g (220 + jb))) hx hb hts hinX0 hown hK hH (lv_bx (show jb < x.1 1 0 by omega) hn1) (cel_bx (by omega)) rfl 4 (by decide) (hts (.fieldLink RX4 126 "SelectoRoute$Box" "queue" "Ljava/util/ArrayList;") (by decide +kernel)) (fun _ h => h) rfl dX4_press_39 ?_
          refine va_calli (va_runV (As := []) (rest := []) ⟨hx, hb, hml, hown, hts⟩ (met_AL_size l E g (liv x.1) (cel E.2.1 g x y o.1 o.2) (220 + jb) (230 + jb) (x.2 22 jb) (x.1 4 jb) (x.1 5 jb) E.2.1.2 (lv_ql (show jb < x.1 1 0 by omega) hn1) (cel_ql (by omega))) (cwV 0 hts gX4_press_Jx4a65c_size_8abf5 rfl rfl rfl (by decide +kernel) ⟨Nat.le_of_ble_eq_true rfl, Nat.le_of_ble_eq_true rfl⟩) ⟨fun a U f mk q => ⟨q.1, wPreG.calling q.2 a f mk⟩, (va_recv hK (wH_one hH (lv_ql (show jb < x.1 1 0 by omega) hn1) (cel_ql (by omega))) (ci := 2) (q0 := 0) rfl rfl), fun U hU hW => ⟨rfl, wPreG_at hz hS hH hK U hU hW⟩⟩ rfl rfl hl.1 rfl (lv_room (Nat.le_of_ble_eq_true rfl)) dX4_press_42 ⟨Nat.le_of_ble_eq_true rfl, Nat.le_of_ble_eq_true rfl⟩) hS (fun q _ h => h) (fun q h => h) (fun r u t H locs ht hvm hw hB hz1 hk1 hS => ?_)
          obtain rfl := hw
          have hH : wHS E o g x y H := wG_h ht hB
          refine lv_bipush (v := 8) hx hb dX4_press_45 (by decide) ?_
          refine lv_icmp_lt (tgt := 60) hx hb dX4_press_47 (by decide) (fun c5 => ?_) (fun c5 => ?_)
          · have c5 := (nI_ltI (a := (x.1 5 jb)) (b := 8) (by have q0 := hc5 jb; omega) (by omega)).mp c5
            refine lv_aload_n hx hb dX4_press_60 rfl (lv_at hl 1 rfl) ?_
            refine lv_dup hx hb dX4_press_61 rfl ?_
            refine wr_get (T := TX0) (N := 15) (ci := 3) (v := .int (x.2 7 jb)) hx hb hts hinX0 hown hK hH (lv_bx (show jb < x.1 1 0 by omega) hn1) (cel_bx (by omega)) rfl 7 (by decide) (hts (.fieldLink RX4 102 "SelectoRoute$Box" "credits" "I") (by decide +kernel)) (fun _ h => h) rfl dX4_press_62 ?_
            refine lv_iconst (v := 1) hx hb dX4_press_65 (by decide) ?_
            refine lv_isub hx hb dX4_press_66 ?_
            refine lv_topi (fun v6 ev6 => ?_)
            refine wr_put (T := TX0) (N := 15) (ci := 3) (v := .int v6) hx hb hts hinX0 tyX0 tyX0_ok nmX0 hown hK hH hS (lv_bx (show jb < x.1 1 0 by omega) hn1) (cel_bx (by omega)) rfl 7 (by decide) (hts (.fieldLink RX4 102 "SelectoRoute$Box" "credits" "I") (by decide +kernel)) (fun _ h => h) rfl (ty := .int) (by decide +kernel) rfl rfl (Nat.le_of_ble_eq_true rfl) dX4_press_67 (fun H locs hH hS => ?_)
            have hH : wHS E o g (uI x 7 jb v6) y H := pb_7 (by omega) hH
            refine lv_aload_n hx hb dX4_press_70 rfl (lv_at hl 1 rfl) ?_
            refine wr_get (T := TX0) (N := 15) (ci := 3) (v := .ref (g (220 + jb))) hx hb hts hinX0 hown hK hH (lv_bx (show jb < x.1 1 0 by omega) hn1) (cel_bx (by omega)) rfl 4 (by decide) (hts (.fieldLink RX4 126 "SelectoRoute$Box" "queue" "Ljava/util/ArrayList;") (by decide +kernel)) (fun _ h => h) rfl dX4_press_71 ?_
            refine lv_aload hx hb dX4_press_74 (lv_at hl 0 rfl) ?_
            refine va_calli (va_runV (As := [.ref (g (300 + (10 * jb + jk)))]) (rest := []) ⟨hx, hb, hml, hown, hts⟩ (met_add l E g (liv (uI x 7 jb v6).1) (cel E.2.1 g (uI x 7 jb v6) y o.1 o.2) (220 + jb) (230 + jb) ((uI x 7 jb v6).2 22 jb) ((uI x 7 jb v6).1 4 jb) ((uI x 7 jb v6).1 5 jb) (capQ (uI x 7 jb v6) jb) (fun i => g (300 + 10 * jb + (uI x 7 jb v6).1 (50 + jb) i)) (300 + (10 * jb + jk)) 5 _ (RX3, TX3, 3) (lv_ql (show jb < x.1 1 0 by omega) hn1) (cel_ql (by omega)) (addC_q (CI_I hI) hQ (show jb < x.1 1 0 by omega) c5) (lv_sl (show (10 * jb + jk) < 10 * x.1 1 0 by omega) hn1) (by omega) cel_sl rfl (by decide +kernel)) (cwV 1 hts gX4_press_Jx4a65c_add_9ea2d rfl rfl rfl (by decide +kernel) ⟨Nat.le_of_ble_eq_true rfl, Nat.le_of_ble_eq_true rfl⟩) ⟨fun a U f mk q => ⟨q.1, wPreY.calling q.2 a f mk⟩, (va_recv hK (wH_one hH (lv_ql (show jb < x.1 1 0 by omega) hn1) (cel_ql (by omega))) (ci := 2) (q0 := 0) rfl rfl), fun U hU hW => ⟨rfl, wPreY_at hz hS hH hK hC hDD U hU hW⟩⟩ rfl rfl hl.1 rfl (lv_room (Nat.le_of_ble_eq_true rfl)) dX4_press_76 ⟨by exact Nat.le_of_ble_eq_true rfl, by exact Nat.le_of_ble_eq_true rfl⟩) hS (fun q _ h => h) (fun q h => h) (fun r u t H locs ht hvm hw hB hz1 hk1 hS => ?_)
            obtain rfl := hw
            obtain ⟨g9, hg9, hB⟩ := hB
            have hH := pq_add (x := (uI x 7 jb v6)) (k := jk) (CI_I hI) (show jb < x.1 1 0 by omega) (by omega) (by unfold capQ; split <;> omega) hg9 (wG_h ht hB)
            rw [← hg9 (300 + (10 * jb + jk)) (by omega), ← hg9 (200 + jb) (by omega), ← hg9 0 (by omega)] at hl
            have hgE : gE g g9 := fun t9 a9 b9 c9 => hg9 t9 (by omega)
            have hG : ∃ z, z = g9 ∧ gE g z := ⟨g9, rfl, hgE⟩
            clear hgE hg9
            obtain ⟨g, rfl, hgE⟩ := hG
            refine lv_pop hx hb dX4_press_79 rfl ?_
            refine lv_aload_n hx hb dX4_press_80 rfl (lv_at hl 1 rfl) ?_
            refine wr_get (T := TX0) (N := 15) (ci := 3) (v := .ref (g (220 + jb))) hx hb hts hinX0 hown hK hH (lv_bx (by rw [qAdd_k _ _ _ _ _ (by decide) (by decide) (by omega)]; exact hjb) (by rw [qAdd_k _ _ _ _ _ (by decide) (by decide) (by omega)]; exact hn1)) (cel_bx (by omega)) rfl 4 (by decide) (hts (.fieldLink RX4 126 "SelectoRoute$Box" "queue" "Ljava/util/ArrayList;") (by decide +kernel)) (fun _ h => h) rfl dX4_press_81 ?_
            refine va_calli (va_runV (As := []) (rest := []) ⟨hx, hb, hml, hown, hts⟩ (met_AL_size l E g (liv (qAdd (uI x 7 jb v6) jb jk (capQ (uI x 7 jb v6) jb) ((uI x 7 jb v6).2 22 jb + 1)).1) (cel E.2.1 g (qAdd (uI x 7 jb v6) jb jk (capQ (uI x 7 jb v6) jb) ((uI x 7 jb v6).2 22 jb + 1)) y o.1 o.2) (220 + jb) (230 + jb) ((qAdd (uI x 7 jb v6) jb jk (capQ (uI x 7 jb v6) jb) ((uI x 7 jb v6).2 22 jb + 1)).2 22 jb) ((qAdd (uI x 7 jb v6) jb jk (capQ (uI x 7 jb v6) jb) ((uI x 7 jb v6).2 22 jb + 1)).1 4 jb) ((qAdd (uI x 7 jb v6) jb jk (capQ (uI x 7 jb v6) jb) ((uI x 7 jb v6).2 22 jb + 1)).1 5 jb) E.2.1.2 (lv_ql (by rw [qAdd_k _ _ _ _ _ (by decide) (by decide) (by omega)]; exact hjb) (by rw [qAdd_k _ _ _ _ _ (by decide) (by decide) (by omega)]; exact hn1)) (cel_ql (by omega))) (cwV 0 hts gX4_press_Jx4a65c_size_8abf5 rfl rfl rfl (by decide +kernel) ⟨Nat.le_of_ble_eq_true rfl, Nat.le_of_ble_eq_true rfl⟩) ⟨fun a U f mk q => ⟨q.1, wPreG.calling q.2 a f mk⟩, (va_recv hK (wH_one hH (lv_ql (by rw [qAdd_k _ _ _ _ _ (by decide) (by decide) (by omega)]; exact hjb) (by rw [qAdd_k _ _ _ _ _ (by decide) (by decide) (by omega)]; exact hn1)) (cel_ql (by omega))) (ci := 2) (q0 := 0) rfl rfl), fun U hU hW => ⟨rfl, wPreG_at hz hS hH hK U hU hW⟩⟩ rfl rfl hl.1 rfl (lv_room (Nat.le_of_ble_eq_true rfl)) dX4_press_84 ⟨Nat.le_of_ble_eq_true rfl, Nat.le_of_ble_eq_true rfl⟩) hS (fun q _ h => h) (fun q h => h) (fun r u t H locs ht hvm hw hB hz1 hk1 hS => ?_)
            obtain rfl := hw
            have hH : wHS E o g (qAdd (uI x 7 jb v6) jb jk (capQ (uI x 7 jb v6) jb) ((uI x 7 jb v6).2 22 jb + 1)) y H := wG_h ht hB
            subst ev6
            have hsp : cp_press x (nI jb) (nI jk) = (none, (nI ((qAdd (uI x 7 jb ((x.2 7 jb) - 1)) jb jk (capQ (uI x 7 jb ((x.2 7 jb) - 1)) jb) ((uI x 7 jb ((x.2 7 jb) - 1)).2 22 jb + 1)).1 5 jb)), (qAdd (uI x 7 jb ((x.2 7 jb) - 1)) jb jk (capQ (uI x 7 jb ((x.2 7 jb) - 1)) jb) ((uI x 7 jb ((x.2 7 jb) - 1)).2 22 jb + 1))) := by
              unfold cp_press
              first | (simp only [c1, c2, c3, c4, c5, inB_nI hjb (by omega), ix_nI (show jb < 2 ^ 31 by omega), inB_nI hjk (by omega), ix_nI (show jk < 2 ^ 31 by omega), ↓reduceIte, and_self, and_true, true_and, Bool.false_eq_true, reduceCtorEq, eq_self, false_and, and_false]; done) | (simp [c1, c2, c3, c4, c5, inB_nI hjb (by omega), ix_nI (show jb < 2 ^ 31 by omega), inB_nI hjk (by omega), ix_nI (show jk < 2 ^ 31 by omega), ↓reduceIte, and_self, and_true, true_and, Bool.false_eq_true, reduceCtorEq, eq_self, false_and, and_false]; done) | simp only [c1, c2, c3, c4, c5, inB_nI hjb (by omega), ix_nI (show jb < 2 ^ 31 by omega), inB_nI hjk (by omega), ix_nI (show jk < 2 ^ 31 by omega), ↓reduceIte, and_self, and_true, true_and, Bool.false_eq_true, reduceCtorEq, eq_self, false_and, and_false]
            have hx0 : (cp_press x (nI jb) (nI jk)).1 = none := by rw [hsp]
            have hx1 : (cp_press x (nI jb) (nI jk)).2.1 = (nI ((qAdd (uI x 7 jb ((x.2 7 jb) - 1)) jb jk (capQ (uI x 7 jb ((x.2 7 jb) - 1)) jb) ((uI x 7 jb ((x.2 7 jb) - 1)).2 22 jb + 1)).1 5 jb)) := by rw [hsp]
            have hx2 : (cp_press x (nI jb) (nI jk)).2.2 = (qAdd (uI x 7 jb ((x.2 7 jb) - 1)) jb jk (capQ (uI x 7 jb ((x.2 7 jb) - 1)) jb) ((uI x 7 jb ((x.2 7 jb) - 1)).2 22 jb + 1)) := by rw [hsp]
            refine vx_ret ?_
            refine W.widen (k := 5) (n := 124) (by omega) (by omega) ?_
            exact W.iret (v := (nI ((qAdd (uI x 7 jb ((x.2 7 jb) - 1)) jb jk (capQ (uI x 7 jb ((x.2 7 jb) - 1)) jb) ((uI x 7 jb ((x.2 7 jb) - 1)).2 22 jb + 1)).1 5 jb))) hx hb hr (fun t ht hW => ⟨⟨(nI ((qAdd (uI x 7 jb ((x.2 7 jb) - 1)) jb jk (capQ (uI x 7 jb ((x.2 7 jb) - 1)) jb) ((uI x 7 jb ((x.2 7 jb) - 1)).2 22 jb + 1)).1 5 jb)), (), rfl, ⟨hx0, hx1.symm⟩, g, hgE, by rw [hx2]; exact wHS_t ht hH⟩, hS.F ht⟩) hS.2.2 dX4_press_87
          · have c5 : ¬ ((x.1 5 jb) < 8) := fun hq => c5 ((nI_ltI (a := (x.1 5 jb)) (b := 8) (by have q0 := hc5 jb; omega) (by omega)).mpr hq)
            have hsp : cp_press x (nI jb) (nI jk) = (some "java/lang/IllegalStateException", 0, x) := by
              unfold cp_press
              first | (simp only [c1, c2, c3, c4, c5, inB_nI hjb (by omega), ix_nI (show jb < 2 ^ 31 by omega), inB_nI hjk (by omega), ix_nI (show jk < 2 ^ 31 by omega), ↓reduceIte, and_self, and_true, true_and, Bool.false_eq_true, reduceCtorEq, eq_self, false_and, and_false]; done) | (simp [c1, c2, c3, c4, c5, inB_nI hjb (by omega), ix_nI (show jb < 2 ^ 31 by omega), inB_nI hjk (by omega), ix_nI (show jk < 2 ^ 31 by omega), ↓reduceIte, and_self, and_true, true_and, Bool.false_eq_true, reduceCtorEq, eq_self, false_and, and_false]; done) | simp only [c1, c2, c3, c4, c5, inB_nI hjb (by omega), ix_nI (show jb < 2 ^ 31 by omega), inB_nI hjk (by omega), ix_nI (show jk < 2 ^ 31 by omega), ↓reduceIte, and_self, and_true, true_and, Bool.false_eq_true, reduceCtorEq, eq_self, false_and, and_false]
            obtain ⟨sa, hsa⟩ := hC.2.2.1 (129, "the queue is full") (by decide +kernel)
            exact vx_throwS (A := wA E) (names := ["java/lang/RuntimeException", "java/lang/Exception"]) hx hb hlt hown (by decide +kernel) (by decide +kernel) (hts (.classLink RX4 48 "java/lang/IllegalStateException") (by decide +kernel)) (hts (.initialized "java/lang/IllegalStateException") (by decide +kernel)) hsa (hat_xS hts (fun w h => List.mem_cons_of_mem _ (List.mem_append_left _ (List.mem_append_right _ h))) hC) (by decide +kernel) hC.1 hC.2.1 (by rw [← eH] at *; exact hS) (hl.1.trans hml.symm) dX4_press_50 dX4_press_53 dX4_press_54 dX4_press_56 dX4_press_59 (fun x h => (hnt x h).elim) (Nat.lt_of_lt_of_le (by decide : 2 + 3 < 6) (Nat.le_of_ble_eq_true rfl)) (Nat.le_of_ble_eq_true rfl) (Nat.le_of_ble_eq_true rfl) (Nat.le_of_ble_eq_true rfl) hlocks (wX_of hS hH (by rw [hsp])) hS.2.2 (by omega) (by omega)
set_option maxHeartbeats 4000000 in
set_option maxRecDepth 100000 in
theorem met_X0_playNext (l : Launch) (E : wE) (o : wO) (g : Nat → Nat) (x y : St) (j : Nat) (hI : CI x) (hj : j < x.1 1 0) (h50 : ¬ x.1 5 j = 0) : Met l yX0_playNext wsX0_playNext ({ frames := 6, cells := 0, slots := 0, locals := 700 } : Room) (va_Pc [.ref (g (200 + j))] (wPreZ E o g x y)) (va_Qi (fun (r : Int32) (_ : Unit) => r = (cp_playNext x j).1) (fun (_ : Unit) t => wHS E o g (cp_playNext x j).2 y t.heap) (wA E)) 0 0 (wA E) := by
  refine Met.ofW (cc := cX0_playNext) (maxL := 2) (ret := (some .boolean)) (by decide) rfl ?_
  intro p e s m args below meth c s₁ B hml hv
  obtain ⟨rfl, ⟨⟨hz, hH, hK⟩, hC⟩, hDD⟩ := hv
  have hx := B.exec
  have hb := B.bytes
  have hr := B.returns
  have hts := atoms_spec (ws := wsX0_playNext) B.pre
  have hown : s.vm.findClass RX0 = some m.cls := findClass_of_methodNamed B.named
  have hlocks := B.notSynchronized
  have hS : va_S (wA E) s.heap s.heap [] := va_S.rf
  have hinX0 : ∀ w ∈ wsX00, w ∈ wsX0_playNext := fun w h => List.mem_cons_of_mem _ (List.mem_append_left _ (List.mem_append_left _ (List.mem_append_left _ (List.mem_append_right _ h))))
  have hinX3 : ∀ w ∈ wsX30, w ∈ wsX0_playNext := fun w h => List.mem_cons_of_mem _ (List.mem_append_left _ (List.mem_append_left _ (List.mem_append_right _ h)))
  have hinJx4a65c : ∀ w ∈ wsJx4a65c0, w ∈ wsX0_playNext := fun w h => List.mem_cons_of_mem _ (List.mem_append_left _ (List.mem_append_right _ h))
  have hinX2 : ∀ w ∈ wsX20, w ∈ wsX0_playNext := fun w h => List.mem_cons_of_mem _ (List.mem_append_right _ h)
  have hl := lv_entry ([.ref (g (200 + j))]) (n := 2) (Nat.le_of_ble_eq_true rfl)
  rw [lg_entry_eq]
  generalize (lg_sl ([.ref (g (200 + j))]) ++ List.replicate (2 - (lg_sl ([.ref (g (200 + j))])).length) Slot.unset).toArray = ls at hl ⊢
  have hl : lv_has ls 2 [(0, .ref (g (200 + j)))] := hl
  obtain ⟨H, eH⟩ : ∃ z, z = s.heap := ⟨_, rfl⟩
  have hH : wHS E o g x y H := by rw [eH]; exact hH
  have hS : va_S (wA E) s.heap H [] := by rw [eH]; exact hS
  refine W.heapTo eH ?_
  obtain ⟨hn0, hn1, hn2, hn3, hn4, hn5, hc7, hc8, hc5, hc54, hc4, hc50, hc9, hc12, hc10, hcj⟩ := id hI
  refine lv_aload_n hx hb dX0_playNext_0 rfl (lv_at hl 0 rfl) ?_
  refine wr_get (T := TX0) (N := 15) (ci := 3) (v := .ref (g (220 + j))) hx hb hts hinX0 hown hK hH (lv_bx (show j < x.1 1 0 by omega) hn1) (cel_bx (by omega)) rfl 4 (by decide) (hts (.fieldLink RX0 20 "SelectoRoute$Box" "queue" "Ljava/util/ArrayList;") (by decide +kernel)) (fun _ h => h) rfl dX0_playNext_1 ?_
  refine va_calli (va_runV (As := []) (rest := []) ⟨hx, hb, hml, hown, hts⟩ (met_AL_isEmpty l E g (liv x.1) (cel E.2.1 g x y o.1 o.2) (220 + j) (230 + j) (x.2 22 j) (x.1 4 j) (x.1 5 j) E.2.1.2 (lv_ql hj hn1) (cel_ql (by omega)) (by have q := hc5 j; omega)) (cwV 0 hts gX0_playNext_Jx4a65c_isEmpty_aae02 rfl rfl rfl (by decide +kernel) ⟨Nat.le_of_ble_eq_true rfl, Nat.le_of_ble_eq_true rfl⟩) ⟨fun a U f mk q => ⟨q.1, wPreG.calling q.2 a f mk⟩, (va_recv hK (wH_one hH (lv_ql (show j < x.1 1 0 by omega) hn1) (cel_ql (by omega))) (ci := 2) (q0 := 0) rfl rfl), fun U hU hW => ⟨rfl, wPreG_at hz hS hH hK U hU hW⟩⟩ rfl rfl hl.1 rfl (lv_room (Nat.le_of_ble_eq_true rfl)) dX0_playNext_4 ⟨Nat.le_of_ble_eq_true rfl, Nat.le_of_ble_eq_true rfl⟩) hS (fun q _ h => h) (fun q h => h) (fun r u t H locs ht hvm hw hB hz1 hk1 hS => ?_)
  rcases hw with ⟨rfl, hw⟩ | ⟨rfl, hw⟩
  · exact absurd hw h50
  have hH : wHS E o g x y H := wG_h ht hB
  refine lv_if_eq (tgt := 12) hx hb dX0_playNext_7 (by decide) (fun _ => ?_) (fun hq => absurd (show (0 : Int32) = 0 by decide) hq)
  refine lv_aload_n hx hb dX0_playNext_12 rfl (lv_at hl 0 rfl) ?_
  refine wr_get (T := TX0) (N := 15) (ci := 3) (v := .ref (g (220 + j))) hx hb hts hinX0 hown hK hH (lv_bx (show j < x.1 1 0 by omega) hn1) (cel_bx (by omega)) rfl 4 (by decide) (hts (.fieldLink RX0 20 "SelectoRoute$Box" "queue" "Ljava/util/ArrayList;") (by decide +kernel)) (fun _ h => h) rfl dX0_playNext_13 ?_
  refine lv_iconst (v := 0) hx hb dX0_playNext_16 (by decide) ?_
  obtain ⟨n, hn⟩ : ∃ n, x.1 5 j = n + 1 := ⟨x.1 5 j - 1, by omega⟩
  have h40 : x.1 4 j ≠ 0 := by have q := hc54 j; omega
  have q40 := hc4 j
  have q54 := hc54 j
  have q50 := hc50 j 0
  refine va_callr (va_runV (As := [.int 0]) (rest := []) ⟨hx, hb, hml, hown, hts⟩ (met_remove0 l E g (liv x.1) (cel E.2.1 g x y o.1 o.2) (220 + j) (230 + j) (x.2 22 j) (x.1 4 j) n (lv_ql hj hn1) (by rw [cel_ql (by omega), ← hn]; unfold cQl cLst; rw [if_neg h40]) (lv_qa hj hn1 h40) (fun i => g (300 + 10 * j + x.1 (50 + j) i)) (by rw [cel_qa (by omega), ← hn]; rfl) (by omega) (by omega) (fun i _ => el_q hI hj i)) (cwV 1 hts gX0_playNext_Jx4a65c_remove_915e3 rfl rfl rfl (by decide +kernel) ⟨Nat.le_of_ble_eq_true rfl, Nat.le_of_ble_eq_true rfl⟩) ⟨fun a U f mk q => ⟨q.1, wPreY.calling q.2 a f mk⟩, (va_recv hK (wH_one hH (lv_ql hj hn1) (cel_ql (by omega))) (ci := 2) (q0 := 0) rfl rfl), fun U hU hW => ⟨rfl, wPreY_at hz hS hH hK hC hDD U hU hW⟩⟩ rfl rfl hl.1 rfl (lv_room (Nat.le_of_ble_eq_true rfl)) dX0_playNext_17 ⟨by exact Nat.le_of_ble_eq_true rfl, by exact Nat.le_of_ble_eq_true rfl⟩) hS (fun q _ h => h) (fun q h => h) (fun u ra t H locs ht hvm hw hB hz1 hk1 hS => ?_)
  obtain ⟨rfl, hB⟩ := hB
  have hH := pq_rem (x := x) (by omega) h40 (wG_h ht hB)
  rw [show n = x.1 5 j - 1 by omega] at hH
  obtain ⟨a, ea⟩ : ∃ z, z = 10 * j + x.1 (50 + j) 0 := ⟨_, rfl⟩
  refine W.eq (g2 := F0 m 20 ls [.ref (g (300 + a))]) (by rw [ea, ← Nat.add_assoc]) ?_
  obtain ⟨x1, ex1⟩ : ∃ z, z = qRem x j (x.1 5 j - 1) (x.2 22 j + 1) := ⟨_, rfl⟩
  rw [← ex1] at hH
  have hI1 : CI x1 := by rw [ex1]; exact CI_rem hI (by omega)
  have hj1 : j < x1.1 1 0 := by rw [ex1, qRem_k _ _ _ _ (by decide) (by omega)]; exact hj
  have ha1 : a < 10 * x1.1 1 0 := by omega
  obtain ⟨hp0, hp1, hp2, hp3, hp4, hp5, hd7, hd8, hd5, hd54, hd4, hd50, hd9, hd12, hd10, hdj⟩ := id hI1
  have hsp0 : cp_playNext x j = pn2 x1 j a := by unfold cp_playNext; rw [← ex1, ← ea]
  refine va_castS hx hb hown (hts (.classLink RX0 9 "SelectoRoute$Slot") (by decide +kernel)) (hK.1 5 _ rfl).2 (va_recv hK (wH_one hH (lv_sl (show a < 10 * x1.1 1 0 by omega) hp1) cel_sl) (ci := 5) (q0 := 0) rfl rfl) dX0_playNext_20 ?_
  refine lv_astore_n (lv' := [(1, .ref (g (300 + a))), (0, .ref (g (200 + j)))]) hx hb dX0_playNext_23 rfl hl (by decide) rfl (fun ls hl => ?_)
  refine lv_aload_n hx hb dX0_playNext_24 rfl (lv_at hl 0 rfl) ?_
  have q7 := hd7 a
  by_cases c1 : (x1.1 7 a) = 0
  · skip
    refine wr_get (T := TX3) (N := 3) (ci := 5) (v := .null) hx hb hts hinX3 hown hK hH (lv_sl (show a < 10 * x1.1 1 0 by omega) hp1) cel_sl rfl 1 (by decide) (hts (.fieldLink RX0 52 "SelectoRoute$Slot" "disc" "LSelectoRoute$Disc;") (by decide +kernel)) (fun _ h => h) (congrArg some (if_pos c1)) dX0_playNext_25 ?_
    refine lv_ifnullN (tgt := 41) hx hb dX0_playNext_28 (by decide) ?_
    refine lv_aload_n hx hb dX0_playNext_41 rfl (lv_at hl 1 rfl) ?_
    refine lv_dup hx hb dX0_playNext_42 rfl ?_
    refine wr_get (T := TX0) (N := 15) (ci := 3) (v := .int (x1.2 7 j)) hx hb hts hinX0 hown hK hH (lv_bx (show j < x1.1 1 0 by omega) hp1) (cel_bx (by omega)) rfl 7 (by decide) (hts (.fieldLink RX0 61 "SelectoRoute$Box" "credits" "I") (by decide +kernel)) (fun _ h => h) rfl dX0_playNext_43 ?_
    refine lv_iconst (v := 1) hx hb dX0_playNext_46 (by decide) ?_
    refine lv_iadd hx hb dX0_playNext_47 ?_
    refine lv_topi (fun v2 ev2 => ?_)
    refine wr_put (T := TX0) (N := 15) (ci := 3) (v := .int v2) hx hb hts hinX0 tyX0 tyX0_ok nmX0 hown hK hH hS (lv_bx (show j < x1.1 1 0 by omega) hp1) (cel_bx (by omega)) rfl 7 (by decide) (hts (.fieldLink RX0 61 "SelectoRoute$Box" "credits" "I") (by decide +kernel)) (fun _ h => h) rfl (ty := .int) (by decide +kernel) rfl rfl (Nat.le_of_ble_eq_true rfl) dX0_playNext_48 (fun H locs hH hS => ?_)
    have hH : wHS E o g (uI x1 7 j v2) y H := pb_7 (by omega) hH
    refine lv_iconst (v := 0) hx hb dX0_playNext_51 (by decide) ?_
    subst ev2
    have hsp : cp_playNext x j = (0, (uI x1 7 j ((x1.2 7 j) + 1))) := by rw [hsp0]; unfold pn2; simp only [c1, ↓reduceIte]
    have hx1 : (cp_playNext x j).1 = 0 := by rw [hsp]
    have hx2 : (cp_playNext x j).2 = (uI x1 7 j ((x1.2 7 j) + 1)) := by rw [hsp]
    refine W.widen (k := 0) (n := 0) (by omega) (by omega) ?_
    exact W.zret (v := 0) hx hb hr rfl (fun t ht hW => ⟨⟨0, (), rfl, hx1.symm, by rw [hx2]; exact wHS_t ht hH⟩, hS.F ht⟩) hS.2.2 dX0_playNext_52
  · skip
    refine wr_get (T := TX3) (N := 3) (ci := 5) (v := .ref (g (100 + ((x1.1 7 a) - 1)))) hx hb hts hinX3 hown hK hH (lv_sl (show a < 10 * x1.1 1 0 by omega) hp1) cel_sl rfl 1 (by decide) (hts (.fieldLink RX0 52 "SelectoRoute$Slot" "disc" "LSelectoRoute$Disc;") (by decide +kernel)) (fun _ h => h) (congrArg some (if_neg c1)) dX0_playNext_25 ?_
    refine lv_ifnull hx hb dX0_playNext_28 ?_
    refine lv_aload_n hx hb dX0_playNext_31 rfl (lv_at hl 0 rfl) ?_
    have q7 := hd7 a
    refine wr_get (T := TX3) (N := 3) (ci := 5) (v := .ref (g (100 + ((x1.1 7 a) - 1)))) hx hb hts hinX3 hown hK hH (lv_sl (show a < 10 * x1.1 1 0 by omega) hp1) cel_sl rfl 1 (by decide) (hts (.fieldLink RX0 52 "SelectoRoute$Slot" "disc" "LSelectoRoute$Disc;") (by decide +kernel)) (fun _ h => h) (congrArg some (if_neg c1)) dX0_playNext_32 ?_
    refine va_calli (va_runV (As := []) (rest := []) ⟨hx, hb, hml, hown, hts⟩ (met_X2_isWorn l E o g x1 y ((x1.1 7 a) - 1) (show ((x1.1 7 a) - 1) < x1.1 0 0 by omega) hp0) (cwV 0 hts gX0_playNext_X2_isWorn rfl rfl rfl (by decide +kernel) ⟨Nat.le_of_ble_eq_true rfl, Nat.le_of_ble_eq_true rfl⟩) ⟨fun a U f mk q => ⟨q.1, wPre.calling q.2 a f mk⟩, (va_recv hK (wH_one hH (lv_di (show ((x1.1 7 a) - 1) < x1.1 0 0 by have q0 := hd7 a; omega) hp0) (cel_di (by omega))) (ci := 4) (q0 := 0) rfl rfl), fun U hU hW => ⟨rfl, wPre_at hz hS hH hK U hU hW⟩⟩ rfl rfl hl.1 rfl (lv_room (Nat.le_of_ble_eq_true rfl)) dX0_playNext_35 ⟨Nat.le_of_ble_eq_true rfl, Nat.le_of_ble_eq_true rfl⟩) hS (fun q _ h => h) (fun q h => h) (fun r u t H locs ht hvm hw hB hz1 hk1 hS => ?_)
    have hB := wHS_h ht hB
    try dsimp only at hw
    have hH := hB
    rcases hw with ⟨rfl, c3⟩ | ⟨rfl, c3⟩
    · have c3 : ¬ ((x1.2 3 ((x1.1 7 a) - 1)) < 60) := c3
      refine lv_if_eq (tgt := 53) hx hb dX0_playNext_38 (by decide) (fun hq => absurd hq (show ¬ (1 : Int32) = 0 by decide)) (fun _ => ?_)
      refine lv_aload_n hx hb dX0_playNext_41 rfl (lv_at hl 1 rfl) ?_
      refine lv_dup hx hb dX0_playNext_42 rfl ?_
      refine wr_get (T := TX0) (N := 15) (ci := 3) (v := .int (x1.2 7 j)) hx hb hts hinX0 hown hK hH (lv_bx (show j < x1.1 1 0 by omega) hp1) (cel_bx (by omega)) rfl 7 (by decide) (hts (.fieldLink RX0 61 "SelectoRoute$Box" "credits" "I") (by decide +kernel)) (fun _ h => h) rfl dX0_playNext_43 ?_
      refine lv_iconst (v := 1) hx hb dX0_playNext_46 (by decide) ?_
      refine lv_iadd hx hb dX0_playNext_47 ?_
      refine lv_topi (fun v4 ev4 => ?_)
      refine wr_put (T := TX0) (N := 15) (ci := 3) (v := .int v4) hx hb hts hinX0 tyX0 tyX0_ok nmX0 hown hK hH hS (lv_bx (show j < x1.1 1 0 by omega) hp1) (cel_bx (by omega)) rfl 7 (by decide) (hts (.fieldLink RX0 61 "SelectoRoute$Box" "credits" "I") (by decide +kernel)) (fun _ h => h) rfl (ty := .int) (by decide +kernel) rfl rfl (Nat.le_of_ble_eq_true rfl) dX0_playNext_48 (fun H locs hH hS => ?_)
      have hH : wHS E o g (uI x1 7 j v4) y H := pb_7 (by omega) hH
      refine lv_iconst (v := 0) hx hb dX0_playNext_51 (by decide) ?_
      subst ev4
      have hsp : cp_playNext x j = (0, (uI x1 7 j ((x1.2 7 j) + 1))) := by rw [hsp0]; unfold pn2; simp only [c1, c3, ↓reduceIte]
      have hx1 : (cp_playNext x j).1 = 0 := by rw [hsp]
      have hx2 : (cp_playNext x j).2 = (uI x1 7 j ((x1.2 7 j) + 1)) := by rw [hsp]
      refine W.widen (k := 0) (n := 0) (by omega) (by omega) ?_
      exact W.zret (v := 0) hx hb hr rfl (fun t ht hW => ⟨⟨0, (), rfl, hx1.symm, by rw [hx2]; exact wHS_t ht hH⟩, hS.F ht⟩) hS.2.2 dX0_playNext_52
    · have c3 : (x1.2 3 ((x1.1 7 a) - 1)) < 60 := c3
      refine lv_if_eq (tgt := 53) hx hb dX0_playNext_38 (by decide) (fun _ => ?_) (fun hq => absurd (show (0 : Int32) = 0 by decide) hq)
      refine lv_aload_n hx hb dX0_playNext_53 rfl (lv_at hl 1 rfl) ?_
      refine lv_aload_n hx hb dX0_playNext_54 rfl (lv_at hl 0 rfl) ?_
      refine lv_aload_n hx hb dX0_playNext_55 rfl (lv_at hl 0 rfl) ?_
      have q7 := hd7 a
      refine wr_get (T := TX3) (N := 3) (ci := 5) (v := .ref (g (100 + ((x1.1 7 a) - 1)))) hx hb hts hinX3 hown hK hH (lv_sl (show a < 10 * x1.1 1 0 by omega) hp1) cel_sl rfl 1 (by decide) (hts (.fieldLink RX0 52 "SelectoRoute$Slot" "disc" "LSelectoRoute$Disc;") (by decide +kernel)) (fun _ h => h) (congrArg some (if_neg c1)) dX0_playNext_56 ?_
      refine lv_iconst (v := 1) hx hb dX0_playNext_59 (by decide) ?_
      refine va_callv (va_runV (As := [.ref (g (300 + a)), .ref (g (100 + ((x1.1 7 a) - 1))), .int 1]) (rest := []) ⟨hx, hb, hml, hown, hts⟩ (met_X0_playDisc l E o g x1 y j a ((x1.1 7 a) - 1) 1 (CI_I hI1) (show j < x1.1 1 0 by omega) (show a < 10 * x1.1 1 0 by omega) (show ((x1.1 7 a) - 1) < x1.1 0 0 by omega)) (cwV 3 hts gX0_playNext_X0_playDisc rfl rfl rfl (by decide +kernel) ⟨Nat.le_of_ble_eq_true rfl, Nat.le_of_ble_eq_true rfl⟩) ⟨fun a U f mk q => ⟨q.1, wPre.calling q.2 a f mk⟩, (va_recv hK (wH_one hH (lv_bx (show j < x1.1 1 0 by omega) hp1) (cel_bx (by omega))) (ci := 3) (q0 := 0) rfl rfl), fun U hU hW => ⟨rfl, wPre_at hz hS hH hK U hU hW⟩⟩ rfl rfl hl.1 rfl (lv_room (Nat.le_of_ble_eq_true rfl)) dX0_playNext_60 ⟨Nat.le_of_ble_eq_true rfl, Nat.le_of_ble_eq_true rfl⟩) hS (fun q _ h => h) (fun q h => h) (fun u t H locs ht hvm hw hB hz1 hk1 hS => ?_)
      have hB := wHS_h ht hB
      try dsimp only at hw
      have hH := hB
      refine lv_iconst (v := 1) hx hb dX0_playNext_63 (by decide) ?_
      have hsp : cp_playNext x j = (1, (plD x1 j a ((x1.1 7 a) - 1) 1)) := by rw [hsp0]; unfold pn2; simp only [c1, c3, ↓reduceIte]
      have hx1 : (cp_playNext x j).1 = 1 := by rw [hsp]
      have hx2 : (cp_playNext x j).2 = (plD x1 j a ((x1.1 7 a) - 1) 1) := by rw [hsp]
      refine W.widen (k := 0) (n := 0) (by omega) (by omega) ?_
      exact W.zret (v := 1) hx hb hr rfl (fun t ht hW => ⟨⟨1, (), rfl, hx1.symm, by rw [hx2]; exact wHS_t ht hH⟩, hS.F ht⟩) hS.2.2 dX0_playNext_64
def cp_play (x : St) (b : Int32) : Option String × Int32 × St := if inB b (x.1 1 0) = true then (if (x.2 10 (ix b)) = 0 then (if (x.1 5 (ix b)) = 0 then (some "java/util/NoSuchElementException", 0, x) else (if (x.2 6 (ix b)) ≤ ((((((x.2 16 0).toInt64) * 48271) - (((x.2 16 0).toInt64) * 48271) / 2147483647 * 2147483647).toInt32) - (((((x.2 16 0).toInt64) * 48271) - (((x.2 16 0).toInt64) * 48271) / 2147483647 * 2147483647).toInt32) / 100 * 100) then (if ((cp_playNext (uI x 16 0 (((((x.2 16 0).toInt64) * 48271) - (((x.2 16 0).toInt64) * 48271) / 2147483647 * 2147483647).toInt32)) (ix b)).1) = 0 then (none, 98, (cp_playNext (uI x 16 0 (((((x.2 16 0).toInt64) * 48271) - (((x.2 16 0).toInt64) * 48271) / 2147483647 * 2147483647).toInt32)) (ix b)).2) else (none, 112, (cp_playNext (uI x 16 0 (((((x.2 16 0).toInt64) * 48271) - (((x.2 16 0).toInt64) * 48271) / 2147483647 * 2147483647).toInt32)) (ix b)).2)) else (none, 106, (uI (uI x 16 0 (((((x.2 16 0).toInt64) * 48271) - (((x.2 16 0).toInt64) * 48271) / 2147483647 * 2147483647).toInt32)) 10 (ix b) 1)))) else (some "java/lang/UnsupportedOperationException", 0, x)) else (some "java/lang/IndexOutOfBoundsException", 0, x)
set_option maxHeartbeats 4000000 in
set_option maxRecDepth 100000 in
theorem met_X4_play (l : Launch) (E : wE) (o : wO) (g : Nat → Nat) (x y : St) (b : Int32) (hlt : l.stackTraces = false) (hI : CI x) : vx_Met l yX4_play wsX4_play ({ frames := 10, cells := 4, slots := 24, locals := 1100 } : Room) (va_Pc [.ref (g 0), .int b] (wPreZ E o g x y)) (va_Qi (fun (r : Int32) (_ : Unit) => (cp_play x b).1 = none ∧ r = (cp_play x b).2.1) (fun (_ : Unit) t => ∃ g9 : Nat → Nat, gE g g9 ∧ wHS E o g9 (cp_play x b).2.2 y t.heap) (wA E)) (wXC E o g x y (fun X => (cp_play x b).1 = some X)) 4 24 (wA E) := by
  refine vx_ofW (cc := cX4_play) (maxL := 3) (ret := (some .char)) (by decide) rfl ?_
  intro p e s m args below meth c s₁ B hml hnt hv
  obtain ⟨rfl, ⟨⟨hz, hH, hK⟩, hC⟩, hDD⟩ := hv
  have hx := B.exec
  have hb := B.bytes
  have hr := B.returns
  have hts := atoms_spec (ws := wsX4_play) B.pre
  have hown : s.vm.findClass RX4 = some m.cls := findClass_of_methodNamed B.named
  have hlocks := B.notSynchronized
  have hS : va_S (wA E) s.heap s.heap [] := va_S.rf
  have hinX0 : ∀ w ∈ wsX00, w ∈ wsX4_play := fun w h => List.mem_cons_of_mem _ (List.mem_append_left _ (List.mem_append_left _ (List.mem_append_left _ (List.mem_append_left _ (List.mem_append_left _ (List.mem_append_left _ (List.mem_append_left _ (List.mem_append_right _ h))))))))
  have hinX4 : ∀ w ∈ wsX40, w ∈ wsX4_play := fun w h => List.mem_cons_of_mem _ (List.mem_append_left _ (List.mem_append_left _ (List.mem_append_left _ (List.mem_append_left _ (List.mem_append_left _ (List.mem_append_left _ (List.mem_append_right _ h)))))))
  have hinJx4a65c : ∀ w ∈ wsJx4a65c0, w ∈ wsX4_play := fun w h => List.mem_cons_of_mem _ (List.mem_append_left _ (List.mem_append_left _ (List.mem_append_left _ (List.mem_append_left _ (List.mem_append_left _ (List.mem_append_right _ h))))))
  have hinX3 : ∀ w ∈ wsX30, w ∈ wsX4_play := fun w h => List.mem_cons_of_mem _ (List.mem_append_left _ (List.mem_append_left _ (List.mem_append_left _ (List.mem_append_left _ (List.mem_append_right _ h)))))
  have hinX2 : ∀ w ∈ wsX20, w ∈ wsX4_play := fun w h => List.mem_cons_of_mem _ (List.mem_append_left _ (List.mem_append_left _ (List.mem_append_left _ (List.mem_append_right _ h))))
  have hl := lv_entry ([.ref (g 0), .int b]) (n := 3) (Nat.le_of_ble_eq_true rfl)
  rw [lg_entry_eq]
  generalize (lg_sl ([.ref (g 0), .int b]) ++ List.replicate (3 - (lg_sl ([.ref (g 0), .int b])).length) Slot.unset).toArray = ls at hl ⊢
  have hl : lv_has ls 3 [(0, .ref (g 0)), (1, .int b)] := hl
  obtain ⟨H, eH⟩ : ∃ z, z = s.heap := ⟨_, rfl⟩
  have hH : wHS E o g x y H := by rw [eH]; exact hH
  have hS : va_S (wA E) s.heap H [] := by rw [eH]; exact hS
  refine W.heapTo eH ?_
  obtain ⟨hn0, hn1, hn2, hn3, hn4, hn5, hc7, hc8, hc5, hc54, hc4, hc50, hc9, hc12, hc10, hcj⟩ := id hI
  refine lv_aload_n hx hb dX4_play_0 rfl (lv_at hl 0 rfl) ?_
  refine lv_iload_n hx hb dX4_play_1 rfl (lv_at hl 1 rfl) ?_
  refine wx_callr (vx_runV (As := [.int b]) (rest := []) ⟨hx, hb, hml, hown, hts⟩ (met_X4_requireBox l E o g x y b hlt hI) (cwV 1 hts gX4_play_X4_requireBox rfl rfl rfl (by decide +kernel) ⟨Nat.le_of_ble_eq_true rfl, Nat.le_of_ble_eq_true rfl⟩) ⟨fun a U f mk q => ⟨q.1, wPreX.calling q.2 a f mk⟩, (va_recv hK (wH_one hH lv_r0 (cel_rt (by omega))) (ci := 6) (q0 := 0) rfl rfl), fun U hU hW => ⟨rfl, wPreX_at hz hS hH hK hC U hU hW⟩⟩ rfl rfl hl.1 rfl (lv_room (Nat.le_of_ble_eq_true rfl)) dX4_play_2 ⟨Nat.le_of_ble_eq_true rfl, Nat.le_of_ble_eq_true rfl⟩) hS (fun q _ h => h) (fun q h => h) (fun q _ h => h) (fun E9 ce q9 u t H locs ht hvm hw hB hz1 hk1 hS hce hcv hcl => ?_) (fun u ra t H locs ht hvm hw hB hz1 hk1 hS => ?_)
  · obtain ⟨⟨rfl, c1⟩, hB⟩ := hB
    have hH := wHS_h ht hB
    have hsp : cp_play x b = (some "java/lang/IndexOutOfBoundsException", 0, x) := by
      unfold cp_play
      first | (simp only [(Bool.eq_false_iff.mp c1), ↓reduceIte, and_self, and_true, true_and, Bool.false_eq_true, reduceCtorEq, eq_self, false_and, and_false]; done) | (simp [(Bool.eq_false_iff.mp c1), ↓reduceIte, and_self, and_true, true_and, Bool.false_eq_true, reduceCtorEq, eq_self, false_and, and_false]; done) | simp only [(Bool.eq_false_iff.mp c1), ↓reduceIte, and_self, and_true, true_and, Bool.false_eq_true, reduceCtorEq, eq_self, false_and, and_false]
    exact vx_out (fun x h => (hnt x h).elim) hlocks hce hcv hcl (wX_on hS hH (by rw [hsp])) hS.2.2 (by omega) (by omega)
  · have c1 : inB b (x.1 1 0) = true := hw
    obtain ⟨jb, hjb, rfl⟩ := inB_t c1 (by omega)
    obtain ⟨rfl, hB⟩ := hB
    have hH := wHS_h ht hB
    rw [ix_nI (show jb < 2 ^ 31 by omega)]
    refine lv_astore_n (lv' := [(2, .ref (g (200 + jb))), (0, .ref (g 0)), (1, .int (nI jb))]) hx hb dX4_play_5 rfl hl (by decide) rfl (fun ls hl => ?_)
    refine lv_aload_n hx hb dX4_play_6 rfl (lv_at hl 0 rfl) ?_
    refine wr_get (T := TX0) (N := 15) (ci := 3) (v := .int (x.2 10 jb)) hx hb hts hinX0 hown hK hH (lv_bx (show jb < x.1 1 0 by omega) hn1) (cel_bx (by omega)) rfl 10 (by decide) (hts (.fieldLink RX4 93 "SelectoRoute$Box" "jammed" "Z") (by decide +kernel)) (fun _ h => h) rfl dX4_play_7 ?_
    refine lv_if_eq (tgt := 23) hx hb dX4_play_10 (by decide) (fun c2 => ?_) (fun c2 => ?_)
    · skip
      refine lv_aload_n hx hb dX4_play_23 rfl (lv_at hl 0 rfl) ?_
      refine wr_get (T := TX0) (N := 15) (ci := 3) (v := .ref (g (220 + jb))) hx hb hts hinX0 hown hK hH (lv_bx (show jb < x.1 1 0 by omega) hn1) (cel_bx (by omega)) rfl 4 (by decide) (hts (.fieldLink RX4 126 "SelectoRoute$Box" "queue" "Ljava/util/ArrayList;") (by decide +kernel)) (fun _ h => h) rfl dX4_play_24 ?_
      refine va_calli (va_runV (As := []) (rest := []) ⟨hx, hb, hml, hown, hts⟩ (met_AL_isEmpty l E g (liv x.1) (cel E.2.1 g x y o.1 o.2) (220 + jb) (230 + jb) (x.2 22 jb) (x.1 4 jb) (x.1 5 jb) E.2.1.2 (lv_ql (show jb < x.1 1 0 by omega) hn1) (cel_ql (by omega)) (by have q := hc5 jb; omega)) (cwV 0 hts gX4_play_Jx4a65c_isEmpty_aae02 rfl rfl rfl (by decide +kernel) ⟨Nat.le_of_ble_eq_true rfl, Nat.le_of_ble_eq_true rfl⟩) ⟨fun a U f mk q => ⟨q.1, wPreG.calling q.2 a f mk⟩, (va_recv hK (wH_one hH (lv_ql (show jb < x.1 1 0 by omega) hn1) (cel_ql (by omega))) (ci := 2) (q0 := 0) rfl rfl), fun U hU hW => ⟨rfl, wPreG_at hz hS hH hK U hU hW⟩⟩ rfl rfl hl.1 rfl (lv_room (Nat.le_of_ble_eq_true rfl)) dX4_play_27 ⟨Nat.le_of_ble_eq_true rfl, Nat.le_of_ble_eq_true rfl⟩) hS (fun q _ h => h) (fun q h => h) (fun r u t H locs ht hvm hw hB hz1 hk1 hS => ?_)
      have hH : wHS E o g x y H := wG_h ht hB
      rcases hw with ⟨rfl, c3⟩ | ⟨rfl, c3⟩
      · skip
        refine lv_if_eq (tgt := 43) hx hb dX4_play_30 (by decide) (fun hq => absurd hq (show ¬ (1 : Int32) = 0 by decide)) (fun _ => ?_)
        have hsp : cp_play x (nI jb) = (some "java/util/NoSuchElementException", 0, x) := by
          unfold cp_play
          first | (simp only [c1, c2, c3, inB_nI hjb (by omega), ix_nI (show jb < 2 ^ 31 by omega), ↓reduceIte, and_self, and_true, true_and, Bool.false_eq_true, reduceCtorEq, eq_self, false_and, and_false]; done) | (simp [c1, c2, c3, inB_nI hjb (by omega), ix_nI (show jb < 2 ^ 31 by omega), ↓reduceIte, and_self, and_true, true_and, Bool.false_eq_true, reduceCtorEq, eq_self, false_and, and_false]; done) | simp only [c1, c2, c3, inB_nI hjb (by omega), ix_nI (show jb < 2 ^ 31 by omega), ↓reduceIte, and_self, and_true, true_and, Bool.false_eq_true, reduceCtorEq, eq_self, false_and, and_false]
        obtain ⟨sa, hsa⟩ := hC.2.2.1 (137, "the queue is empty") (by decide +kernel)
        exact wx_throwNS (A := wA E) hx hb hlt hown (hts (.classLink RX4 135 "java/util/NoSuchElementException") (by decide +kernel)) (hts (.initialized "java/util/NoSuchElementException") (by decide +kernel)) hsa (hat_xN hts (fun w h => List.mem_cons_of_mem _ (List.mem_append_left _ (List.mem_append_right _ h))) hC) (by decide +kernel) hC.1 hC.2.1 (by rw [← eH] at *; exact hS) (hl.1.trans hml.symm) dX4_play_33 dX4_play_36 dX4_play_37 dX4_play_39 dX4_play_42 (fun x h => (hnt x h).elim) (Nat.lt_of_lt_of_le (by decide : 2 + 3 < 6) (Nat.le_of_ble_eq_true rfl)) (Nat.le_of_ble_eq_true rfl) (Nat.le_of_ble_eq_true rfl) (Nat.le_of_ble_eq_true rfl) hlocks (wX_of hS hH (by rw [hsp])) hS.2.2 (by omega) (by omega)
      · skip
        refine lv_if_eq (tgt := 43) hx hb dX4_play_30 (by decide) (fun _ => ?_) (fun hq => absurd (show (0 : Int32) = 0 by decide) hq)
        refine lv_aload_n hx hb dX4_play_43 rfl (lv_at hl 1 rfl) ?_
        refine lv_aload_n hx hb dX4_play_44 rfl (lv_at hl 1 rfl) ?_
        refine wr_get (T := TX4) (N := 9) (ci := 6) (v := .int (x.2 16 0)) hx hb hts hinX4 hown hK hH lv_r0 (cel_rt (by omega)) rfl 4 (by decide) (hts (.fieldLink RX4 26 "SelectoRoute" "z" "I") (by decide +kernel)) (fun _ h => h) rfl dX4_play_45 ?_
        refine lv_i2l hx hb dX4_play_48 rfl ?_
        refine lv_ldc2 hx hb hown (hts (.constantLong RX4 140 (48271)) (by decide +kernel)) dX4_play_49 ?_
        refine lv_lmul hx hb dX4_play_52 ?_
        refine lv_ldc2 hx hb hown (hts (.constantLong RX4 142 (2147483647)) (by decide +kernel)) dX4_play_53 ?_
        refine lv_lrem hx hb dX4_play_56 (by decide) ?_
        refine lv_l2i hx hb dX4_play_57 rfl ?_
        refine lv_topi (fun v4 ev4 => ?_)
        refine wr_put (T := TX4) (N := 9) (ci := 6) (v := .int v4) hx hb hts hinX4 tyX4 tyX4_ok nmX4 hown hK hH hS lv_r0 (cel_rt (by omega)) rfl 4 (by decide) (hts (.fieldLink RX4 26 "SelectoRoute" "z" "I") (by decide +kernel)) (fun _ h => h) rfl (ty := .int) (by decide +kernel) rfl rfl (Nat.le_of_ble_eq_true rfl) dX4_play_58 (fun H locs hH hS => ?_)
        have hH : wHS E o g (uI x 16 0 v4) y H := pr_4 hH
        refine lv_aload_n hx hb dX4_play_61 rfl (lv_at hl 1 rfl) ?_
        refine wr_get (T := TX4) (N := 9) (ci := 6) (v := .int v4) hx hb hts hinX4 hown hK hH lv_r0 (cel_rt (by omega)) rfl 4 (by decide) (hts (.fieldLink RX4 26 "SelectoRoute" "z" "I") (by decide +kernel)) (fun _ h => h) (congrArg (fun z => some (Value.int z)) (by simp [uI, uN, va_up])) dX4_play_62 ?_
        refine lv_bipush (v := 100) hx hb dX4_play_65 (by decide) ?_
        refine lv_irem hx hb dX4_play_67 (by decide) ?_
        refine lv_aload_n hx hb dX4_play_68 rfl (lv_at hl 0 rfl) ?_
        refine wr_get (T := TX0) (N := 15) (ci := 3) (v := .int (x.2 6 jb)) hx hb hts hinX0 hown hK hH (lv_bx (show jb < x.1 1 0 by omega) hn1) (cel_bx (by omega)) rfl 6 (by decide) (hts (.fieldLink RX4 81 "SelectoRoute$Box" "risk" "I") (by decide +kernel)) (fun _ h => h) rfl dX4_play_69 ?_
        refine lv_icmp_ge (tgt := 83) hx hb dX4_play_72 (by decide) (fun c5 => ?_) (fun c5 => ?_)
        · skip
          refine lv_aload_n hx hb dX4_play_83 rfl (lv_at hl 0 rfl) ?_
          refine va_calli (va_runV (As := []) (rest := []) ⟨hx, hb, hml, hown, hts⟩ (met_X0_playNext l E o g (uI x 16 0 v4) y jb (CI_I hI) (show jb < x.1 1 0 by omega) c3) (cwV 0 hts gX4_play_X0_playNext rfl rfl rfl (by decide +kernel) ⟨Nat.le_of_ble_eq_true rfl, Nat.le_of_ble_eq_true rfl⟩) ⟨fun a U f mk q => ⟨q.1, wPreZ.calling q.2 a f mk⟩, (va_recv hK (wH_one hH (lv_bx (show jb < x.1 1 0 by omega) hn1) (cel_bx (by omega))) (ci := 3) (q0 := 0) rfl rfl), fun U hU hW => ⟨rfl, wPreZ_at hz hS hH hK hC hDD U hU hW⟩⟩ rfl rfl hl.1 rfl (lv_room (Nat.le_of_ble_eq_true rfl)) dX4_play_84 ⟨Nat.le_of_ble_eq_true rfl, Nat.le_of_ble_eq_true rfl⟩) hS (fun q _ h => h) (fun q h => h) (fun r u t H locs ht hvm hw hB hz1 hk1 hS => ?_)
          have hB := wHS_h ht hB
          try dsimp only at hw
          have hH := hB
          obtain rfl := hw
          refine lv_if_eq (tgt := 95) hx hb dX4_play_87 (by decide) (fun c6 => ?_) (fun c6 => ?_)
          · skip
            refine lv_bipush (v := 98) hx hb dX4_play_95 (by decide) ?_
            subst ev4
            have hsp : cp_play x (nI jb) = (none, 98, (cp_playNext (uI x 16 0 (((((x.2 16 0).toInt64) * 48271) - (((x.2 16 0).toInt64) * 48271) / 2147483647 * 2147483647).toInt32)) jb).2) := by
              unfold cp_play
              first | (simp only [c1, c2, c3, c5, c6, inB_nI hjb (by omega), ix_nI (show jb < 2 ^ 31 by omega), ↓reduceIte, and_self, and_true, true_and, Bool.false_eq_true, reduceCtorEq, eq_self, false_and, and_false]; done) | (simp [c1, c2, c3, c5, c6, inB_nI hjb (by omega), ix_nI (show jb < 2 ^ 31 by omega), ↓reduceIte, and_self, and_true, true_and, Bool.false_eq_true, reduceCtorEq, eq_self, false_and, and_false]; done) | simp only [c1, c2, c3, c5, c6, inB_nI hjb (by omega), ix_nI (show jb < 2 ^ 31 by omega), ↓reduceIte, and_self, and_true, true_and, Bool.false_eq_true, reduceCtorEq, eq_self, false_and, and_false]
            have hx0 : (cp_play x (nI jb)).1 = none := by rw [hsp]
            have hx1 : (cp_play x (nI jb)).2.1 = 98 := by rw [hsp]
            have hx2 : (cp_play x (nI jb)).2.2 = (cp_playNext (uI x 16 0 (((((x.2 16 0).toInt64) * 48271) - (((x.2 16 0).toInt64) * 48271) / 2147483647 * 2147483647).toInt32)) jb).2 := by rw [hsp]
            refine vx_ret ?_
            refine W.widen (k := 4) (n := 24) (by omega) (by omega) ?_
            exact W.zret (v := 98) hx hb hr rfl (fun t ht hW => ⟨⟨98, (), rfl, ⟨hx0, hx1.symm⟩, g, gE.rf g, by rw [hx2]; exact wHS_t ht hH⟩, hS.F ht⟩) hS.2.2 dX4_play_97
          · skip
            refine lv_bipush (v := 112) hx hb dX4_play_90 (by decide) ?_
            refine lv_goto (tgt := 97) hx hb dX4_play_92 (by decide) ?_
            subst ev4
            have hsp : cp_play x (nI jb) = (none, 112, (cp_playNext (uI x 16 0 (((((x.2 16 0).toInt64) * 48271) - (((x.2 16 0).toInt64) * 48271) / 2147483647 * 2147483647).toInt32)) jb).2) := by
              unfold cp_play
              first | (simp only [c1, c2, c3, c5, c6, inB_nI hjb (by omega), ix_nI (show jb < 2 ^ 31 by omega), ↓reduceIte, and_self, and_true, true_and, Bool.false_eq_true, reduceCtorEq, eq_self, false_and, and_false]; done) | (simp [c1, c2, c3, c5, c6, inB_nI hjb (by omega), ix_nI (show jb < 2 ^ 31 by omega), ↓reduceIte, and_self, and_true, true_and, Bool.false_eq_true, reduceCtorEq, eq_self, false_and, and_false]; done) | simp only [c1, c2, c3, c5, c6, inB_nI hjb (by omega), ix_nI (show jb < 2 ^ 31 by omega), ↓reduceIte, and_self, and_true, true_and, Bool.false_eq_true, reduceCtorEq, eq_self, false_and, and_false]
            have hx0 : (cp_play x (nI jb)).1 = none := by rw [hsp]
            have hx1 : (cp_play x (nI jb)).2.1 = 112 := by rw [hsp]
            have hx2 : (cp_play x (nI jb)).2.2 = (cp_playNext (uI x 16 0 (((((x.2 16 0).toInt64) * 48271) - (((x.2 16 0).toInt64) * 48271) / 2147483647 * 2147483647).toInt32)) jb).2 := by rw [hsp]
            refine vx_ret ?_
            refine W.widen (k := 4) (n := 24) (by omega) (by omega) ?_
            exact W.zret (v := 112) hx hb hr rfl (fun t ht hW => ⟨⟨112, (), rfl, ⟨hx0, hx1.symm⟩, g, gE.rf g, by rw [hx2]; exact wHS_t ht hH⟩, hS.F ht⟩) hS.2.2 dX4_play_97
        · skip
          refine lv_aload_n hx hb dX4_play_75 rfl (lv_at hl 0 rfl) ?_
          refine lv_iconst (v := 1) hx hb dX4_play_76 (by decide) ?_
          refine wr_put (T := TX0) (N := 15) (ci := 3) (v := .int 1) hx hb hts hinX0 tyX0 tyX0_ok nmX0 hown hK hH hS (lv_bx (show jb < x.1 1 0 by omega) hn1) (cel_bx (by omega)) rfl 10 (by decide) (hts (.fieldLink RX4 93 "SelectoRoute$Box" "jammed" "Z") (by decide +kernel)) (fun _ h => h) rfl (ty := .boolean) (by decide +kernel) rfl rfl (Nat.le_of_ble_eq_true rfl) dX4_play_77 (fun H locs hH hS => ?_)
          have hH : wHS E o g (uI (uI x 16 0 v4) 10 jb 1) y H := pb_10 (by omega) hH
          refine lv_bipush (v := 106) hx hb dX4_play_80 (by decide) ?_
          subst ev4
          have hsp : cp_play x (nI jb) = (none, 106, (uI (uI x 16 0 (((((x.2 16 0).toInt64) * 48271) - (((x.2 16 0).toInt64) * 48271) / 2147483647 * 2147483647).toInt32)) 10 jb 1)) := by
            unfold cp_play
            first | (simp only [c1, c2, c3, c5, inB_nI hjb (by omega), ix_nI (show jb < 2 ^ 31 by omega), ↓reduceIte, and_self, and_true, true_and, Bool.false_eq_true, reduceCtorEq, eq_self, false_and, and_false]; done) | (simp [c1, c2, c3, c5, inB_nI hjb (by omega), ix_nI (show jb < 2 ^ 31 by omega), ↓reduceIte, and_self, and_true, true_and, Bool.false_eq_true, reduceCtorEq, eq_self, false_and, and_false]; done) | simp only [c1, c2, c3, c5, inB_nI hjb (by omega), ix_nI (show jb < 2 ^ 31 by omega), ↓reduceIte, and_self, and_true, true_and, Bool.false_eq_true, reduceCtorEq, eq_self, false_and, and_false]
          have hx0 : (cp_play x (nI jb)).1 = none := by rw [hsp]
          have hx1 : (cp_play x (nI jb)).2.1 = 106 := by rw [hsp]
          have hx2 : (cp_play x (nI jb)).2.2 = (uI (uI x 16 0 (((((x.2 16 0).toInt64) * 48271) - (((x.2 16 0).toInt64) * 48271) / 2147483647 * 2147483647).toInt32)) 10 jb 1) := by rw [hsp]
          refine vx_ret ?_
          refine W.widen (k := 4) (n := 24) (by omega) (by omega) ?_
          exact W.zret (v := 106) hx hb hr rfl (fun t ht hW => ⟨⟨106, (), rfl, ⟨hx0, hx1.symm⟩, g, gE.rf g, by rw [hx2]; exact wHS_t ht hH⟩, hS.F ht⟩) hS.2.2 dX4_play_82
    · skip
      have hsp : cp_play x (nI jb) = (some "java/lang/UnsupportedOperationException", 0, x) := by
        unfold cp_play
        first | (simp only [c1, c2, inB_nI hjb (by omega), ix_nI (show jb < 2 ^ 31 by omega), ↓reduceIte, and_self, and_true, true_and, Bool.false_eq_true, reduceCtorEq, eq_self, false_and, and_false]; done) | (simp [c1, c2, inB_nI hjb (by omega), ix_nI (show jb < 2 ^ 31 by omega), ↓reduceIte, and_self, and_true, true_and, Bool.false_eq_true, reduceCtorEq, eq_self, false_and, and_false]; done) | simp only [c1, c2, inB_nI hjb (by omega), ix_nI (show jb < 2 ^ 31 by omega), ↓reduceIte, and_self, and_true, true_and, Bool.false_eq_true, reduceCtorEq, eq_self, false_and, and_false]
      obtain ⟨sa, hsa⟩ := hC.2.2.1 (99, "the box is jammed") (by decide +kernel)
      exact vx_throwS (A := wA E) (names := ["java/lang/RuntimeException", "java/lang/Exception"]) hx hb hlt hown (by decide +kernel) (by decide +kernel) (hts (.classLink RX4 97 "java/lang/UnsupportedOperationException") (by decide +kernel)) (hts (.initialized "java/lang/UnsupportedOperationException") (by decide +kernel)) hsa (hat_xU hts (fun w h => List.mem_cons_of_mem _ (List.mem_append_left _ (List.mem_append_left _ (List.mem_append_right _ h)))) hC) (by decide +kernel) hC.1 hC.2.1 (by rw [← eH] at *; exact hS) (hl.1.trans hml.symm) dX4_play_13 dX4_play_16 dX4_play_17 dX4_play_19 dX4_play_22 (fun x h => (hnt x h).elim) (Nat.lt_of_lt_of_le (by decide : 2 + 3 < 6) (Nat.le_of_ble_eq_true rfl)) (Nat.le_of_ble_eq_true rfl) (Nat.le_of_ble_eq_true rfl) (Nat.le_of_ble_eq_true rfl) hlocks (wX_of hS hH (by rw [hsp])) hS.2.2 (by omega) (by omega)
