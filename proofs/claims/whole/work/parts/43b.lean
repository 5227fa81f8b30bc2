/-- an element of a list: an object that may lie in an Object row -/
def elO (g : Nat → Nat) (live : Nat → Prop) (F : Nat → va_E) (tl v : Nat) : Prop := ∃ (tv ci : Nat) (vs : List Value) (r : vw_C), live tv ∧ tv ≠ tl ∧ v = g tv ∧ F tv = .inr (ci, vs) ∧ vwCl[ci]? = some r ∧ (r.1, "java/lang/Object") ∈ wCas
set_option maxHeartbeats 4000000 in
set_option maxRecDepth 100000 in
theorem met_newLength (l : Launch) (E : wE) (g : Nat → Nat) (live : Nat → Prop) (F : Nat → va_E) (a f : Nat) (hf : 1 ≤ f) (hsm : a + f ≤ 1000) : Met l yJ8_newLength_cabcc wsJ8_newLength_cabcc ({ frames := 1, cells := 0, slots := 0, locals := 100 } : Room) (va_Pc [.int (nI a), .int 1, .int (nI f)] (wPreG E g live F)) (va_Qi (fun (r : Int32) (_ : Unit) => r = nI (a + f)) (fun (_ : Unit) t => wH E.1 E.2.2 g live F t.heap) (wA E)) 0 0 (wA E) := by
  refine Met.ofW (cc := cJ8_newLength_cabcc) (maxL := 4) (ret := (some .int)) (by decide) rfl ?_
  intro p e s m args below meth c s₁ B hml hv
  obtain ⟨rfl, hz, hH, hK⟩ := hv
  have hx := B.exec
  have hb := B.bytes
  have hr := B.returns
  have hts := atoms_spec (ws := wsJ8_newLength_cabcc) B.pre
  have hown : s.vm.findClass RJ8 = some m.cls := findClass_of_methodNamed B.named
  have hnm : meth.name = yJ8_newLength_cabcc.name := (name_of_methodNamed B.named B.method).1
  have hS : va_S (wA E) s.heap s.heap [] := va_S.rf
  have hl := lv_entry ([.int (nI a), .int 1, .int (nI f)]) (n := 4) (Nat.le_of_ble_eq_true rfl)
  rw [lg_entry_eq]
  generalize (lg_sl ([.int (nI a), .int 1, .int (nI f)]) ++ List.replicate (4 - (lg_sl ([.int (nI a), .int 1, .int (nI f)])).length) Slot.unset).toArray = ls at hl ⊢
  have hl : lv_has ls 4 [(0, .int (nI a)), (1, .int 1), (2, .int (nI f))] := hl
  obtain ⟨H, eH⟩ : ∃ z, z = s.heap := ⟨_, rfl⟩
  have hH : wH E.1 E.2.2 g live F H := by rw [eH]; exact hH
  have hS : va_S (wA E) s.heap H [] := by rw [eH]; exact hS
  refine W.heapTo eH ?_
  have hmx : (if (1 : Int32) < nI f then nI f else 1) = nI f := by
    by_cases q : f = 1
    · subst q; rfl
    · exact if_pos (show (1 : Int32) < nI f from (nI_ltI (a := 1) (b := f) (by omega) (by omega)).mpr (by omega))
  have hmx2 : (if nI f < (1 : Int32) then (1 : Int32) else nI f) = nI f := if_neg (fun q => absurd ((nI_ltI (a := f) (b := 1) (by omega) (by omega)).mp q) (by omega))
  refine lv_iload_n hx hb dJ8_newLength_cabcc_0 rfl (lv_at hl 0 rfl) ?_
  refine lv_iload_n hx hb dJ8_newLength_cabcc_1 rfl (lv_at hl 1 rfl) ?_
  refine lv_iload_n hx hb dJ8_newLength_cabcc_2 rfl (lv_at hl 2 rfl) ?_
  refine va_mmax hx hb (hml.trans hl.1.symm) hown (hts (.methodLink RJ8 194 Lib.Math.max.name) (by decide +kernel)) (hts (.static Lib.Math.max.name) (by decide +kernel)) (hts (.initialized "java/lang/Math") (by decide +kernel)) (hts (.code Lib.Math.max.name Lib.Math.max.code 2 (some .int)) (by decide +kernel)) (Nat.le_of_ble_eq_true rfl) (Nat.le_of_ble_eq_true rfl) (Nat.le_of_ble_eq_true rfl) (Nat.le_of_ble_eq_true rfl) dJ8_newLength_cabcc_3 ?_
  refine lv_iadd hx hb dJ8_newLength_cabcc_6 ?_
  refine lv_tope (show nI a + (if 1 < (nI f) then (nI f) else 1) = nI (a + f) by rw [hmx, nI_add]) ?_
  refine lv_istore_n (lv' := [(3, .int (nI (a + f))), (0, .int (nI a)), (1, .int 1), (2, .int (nI f))]) hx hb dJ8_newLength_cabcc_7 rfl hl (by decide) rfl (fun ls hl => ?_)
  refine lv_iconst (v := 0) hx hb dJ8_newLength_cabcc_8 (by decide) ?_
  refine lv_iload_n hx hb dJ8_newLength_cabcc_9 rfl (lv_at hl 0 rfl) ?_
  refine lv_icmp_ge (tgt := 21) hx hb dJ8_newLength_cabcc_10 (by decide) (fun hq => absurd ((nz_le (by omega)).mp hq) (show ¬ (a + f) = 0 by omega)) (fun _ => ?_)
  refine lv_iload_n hx hb dJ8_newLength_cabcc_13 rfl (lv_at hl 0 rfl) ?_
  refine lv_ldc hx hb hown (hts (.constant RJ8 200 (2147483639)) (by decide +kernel)) dJ8_newLength_cabcc_14 ?_
  refine lv_icmp_gt (tgt := 21) hx hb dJ8_newLength_cabcc_16 (by decide) (fun hq => absurd ((nI_ltI (a := 2147483639) (b := (a + f)) (by omega) (by omega)).mp hq) (show ¬ 2147483639 < (a + f) by omega)) (fun _ => ?_)
  refine lv_iload_n hx hb dJ8_newLength_cabcc_19 rfl (lv_at hl 0 rfl) ?_
  exact W.iret (v := nI (a + f)) hx hb hr (fun t ht hW => ⟨⟨nI (a + f), (), rfl, rfl, wG_t ht hH⟩, hS.F ht⟩) hS.2.2 dJ8_newLength_cabcc_20
