/-! ===== the launch's further premises: the class object of Object[], arrays of objects, COINS ===== -/
def cSg : Nat → Int32 := fun i => ([110, 100, 113, 115] : List Int32).getD i 0
def cCr : Nat → Int32 := fun i => ([1, 2, 6, 6] : List Int32).getD i 0
def cCe : Nat → Int32 := fun i => ([5, 10, 25, 0] : List Int32).getD i 0
def wCoin (E : wE) (U : State) (H : Heap) : Prop := ∃ (a : Nat) (ad : Nat → Nat), va_Z "SelectoRoute" "COINS" "[LSelectoRoute$Coin;" (.ref a) (wA E) U H ∧ va_T (.object "SelectoRoute$Coin") a 4 (fun i => .ref (ad i)) (wA E) U H ∧ va_Ef 4 "SelectoRoute$Coin" "sign" "I" (fun i => .int (cSg i)) ad (wA E) U H ∧ va_Ef 4 "SelectoRoute$Coin" "credits" "I" (fun i => .int (cCr i)) ad (wA E) U H ∧ va_Ef 4 "SelectoRoute$Coin" "cents" "I" (fun i => .int (cCe i)) ad (wA E) U H
def wD (E : wE) (U : State) (H : Heap) : Prop := (∃ mi, va_Mi "[Ljava/lang/Object;" mi U) ∧ va_AO "java/lang/Object" U ∧ va_AO "SelectoRoute$Slot" U ∧ va_Dc U ∧ wCoin E U H
theorem wD.call {E : wE} {s U : State} {H : Heap} {locs : List Loc} (h : wD E s s.heap) (hS : va_S (wA E) s.heap H locs) (hU : U.heap = H) (hW : s.WarmedH U.vm) : wD E U U.heap := by
  obtain ⟨⟨mi, h1⟩, h2, h3, h4, a, ad, h5, h6, h7, h8, h9⟩ := h
  rw [hU]
  exact ⟨⟨mi, h1.moved hW.alike⟩, h2.moved hW.alike, h3.moved hW.alike, h4.moved hW.alike, a, ad, (h5.kept hS.2.1).moved hW.alike, (h6.kept hS.2.1).moved hW.alike, (h7.kept hS.2.1).moved hW.alike, (h8.kept hS.2.1).moved hW.alike, (h9.kept hS.2.1).moved hW.alike⟩
theorem wD.calling {E : wE} {U : State} (h : wD E U U.heap) (a : Array Value) (f : JFrame) (mk : MethodId) : wD E (U.calling f mk a) (U.calling f mk a).heap := by
  obtain ⟨⟨mi, h1⟩, h2, h3, h4, b, ad, h5, h6, h7, h8, h9⟩ := h
  have al : U.vm.Alike (U.calling f mk a).vm := Vm.Alike.refl U.vm
  exact ⟨⟨mi, h1.moved al⟩, h2.moved al, h3.moved al, h4.moved al, b, ad, h5.moved al, h6.moved al, h7.moved al, h8.moved al, h9.moved al⟩
/-- a general world, and the premises -/
def wPreY (E : wE) (g : Nat → Nat) (live : Nat → Prop) (F : Nat → va_E) (U : State) : Prop := wPreG E g live F U ∧ wC E U U.heap ∧ wD E U U.heap
theorem wPreY.calling {E : wE} {g : Nat → Nat} {live : Nat → Prop} {F : Nat → va_E} {U : State} (h : wPreY E g live F U) (a : Array Value) (f : JFrame) (mk : MethodId) : wPreY E g live F (U.calling f mk a) := ⟨wPreG.calling h.1 a f mk, wC.calling h.2.1 a f mk, wD.calling h.2.2 a f mk⟩
theorem wPreY_at {E : wE} {g : Nat → Nat} {live : Nat → Prop} {F : Nat → va_E} {s : State} {H : Heap} {locs : List Loc} (hz : E.2.2 ≤ s.heap.size) (hS : va_S (wA E) s.heap H locs) (hH : wH E.1 E.2.2 g live F H) (hK : va_K E.1 vwCl (wTys E.2.1) s) (hC : wC E s s.heap) (hD : wD E s s.heap) (U : State) (hU : U.heap = H) (hW : s.WarmedH U.vm) : wPreY E g live F U := ⟨wPreG_at hz hS hH hK U hU hW, hC.call hS hU hW, hD.call hS hU hW⟩
/-- .. over the run's world -/
def wPreZ (E : wE) (o : wO) (g : Nat → Nat) (x y : St) (U : State) : Prop := wPreX E o g x y U ∧ wD E U U.heap
theorem wPreZ.calling {E : wE} {o : wO} {g : Nat → Nat} {x y : St} {U : State} (h : wPreZ E o g x y U) (a : Array Value) (f : JFrame) (mk : MethodId) : wPreZ E o g x y (U.calling f mk a) := ⟨wPreX.calling h.1 a f mk, wD.calling h.2 a f mk⟩
theorem wPreZ_at {E : wE} {o : wO} {g : Nat → Nat} {x y : St} {s : State} {H : Heap} {locs : List Loc} (hz : E.2.2 ≤ s.heap.size) (hS : va_S (wA E) s.heap H locs) (hH : wHS E o g x y H) (hK : va_K E.1 vwCl (wTys E.2.1) s) (hC : wC E s s.heap) (hD : wD E s s.heap) (U : State) (hU : U.heap = H) (hW : s.WarmedH U.vm) : wPreZ E o g x y U := ⟨wPreX_at hz hS hH hK hC U hU hW, hD.call hS hU hW⟩
/-! ===== constructors, over any world ===== -/
/-- cells of references: what they hold below their length alone counts -/
theorem arrV_cg {cA : ClassId} {n : Nat} {f f' : Nat → Value} (h : ∀ i, i < n → f i = f' i) : arrV cA n f = arrV cA n f' := by
  unfold arrV
  congr 1
  congr 1
  funext j
  exact h j.val j.isLt
theorem wH_ce {D : va_G} {sz0 : Nat} {g : Nat → Nat} {live : Nat → Prop} {F F' : Nat → va_E} {H : Heap} (h : wH D sz0 g live F H) (hf : ∀ t, live t → F' t = F t ∨ ∃ (cA : ClassId) (n : Nat) (f f' : Nat → Option Nat), F t = .inl (cA, n, .inr (.inr (.inr (.inr f)))) ∧ F' t = .inl (cA, n, .inr (.inr (.inr (.inr f')))) ∧ ∀ i, i < n → f' i = f i) : wH D sz0 g live F' H := by
  refine ⟨h.1, fun t ht => ?_, h.2.2⟩
  have h1 := h.2.1 t ht
  rcases hf t ht with e | ⟨cA, n, f, f', e1, e2, e3⟩
  · rw [e]; exact h1
  · rw [e1] at h1
    rw [e2]
    have h2 : H[g t]? = some (vp_cell cA (n, .inr (.inr (.inr (.inr f))))) := h1
    show H[g t]? = some (vp_cell cA (n, .inr (.inr (.inr (.inr f')))))
    rw [h2, vp_cell_q, vp_cell_q]
    exact congrArg some (arrV_cg (fun i hi => by rw [e3 i hi]))
theorem wH_fin {D : va_G} {sz0 : Nat} {g : Nat → Nat} {live live' : Nat → Prop} {F F' : Nat → va_E} {H : Heap} (h : wH D sz0 g live F H) (hf : ∀ t, live' t → live t ∧ (F' t = F t ∨ ∃ (cA : ClassId) (n : Nat) (f f' : Nat → Option Nat), F t = .inl (cA, n, .inr (.inr (.inr (.inr f)))) ∧ F' t = .inl (cA, n, .inr (.inr (.inr (.inr f')))) ∧ ∀ i, i < n → f' i = f i)) : wH D sz0 g live' F' H :=
  wH_ce (wH_cg (F' := F) h (fun t ht => ⟨(hf t ht).1, rfl⟩)) (fun t ht => (hf t ht).2)
theorem upup {α : Type} (F : Nat → α) (t : Nat) (a b : α) : va_up (va_up F t a) t b = va_up F t b := by
  funext z
  simp only [va_up]
  split <;> rfl
set_option maxHeartbeats 4000000 in
set_option maxRecDepth 100000 in
theorem met_X2_init (l : Launch) (E : wE) (g : Nat → Nat) (live : Nat → Prop) (F : Nat → va_E) (tg : Nat) (n so st fw : Int32) (hlv : live tg) (hF : F tg = .inr (4, [.int 0, .int 0, .int 0, .int 0, .int 0, .int 0, .null, .int 0])) : Met l yX2_init wsX2_init ({ frames := 2, cells := 0, slots := 0, locals := 100 } : Room) (va_Pc [.ref (g tg), .int n, .int so, .int st, .int fw] (wPreG E g live F)) (va_Qv (fun (_ : Unit) => True) (fun (_ : Unit) t => wH E.1 E.2.2 g live (va_up F tg (.inr (4, [.int n, .int so, .int st, .int fw, .int 0, .int 0, .null, .int 0]))) t.heap) (wA E)) 0 0 (wA E) := by
  refine Met.ofW (cc := cX2_init) (maxL := 5) (ret := none) (by decide) rfl ?_
  intro p e s m args below meth c s₁ B hml hv
  obtain ⟨rfl, hz, hH, hK⟩ := hv
  have hx := B.exec
  have hb := B.bytes
  have hr := B.returns
  have hts := atoms_spec (ws := wsX2_init) B.pre
  have hown : s.vm.findClass RX2 = some m.cls := findClass_of_methodNamed B.named
  have hnm : meth.name = yX2_init.name := (name_of_methodNamed B.named B.method).1
  have hS : va_S (wA E) s.heap s.heap [] := va_S.rf
  have hinX2 : ∀ w ∈ wsX20, w ∈ wsX2_init := fun w h => List.mem_cons_of_mem _ (List.mem_append_right _ h)
  have hl := lv_entry ([.ref (g tg), .int n, .int so, .int st, .int fw]) (n := 5) (Nat.le_of_ble_eq_true rfl)
  rw [lg_entry_eq]
  generalize (lg_sl ([.ref (g tg), .int n, .int so, .int st, .int fw]) ++ List.replicate (5 - (lg_sl ([.ref (g tg), .int n, .int so, .int st, .int fw])).length) Slot.unset).toArray = ls at hl ⊢
  have hl : lv_has ls 5 [(0, .ref (g tg)), (1, .int n), (2, .int so), (3, .int st), (4, .int fw)] := hl
  obtain ⟨H, eH⟩ : ∃ z, z = s.heap := ⟨_, rfl⟩
  have hH : wH E.1 E.2.2 g live F H := by rw [eH]; exact hH
  have hS : va_S (wA E) s.heap H [] := by rw [eH]; exact hS
  refine W.heapTo eH ?_
  refine lv_aload_n hx hb dX2_init_0 rfl (lv_at hl 0 rfl) ?_
  refine W.objInit hx hb hown (hts (.methodLink RX2 3 objectInit) (by decide +kernel)) (hts (.instanceMethod objectInit) (by decide +kernel)) (hts (.code objectInit ⟨#[0xb1]⟩ 1 none) (by decide +kernel)) rfl (hl.1.trans hml.symm) rfl dX2_init_1 (Nat.le_of_ble_eq_true rfl) (Nat.le_of_ble_eq_true rfl) ?_
  refine W.eq (g2 := F0 m 4 ls []) rfl ?_
  refine lv_aload_n hx hb dX2_init_4 rfl (lv_at hl 0 rfl) ?_
  refine lv_iload_n hx hb dX2_init_5 rfl (lv_at hl 1 rfl) ?_
  refine wr_putF (T := TX2) (N := 8) (ci := 4) (v := .int n) (t := tg) hx hb hts hinX2 tyX2 tyX2_ok nmX2 hown hK hH hS hlv (fs := [.int 0, .int 0, .int 0, .int 0, .int 0, .int 0, .null, .int 0]) hF rfl 0 (by decide) (hts (.fieldLink RX2 9 "SelectoRoute$Disc" "number" "I") (by decide +kernel)) (fun _ h => h) rfl (hnm.trans rfl) rfl (ty := .int) (by decide +kernel) rfl rfl (Nat.le_of_ble_eq_true rfl) dX2_init_6 (fun H locs hH hS => ?_)
  refine lv_aload_n hx hb dX2_init_9 rfl (lv_at hl 0 rfl) ?_
  refine lv_iload_n hx hb dX2_init_10 rfl (lv_at hl 2 rfl) ?_
  refine wr_putF (T := TX2) (N := 8) (ci := 4) (v := .int so) (t := tg) hx hb hts hinX2 tyX2 tyX2_ok nmX2 hown hK hH hS hlv (fs := [.int n, .int 0, .int 0, .int 0, .int 0, .int 0, .null, .int 0]) (va_up_self _ _ _) rfl 1 (by decide) (hts (.fieldLink RX2 15 "SelectoRoute$Disc" "song" "I") (by decide +kernel)) (fun _ h => h) rfl (hnm.trans rfl) rfl (ty := .int) (by decide +kernel) rfl rfl (Nat.le_of_ble_eq_true rfl) dX2_init_11 (fun H locs hH hS => ?_)
  refine lv_aload_n hx hb dX2_init_14 rfl (lv_at hl 0 rfl) ?_
  refine lv_iload_n hx hb dX2_init_15 rfl (lv_at hl 3 rfl) ?_
  refine wr_putF (T := TX2) (N := 8) (ci := 4) (v := .int st) (t := tg) hx hb hts hinX2 tyX2 tyX2_ok nmX2 hown hK hH hS hlv (fs := [.int n, .int so, .int 0, .int 0, .int 0, .int 0, .null, .int 0]) (va_up_self _ _ _) rfl 2 (by decide) (hts (.fieldLink RX2 18 "SelectoRoute$Disc" "strength" "I") (by decide +kernel)) (fun _ h => h) rfl (hnm.trans rfl) rfl (ty := .int) (by decide +kernel) rfl rfl (Nat.le_of_ble_eq_true rfl) dX2_init_16 (fun H locs hH hS => ?_)
  refine lv_aload_n hx hb dX2_init_19 rfl (lv_at hl 0 rfl) ?_
  refine lv_iload hx hb dX2_init_20 (lv_at hl 4 rfl) ?_
  refine wr_putF (T := TX2) (N := 8) (ci := 4) (v := .int fw) (t := tg) hx hb hts hinX2 tyX2 tyX2_ok nmX2 hown hK hH hS hlv (fs := [.int n, .int so, .int st, .int 0, .int 0, .int 0, .null, .int 0]) (va_up_self _ _ _) rfl 3 (by decide) (hts (.fieldLink RX2 21 "SelectoRoute$Disc" "firstWeek" "I") (by decide +kernel)) (fun _ h => h) rfl (hnm.trans rfl) rfl (ty := .int) (by decide +kernel) rfl rfl (Nat.le_of_ble_eq_true rfl) dX2_init_22 (fun H locs hH hS => ?_)
  repeat rw [upup] at hH
  exact W.vret hx hb hr (fun t ht hW => ⟨⟨(), rfl, trivial, wG_t ht hH⟩, hS.F ht⟩) hS.2.2 dX2_init_25
set_option maxHeartbeats 4000000 in
set_option maxRecDepth 100000 in
theorem met_X3_init (l : Launch) (E : wE) (g : Nat → Nat) (live : Nat → Prop) (F : Nat → va_E) (tg : Nat) (n : Int32) (hlv : live tg) (hF : F tg = .inr (5, [.int 0, .null, .int 0])) : Met l yX3_init wsX3_init ({ frames := 2, cells := 0, slots := 0, locals := 100 } : Room) (va_Pc [.ref (g tg), .int n] (wPreG E g live F)) (va_Qv (fun (_ : Unit) => True) (fun (_ : Unit) t => wH E.1 E.2.2 g live (va_up F tg (.inr (5, [.int n, .null, .int 0]))) t.heap) (wA E)) 0 0 (wA E) := by
  refine Met.ofW (cc := cX3_init) (maxL := 2) (ret := none) (by decide) rfl ?_
  intro p e s m args below meth c s₁ B hml hv
  obtain ⟨rfl, hz, hH, hK⟩ := hv
  have hx := B.exec
  have hb := B.bytes
  have hr := B.returns
  have hts := atoms_spec (ws := wsX3_init) B.pre
  have hown : s.vm.findClass RX3 = some m.cls := findClass_of_methodNamed B.named
  have hnm : meth.name = yX3_init.name := (name_of_methodNamed B.named B.method).1
  have hS : va_S (wA E) s.heap s.heap [] := va_S.rf
  have hinX3 : ∀ w ∈ wsX30, w ∈ wsX3_init := fun w h => List.mem_cons_of_mem _ (List.mem_append_right _ h)
  have hl := lv_entry ([.ref (g tg), .int n]) (n := 2) (Nat.le_of_ble_eq_true rfl)
  rw [lg_entry_eq]
  generalize (lg_sl ([.ref (g tg), .int n]) ++ List.replicate (2 - (lg_sl ([.ref (g tg), .int n])).length) Slot.unset).toArray = ls at hl ⊢
  have hl : lv_has ls 2 [(0, .ref (g tg)), (1, .int n)] := hl
  obtain ⟨H, eH⟩ : ∃ z, z = s.heap := ⟨_, rfl⟩
  have hH : wH E.1 E.2.2 g live F H := by rw [eH]; exact hH
  have hS : va_S (wA E) s.heap H [] := by rw [eH]; exact hS
  refine W.heapTo eH ?_
  refine lv_aload_n hx hb dX3_init_0 rfl (lv_at hl 0 rfl) ?_
  refine W.objInit hx hb hown (hts (.methodLink RX3 1 objectInit) (by decide +kernel)) (hts (.instanceMethod objectInit) (by decide +kernel)) (hts (.code objectInit ⟨#[0xb1]⟩ 1 none) (by decide +kernel)) rfl (hl.1.trans hml.symm) rfl dX3_init_1 (Nat.le_of_ble_eq_true rfl) (Nat.le_of_ble_eq_true rfl) ?_
  refine W.eq (g2 := F0 m 4 ls []) rfl ?_
  refine lv_aload_n hx hb dX3_init_4 rfl (lv_at hl 0 rfl) ?_
  refine lv_iload_n hx hb dX3_init_5 rfl (lv_at hl 1 rfl) ?_
  refine wr_putF (T := TX3) (N := 3) (ci := 5) (v := .int n) (t := tg) hx hb hts hinX3 tyX3 tyX3_ok nmX3 hown hK hH hS hlv (fs := [.int 0, .null, .int 0]) hF rfl 0 (by decide) (hts (.fieldLink RX3 7 "SelectoRoute$Slot" "number" "I") (by decide +kernel)) (fun _ h => h) rfl (hnm.trans rfl) rfl (ty := .int) (by decide +kernel) rfl rfl (Nat.le_of_ble_eq_true rfl) dX3_init_6 (fun H locs hH hS => ?_)
  repeat rw [upup] at hH
  exact W.vret hx hb hr (fun t ht hW => ⟨⟨(), rfl, trivial, wG_t ht hH⟩, hS.F ht⟩) hS.2.2 dX3_init_9
set_option maxHeartbeats 4000000 in
set_option maxRecDepth 100000 in
theorem met_JA_init (l : Launch) (E : wE) (g : Nat → Nat) (live : Nat → Prop) (F : Nat → va_E) (tg : Nat) (hlv : live tg) (hF : F tg = .inr (2, [.int 0, .null, .int 0])) : Met l yJxa1e45_init_da8c8 wsJxa1e45_init_da8c8 ({ frames := 2, cells := 0, slots := 0, locals := 100 } : Room) (va_Pc [.ref (g tg)] (wPreG E g live F)) (va_Qv (fun (_ : Unit) => True) (fun (_ : Unit) t => wH E.1 E.2.2 g live (F) t.heap) (wA E)) 0 0 (wA E) := by
  refine Met.ofW (cc := cJxa1e45_init_da8c8) (maxL := 1) (ret := none) (by decide) rfl ?_
  intro p e s m args below meth c s₁ B hml hv
  obtain ⟨rfl, hz, hH, hK⟩ := hv
  have hx := B.exec
  have hb := B.bytes
  have hr := B.returns
  have hts := atoms_spec (ws := wsJxa1e45_init_da8c8) B.pre
  have hown : s.vm.findClass RJxa1e45 = some m.cls := findClass_of_methodNamed B.named
  have hnm : meth.name = yJxa1e45_init_da8c8.name := (name_of_methodNamed B.named B.method).1
  have hS : va_S (wA E) s.heap s.heap [] := va_S.rf
  have hl := lv_entry ([.ref (g tg)]) (n := 1) (Nat.le_of_ble_eq_true rfl)
  rw [lg_entry_eq]
  generalize (lg_sl ([.ref (g tg)]) ++ List.replicate (1 - (lg_sl ([.ref (g tg)])).length) Slot.unset).toArray = ls at hl ⊢
  have hl : lv_has ls 1 [(0, .ref (g tg))] := hl
  obtain ⟨H, eH⟩ : ∃ z, z = s.heap := ⟨_, rfl⟩
  have hH : wH E.1 E.2.2 g live F H := by rw [eH]; exact hH
  have hS : va_S (wA E) s.heap H [] := by rw [eH]; exact hS
  refine W.heapTo eH ?_
  refine lv_aload_n hx hb dJxa1e45_init_da8c8_0 rfl (lv_at hl 0 rfl) ?_
  refine W.objInit hx hb hown (hts (.methodLink RJxa1e45 1 objectInit) (by decide +kernel)) (hts (.instanceMethod objectInit) (by decide +kernel)) (hts (.code objectInit ⟨#[0xb1]⟩ 1 none) (by decide +kernel)) rfl (hl.1.trans hml.symm) rfl dJxa1e45_init_da8c8_1 (Nat.le_of_ble_eq_true rfl) (Nat.le_of_ble_eq_true rfl) ?_
  refine W.eq (g2 := F0 m 4 ls []) rfl ?_
  repeat rw [upup] at hH
  exact W.vret hx hb hr (fun t ht hW => ⟨⟨(), rfl, trivial, wG_t ht hH⟩, hS.F ht⟩) hS.2.2 dJxa1e45_init_da8c8_4
set_option maxHeartbeats 4000000 in
set_option maxRecDepth 100000 in
theorem met_JC_init (l : Launch) (E : wE) (g : Nat → Nat) (live : Nat → Prop) (F : Nat → va_E) (tg : Nat) (hlv : live tg) (hF : F tg = .inr (2, [.int 0, .null, .int 0])) : Met l yJxc12de_init_da8c8 wsJxc12de_init_da8c8 ({ frames := 3, cells := 0, slots := 0, locals := 200 } : Room) (va_Pc [.ref (g tg)] (wPreG E g live F)) (va_Qv (fun (_ : Unit) => True) (fun (_ : Unit) t => wH E.1 E.2.2 g live (va_up F tg (.inr (2, [.int 0, .null, .int 0]))) t.heap) (wA E)) 0 0 (wA E) := by
  refine Met.ofW (cc := cJxc12de_init_da8c8) (maxL := 1) (ret := none) (by decide) rfl ?_
  intro p e s m args below meth c s₁ B hml hv
  obtain ⟨rfl, hz, hH, hK⟩ := hv
  have hx := B.exec
  have hb := B.bytes
  have hr := B.returns
  have hts := atoms_spec (ws := wsJxc12de_init_da8c8) B.pre
  have hown : s.vm.findClass RJxc12de = some m.cls := findClass_of_methodNamed B.named
  have hnm : meth.name = yJxc12de_init_da8c8.name := (name_of_methodNamed B.named B.method).1
  have hS : va_S (wA E) s.heap s.heap [] := va_S.rf
  have hinJx4a65c : ∀ w ∈ wsJx4a65c0, w ∈ wsJxc12de_init_da8c8 := fun w h => List.mem_cons_of_mem _ (List.mem_append_right _ h)
  have hl := lv_entry ([.ref (g tg)]) (n := 1) (Nat.le_of_ble_eq_true rfl)
  rw [lg_entry_eq]
  generalize (lg_sl ([.ref (g tg)]) ++ List.replicate (1 - (lg_sl ([.ref (g tg)])).length) Slot.unset).toArray = ls at hl ⊢
  have hl : lv_has ls 1 [(0, .ref (g tg))] := hl
  obtain ⟨H, eH⟩ : ∃ z, z = s.heap := ⟨_, rfl⟩
  have hH : wH E.1 E.2.2 g live F H := by rw [eH]; exact hH
  have hS : va_S (wA E) s.heap H [] := by rw [eH]; exact hS
  refine W.heapTo eH ?_
  refine lv_aload_n hx hb dJxc12de_init_da8c8_0 rfl (lv_at hl 0 rfl) ?_
  refine va_callv (va_runI (As := []) (rest := []) ⟨hx, hb, hml, hown, hts⟩ (met_JA_init l E _ _ _ tg hlv hF) (cwI 0 hts gJxc12de_init_da8c8_Jxa1e45_init_da8c8 rfl rfl rfl (hts (.initialized RJxa1e45) (by decide +kernel)) (hts (.methodLink RJxc12de 1 yJxa1e45_init_da8c8) (by decide +kernel)) (hts (.instanceMethod yJxa1e45_init_da8c8) (by decide +kernel)) rfl (by decide +kernel) ⟨Nat.le_of_ble_eq_true rfl, Nat.le_of_ble_eq_true rfl⟩) ⟨fun a U f mk q => ⟨q.1, wPreG.calling q.2 a f mk⟩, fun U hU hW => ⟨rfl, wPreG_at hz hS hH hK U hU hW⟩⟩ rfl rfl hl.1 rfl (lv_room (Nat.le_of_ble_eq_true rfl)) dJxc12de_init_da8c8_1 ⟨by first | exact Nat.le_of_ble_eq_true rfl | omega, by first | exact Nat.le_of_ble_eq_true rfl | omega⟩) hS (fun q _ h => h) (fun q h => h) (fun u t H locs ht hvm hw hB hz1 hk1 hS => ?_)
  have hH := wG_h ht hB
  refine lv_aload_n hx hb dJxc12de_init_da8c8_4 rfl (lv_at hl 0 rfl) ?_
  refine lv_iconst (v := 0) hx hb dJxc12de_init_da8c8_5 (by decide) ?_
  refine wr_put (T := TJx4a65c) (N := 3) (ci := 2) (v := .int 0) (t := tg) hx hb hts hinJx4a65c tyJx4a65c tyJx4a65c_ok nmJx4a65c hown hK hH hS hlv (fs := [.int 0, .null, .int 0]) hF rfl 0 (by decide) (hts (.fieldLink RJxc12de 7 "java/util/AbstractList" "modCount" "I") (by decide +kernel)) (fun _ h => h) rfl (ty := .int) (by decide +kernel) rfl rfl (Nat.le_of_ble_eq_true rfl) dJxc12de_init_da8c8_6 (fun H locs hH hS => ?_)
  repeat rw [upup] at hH
  exact W.vret hx hb hr (fun t ht hW => ⟨⟨(), rfl, trivial, wG_t ht hH⟩, hS.F ht⟩) hS.2.2 dJxc12de_init_da8c8_9
set_option maxHeartbeats 4000000 in
set_option maxRecDepth 100000 in
theorem met_AL_init (l : Launch) (E : wE) (g : Nat → Nat) (live : Nat → Prop) (F : Nat → va_E) (tg : Nat) (hlv : live tg) (hF : F tg = .inr (2, [.int 0, .null, .int 0])) : Met l yJx4a65c_init_da8c8 wsJx4a65c_init_da8c8 ({ frames := 4, cells := 0, slots := 0, locals := 300 } : Room) (va_Pc [.ref (g tg)] (wPreY E g live F)) (va_Qv (fun (_ : Unit) => True) (fun (_ : Unit) t => wH E.1 E.2.2 g live (va_up F tg (.inr (2, [.int 0, .ref E.2.1.2, .int 0]))) t.heap) (wA E)) 0 0 (wA E) := by
  refine Met.ofW (cc := cJx4a65c_init_da8c8) (maxL := 1) (ret := none) (by decide) rfl ?_
  intro p e s m args below meth c s₁ B hml hv
  obtain ⟨rfl, ⟨hz, hH, hK⟩, hC, hDD⟩ := hv
  have hx := B.exec
  have hb := B.bytes
  have hr := B.returns
  have hts := atoms_spec (ws := wsJx4a65c_init_da8c8) B.pre
  have hown : s.vm.findClass RJx4a65c = some m.cls := findClass_of_methodNamed B.named
  have hnm : meth.name = yJx4a65c_init_da8c8.name := (name_of_methodNamed B.named B.method).1
  have hS : va_S (wA E) s.heap s.heap [] := va_S.rf
  have hinJx4a65c : ∀ w ∈ wsJx4a65c0, w ∈ wsJx4a65c_init_da8c8 := fun w h => List.mem_cons_of_mem _ (List.mem_append_right _ h)
  have hl := lv_entry ([.ref (g tg)]) (n := 1) (Nat.le_of_ble_eq_true rfl)
  rw [lg_entry_eq]
  generalize (lg_sl ([.ref (g tg)]) ++ List.replicate (1 - (lg_sl ([.ref (g tg)])).length) Slot.unset).toArray = ls at hl ⊢
  have hl : lv_has ls 1 [(0, .ref (g tg))] := hl
  obtain ⟨H, eH⟩ : ∃ z, z = s.heap := ⟨_, rfl⟩
  have hH : wH E.1 E.2.2 g live F H := by rw [eH]; exact hH
  have hS : va_S (wA E) s.heap H [] := by rw [eH]; exact hS
  refine W.heapTo eH ?_
  refine lv_aload_n hx hb dJx4a65c_init_da8c8_0 rfl (lv_at hl 0 rfl) ?_
  refine va_callv (va_runI (As := []) (rest := []) ⟨hx, hb, hml, hown, hts⟩ (met_JC_init l E _ _ _ tg hlv hF) (cwI 0 hts gJx4a65c_init_da8c8_Jxc12de_init_da8c8 rfl rfl rfl (hts (.initialized RJxc12de) (by decide +kernel)) (hts (.methodLink RJx4a65c 1 yJxc12de_init_da8c8) (by decide +kernel)) (hts (.instanceMethod yJxc12de_init_da8c8) (by decide +kernel)) rfl (by decide +kernel) ⟨Nat.le_of_ble_eq_true rfl, Nat.le_of_ble_eq_true rfl⟩) ⟨fun a U f mk q => ⟨q.1, wPreG.calling q.2 a f mk⟩, fun U hU hW => ⟨rfl, wPreG_at hz hS hH hK U hU hW⟩⟩ rfl rfl hl.1 rfl (lv_room (Nat.le_of_ble_eq_true rfl)) dJx4a65c_init_da8c8_1 ⟨by first | exact Nat.le_of_ble_eq_true rfl | omega, by first | exact Nat.le_of_ble_eq_true rfl | omega⟩) hS (fun q _ h => h) (fun q h => h) (fun u t H locs ht hvm hw hB hz1 hk1 hS => ?_)
  have hH := wG_h ht hB
  refine lv_aload_n hx hb dJx4a65c_init_da8c8_4 rfl (lv_at hl 0 rfl) ?_
  refine va_gets hx hb hC.2.2.2.2.1 hS hown (hts (.fieldLink RJx4a65c 39 "java/util/ArrayList" "DEFAULTCAPACITY_EMPTY_ELEMENTDATA" "[Ljava/lang/Object;") (by decide +kernel)) (fun _ h => h) dJx4a65c_init_da8c8_5 ?_
  refine wr_put (T := TJx4a65c) (N := 3) (ci := 2) (v := .ref E.2.1.2) (t := tg) hx hb hts hinJx4a65c tyJx4a65c tyJx4a65c_ok nmJx4a65c hown hK hH hS hlv (fs := [.int 0, .null, .int 0]) (va_up_self _ _ _) rfl 1 (by decide) (hts (.fieldLink RJx4a65c 9 "java/util/ArrayList" "elementData" "[Ljava/lang/Object;") (by decide +kernel)) (fun _ h => h) rfl (ty := (.array (.object "java/lang/Object"))) (by decide +kernel) rfl rfl (Nat.le_of_ble_eq_true rfl) dJx4a65c_init_da8c8_8 (fun H locs hH hS => ?_)
  repeat rw [upup] at hH
  exact W.vret hx hb hr (fun t ht hW => ⟨⟨(), rfl, trivial, wG_t ht hH⟩, hS.F ht⟩) hS.2.2 dJx4a65c_init_da8c8_11
