/-! ===== the class: addDisc, addBox ===== -/
def capD (x : St) : Nat := if x.1 0 0 < x.1 2 0 then x.1 2 0 else if x.1 2 0 = 0 then 10 else x.1 2 0 + x.1 2 0 / 2
def capB (x : St) : Nat := if x.1 3 0 = 0 then 10 else x.1 3 0
theorem addC_d {E : wE} {g : Nat → Nat} {x y : St} {oL : Nat → Int64} {oD : Nat → UInt64} {q9 : Nat} {e9 : va_E} (hI : CI x) (hQ : CQ x) (h30 : x.1 0 0 < 30) : AddC E (va_up g 900 q9) (fun t => liv x.1 t ∨ t = 900) (va_up (cel E.2.1 g x y oL oD) 900 e9) 1 2 (x.1 2 0) (x.1 0 0) (capD x) (fun i => g (100 + i)) := by
  obtain ⟨hn0, hn1, hn2, hn3, hn4, hn5, hc7, hc8, hc5, hc54, hc4, hc50, hc9, hc12, hc10, hcj⟩ := id hI
  unfold AddC capD
  by_cases h4 : x.1 2 0 = 0
  · refine Or.inl ⟨h4, by omega, fun q => ?_, by omega, by rw [if_neg (by omega), if_pos h4]⟩
    rcases q with q | q
    · unfold liv at q; omega
    · omega
  have hF2 : va_up (cel E.2.1 g x y oL oD) 900 e9 2 = cArO E.2.1 (x.1 2 0) (x.1 0 0) (fun i => g (100 + i)) := by rw [va_up_ne _ _ (by decide), cel_rt (by decide)]; rfl
  by_cases h5 : x.1 0 0 < x.1 2 0
  · exact Or.inr (Or.inl ⟨Or.inl (lv_r2 h4), hF2, h5, by omega, if_pos h5⟩)
  have h6 : x.1 2 0 = x.1 0 0 := by omega
  refine Or.inr (Or.inr ⟨x.1 2 0 / 2, Or.inl (lv_r2 h4), by rw [hF2, h6], h6, by omega, ?_, ?_, ?_, fun q => ?_, fun i hi => ?_, ?_⟩)
  · rcases hQ.2.2 with q | q | q | q | q <;> omega
  · omega
  · rcases hQ.2.2 with q | q | q | q | q
    · exact absurd q h4
    · rw [← h6, q]; rfl
    · rw [← h6, q]; rfl
    · rw [← h6, q]; rfl
    · omega
  · rcases q with q | q
    · unfold liv at q; omega
    · omega
  · exact ⟨100 + i, 4, _, (RX2, TX2, 8), Or.inl (lv_di hi hn0), by omega, (va_up_ne _ _ (by omega)).symm, by rw [va_up_ne _ _ (by omega), cel_di (by omega)]; rfl, rfl, by decide +kernel⟩
  · rw [if_neg h5, if_neg h4, h6]
theorem capD_0 {x : St} : capD x ≠ 0 := by
  unfold capD
  split
  · omega
  · split <;> omega
theorem capB_0 {x : St} : capB x ≠ 0 := by
  unfold capB
  split <;> omega
def cp_addDisc (x : St) (a : Int32) (st : Int32) (fw : Int32) : Option String × Int32 × St := if 0 ≤ a ∧ a ≤ 99 then (if 1 ≤ st ∧ st ≤ 50 then (if 0 ≤ fw ∧ fw ≤ 99 then (if (x.1 0 0) < 30 then (none, (nI (x.1 0 0)), (dAdd x (ix a) st fw (capD x) (x.2 20 0 + 1))) else (some "java/lang/IllegalStateException", 0, x)) else (some "java/lang/IllegalArgumentException", 0, x)) else (some "java/lang/IllegalArgumentException", 0, x)) else (some "java/lang/IllegalArgumentException", 0, x)
set_option maxHeartbeats 4000000 in
set_option maxRecDepth 100000 in
theorem met_X4_addDisc (l : Launch) (E : wE) (o : wO) (g : Nat → Nat) (x y : St) (a : Int32) (st : Int32) (fw : Int32) (hlt : l.stackTraces = false) (hI : CI x) (hQ : CQ x) (hFr : FrD x) : vx_Met l yX4_addDisc wsX4_addDisc ({ frames := 12, cells := 5, slots := 140, locals := 1300 } : Room) (va_Pc [.ref (g 0), .int a, .int st, .int fw] (wPreZ E o g x y)) (va_Qi (fun (r : Int32) (_ : Unit) => (cp_addDisc x a st fw).1 = none ∧ r = (cp_addDisc x a st fw).2.1) (fun (_ : Unit) t => ∃ g9 : Nat → Nat, gE g g9 ∧ wHS E o g9 (cp_addDisc x a st fw).2.2 y t.heap) (wA E)) (wXC E o g x y (fun X => (cp_addDisc x a st fw).1 = some X)) 5 140 (wA E) := by
  refine vx_ofW (cc := cX4_addDisc) (maxL := 5) (ret := (some .int)) (by decide) rfl ?_
  intro p e s m args below meth c s₁ B hml hnt hv
  obtain ⟨rfl, ⟨⟨hz, hH, hK⟩, hC⟩, hDD⟩ := hv
  have hx := B.exec
  have hb := B.bytes
  have hr := B.returns
  have hts := atoms_spec (ws := wsX4_addDisc) B.pre
  have hown : s.vm.findClass RX4 = some m.cls := findClass_of_methodNamed B.named
  have hlocks := B.notSynchronized
  have hS : va_S (wA E) s.heap s.heap [] := va_S.rf
  have hinX4 : ∀ w ∈ wsX40, w ∈ wsX4_addDisc := fun w h => List.mem_cons_of_mem _ (List.mem_append_left _ (List.mem_append_left _ (List.mem_append_left _ (List.mem_append_left _ (List.mem_append_right _ h)))))
  have hinX2 : ∀ w ∈ wsX20, w ∈ wsX4_addDisc := fun w h => List.mem_cons_of_mem _ (List.mem_append_left _ (List.mem_append_left _ (List.mem_append_left _ (List.mem_append_right _ h))))
  have hinJx4a65c : ∀ w ∈ wsJx4a65c0, w ∈ wsX4_addDisc := fun w h => List.mem_cons_of_mem _ (List.mem_append_left _ (List.mem_append_left _ (List.mem_append_right _ h)))
  have hl := lv_entry ([.ref (g 0), .int a, .int st, .int fw]) (n := 5) (Nat.le_of_ble_eq_true rfl)
  rw [lg_entry_eq]
  generalize (lg_sl ([.ref (g 0), .int a, .int st, .int fw]) ++ List.replicate (5 - (lg_sl ([.ref (g 0), .int a, .int st, .int fw])).length) Slot.unset).toArray = ls at hl ⊢
  have hl : lv_has ls 5 [(0, .ref (g 0)), (1, .int a), (2, .int st), (3, .int fw)] := hl
  obtain ⟨H, eH⟩ : ∃ z, z = s.heap := ⟨_, rfl⟩
  have hH : wHS E o g x y H := by rw [eH]; exact hH
  have hS : va_S (wA E) s.heap H [] := by rw [eH]; exact hS
  refine W.heapTo eH ?_
  obtain ⟨hn0, hn1, hn2, hn3, hn4, hn5, hc7, hc8, hc5, hc54, hc4, hc50, hc9, hc12, hc10, hcj⟩ := id hI
  refine lv_iload_n hx hb dX4_addDisc_0 rfl (lv_at hl 1 rfl) ?_
  refine lv_iconst (v := 0) hx hb dX4_addDisc_1 (by decide) ?_
  refine lv_bipush (v := 99) hx hb dX4_addDisc_2 (by decide) ?_
  refine va_calli (va_runS (As := [.int a, .int 0, .int 99]) (rest := []) ⟨hx, hb, hml, hown, hts⟩ (met_X4_isWithin l E o g x y a 0 99) (va_cwS 3 hts gX4_addDisc_X4_isWithin rfl rfl rfl (by decide +kernel) ⟨Nat.le_of_ble_eq_true rfl, Nat.le_of_ble_eq_true rfl⟩) ⟨fun a U f mk q => ⟨q.1, wPre.calling q.2 a f mk⟩, fun U hU hW => ⟨rfl, wPre_at hz hS hH hK U hU hW⟩⟩ rfl rfl hl.1 rfl (lv_room (Nat.le_of_ble_eq_true rfl)) dX4_addDisc_4 ⟨Nat.le_of_ble_eq_true rfl, Nat.le_of_ble_eq_true rfl⟩) hS (fun q _ h => h) (fun q h => h) (fun r u t H locs ht hvm hw hB hz1 hk1 hS => ?_)
  have hB := wHS_h ht hB
  try dsimp only at hw
  have hH := hB
  rcases hw with ⟨rfl, c1⟩ | ⟨rfl, c1⟩
  · obtain ⟨ja, hja, rfl⟩ := in_nat (n := 99) (by decide) c1
    refine lv_if_eq (tgt := 30) hx hb dX4_addDisc_7 (by decide) (fun hq => absurd hq (show ¬ (1 : Int32) = 0 by decide)) (fun _ => ?_)
    refine lv_iload_n hx hb dX4_addDisc_10 rfl (lv_at hl 2 rfl) ?_
    refine lv_iconst (v := 1) hx hb dX4_addDisc_11 (by decide) ?_
    refine lv_bipush (v := 50) hx hb dX4_addDisc_12 (by decide) ?_
    refine va_calli (va_runS (As := [.int st, .int 1, .int 50]) (rest := []) ⟨hx, hb, hml, hown, hts⟩ (met_X4_isWithin l E o g x y st 1 50) (va_cwS 3 hts gX4_addDisc_X4_isWithin rfl rfl rfl (by decide +kernel) ⟨Nat.le_of_ble_eq_true rfl, Nat.le_of_ble_eq_true rfl⟩) ⟨fun a U f mk q => ⟨q.1, wPre.calling q.2 a f mk⟩, fun U hU hW => ⟨rfl, wPre_at hz hS hH hK U hU hW⟩⟩ rfl rfl hl.1 rfl (lv_room (Nat.le_of_ble_eq_true rfl)) dX4_addDisc_14 ⟨Nat.le_of_ble_eq_true rfl, Nat.le_of_ble_eq_true rfl⟩) hS (fun q _ h => h) (fun q h => h) (fun r u t H locs ht hvm hw hB hz1 hk1 hS => ?_)
    have hB := wHS_h ht hB
    try dsimp only at hw
    have hH := hB
    rcases hw with ⟨rfl, c2⟩ | ⟨rfl, c2⟩
    · skip
      refine lv_if_eq (tgt := 30) hx hb dX4_addDisc_17 (by decide) (fun hq => absurd hq (show ¬ (1 : Int32) = 0 by decide)) (fun _ => ?_)
      refine lv_iload_n hx hb dX4_addDisc_20 rfl (lv_at hl 3 rfl) ?_
      refine lv_iconst (v := 0) hx hb dX4_addDisc_21 (by decide) ?_
      refine lv_bipush (v := 99) hx hb dX4_addDisc_22 (by decide) ?_
      refine va_calli (va_runS (As := [.int fw, .int 0, .int 99]) (rest := []) ⟨hx, hb, hml, hown, hts⟩ (met_X4_isWithin l E o g x y fw 0 99) (va_cwS 3 hts gX4_addDisc_X4_isWithin rfl rfl rfl (by decide +kernel) ⟨Nat.le_of_ble_eq_true rfl, Nat.le_of_ble_eq_true rfl⟩) ⟨fun a U f mk q => ⟨q.1, wPre.calling q.2 a f mk⟩, fun U hU hW => ⟨rfl, wPre_at hz hS hH hK U hU hW⟩⟩ rfl rfl hl.1 rfl (lv_room (Nat.le_of_ble_eq_true rfl)) dX4_addDisc_24 ⟨Nat.le_of_ble_eq_true rfl, Nat.le_of_ble_eq_true rfl⟩) hS (fun q _ h => h) (fun q h => h) (fun r u t H locs ht hvm hw hB hz1 hk1 hS => ?_)
      have hB := wHS_h ht hB
      try dsimp only at hw
      have hH := hB
      rcases hw with ⟨rfl, c3⟩ | ⟨rfl, c3⟩
      · skip
        refine lv_if_ne (tgt := 40) hx hb dX4_addDisc_27 (by decide) (fun _ => ?_) (fun hq => absurd hq (show ¬ (1 : Int32) = 0 by decide))
        refine lv_aload_n hx hb dX4_addDisc_40 rfl (lv_at hl 0 rfl) ?_
        refine wr_get (T := TX4) (N := 9) (ci := 6) (v := .ref (g 1)) hx hb hts hinX4 hown hK hH lv_r0 (cel_rt (by omega)) rfl 0 (by decide) (hts (.fieldLink RX4 10 "SelectoRoute" "discs" "Ljava/util/ArrayList;") (by decide +kernel)) (fun _ h => h) rfl dX4_addDisc_41 ?_
        refine va_calli (va_runV (As := []) (rest := []) ⟨hx, hb, hml, hown, hts⟩ (met_AL_size l E g (liv x.1) (cel E.2.1 g x y o.1 o.2) 1 2 (x.2 20 0) (x.1 2 0) (x.1 0 0) E.2.1.2 lv_r1 (cel_rt (by omega))) (cwV 0 hts gX4_addDisc_Jx4a65c_size_8abf5 rfl rfl rfl (by decide +kernel) ⟨Nat.le_of_ble_eq_true rfl, Nat.le_of_ble_eq_true rfl⟩) ⟨fun a U f mk q => ⟨q.1, wPreG.calling q.2 a f mk⟩, (va_recv hK (wH_one hH lv_r1 (cel_rt (by omega))) (ci := 2) (q0 := 0) rfl rfl), fun U hU hW => ⟨rfl, wPreG_at hz hS hH hK U hU hW⟩⟩ rfl rfl hl.1 rfl (lv_room (Nat.le_of_ble_eq_true rfl)) dX4_addDisc_44 ⟨Nat.le_of_ble_eq_true rfl, Nat.le_of_ble_eq_true rfl⟩) hS (fun q _ h => h) (fun q h => h) (fun r u t H locs ht hvm hw hB hz1 hk1 hS => ?_)
        obtain rfl := hw
        have hH : wHS E o g x y H := wG_h ht hB
        refine lv_bipush (v := 30) hx hb dX4_addDisc_47 (by decide) ?_
        refine lv_icmp_lt (tgt := 62) hx hb dX4_addDisc_49 (by decide) (fun c4 => ?_) (fun c4 => ?_)
        · have c4 := (nI_ltI (a := (x.1 0 0)) (b := 30) (by omega) (by omega)).mp c4
          refine wr_new (C := "SelectoRoute$Disc") (T := TX2) (N := 8) (ci := 4) (fs := [.int 0, .int 0, .int 0, .int 0, .int 0, .int 0, .null, .int 0]) hx hb hts hinX2 tyX2 tyX2_ok hown (hts (.classLink RX4 53 "SelectoRoute$Disc") (by decide +kernel)) (hts (.instantiable "SelectoRoute$Disc" 8) (by decide +kernel)) (hts (.initialized "SelectoRoute$Disc") (by decide +kernel)) hK hH hS hz rfl (by decide) 900 (by unfold liv; omega) (by omega) (by first | exact Nat.le_of_ble_eq_true rfl | omega) (by first | exact Nat.le_of_ble_eq_true rfl | omega) dX4_addDisc_62 (fun q9 H hH hS => ?_)
          refine lv_dup hx hb dX4_addDisc_65 rfl ?_
          refine lv_aload_n hx hb dX4_addDisc_66 rfl (lv_at hl 0 rfl) ?_
          refine wr_get (T := TX4) (N := 9) (ci := 6) (v := .ref (g 1)) (t := 0) hx hb hts hinX4 hown hK hH (Or.inl lv_r0) ((va_up_ne _ _ (by decide)).trans (cel_rt (by decide))) rfl 0 (by decide) (hts (.fieldLink RX4 10 "SelectoRoute" "discs" "Ljava/util/ArrayList;") (by decide +kernel)) (fun _ h => h) rfl dX4_addDisc_67 ?_
          refine va_calli (va_runV (As := []) (rest := [.ref q9, .ref q9]) ⟨hx, hb, hml, hown, hts⟩ (met_AL_size l E (va_up g 900 q9) (fun t => liv x.1 t ∨ t = 900) (va_up (cel E.2.1 g x y o.1 o.2) 900 (.inr (4, [.int 0, .int 0, .int 0, .int 0, .int 0, .int 0, .null, .int 0]))) 1 2 (x.2 20 0) (x.1 2 0) (x.1 0 0) E.2.1.2 (Or.inl lv_r1) ((va_up_ne _ _ (by decide)).trans (cel_rt (by decide)))) (cwV 0 hts gX4_addDisc_Jx4a65c_size_8abf5 rfl rfl rfl (by decide +kernel) ⟨Nat.le_of_ble_eq_true rfl, Nat.le_of_ble_eq_true rfl⟩) ⟨fun a U f mk q => ⟨q.1, wPreG.calling q.2 a f mk⟩, (va_recv hK (wH_one (t := 1) hH (Or.inl lv_r1) ((va_up_ne _ _ (by decide)).trans (cel_rt (by decide)))) (ci := 2) (q0 := 0) rfl rfl), fun U hU hW => ⟨rfl, wPreG_at hz hS hH hK U hU hW⟩⟩ rfl rfl hl.1 rfl (lv_room (Nat.le_of_ble_eq_true rfl)) dX4_addDisc_70 ⟨by exact Nat.le_of_ble_eq_true rfl, by exact Nat.le_of_ble_eq_true rfl⟩) hS (fun q _ h => h) (fun q h => h) (fun r u t H locs ht hvm hw hB hz1 hk1 hS => ?_)
          obtain rfl := hw
          have hH := wG_h ht hB
          refine lv_iload_n hx hb dX4_addDisc_73 rfl (lv_at hl 1 rfl) ?_
          refine lv_iload_n hx hb dX4_addDisc_74 rfl (lv_at hl 2 rfl) ?_
          refine lv_iload_n hx hb dX4_addDisc_75 rfl (lv_at hl 3 rfl) ?_
          refine va_callv (va_runI (As := [.int (nI (x.1 0 0)), .int (nI ja), .int st, .int fw]) (rest := [.ref q9]) ⟨hx, hb, hml, hown, hts⟩ (met_X2_init l E (va_up g 900 q9) (fun t => liv x.1 t ∨ t = 900) (va_up (cel E.2.1 g x y o.1 o.2) 900 (.inr (4, [.int 0, .int 0, .int 0, .int 0, .int 0, .int 0, .null, .int 0]))) 900 (nI (x.1 0 0)) (nI ja) st fw (Or.inr rfl) (va_up_self _ _ _)) (cwI 4 hts gX4_addDisc_X2_init rfl rfl rfl (hts (.initialized RX2) (by decide +kernel)) (hts (.methodLink RX4 55 yX2_init) (by decide +kernel)) (hts (.instanceMethod yX2_init) (by decide +kernel)) rfl (by decide +kernel) ⟨Nat.le_of_ble_eq_true rfl, Nat.le_of_ble_eq_true rfl⟩) ⟨fun a U f mk q => ⟨q.1, wPreG.calling q.2 a f mk⟩, fun U hU hW => ⟨rfl, wPreG_at hz hS hH hK U hU hW⟩⟩ rfl rfl hl.1 rfl (lv_room (Nat.le_of_ble_eq_true rfl)) dX4_addDisc_76 ⟨by exact Nat.le_of_ble_eq_true rfl, by exact Nat.le_of_ble_eq_true rfl⟩) hS (fun q _ h => h) (fun q h => h) (fun u t H locs ht hvm hw hB hz1 hk1 hS => ?_)
          have hH := wG_h ht hB
          rw [upup] at hH
          refine lv_astore (lv' := [(4, .ref q9), (0, .ref (g 0)), (1, .int (nI ja)), (2, .int st), (3, .int fw)]) hx hb dX4_addDisc_79 hl (by decide) rfl (fun ls hl => ?_)
          refine lv_aload_n hx hb dX4_addDisc_81 rfl (lv_at hl 1 rfl) ?_
          refine wr_get (T := TX4) (N := 9) (ci := 6) (v := .ref (g 1)) (t := 0) hx hb hts hinX4 hown hK hH (Or.inl lv_r0) ((va_up_ne _ _ (by decide)).trans (cel_rt (by decide))) rfl 0 (by decide) (hts (.fieldLink RX4 10 "SelectoRoute" "discs" "Ljava/util/ArrayList;") (by decide +kernel)) (fun _ h => h) rfl dX4_addDisc_82 ?_
          refine lv_aload hx hb dX4_addDisc_85 (lv_at hl 0 rfl) ?_
          refine va_calli (va_runV (As := [.ref q9]) (rest := []) ⟨hx, hb, hml, hown, hts⟩ (met_add l E (va_up g 900 q9) (fun t => liv x.1 t ∨ t = 900) (va_up (cel E.2.1 g x y o.1 o.2) 900 (.inr (4, [.int (nI (x.1 0 0)), .int (nI ja), .int st, .int fw, .int 0, .int 0, .null, .int 0]))) 1 2 (x.2 20 0) (x.1 2 0) (x.1 0 0) (capD x) (fun i => g (100 + i)) 900 4 [.int (nI (x.1 0 0)), .int (nI ja), .int st, .int fw, .int 0, .int 0, .null, .int 0] (RX2, TX2, 8) (Or.inl lv_r1) ((va_up_ne _ _ (by decide)).trans (cel_rt (by decide))) (addC_d hI hQ c4) (Or.inr rfl) (by decide) (va_up_self _ _ _) rfl (by decide +kernel)) (cwV 1 hts gX4_addDisc_Jx4a65c_add_9ea2d rfl rfl rfl (by decide +kernel) ⟨Nat.le_of_ble_eq_true rfl, Nat.le_of_ble_eq_true rfl⟩) ⟨fun a U f mk q => ⟨q.1, wPreY.calling q.2 a f mk⟩, (va_recv hK (wH_one (t := 1) hH (Or.inl lv_r1) ((va_up_ne _ _ (by decide)).trans (cel_rt (by decide)))) (ci := 2) (q0 := 0) rfl rfl), fun U hU hW => ⟨rfl, wPreY_at hz hS hH hK hC hDD U hU hW⟩⟩ rfl rfl hl.1 rfl (lv_room (Nat.le_of_ble_eq_true rfl)) dX4_addDisc_87 ⟨by exact Nat.le_of_ble_eq_true rfl, by exact Nat.le_of_ble_eq_true rfl⟩) hS (fun q _ h => h) (fun q h => h) (fun r u t H locs ht hvm hw hB hz1 hk1 hS => ?_)
          obtain rfl := hw
          obtain ⟨g9, hg9, hB⟩ := hB
          have hH := wG_h ht hB
          have hH := pd_add (y := y) (so := ja) (st := st) (fw := fw) (md9 := x.2 20 0 + 1) hI hFr c4 capD_0 hg9 hH
          have e0 : g 0 = g9 (if 0 = 100 + x.1 0 0 then 900 else 0) := by rw [if_neg (by omega), hg9 0 (by decide), va_up_ne _ _ (by decide)]
          have e9 : q9 = g9 (if 100 + x.1 0 0 = 100 + x.1 0 0 then 900 else 100 + x.1 0 0) := by rw [if_pos rfl, hg9 900 (by decide), va_up_self]
          have hG : ∃ z : Nat → Nat, z = (fun t => g9 (if t = 100 + x.1 0 0 then 900 else t)) ∧ gE g z := ⟨_, rfl, fun t9 a9 b9 c9 => by show g9 (if t9 = 100 + x.1 0 0 then 900 else t9) = g t9; rw [if_neg (by omega), hg9 t9 b9, va_up_ne _ _ (by omega)]⟩
          obtain ⟨g8, e8, hgE⟩ := hG
          rw [← e8] at hH
          have e0 : g 0 = g8 0 := by rw [e8]; exact e0
          have e9 : q9 = g8 (100 + x.1 0 0) := by rw [e8]; exact e9
          rw [e0, e9] at hl
          have hG : ∃ z, z = g8 ∧ gE g z := ⟨g8, rfl, hgE⟩
          clear hgE e0 e9 e8
          obtain ⟨g, rfl, hgE⟩ := hG
          refine lv_pop hx hb dX4_addDisc_90 rfl ?_
          refine lv_aload hx hb dX4_addDisc_91 (lv_at hl 0 rfl) ?_
          refine wr_get (T := TX2) (N := 8) (ci := 4) (v := .int (nI (x.1 0 0))) hx hb hts hinX2 hown hK hH (lv_di (by rw [dAdd_0]; omega) (by rw [dAdd_0]; omega)) (cel_di (by omega)) rfl 0 (by decide) (hts (.fieldLink RX4 62 "SelectoRoute$Disc" "number" "I") (by decide +kernel)) (fun _ h => h) rfl dX4_addDisc_93 ?_
          have hsp : cp_addDisc x (nI ja) st fw = (none, (nI (x.1 0 0)), (dAdd x ja st fw (capD x) (x.2 20 0 + 1))) := by
            unfold cp_addDisc
            first | (simp only [c1, c2, c3, c4, inB_nI hja (by omega), ix_nI (show ja < 2 ^ 31 by omega), ↓reduceIte, and_self, and_true, true_and, Bool.false_eq_true, reduceCtorEq, eq_self, false_and, and_false]; done) | (simp [c1, c2, c3, c4, inB_nI hja (by omega), ix_nI (show ja < 2 ^ 31 by omega), ↓reduceIte, and_self, and_true, true_and, Bool.false_eq_true, reduceCtorEq, eq_self, false_and, and_false]; done) | simp only [c1, c2, c3, c4, inB_nI hja (by omega), ix_nI (show ja < 2 ^ 31 by omega), ↓reduceIte, and_self, and_true, true_and, Bool.false_eq_true, reduceCtorEq, eq_self, false_and, and_false]
          have hx0 : (cp_addDisc x (nI ja) st fw).1 = none := by rw [hsp]
          have hx1 : (cp_addDisc x (nI ja) st fw).2.1 = (nI (x.1 0 0)) := by rw [hsp]
          have hx2 : (cp_addDisc x (nI ja) st fw).2.2 = (dAdd x ja st fw (capD x) (x.2 20 0 + 1)) := by rw [hsp]
          refine vx_ret ?_
          refine W.widen (k := 5) (n := 140) (by omega) (by omega) ?_
          exact W.iret (v := (nI (x.1 0 0))) hx hb hr (fun t ht hW => ⟨⟨(nI (x.1 0 0)), (), rfl, ⟨hx0, hx1.symm⟩, g, hgE, by rw [hx2]; exact wHS_t ht hH⟩, hS.F ht⟩) hS.2.2 dX4_addDisc_96
        · have c4 : ¬ ((x.1 0 0) < 30) := fun hq => c4 ((nI_ltI (a := (x.1 0 0)) (b := 30) (by omega) (by omega)).mpr hq)
          have hsp : cp_addDisc x (nI ja) st fw = (some "java/lang/IllegalStateException", 0, x) := by
            unfold cp_addDisc
            first | (simp only [c1, c2, c3, c4, inB_nI hja (by omega), ix_nI (show ja < 2 ^ 31 by omega), ↓reduceIte, and_self, and_true, true_and, Bool.false_eq_true, reduceCtorEq, eq_self, false_and, and_false]; done) | (simp [c1, c2, c3, c4, inB_nI hja (by omega), ix_nI (show ja < 2 ^ 31 by omega), ↓reduceIte, and_self, and_true, true_and, Bool.false_eq_true, reduceCtorEq, eq_self, false_and, and_false]; done) | simp only [c1, c2, c3, c4, inB_nI hja (by omega), ix_nI (show ja < 2 ^ 31 by omega), ↓reduceIte, and_self, and_true, true_and, Bool.false_eq_true, reduceCtorEq, eq_self, false_and, and_false]
          obtain ⟨sa, hsa⟩ := hC.2.2.1 (50, "no room for another disc") (by decide +kernel)
          exact vx_throwS (A := wA E) (names := ["java/lang/RuntimeException", "java/lang/Exception"]) hx hb hlt hown (by decide +kernel) (by decide +kernel) (hts (.classLink RX4 48 "java/lang/IllegalStateException") (by decide +kernel)) (hts (.initialized "java/lang/IllegalStateException") (by decide +kernel)) hsa (hat_xS hts (fun w h => List.mem_cons_of_mem _ (List.mem_append_right _ h)) hC) (by decide +kernel) hC.1 hC.2.1 (by rw [← eH] at *; exact hS) (hl.1.trans hml.symm) dX4_addDisc_52 dX4_addDisc_55 dX4_addDisc_56 dX4_addDisc_58 dX4_addDisc_61 (fun x h => (hnt x h).elim) (Nat.lt_of_lt_of_le (by decide : 2 + 3 < 6) (Nat.le_of_ble_eq_true rfl)) (Nat.le_of_ble_eq_true rfl) (Nat.le_of_ble_eq_true rfl) (Nat.le_of_ble_eq_true rfl) hlocks (wX_of hS hH (by rw [hsp])) hS.2.2 (by omega) (by omega)
      · skip
        refine lv_if_ne (tgt := 40) hx hb dX4_addDisc_27 (by decide) (fun hq => absurd (show (0 : Int32) = 0 by decide) hq) (fun _ => ?_)
        have hsp : cp_addDisc x (nI ja) st fw = (some "java/lang/IllegalArgumentException", 0, x) := by
          unfold cp_addDisc
          first | (simp only [c1, c2, c3, inB_nI hja (by omega), ix_nI (show ja < 2 ^ 31 by omega), ↓reduceIte, and_self, and_true, true_and, Bool.false_eq_true, reduceCtorEq, eq_self, false_and, and_false]; done) | (simp [c1, c2, c3, inB_nI hja (by omega), ix_nI (show ja < 2 ^ 31 by omega), ↓reduceIte, and_self, and_true, true_and, Bool.false_eq_true, reduceCtorEq, eq_self, false_and, and_false]; done) | simp only [c1, c2, c3, inB_nI hja (by omega), ix_nI (show ja < 2 ^ 31 by omega), ↓reduceIte, and_self, and_true, true_and, Bool.false_eq_true, reduceCtorEq, eq_self, false_and, and_false]
        obtain ⟨sa, hsa⟩ := hC.2.2.1 (39, "song, strength or week out of range") (by decide +kernel)
        exact vx_throwS (A := wA E) (names := ["java/lang/RuntimeException", "java/lang/Exception"]) hx hb hlt hown (by decide +kernel) (by decide +kernel) (hts (.classLink RX4 37 "java/lang/IllegalArgumentException") (by decide +kernel)) (hts (.initialized "java/lang/IllegalArgumentException") (by decide +kernel)) hsa (hat_xA hts (fun w h => List.mem_cons_of_mem _ (List.mem_append_left _ (List.mem_append_right _ h))) hC) (by decide +kernel) hC.1 hC.2.1 (by rw [← eH] at *; exact hS) (hl.1.trans hml.symm) dX4_addDisc_30 dX4_addDisc_33 dX4_addDisc_34 dX4_addDisc_36 dX4_addDisc_39 (fun x h => (hnt x h).elim) (Nat.lt_of_lt_of_le (by decide : 2 + 3 < 6) (Nat.le_of_ble_eq_true rfl)) (Nat.le_of_ble_eq_true rfl) (Nat.le_of_ble_eq_true rfl) (Nat.le_of_ble_eq_true rfl) hlocks (wX_of hS hH (by rw [hsp])) hS.2.2 (by omega) (by omega)
    · skip
      refine lv_if_eq (tgt := 30) hx hb dX4_addDisc_17 (by decide) (fun _ => ?_) (fun hq => absurd (show (0 : Int32) = 0 by decide) hq)
      have hsp : cp_addDisc x (nI ja) st fw = (some "java/lang/IllegalArgumentException", 0, x) := by
        unfold cp_addDisc
        first | (simp only [c1, c2, inB_nI hja (by omega), ix_nI (show ja < 2 ^ 31 by omega), ↓reduceIte, and_self, and_true, true_and, Bool.false_eq_true, reduceCtorEq, eq_self, false_and, and_false]; done) | (simp [c1, c2, inB_nI hja (by omega), ix_nI (show ja < 2 ^ 31 by omega), ↓reduceIte, and_self, and_true, true_and, Bool.false_eq_true, reduceCtorEq, eq_self, false_and, and_false]; done) | simp only [c1, c2, inB_nI hja (by omega), ix_nI (show ja < 2 ^ 31 by omega), ↓reduceIte, and_self, and_true, true_and, Bool.false_eq_true, reduceCtorEq, eq_self, false_and, and_false]
      obtain ⟨sa, hsa⟩ := hC.2.2.1 (39, "song, strength or week out of range") (by decide +kernel)
      exact vx_throwS (A := wA E) (names := ["java/lang/RuntimeException", "java/lang/Exception"]) hx hb hlt hown (by decide +kernel) (by decide +kernel) (hts (.classLink RX4 37 "java/lang/IllegalArgumentException") (by decide +kernel)) (hts (.initialized "java/lang/IllegalArgumentException") (by decide +kernel)) hsa (hat_xA hts (fun w h => List.mem_cons_of_mem _ (List.mem_append_left _ (List.mem_append_right _ h))) hC) (by decide +kernel) hC.1 hC.2.1 (by rw [← eH] at *; exact hS) (hl.1.trans hml.symm) dX4_addDisc_30 dX4_addDisc_33 dX4_addDisc_34 dX4_addDisc_36 dX4_addDisc_39 (fun x h => (hnt x h).elim) (Nat.lt_of_lt_of_le (by decide : 2 + 3 < 6) (Nat.le_of_ble_eq_true rfl)) (Nat.le_of_ble_eq_true rfl) (Nat.le_of_ble_eq_true rfl) (Nat.le_of_ble_eq_true rfl) hlocks (wX_of hS hH (by rw [hsp])) hS.2.2 (by omega) (by omega)
  · skip
    refine lv_if_eq (tgt := 30) hx hb dX4_addDisc_7 (by decide) (fun _ => ?_) (fun hq => absurd (show (0 : Int32) = 0 by decide) hq)
    have hsp : cp_addDisc x a st fw = (some "java/lang/IllegalArgumentException", 0, x) := by
      unfold cp_addDisc
      first | (simp only [c1, ↓reduceIte, and_self, and_true, true_and, Bool.false_eq_true, reduceCtorEq, eq_self, false_and, and_false]; done) | (simp [c1, ↓reduceIte, and_self, and_true, true_and, Bool.false_eq_true, reduceCtorEq, eq_self, false_and, and_false]; done) | simp only [c1, ↓reduceIte, and_self, and_true, true_and, Bool.false_eq_true, reduceCtorEq, eq_self, false_and, and_false]
    obtain ⟨sa, hsa⟩ := hC.2.2.1 (39, "song, strength or week out of range") (by decide +kernel)
    exact vx_throwS (A := wA E) (names := ["java/lang/RuntimeException", "java/lang/Exception"]) hx hb hlt hown (by decide +kernel) (by decide +kernel) (hts (.classLink RX4 37 "java/lang/IllegalArgumentException") (by decide +kernel)) (hts (.initialized "java/lang/IllegalArgumentException") (by decide +kernel)) hsa (hat_xA hts (fun w h => List.mem_cons_of_mem _ (List.mem_append_left _ (List.mem_append_right _ h))) hC) (by decide +kernel) hC.1 hC.2.1 (by rw [← eH] at *; exact hS) (hl.1.trans hml.symm) dX4_addDisc_30 dX4_addDisc_33 dX4_addDisc_34 dX4_addDisc_36 dX4_addDisc_39 (fun x h => (hnt x h).elim) (Nat.lt_of_lt_of_le (by decide : 2 + 3 < 6) (Nat.le_of_ble_eq_true rfl)) (Nat.le_of_ble_eq_true rfl) (Nat.le_of_ble_eq_true rfl) (Nat.le_of_ble_eq_true rfl) hlocks (wX_of hS hH (by rw [hsp])) hS.2.2 (by omega) (by omega)
theorem addC_b {E : wE} {g g2 : Nat → Nat} {x y : St} {oL : Nat → Int64} {oD : Nat → UInt64} {e9 : va_E} {n sh ta : Int32} (hI : CI x) (hQ : CQ x) (h4 : x.1 1 0 < 4) : AddC E g2 (fun t => (liv x.1 t ∨ t = 900) ∨ (901 ≤ t ∧ t < 904) ∨ (910 ≤ t ∧ t < 920)) (fun t => if t < 900 then va_up (cel E.2.1 g x y oL oD) 900 e9 t else bxF E.2.1 g2 n sh ta t) 3 4 (x.1 3 0) (x.1 1 0) (capB x) (fun i => g (200 + i)) := by
  obtain ⟨hn0, hn1, hn2, hn3, hn4, hn5, hc7, hc8, hc5, hc54, hc4, hc50, hc9, hc12, hc10, hcj⟩ := id hI
  unfold AddC capB
  by_cases h5 : x.1 3 0 = 0
  · refine Or.inl ⟨h5, by omega, fun q => ?_, by omega, if_pos h5⟩
    rcases q with (q | q) | q | q
    · unfold liv at q; omega
    · omega
    · omega
    · omega
  have h10 := hQ.2.1.resolve_left h5
  refine Or.inr (Or.inl ⟨Or.inl (Or.inl (lv_r4 h5)), ?_, by omega, by omega, if_neg h5⟩)
  show (if 4 < 900 then _ else _) = _
  rw [if_pos (by decide), va_up_ne _ _ (by decide), cel_rt (by decide)]
  rfl
def cp_addBox (x : St) (sh : Int32) (ta : Int32) : Option String × Int32 × St := if 0 ≤ sh ∧ sh ≤ 60 then (if 0 ≤ ta ∧ ta ≤ 9 then (if (x.1 1 0) < 4 then (none, (nI (x.1 1 0)), (bAdd x sh ta (capB x) (x.2 21 0 + 1))) else (some "java/lang/IllegalStateException", 0, x)) else (some "java/lang/IllegalArgumentException", 0, x)) else (some "java/lang/IllegalArgumentException", 0, x)
set_option maxHeartbeats 4000000 in
set_option maxRecDepth 100000 in
theorem met_X4_addBox (l : Launch) (E : wE) (o : wO) (g : Nat → Nat) (x y : St) (sh : Int32) (ta : Int32) (hlt : l.stackTraces = false) (hI : CI x) (hQ : CQ x) (hFr : FrB x) : vx_Met l yX4_addBox wsX4_addBox ({ frames := 12, cells := 20, slots := 300, locals := 1300 } : Room) (va_Pc [.ref (g 0), .int sh, .int ta] (wPreZ E o g x y)) (va_Qi (fun (r : Int32) (_ : Unit) => (cp_addBox x sh ta).1 = none ∧ r = (cp_addBox x sh ta).2.1) (fun (_ : Unit) t => ∃ g9 : Nat → Nat, gE g g9 ∧ wHS E o g9 (cp_addBox x sh ta).2.2 y t.heap) (wA E)) (wXC E o g x y (fun X => (cp_addBox x sh ta).1 = some X)) 20 300 (wA E) := by
  refine vx_ofW (cc := cX4_addBox) (maxL := 4) (ret := (some .int)) (by decide) rfl ?_
  intro p e s m args below meth c s₁ B hml hnt hv
  obtain ⟨rfl, ⟨⟨hz, hH, hK⟩, hC⟩, hDD⟩ := hv
  have hx := B.exec
  have hb := B.bytes
  have hr := B.returns
  have hts := atoms_spec (ws := wsX4_addBox) B.pre
  have hown : s.vm.findClass RX4 = some m.cls := findClass_of_methodNamed B.named
  have hlocks := B.notSynchronized
  have hS : va_S (wA E) s.heap s.heap [] := va_S.rf
  have hinX4 : ∀ w ∈ wsX40, w ∈ wsX4_addBox := fun w h => List.mem_cons_of_mem _ (List.mem_append_left _ (List.mem_append_left _ (List.mem_append_left _ (List.mem_append_left _ (List.mem_append_left _ (List.mem_append_right _ h))))))
  have hinX0 : ∀ w ∈ wsX00, w ∈ wsX4_addBox := fun w h => List.mem_cons_of_mem _ (List.mem_append_left _ (List.mem_append_left _ (List.mem_append_left _ (List.mem_append_left _ (List.mem_append_right _ h)))))
  have hinJx4a65c : ∀ w ∈ wsJx4a65c0, w ∈ wsX4_addBox := fun w h => List.mem_cons_of_mem _ (List.mem_append_left _ (List.mem_append_left _ (List.mem_append_left _ (List.mem_append_right _ h))))
  have hinX3 : ∀ w ∈ wsX30, w ∈ wsX4_addBox := fun w h => List.mem_cons_of_mem _ (List.mem_append_left _ (List.mem_append_left _ (List.mem_append_right _ h)))
  have hl := lv_entry ([.ref (g 0), .int sh, .int ta]) (n := 4) (Nat.le_of_ble_eq_true rfl)
  rw [lg_entry_eq]
  generalize (lg_sl ([.ref (g 0), .int sh, .int ta]) ++ List.replicate (4 - (lg_sl ([.ref (g 0), .int sh, .int ta])).length) Slot.unset).toArray = ls at hl ⊢
  have hl : lv_has ls 4 [(0, .ref (g 0)), (1, .int sh), (2, .int ta)] := hl
  obtain ⟨H, eH⟩ : ∃ z, z = s.heap := ⟨_, rfl⟩
  have hH : wHS E o g x y H := by rw [eH]; exact hH
  have hS : va_S (wA E) s.heap H [] := by rw [eH]; exact hS
  refine W.heapTo eH ?_
  obtain ⟨hn0, hn1, hn2, hn3, hn4, hn5, hc7, hc8, hc5, hc54, hc4, hc50, hc9, hc12, hc10, hcj⟩ := id hI
  refine lv_iload_n hx hb dX4_addBox_0 rfl (lv_at hl 1 rfl) ?_
  refine lv_iconst (v := 0) hx hb dX4_addBox_1 (by decide) ?_
  refine lv_bipush (v := 60) hx hb dX4_addBox_2 (by decide) ?_
  refine va_calli (va_runS (As := [.int sh, .int 0, .int 60]) (rest := []) ⟨hx, hb, hml, hown, hts⟩ (met_X4_isWithin l E o g x y sh 0 60) (va_cwS 3 hts gX4_addBox_X4_isWithin rfl rfl rfl (by decide +kernel) ⟨Nat.le_of_ble_eq_true rfl, Nat.le_of_ble_eq_true rfl⟩) ⟨fun a U f mk q => ⟨q.1, wPre.calling q.2 a f mk⟩, fun U hU hW => ⟨rfl, wPre_at hz hS hH hK U hU hW⟩⟩ rfl rfl hl.1 rfl (lv_room (Nat.le_of_ble_eq_true rfl)) dX4_addBox_4 ⟨Nat.le_of_ble_eq_true rfl, Nat.le_of_ble_eq_true rfl⟩) hS (fun q _ h => h) (fun q h => h) (fun r u t H locs ht hvm hw hB hz1 hk1 hS => ?_)
  have hB := wHS_h ht hB
  try dsimp only at hw
  have hH := hB
  rcases hw with ⟨rfl, c1⟩ | ⟨rfl, c1⟩
  · skip
    refine lv_if_eq (tgt := 20) hx hb dX4_addBox_7 (by decide) (fun hq => absurd hq (show ¬ (1 : Int32) = 0 by decide)) (fun _ => ?_)
    refine lv_iload_n hx hb dX4_addBox_10 rfl (lv_at hl 2 rfl) ?_
    refine lv_iconst (v := 0) hx hb dX4_addBox_11 (by decide) ?_
    refine lv_bipush (v := 9) hx hb dX4_addBox_12 (by decide) ?_
    refine va_calli (va_runS (As := [.int ta, .int 0, .int 9]) (rest := []) ⟨hx, hb, hml, hown, hts⟩ (met_X4_isWithin l E o g x y ta 0 9) (va_cwS 3 hts gX4_addBox_X4_isWithin rfl rfl rfl (by decide +kernel) ⟨Nat.le_of_ble_eq_true rfl, Nat.le_of_ble_eq_true rfl⟩) ⟨fun a U f mk q => ⟨q.1, wPre.calling q.2 a f mk⟩, fun U hU hW => ⟨rfl, wPre_at hz hS hH hK U hU hW⟩⟩ rfl rfl hl.1 rfl (lv_room (Nat.le_of_ble_eq_true rfl)) dX4_addBox_14 ⟨Nat.le_of_ble_eq_true rfl, Nat.le_of_ble_eq_true rfl⟩) hS (fun q _ h => h) (fun q h => h) (fun r u t H locs ht hvm hw hB hz1 hk1 hS => ?_)
    have hB := wHS_h ht hB
    try dsimp only at hw
    have hH := hB
    rcases hw with ⟨rfl, c2⟩ | ⟨rfl, c2⟩
    · skip
      refine lv_if_ne (tgt := 30) hx hb dX4_addBox_17 (by decide) (fun _ => ?_) (fun hq => absurd hq (show ¬ (1 : Int32) = 0 by decide))
      refine lv_aload_n hx hb dX4_addBox_30 rfl (lv_at hl 0 rfl) ?_
      refine wr_get (T := TX4) (N := 9) (ci := 6) (v := .ref (g 3)) hx hb hts hinX4 hown hK hH lv_r0 (cel_rt (by omega)) rfl 1 (by decide) (hts (.fieldLink RX4 16 "SelectoRoute" "boxes" "Ljava/util/ArrayList;") (by decide +kernel)) (fun _ h => h) rfl dX4_addBox_31 ?_
      refine va_calli (va_runV (As := []) (rest := []) ⟨hx, hb, hml, hown, hts⟩ (met_AL_size l E g (liv x.1) (cel E.2.1 g x y o.1 o.2) 3 4 (x.2 21 0) (x.1 3 0) (x.1 1 0) E.2.1.2 lv_r3 (cel_rt (by omega))) (cwV 0 hts gX4_addBox_Jx4a65c_size_8abf5 rfl rfl rfl (by decide +kernel) ⟨Nat.le_of_ble_eq_true rfl, Nat.le_of_ble_eq_true rfl⟩) ⟨fun a U f mk q => ⟨q.1, wPreG.calling q.2 a f mk⟩, (va_recv hK (wH_one hH lv_r3 (cel_rt (by omega))) (ci := 2) (q0 := 0) rfl rfl), fun U hU hW => ⟨rfl, wPreG_at hz hS hH hK U hU hW⟩⟩ rfl rfl hl.1 rfl (lv_room (Nat.le_of_ble_eq_true rfl)) dX4_addBox_34 ⟨Nat.le_of_ble_eq_true rfl, Nat.le_of_ble_eq_true rfl⟩) hS (fun q _ h => h) (fun q h => h) (fun r u t H locs ht hvm hw hB hz1 hk1 hS => ?_)
      obtain rfl := hw
      have hH : wHS E o g x y H := wG_h ht hB
      refine lv_iconst (v := 4) hx hb dX4_addBox_37 (by decide) ?_
      refine lv_icmp_lt (tgt := 51) hx hb dX4_addBox_38 (by decide) (fun c3 => ?_) (fun c3 => ?_)
      · have c3 := (nI_ltI (a := (x.1 1 0)) (b := 4) (by omega) (by omega)).mp c3
        refine wr_new (C := "SelectoRoute$Box") (T := TX0) (N := 15) (ci := 3) (fs := [.int 0, .int 0, .int 0, .null, .null, .null, .int 0, .int 0, .int 0, .int 0, .int 0, .int 0, .int 0, .int 0, .int 0]) hx hb hts hinX0 tyX0 tyX0_ok hown (hts (.classLink RX4 69 "SelectoRoute$Box") (by decide +kernel)) (hts (.instantiable "SelectoRoute$Box" 15) (by decide +kernel)) (hts (.initialized "SelectoRoute$Box") (by decide +kernel)) hK hH hS hz rfl (by decide) 900 (by unfold liv; omega) (by omega) (by first | exact Nat.le_of_ble_eq_true rfl | omega) (by first | exact Nat.le_of_ble_eq_true rfl | omega) dX4_addBox_51 (fun q9 H hH hS => ?_)
        refine lv_dup hx hb dX4_addBox_54 rfl ?_
        refine lv_aload_n hx hb dX4_addBox_55 rfl (lv_at hl 0 rfl) ?_
        refine wr_get (T := TX4) (N := 9) (ci := 6) (v := .ref (g 3)) (t := 0) hx hb hts hinX4 hown hK hH (Or.inl lv_r0) ((va_up_ne _ _ (by decide)).trans (cel_rt (by decide))) rfl 1 (by decide) (hts (.fieldLink RX4 16 "SelectoRoute" "boxes" "Ljava/util/ArrayList;") (by decide +kernel)) (fun _ h => h) rfl dX4_addBox_56 ?_
        refine va_calli (va_runV (As := []) (rest := [.ref q9, .ref q9]) ⟨hx, hb, hml, hown, hts⟩ (met_AL_size l E (va_up g 900 q9) (fun t => liv x.1 t ∨ t = 900) (va_up (cel E.2.1 g x y o.1 o.2) 900 (.inr (3, [.int 0, .int 0, .int 0, .null, .null, .null, .int 0, .int 0, .int 0, .int 0, .int 0, .int 0, .int 0, .int 0, .int 0]))) 3 4 (x.2 21 0) (x.1 3 0) (x.1 1 0) E.2.1.2 (Or.inl lv_r3) ((va_up_ne _ _ (by decide)).trans (cel_rt (by decide)))) (cwV 0 hts gX4_addBox_Jx4a65c_size_8abf5 rfl rfl rfl (by decide +kernel) ⟨Nat.le_of_ble_eq_true rfl, Nat.le_of_ble_eq_true rfl⟩) ⟨fun a U f mk q => ⟨q.1, wPreG.calling q.2 a f mk⟩, (va_recv hK (wH_one (t := 3) hH (Or.inl lv_r3) ((va_up_ne _ _ (by decide)).trans (cel_rt (by decide)))) (ci := 2) (q0 := 0) rfl rfl), fun U hU hW => ⟨rfl, wPreG_at hz hS hH hK U hU hW⟩⟩ rfl rfl hl.1 rfl (lv_room (Nat.le_of_ble_eq_true rfl)) dX4_addBox_59 ⟨by exact Nat.le_of_ble_eq_true rfl, by exact Nat.le_of_ble_eq_true rfl⟩) hS (fun q _ h => h) (fun q h => h) (fun r u t H locs ht hvm hw hB hz1 hk1 hS => ?_)
        obtain rfl := hw
        have hH := wG_h ht hB
        refine lv_iload_n hx hb dX4_addBox_62 rfl (lv_at hl 1 rfl) ?_
        refine lv_iload_n hx hb dX4_addBox_63 rfl (lv_at hl 2 rfl) ?_
        refine va_callv (va_runI (As := [.int (nI (x.1 1 0)), .int sh, .int ta]) (rest := [.ref q9]) ⟨hx, hb, hml, hown, hts⟩ (met_X0_init l E (va_up g 900 q9) (fun t => liv x.1 t ∨ t = 900) (va_up (cel E.2.1 g x y o.1 o.2) 900 (.inr (3, [.int 0, .int 0, .int 0, .null, .null, .null, .int 0, .int 0, .int 0, .int 0, .int 0, .int 0, .int 0, .int 0, .int 0]))) (nI (x.1 1 0)) sh ta (fun t9 h9 q => q.elim (fun q => by unfold liv at q; omega) (fun q => by omega)) (Or.inr rfl) (va_up_self _ _ _)) (cwI 3 hts gX4_addBox_X0_init rfl rfl rfl (hts (.initialized RX0) (by decide +kernel)) (hts (.methodLink RX4 71 yX0_init) (by decide +kernel)) (hts (.instanceMethod yX0_init) (by decide +kernel)) rfl (by decide +kernel) ⟨Nat.le_of_ble_eq_true rfl, Nat.le_of_ble_eq_true rfl⟩) ⟨fun a U f mk q => ⟨q.1, wPreY.calling q.2 a f mk⟩, fun U hU hW => ⟨rfl, wPreY_at hz hS hH hK hC hDD U hU hW⟩⟩ rfl rfl hl.1 rfl (lv_room (Nat.le_of_ble_eq_true rfl)) dX4_addBox_64 ⟨by exact Nat.le_of_ble_eq_true rfl, by exact Nat.le_of_ble_eq_true rfl⟩) hS (fun q _ h => h) (fun q h => h) (fun u t H locs ht hvm hw hB hz1 hk1 hS => ?_)
        obtain ⟨g2, hg2, hB⟩ := hB
        have hH := wG_h ht hB
        have h3g : g2 3 = g 3 := by rw [hg2 3 (by decide), va_up_ne _ _ (by decide)]
        have h0g : g2 0 = g 0 := by rw [hg2 0 (by decide), va_up_ne _ _ (by decide)]
        have h9g : g2 900 = q9 := by rw [hg2 900 (by decide), va_up_self]
        rw [← h0g] at hl
        refine W.eq (g2 := F0 m 67 ls [.ref (g2 900)]) (by rw [h9g]) ?_
        refine lv_astore_n (lv' := [(3, .ref (g2 900)), (0, .ref (g2 0)), (1, .int sh), (2, .int ta)]) hx hb dX4_addBox_67 rfl hl (by decide) rfl (fun ls hl => ?_)
        refine lv_aload_n hx hb dX4_addBox_68 rfl (lv_at hl 1 rfl) ?_
        refine wr_get (T := TX4) (N := 9) (ci := 6) (v := .ref (g 3)) (t := 0) hx hb hts hinX4 hown hK hH (Or.inl (Or.inl lv_r0)) (by show (if 0 < 900 then _ else _) = _; rw [if_pos (by decide), va_up_ne _ _ (by decide)]; exact cel_rt (by decide)) rfl 1 (by decide) (hts (.fieldLink RX4 16 "SelectoRoute" "boxes" "Ljava/util/ArrayList;") (by decide +kernel)) (fun _ h => h) rfl dX4_addBox_69 ?_
        refine W.eq (g2 := F0 m 72 ls [.ref (g2 3)]) (by rw [h3g]) ?_
        refine lv_aload_n hx hb dX4_addBox_72 rfl (lv_at hl 0 rfl) ?_
        refine va_calli (va_runV (As := [.ref (g2 900)]) (rest := []) ⟨hx, hb, hml, hown, hts⟩ (met_add l E g2 (fun t => (liv x.1 t ∨ t = 900) ∨ (901 ≤ t ∧ t < 904) ∨ (910 ≤ t ∧ t < 920)) (fun t => if t < 900 then (va_up (cel E.2.1 g x y o.1 o.2) 900 (.inr (3, [.int 0, .int 0, .int 0, .null, .null, .null, .int 0, .int 0, .int 0, .int 0, .int 0, .int 0, .int 0, .int 0, .int 0]))) t else bxF E.2.1 g2 (nI (x.1 1 0)) sh ta t) 3 4 (x.2 21 0) (x.1 3 0) (x.1 1 0) (capB x) (fun i => g (200 + i)) 900 3 [.int (nI (x.1 1 0)), .int sh, .int ta, .ref (g2 901), .ref (g2 902), .ref (g2 903), .int 0, .int 0, .int 0, .int 0, .int 0, .int (-1), .int 0, .int 0, .int 0] (RX0, TX0, 15) (Or.inl (Or.inl lv_r3)) (by show (if 3 < 900 then _ else _) = _; rw [if_pos (by decide), va_up_ne _ _ (by decide), cel_rt (by decide)]; show cLst _ _ _ _ (g 4) = _; rw [show g2 4 = g 4 by rw [hg2 4 (by decide), va_up_ne _ _ (by decide)]]) (addC_b hI hQ c3) (Or.inl (Or.inr rfl)) (by decide) (by show (if 900 < 900 then _ else bxF E.2.1 g2 (nI (x.1 1 0)) sh ta 900) = _; rw [if_neg (by decide)]; unfold bxF; rw [if_pos rfl]) rfl (by decide +kernel)) (cwV 1 hts gX4_addBox_Jx4a65c_add_9ea2d rfl rfl rfl (by decide +kernel) ⟨Nat.le_of_ble_eq_true rfl, Nat.le_of_ble_eq_true rfl⟩) ⟨fun a U f mk q => ⟨q.1, wPreY.calling q.2 a f mk⟩, (va_recv hK (wH_one (t := 3) hH (Or.inl (Or.inl lv_r3)) (by show (if 3 < 900 then _ else _) = _; rw [if_pos (by decide), va_up_ne _ _ (by decide)]; exact cel_rt (by decide))) (ci := 2) (q0 := 0) rfl rfl), fun U hU hW => ⟨rfl, wPreY_at hz hS hH hK hC hDD U hU hW⟩⟩ rfl rfl hl.1 rfl (lv_room (Nat.le_of_ble_eq_true rfl)) dX4_addBox_73 ⟨by exact Nat.le_of_ble_eq_true rfl, by exact Nat.le_of_ble_eq_true rfl⟩) hS (fun q _ h => h) (fun q h => h) (fun r u t H locs ht hvm hw hB hz1 hk1 hS => ?_)
        obtain rfl := hw
        obtain ⟨g9, hg9, hB⟩ := hB
        have hH := wG_h ht hB
        have hH := pb_add (y := y) (sh := sh) (ta := ta) (md9 := x.2 21 0 + 1) hI hFr c3 capB_0 hg2 hg9 hH
        have f0 : ∀ t, t < 200 → fmB (x.1 1 0) t = t := fun t a => by unfold fmB; rw [if_neg (by omega), if_neg (by omega), if_neg (by omega), if_neg (by omega), if_neg (by omega)]
        have f9 : fmB (x.1 1 0) (200 + x.1 1 0) = 900 := by unfold fmB; rw [if_pos rfl]
        obtain ⟨g8, e8⟩ : ∃ z : Nat → Nat, z = (fun t => g9 (fmB (x.1 1 0) t)) := ⟨_, rfl⟩
        rw [← e8] at hH
        have hgE : gE g g8 := fun t9 a9 b9 c9 => by rw [e8]; show g9 (fmB (x.1 1 0) t9) = g t9; rw [f0 t9 (by omega), hg9 t9 c9, hg2 t9 (by omega), va_up_ne _ _ (by omega)]
        have e0 : g2 0 = g8 0 := by rw [e8]; show g2 0 = g9 (fmB (x.1 1 0) 0); rw [f0 0 (by decide), hg9 0 (by decide)]
        have e9 : g2 900 = g8 (200 + x.1 1 0) := by rw [e8]; show g2 900 = g9 (fmB (x.1 1 0) (200 + x.1 1 0)); rw [f9, hg9 900 (by decide)]
        rw [e0, e9] at hl
        have hG : ∃ z, z = g8 ∧ gE g z := ⟨g8, rfl, hgE⟩
        clear hgE e0 e9 e8
        obtain ⟨g, rfl, hgE⟩ := hG
        refine lv_pop hx hb dX4_addBox_76 rfl ?_
        refine lv_aload_n hx hb dX4_addBox_77 rfl (lv_at hl 0 rfl) ?_
        refine wr_get (T := TX0) (N := 15) (ci := 3) (v := .int (nI (x.1 1 0))) hx hb hts hinX0 hown hK hH (lv_bx (by rw [bAdd_1]; omega) (by rw [bAdd_1]; omega)) (cel_bx (by omega)) rfl 0 (by decide) (hts (.fieldLink RX4 74 "SelectoRoute$Box" "number" "I") (by decide +kernel)) (fun _ h => h) rfl dX4_addBox_78 ?_
        have hsp : cp_addBox x sh ta = (none, (nI (x.1 1 0)), (bAdd x sh ta (capB x) (x.2 21 0 + 1))) := by
          unfold cp_addBox
          first | (simp only [c1, c2, c3, ↓reduceIte, and_self, and_true, true_and, Bool.false_eq_true, reduceCtorEq, eq_self, false_and, and_false]; done) | (simp [c1, c2, c3, ↓reduceIte, and_self, and_true, true_and, Bool.false_eq_true, reduceCtorEq, eq_self, false_and, and_false]; done) | simp only [c1, c2, c3, ↓reduceIte, and_self, and_true, true_and, Bool.false_eq_true, reduceCtorEq, eq_self, false_and, and_false]
        have hx0 : (cp_addBox x sh ta).1 = none := by rw [hsp]
        have hx1 : (cp_addBox x sh ta).2.1 = (nI (x.1 1 0)) := by rw [hsp]
        have hx2 : (cp_addBox x sh ta).2.2 = (bAdd x sh ta (capB x) (x.2 21 0 + 1)) := by rw [hsp]
        refine vx_ret ?_
        refine W.widen (k := 20) (n := 300) (by omega) (by omega) ?_
        exact W.iret (v := (nI (x.1 1 0))) hx hb hr (fun t ht hW => ⟨⟨(nI (x.1 1 0)), (), rfl, ⟨hx0, hx1.symm⟩, g, hgE, by rw [hx2]; exact wHS_t ht hH⟩, hS.F ht⟩) hS.2.2 dX4_addBox_81
      · have c3 : ¬ ((x.1 1 0) < 4) := fun hq => c3 ((nI_ltI (a := (x.1 1 0)) (b := 4) (by omega) (by omega)).mpr hq)
        have hsp : cp_addBox x sh ta = (some "java/lang/IllegalStateException", 0, x) := by
          unfold cp_addBox
          first | (simp only [c1, c2, c3, ↓reduceIte, and_self, and_true, true_and, Bool.false_eq_true, reduceCtorEq, eq_self, false_and, and_false]; done) | (simp [c1, c2, c3, ↓reduceIte, and_self, and_true, true_and, Bool.false_eq_true, reduceCtorEq, eq_self, false_and, and_false]; done) | simp only [c1, c2, c3, ↓reduceIte, and_self, and_true, true_and, Bool.false_eq_true, reduceCtorEq, eq_self, false_and, and_false]
        obtain ⟨sa, hsa⟩ := hC.2.2.1 (67, "no room for another box") (by decide +kernel)
        exact vx_throwS (A := wA E) (names := ["java/lang/RuntimeException", "java/lang/Exception"]) hx hb hlt hown (by decide +kernel) (by decide +kernel) (hts (.classLink RX4 48 "java/lang/IllegalStateException") (by decide +kernel)) (hts (.initialized "java/lang/IllegalStateException") (by decide +kernel)) hsa (hat_xS hts (fun w h => List.mem_cons_of_mem _ (List.mem_append_right _ h)) hC) (by decide +kernel) hC.1 hC.2.1 (by rw [← eH] at *; exact hS) (hl.1.trans hml.symm) dX4_addBox_41 dX4_addBox_44 dX4_addBox_45 dX4_addBox_47 dX4_addBox_50 (fun x h => (hnt x h).elim) (Nat.lt_of_lt_of_le (by decide : 2 + 3 < 6) (Nat.le_of_ble_eq_true rfl)) (Nat.le_of_ble_eq_true rfl) (Nat.le_of_ble_eq_true rfl) (Nat.le_of_ble_eq_true rfl) hlocks (wX_of hS hH (by rw [hsp])) hS.2.2 (by omega) (by omega)
    · skip
      refine lv_if_ne (tgt := 30) hx hb dX4_addBox_17 (by decide) (fun hq => absurd (show (0 : Int32) = 0 by decide) hq) (fun _ => ?_)
      have hsp : cp_addBox x sh ta = (some "java/lang/IllegalArgumentException", 0, x) := by
        unfold cp_addBox
        first | (simp only [c1, c2, ↓reduceIte, and_self, and_true, true_and, Bool.false_eq_true, reduceCtorEq, eq_self, false_and, and_false]; done) | (simp [c1, c2, ↓reduceIte, and_self, and_true, true_and, Bool.false_eq_true, reduceCtorEq, eq_self, false_and, and_false]; done) | simp only [c1, c2, ↓reduceIte, and_self, and_true, true_and, Bool.false_eq_true, reduceCtorEq, eq_self, false_and, and_false]
      obtain ⟨sa, hsa⟩ := hC.2.2.1 (65, "share or taste out of range") (by decide +kernel)
      exact vx_throwS (A := wA E) (names := ["java/lang/RuntimeException", "java/lang/Exception"]) hx hb hlt hown (by decide +kernel) (by decide +kernel) (hts (.classLink RX4 37 "java/lang/IllegalArgumentException") (by decide +kernel)) (hts (.initialized "java/lang/IllegalArgumentException") (by decide +kernel)) hsa (hat_xA hts (fun w h => List.mem_cons_of_mem _ (List.mem_append_left _ (List.mem_append_right _ h))) hC) (by decide +kernel) hC.1 hC.2.1 (by rw [← eH] at *; exact hS) (hl.1.trans hml.symm) dX4_addBox_20 dX4_addBox_23 dX4_addBox_24 dX4_addBox_26 dX4_addBox_29 (fun x h => (hnt x h).elim) (Nat.lt_of_lt_of_le (by decide : 2 + 3 < 6) (Nat.le_of_ble_eq_true rfl)) (Nat.le_of_ble_eq_true rfl) (Nat.le_of_ble_eq_true rfl) (Nat.le_of_ble_eq_true rfl) hlocks (wX_of hS hH (by rw [hsp])) hS.2.2 (by omega) (by omega)
  · skip
    refine lv_if_eq (tgt := 20) hx hb dX4_addBox_7 (by decide) (fun _ => ?_) (fun hq => absurd (show (0 : Int32) = 0 by decide) hq)
    have hsp : cp_addBox x sh ta = (some "java/lang/IllegalArgumentException", 0, x) := by
      unfold cp_addBox
      first | (simp only [c1, ↓reduceIte, and_self, and_true, true_and, Bool.false_eq_true, reduceCtorEq, eq_self, false_and, and_false]; done) | (simp [c1, ↓reduceIte, and_self, and_true, true_and, Bool.false_eq_true, reduceCtorEq, eq_self, false_and, and_false]; done) | simp only [c1, ↓reduceIte, and_self, and_true, true_and, Bool.false_eq_true, reduceCtorEq, eq_self, false_and, and_false]
    obtain ⟨sa, hsa⟩ := hC.2.2.1 (65, "share or taste out of range") (by decide +kernel)
    exact vx_throwS (A := wA E) (names := ["java/lang/RuntimeException", "java/lang/Exception"]) hx hb hlt hown (by decide +kernel) (by decide +kernel) (hts (.classLink RX4 37 "java/lang/IllegalArgumentException") (by decide +kernel)) (hts (.initialized "java/lang/IllegalArgumentException") (by decide +kernel)) hsa (hat_xA hts (fun w h => List.mem_cons_of_mem _ (List.mem_append_left _ (List.mem_append_right _ h))) hC) (by decide +kernel) hC.1 hC.2.1 (by rw [← eH] at *; exact hS) (hl.1.trans hml.symm) dX4_addBox_20 dX4_addBox_23 dX4_addBox_24 dX4_addBox_26 dX4_addBox_29 (fun x h => (hnt x h).elim) (Nat.lt_of_lt_of_le (by decide : 2 + 3 < 6) (Nat.le_of_ble_eq_true rfl)) (Nat.le_of_ble_eq_true rfl) (Nat.le_of_ble_eq_true rfl) (Nat.le_of_ble_eq_true rfl) hlocks (wX_of hS hH (by rw [hsp])) hS.2.2 (by omega) (by omega)
