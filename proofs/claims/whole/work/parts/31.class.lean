/-! ===== the class: the best changes ===== -/
theorem pa_m1 {E : wE} {o : wO} {g : Nat → Nat} {x y : St} {H : Heap} {i : Nat} {ix : Int32} {v : Int32} (hi : ix.toNatClampNeg = i) (h : wH E.1 E.2.2 g (liv x.1) (va_up (cel E.2.1 g x y o.1 o.2) 5 (.inl (E.2.1.1 0, 3, .inl (upd (x.2 24) ix.toNatClampNeg v)))) H) : wHS E o g (uI x 24 i v) y H := by
  subst hi
  have h2 := pa_24 h
  rw [upd_up] at h2
  exact h2
theorem pa_l1 {E : wE} {o : wO} {g : Nat → Nat} {x y : St} {H : Heap} {i : Nat} {ix : Int32} {v : Int32} (hi : ix.toNatClampNeg = i) (h : wH E.1 E.2.2 g (liv x.1) (va_up (cel E.2.1 g x y o.1 o.2) 6 (.inl (E.2.1.1 0, 3, .inl (upd (x.2 25) ix.toNatClampNeg v)))) H) : wHS E o g (uI x 25 i v) y H := by
  subst hi
  have h2 := pa_25 h
  rw [upd_up] at h2
  exact h2
/-- a value pushed into the row c -/
def rkS (c i : Nat) (p : Int32 × St) : Int32 × St := if p.1 ≤ p.2.2 c i then p else (p.2.2 c i, uI p.2 c i p.1)
def rk (c : Nat) (v : Int32) (x : St) : St := (fU (rkS c) (v, x) 3).2
def flS (c : Nat) (v : Int32) (i : Nat) (x : St) : St := uI x c i v
def fl (c : Nat) (v : Int32) (x : St) : St := fU (flS c v) x 3
theorem rkS_1 {c : Nat} (hc : c ≠ 10) (p : Int32 × St) : ∀ n, (fU (rkS c) p n).2.1 = p.2.1 ∧ (fU (rkS c) p n).2.2 10 = p.2.2 10
  | 0 => ⟨rfl, rfl⟩
  | n + 1 => by
    have ih := rkS_1 hc p n
    show (rkS c n (fU (rkS c) p n)).2.1 = p.2.1 ∧ (rkS c n (fU (rkS c) p n)).2.2 10 = p.2.2 10
    unfold rkS
    split
    · exact ih
    · refine ⟨ih.1, ?_⟩
      show va_up (fU (rkS c) p n).2.2 c _ 10 = p.2.2 10
      rw [va_up_ne _ _ (Ne.symm hc)]
      exact ih.2
theorem flS_1 {c : Nat} (hc : c ≠ 10) (v : Int32) (k : Nat) (x : St) : (flS c v k x).1 = x.1 ∧ (flS c v k x).2 10 = x.2 10 :=
  ⟨rfl, by show va_up x.2 c _ 10 = x.2 10; rw [va_up_ne _ _ (Ne.symm hc)]⟩
theorem rk_1 {c : Nat} (hc : c ≠ 10) (v : Int32) (x : St) : (rk c v x).1 = x.1 ∧ (rk c v x).2 10 = x.2 10 := rkS_1 hc (v, x) 3
theorem fl_1 {c : Nat} (hc : c ≠ 10) (v : Int32) (x : St) : (fl c v x).1 = x.1 ∧ (fl c v x).2 10 = x.2 10 := fU_1 _ (flS_1 hc v) x 3
set_option maxHeartbeats 4000000 in
set_option maxRecDepth 100000 in
theorem met_X4_rank_MG (l : Launch) (E : wE) (o : wO) (g : Nat → Nat) (x y : St) (v : Int32) (hI : CI x) : Met l yX4_rank wsX4_rank ({ frames := 0, cells := 0, slots := 0, locals := 0 } : Room) (va_Pc [.ref (g 5), .int v] (wPre E o g x y)) (va_Qv (fun (_ : Unit) => True) (fun (_ : Unit) t => wHS E o g (rk 24 v x) y t.heap) (wA E)) 0 0 (wA E) := by
  refine Met.ofW (cc := cX4_rank) (maxL := 5) (ret := none) (by decide) rfl ?_
  intro p e s m args below meth c s₁ B hml hv
  obtain ⟨rfl, hz, hH, hK⟩ := hv
  have hx := B.exec
  have hb := B.bytes
  have hr := B.returns
  have hts := atoms_spec (ws := wsX4_rank) B.pre
  have hown : s.vm.findClass RX4 = some m.cls := findClass_of_methodNamed B.named
  have hlocks := B.notSynchronized
  have hS : va_S (wA E) s.heap s.heap [] := va_S.rf
  have hl := lv_entry ([.ref (g 5), .int v]) (n := 5) (Nat.le_of_ble_eq_true rfl)
  rw [lg_entry_eq]
  generalize (lg_sl ([.ref (g 5), .int v]) ++ List.replicate (5 - (lg_sl ([.ref (g 5), .int v])).length) Slot.unset).toArray = ls at hl ⊢
  have hl : lv_has ls 5 [(0, .ref (g 5)), (1, .int v)] := hl
  obtain ⟨H, eH⟩ : ∃ z, z = s.heap := ⟨_, rfl⟩
  have hH : wHS E o g x y H := by rw [eH]; exact hH
  have hS : va_S (wA E) s.heap H [] := by rw [eH]; exact hS
  refine W.heapTo eH ?_
  obtain ⟨hn0, hn1, hn2, hn3, hn4, hn5, hc7, hc8, hc5, hc54, hc4, hc50, hc9, hc12, hc10, hcj⟩ := id hI
  refine W.nameQ (fun Q eQ => ?_)
  refine lv_iload_n hx hb dX4_rank_0 rfl (lv_at hl 1 rfl) ?_
  refine lv_istore_n (lv' := [(2, .int v), (0, .ref (g 5)), (1, .int v)]) hx hb dX4_rank_1 rfl hl (by decide) rfl (fun ls hl => ?_)
  refine lv_iconst (v := 0) hx hb dX4_rank_2 (by decide) ?_
  refine lv_istore_n (lv' := [(3, .int 0), (2, .int v), (0, .ref (g 5)), (1, .int v)]) hx hb dX4_rank_3 rfl hl (by decide) rfl (fun ls hl => ?_)
  have loop : ∀ (k n : Nat), n + k = 3 → ∀ (q : Int32 × St), q = fU (rkS 24) (v, x) n → True → ∀ (H : Heap) (locs : List Loc) (ls : Array Slot), lv_has ls 5 [(2, .int q.1), (3, .int (nI n)), (0, .ref (g 5)), (1, .int v)] → wHS E o g q.2 y H → va_S (wA E) s.heap H locs → W p l e ({ frames := 0, cells := 0, slots := 0, locals := 0 } : Room) s m #[.ref (g 5), .int v] below meth c H locs 0 0 Q (F0 m 4 ls []) := by
    intro k
    induction k with
    | zero =>
      intro n hn q hq hqb H locs ls hl hH hS
      obtain rfl : n = 3 := by omega
      have hl : lv_has ls 5 [(2, .int q.1), (3, .int (nI 3)), (0, .ref (g 5)), (1, .int v)] := hl
      refine lv_iload_n hx hb dX4_rank_4 rfl (lv_at hl 1 rfl) ?_
      refine lv_aload_n hx hb dX4_rank_5 rfl (lv_at hl 2 rfl) ?_
      refine wr_alen (v := 3) hx hb hK hH lv_r5 (cel_rt (by omega)) 0 rfl rfl dX4_rank_6 ?_
      refine lv_icmp_ge (tgt := 35) hx hb dX4_rank_7 (by decide) (fun _ => ?_) (fun hq => absurd ((nI_leI (a := 3) (b := 3) (by omega) (by omega)).mpr (Nat.le_refl _)) hq)
      rw [eQ]
      exact W.vret hx hb hr (fun t ht hW => ⟨⟨(), rfl, trivial, wHS_t ht (by show wHS E o g (fU (rkS 24) (v, x) 3).2 y H; rw [← hq]; exact hH)⟩, hS.F ht⟩) hS.2.2 dX4_rank_35
    | succ k ih =>
      intro n hn q hq hqb H locs ls hl hH hS
      have hlt : n < 3 := by omega
      obtain ⟨x1, ex1⟩ : ∃ z, z = q.2 := ⟨_, rfl⟩
      rw [← ex1] at hH
      have h1 : x1.1 = x.1 := by rw [ex1, hq]; exact (rkS_1 (by decide) (v, x) n).1
      have h10 : x1.2 10 = x.2 10 := by rw [ex1, hq]; exact (rkS_1 (by decide) (v, x) n).2
      have hI1 : CI x1 := CI_I hI h1 h10
      obtain ⟨hp0, hp1, hp2, hp3, hp4, hp5, hd7, hd8, hd5, hd54, hd4, hd50, hd9, hd12, hd10, hdj⟩ := id hI1
      refine lv_iload_n hx hb dX4_rank_4 rfl (lv_at hl 1 rfl) ?_
      refine lv_aload_n hx hb dX4_rank_5 rfl (lv_at hl 2 rfl) ?_
      refine wr_alen (v := 3) hx hb hK hH lv_r5 (cel_rt (by omega)) 0 rfl rfl dX4_rank_6 ?_
      refine lv_icmp_ge (tgt := 35) hx hb dX4_rank_7 (by decide) (fun hq => absurd ((nI_leI (a := 3) (b := n) (by omega) (by omega)).mp hq) (Nat.not_le.mpr hlt)) (fun _ => ?_)
      refine lv_iload_n hx hb dX4_rank_10 rfl (lv_at hl 0 rfl) ?_
      refine lv_aload_n hx hb dX4_rank_11 rfl (lv_at hl 2 rfl) ?_
      refine lv_iload_n hx hb dX4_rank_12 rfl (lv_at hl 1 rfl) ?_
      refine wr_iald (v := (x1.2 24 n)) hx hb hK hH lv_r5 (cel_rt (by omega)) 0 rfl (vp_in_nI (n := n) (N := 3) (by omega) (by decide)) (by rw [(nI_clamp (n := n) (by omega))]; try rfl) dX4_rank_13 ?_
      refine lv_icmp_le (tgt := 29) hx hb dX4_rank_14 (by decide) (fun c1 => ?_) (fun c1 => ?_)
      · skip
        obtain ⟨v2, ev2⟩ : ∃ y : Int32, y = (nI n) + 1 := ⟨_, rfl⟩
        refine lv_iinc (v := v2) (lv' := [(3, .int v2), (2, .int q.1), (0, .ref (g 5)), (1, .int v)]) hx hb dX4_rank_29 hl (k := 1) rfl (by rw [ev2]; rfl) (by decide) rfl (fun ls hl => ?_)
        refine lv_goto (tgt := 4) hx hb dX4_rank_32 (by decide) ?_
        have e9 : v2 = nI (n + 1) := by rw [ev2]; exact nI_1 n
        rw [e9] at hl
        exact ih (n + 1) (by omega) q (by show _ = rkS 24 n (fU (rkS 24) (v, x) n); rw [← hq]; unfold rkS; rw [← ex1]; simp only [c1, ↓reduceIte]) trivial H locs ls (lv_sub hl [1, 0, 2, 3] rfl) (by rw [← ex1]; exact hH) hS
      · skip
        refine lv_aload_n hx hb dX4_rank_17 rfl (lv_at hl 2 rfl) ?_
        refine lv_iload_n hx hb dX4_rank_18 rfl (lv_at hl 1 rfl) ?_
        refine wr_iald (v := (x1.2 24 n)) hx hb hK hH lv_r5 (cel_rt (by omega)) 0 rfl (vp_in_nI (n := n) (N := 3) (by omega) (by decide)) (by rw [(nI_clamp (n := n) (by omega))]; try rfl) dX4_rank_19 ?_
        refine lv_istore (lv' := [(4, .int (x1.2 24 n)), (2, .int q.1), (3, .int (nI n)), (0, .ref (g 5)), (1, .int v)]) hx hb dX4_rank_20 hl (by decide) rfl (fun ls hl => ?_)
        refine lv_aload_n hx hb dX4_rank_22 rfl (lv_at hl 3 rfl) ?_
        refine lv_iload_n hx hb dX4_rank_23 rfl (lv_at hl 2 rfl) ?_
        refine lv_iload_n hx hb dX4_rank_24 rfl (lv_at hl 1 rfl) ?_
        refine wr_iast hx hb hK hH hS lv_r5 (cel_rt (by omega)) 0 rfl (vp_in_nI (n := n) (N := 3) (by omega) (by decide)) dX4_rank_25 (fun H locs hH hS => ?_)
        have hH : wHS E o g (uI x1 24 n q.1) y H := pa_m1 (v := q.1) (nI_clamp (n := n) (by omega)) hH
        refine lv_iload hx hb dX4_rank_26 (lv_at hl 0 rfl) ?_
        refine lv_istore_n (lv' := [(2, .int (x1.2 24 n)), (4, .int (x1.2 24 n)), (3, .int (nI n)), (0, .ref (g 5)), (1, .int v)]) hx hb dX4_rank_28 rfl hl (by decide) rfl (fun ls hl => ?_)
        obtain ⟨v3, ev3⟩ : ∃ y : Int32, y = (nI n) + 1 := ⟨_, rfl⟩
        refine lv_iinc (v := v3) (lv' := [(3, .int v3), (2, .int (x1.2 24 n)), (4, .int (x1.2 24 n)), (0, .ref (g 5)), (1, .int v)]) hx hb dX4_rank_29 hl (k := 2) rfl (by rw [ev3]; rfl) (by decide) rfl (fun ls hl => ?_)
        refine lv_goto (tgt := 4) hx hb dX4_rank_32 (by decide) ?_
        have e9 : v3 = nI (n + 1) := by rw [ev3]; exact nI_1 n
        rw [e9] at hl
        exact ih (n + 1) (by omega) (x1.2 24 n, (uI x1 24 n q.1)) (by show _ = rkS 24 n (fU (rkS 24) (v, x) n); rw [← hq]; unfold rkS; rw [← ex1]; simp only [c1, ↓reduceIte]) trivial H locs ls (lv_sub hl [1, 0, 3, 4] rfl) hH hS
  exact loop 3 0 (by omega) (v, x) rfl trivial H _ ls (lv_sub hl [1, 0, 2, 3] rfl) hH hS
set_option maxHeartbeats 4000000 in
set_option maxRecDepth 100000 in
theorem met_J7_fill_MG (l : Launch) (E : wE) (o : wO) (g : Nat → Nat) (x y : St) (v : Int32) (hI : CI x) : Met l yJ7_fill_53178 wsJ7_fill_53178 ({ frames := 0, cells := 0, slots := 0, locals := 0 } : Room) (va_Pc [.ref (g 5), .int v] (wPre E o g x y)) (va_Qv (fun (_ : Unit) => True) (fun (_ : Unit) t => wHS E o g (fl 24 v x) y t.heap) (wA E)) 0 0 (wA E) := by
  refine Met.ofW (cc := cJ7_fill_53178) (maxL := 4) (ret := none) (by decide) rfl ?_
  intro p e s m args below meth c s₁ B hml hv
  obtain ⟨rfl, hz, hH, hK⟩ := hv
  have hx := B.exec
  have hb := B.bytes
  have hr := B.returns
  have hts := atoms_spec (ws := wsJ7_fill_53178) B.pre
  have hown : s.vm.findClass RJ7 = some m.cls := findClass_of_methodNamed B.named
  have hlocks := B.notSynchronized
  have hS : va_S (wA E) s.heap s.heap [] := va_S.rf
  have hl := lv_entry ([.ref (g 5), .int v]) (n := 4) (Nat.le_of_ble_eq_true rfl)
  rw [lg_entry_eq]
  generalize (lg_sl ([.ref (g 5), .int v]) ++ List.replicate (4 - (lg_sl ([.ref (g 5), .int v])).length) Slot.unset).toArray = ls at hl ⊢
  have hl : lv_has ls 4 [(0, .ref (g 5)), (1, .int v)] := hl
  obtain ⟨H, eH⟩ : ∃ z, z = s.heap := ⟨_, rfl⟩
  have hH : wHS E o g x y H := by rw [eH]; exact hH
  have hS : va_S (wA E) s.heap H [] := by rw [eH]; exact hS
  refine W.heapTo eH ?_
  obtain ⟨hn0, hn1, hn2, hn3, hn4, hn5, hc7, hc8, hc5, hc54, hc4, hc50, hc9, hc12, hc10, hcj⟩ := id hI
  refine W.nameQ (fun Q eQ => ?_)
  refine lv_iconst (v := 0) hx hb dJ7_fill_53178_0 (by decide) ?_
  refine lv_istore_n (lv' := [(2, .int 0), (0, .ref (g 5)), (1, .int v)]) hx hb dJ7_fill_53178_1 rfl hl (by decide) rfl (fun ls hl => ?_)
  refine lv_aload_n hx hb dJ7_fill_53178_2 rfl (lv_at hl 1 rfl) ?_
  refine wr_alen (v := 3) hx hb hK hH lv_r5 (cel_rt (by omega)) 0 rfl rfl dJ7_fill_53178_3 ?_
  refine lv_istore_n (lv' := [(3, .int 3), (2, .int 0), (0, .ref (g 5)), (1, .int v)]) hx hb dJ7_fill_53178_4 rfl hl (by decide) rfl (fun ls hl => ?_)
  have loop : ∀ (k n : Nat), n + k = 3 → ∀ (H : Heap) (locs : List Loc) (ls : Array Slot), lv_has ls 4 [(2, .int (nI n)), (0, .ref (g 5)), (1, .int v), (3, .int 3)] → wHS E o g (fU (flS 24 v) x n) y H → va_S (wA E) s.heap H locs → W p l e ({ frames := 0, cells := 0, slots := 0, locals := 0 } : Room) s m #[.ref (g 5), .int v] below meth c H locs 0 0 Q (F0 m 5 ls []) := by
    intro k
    induction k with
    | zero =>
      intro n hn H locs ls hl hH hS
      obtain rfl : n = 3 := by omega
      have hl : lv_has ls 4 [(2, .int (nI 3)), (0, .ref (g 5)), (1, .int v), (3, .int 3)] := hl
      refine lv_iload_n hx hb dJ7_fill_53178_5 rfl (lv_at hl 0 rfl) ?_
      refine lv_iload_n hx hb dJ7_fill_53178_6 rfl (lv_at hl 3 rfl) ?_
      refine lv_icmp_ge (tgt := 20) hx hb dJ7_fill_53178_7 (by decide) (fun _ => ?_) (fun hq => absurd ((nI_leI (a := 3) (b := 3) (by omega) (by omega)).mpr (Nat.le_refl _)) hq)
      rw [eQ]
      exact W.vret hx hb hr (fun t ht hW => ⟨⟨(), rfl, trivial, wHS_t ht hH⟩, hS.F ht⟩) hS.2.2 dJ7_fill_53178_20
    | succ k ih =>
      intro n hn H locs ls hl hH hS
      have hlt : n < 3 := by omega
      obtain ⟨x1, ex1⟩ : ∃ z, z = fU (flS 24 v) x n := ⟨_, rfl⟩
      rw [← ex1] at hH
      have h1 : x1.1 = x.1 := by rw [ex1]; exact (fU_1 _ (flS_1 (by decide) v) x n).1
      have h10 : x1.2 10 = x.2 10 := by rw [ex1]; exact (fU_1 _ (flS_1 (by decide) v) x n).2
      have hI1 : CI x1 := CI_I hI h1 h10
      obtain ⟨hp0, hp1, hp2, hp3, hp4, hp5, hd7, hd8, hd5, hd54, hd4, hd50, hd9, hd12, hd10, hdj⟩ := id hI1
      refine lv_iload_n hx hb dJ7_fill_53178_5 rfl (lv_at hl 0 rfl) ?_
      refine lv_iload_n hx hb dJ7_fill_53178_6 rfl (lv_at hl 3 rfl) ?_
      refine lv_icmp_ge (tgt := 20) hx hb dJ7_fill_53178_7 (by decide) (fun hq => absurd ((nI_leI (a := 3) (b := n) (by omega) (by omega)).mp hq) (Nat.not_le.mpr hlt)) (fun _ => ?_)
      refine lv_aload_n hx hb dJ7_fill_53178_10 rfl (lv_at hl 1 rfl) ?_
      refine lv_iload_n hx hb dJ7_fill_53178_11 rfl (lv_at hl 0 rfl) ?_
      refine lv_iload_n hx hb dJ7_fill_53178_12 rfl (lv_at hl 2 rfl) ?_
      refine wr_iast hx hb hK hH hS lv_r5 (cel_rt (by omega)) 0 rfl (vp_in_nI (n := n) (N := 3) (by omega) (by decide)) dJ7_fill_53178_13 (fun H locs hH hS => ?_)
      have hH : wHS E o g (uI x1 24 n v) y H := pa_m1 (v := v) (nI_clamp (n := n) (by omega)) hH
      obtain ⟨v1, ev1⟩ : ∃ y : Int32, y = (nI n) + 1 := ⟨_, rfl⟩
      refine lv_iinc (v := v1) (lv' := [(2, .int v1), (0, .ref (g 5)), (1, .int v), (3, .int 3)]) hx hb dJ7_fill_53178_14 hl (k := 0) rfl (by rw [ev1]; rfl) (by decide) rfl (fun ls hl => ?_)
      refine lv_goto (tgt := 5) hx hb dJ7_fill_53178_17 (by decide) ?_
      have e9 : v1 = nI (n + 1) := by rw [ev1]; exact nI_1 n
      rw [e9] at hl
      exact ih (n + 1) (by omega) H locs ls (lv_sub hl [0, 1, 2, 3] rfl) (by show wHS E o g (flS 24 v n (fU (flS 24 v) x n)) y H; rw [← ex1]; exact hH) hS
  exact loop 3 0 (by omega) H _ ls (lv_sub hl [1, 2, 3, 0] rfl) hH hS
set_option maxHeartbeats 4000000 in
set_option maxRecDepth 100000 in
theorem met_X4_rank_LL (l : Launch) (E : wE) (o : wO) (g : Nat → Nat) (x y : St) (v : Int32) (hI : CI x) : Met l yX4_rank wsX4_rank ({ frames := 0, cells := 0, slots := 0, locals := 0 } : Room) (va_Pc [.ref (g 6), .int v] (wPre E o g x y)) (va_Qv (fun (_ : Unit) => True) (fun (_ : Unit) t => wHS E o g (rk 25 v x) y t.heap) (wA E)) 0 0 (wA E) := by
  refine Met.ofW (cc := cX4_rank) (maxL := 5) (ret := none) (by decide) rfl ?_
  intro p e s m args below meth c s₁ B hml hv
  obtain ⟨rfl, hz, hH, hK⟩ := hv
  have hx := B.exec
  have hb := B.bytes
  have hr := B.returns
  have hts := atoms_spec (ws := wsX4_rank) B.pre
  have hown : s.vm.findClass RX4 = some m.cls := findClass_of_methodNamed B.named
  have hlocks := B.notSynchronized
  have hS : va_S (wA E) s.heap s.heap [] := va_S.rf
  have hl := lv_entry ([.ref (g 6), .int v]) (n := 5) (Nat.le_of_ble_eq_true rfl)
  rw [lg_entry_eq]
  generalize (lg_sl ([.ref (g 6), .int v]) ++ List.replicate (5 - (lg_sl ([.ref (g 6), .int v])).length) Slot.unset).toArray = ls at hl ⊢
  have hl : lv_has ls 5 [(0, .ref (g 6)), (1, .int v)] := hl
  obtain ⟨H, eH⟩ : ∃ z, z = s.heap := ⟨_, rfl⟩
  have hH : wHS E o g x y H := by rw [eH]; exact hH
  have hS : va_S (wA E) s.heap H [] := by rw [eH]; exact hS
  refine W.heapTo eH ?_
  obtain ⟨hn0, hn1, hn2, hn3, hn4, hn5, hc7, hc8, hc5, hc54, hc4, hc50, hc9, hc12, hc10, hcj⟩ := id hI
  refine W.nameQ (fun Q eQ => ?_)
  refine lv_iload_n hx hb dX4_rank_0 rfl (lv_at hl 1 rfl) ?_
  refine lv_istore_n (lv' := [(2, .int v), (0, .ref (g 6)), (1, .int v)]) hx hb dX4_rank_1 rfl hl (by decide) rfl (fun ls hl => ?_)
  refine lv_iconst (v := 0) hx hb dX4_rank_2 (by decide) ?_
  refine lv_istore_n (lv' := [(3, .int 0), (2, .int v), (0, .ref (g 6)), (1, .int v)]) hx hb dX4_rank_3 rfl hl (by decide) rfl (fun ls hl => ?_)
  have loop : ∀ (k n : Nat), n + k = 3 → ∀ (q : Int32 × St), q = fU (rkS 25) (v, x) n → True → ∀ (H : Heap) (locs : List Loc) (ls : Array Slot), lv_has ls 5 [(2, .int q.1), (3, .int (nI n)), (0, .ref (g 6)), (1, .int v)] → wHS E o g q.2 y H → va_S (wA E) s.heap H locs → W p l e ({ frames := 0, cells := 0, slots := 0, locals := 0 } : Room) s m #[.ref (g 6), .int v] below meth c H locs 0 0 Q (F0 m 4 ls []) := by
    intro k
    induction k with
    | zero =>
      intro n hn q hq hqb H locs ls hl hH hS
      obtain rfl : n = 3 := by omega
      have hl : lv_has ls 5 [(2, .int q.1), (3, .int (nI 3)), (0, .ref (g 6)), (1, .int v)] := hl
      refine lv_iload_n hx hb dX4_rank_4 rfl (lv_at hl 1 rfl) ?_
      refine lv_aload_n hx hb dX4_rank_5 rfl (lv_at hl 2 rfl) ?_
      refine wr_alen (v := 3) hx hb hK hH lv_r6 (cel_rt (by omega)) 0 rfl rfl dX4_rank_6 ?_
      refine lv_icmp_ge (tgt := 35) hx hb dX4_rank_7 (by decide) (fun _ => ?_) (fun hq => absurd ((nI_leI (a := 3) (b := 3) (by omega) (by omega)).mpr (Nat.le_refl _)) hq)
      rw [eQ]
      exact W.vret hx hb hr (fun t ht hW => ⟨⟨(), rfl, trivial, wHS_t ht (by show wHS E o g (fU (rkS 25) (v, x) 3).2 y H; rw [← hq]; exact hH)⟩, hS.F ht⟩) hS.2.2 dX4_rank_35
    | succ k ih =>
      intro n hn q hq hqb H locs ls hl hH hS
      have hlt : n < 3 := by omega
      obtain ⟨x1, ex1⟩ : ∃ z, z = q.2 := ⟨_, rfl⟩
      rw [← ex1] at hH
      have h1 : x1.1 = x.1 := by rw [ex1, hq]; exact (rkS_1 (by decide) (v, x) n).1
      have h10 : x1.2 10 = x.2 10 := by rw [ex1, hq]; exact (rkS_1 (by decide) (v, x) n).2
      have hI1 : CI x1 := CI_I hI h1 h10
      obtain ⟨hp0, hp1, hp2, hp3, hp4, hp5, hd7, hd8, hd5, hd54, hd4, hd50, hd9, hd12, hd10, hdj⟩ := id hI1
      refine lv_iload_n hx hb dX4_rank_4 rfl (lv_at hl 1 rfl) ?_
      refine lv_aload_n hx hb dX4_rank_5 rfl (lv_at hl 2 rfl) ?_
      refine wr_alen (v := 3) hx hb hK hH lv_r6 (cel_rt (by omega)) 0 rfl rfl dX4_rank_6 ?_
      refine lv_icmp_ge (tgt := 35) hx hb dX4_rank_7 (by decide) (fun hq => absurd ((nI_leI (a := 3) (b := n) (by omega) (by omega)).mp hq) (Nat.not_le.mpr hlt)) (fun _ => ?_)
      refine lv_iload_n hx hb dX4_rank_10 rfl (lv_at hl 0 rfl) ?_
      refine lv_aload_n hx hb dX4_rank_11 rfl (lv_at hl 2 rfl) ?_
      refine lv_iload_n hx hb dX4_rank_12 rfl (lv_at hl 1 rfl) ?_
      refine wr_iald (v := (x1.2 25 n)) hx hb hK hH lv_r6 (cel_rt (by omega)) 0 rfl (vp_in_nI (n := n) (N := 3) (by omega) (by decide)) (by rw [(nI_clamp (n := n) (by omega))]; try rfl) dX4_rank_13 ?_
      refine lv_icmp_le (tgt := 29) hx hb dX4_rank_14 (by decide) (fun c1 => ?_) (fun c1 => ?_)
      · skip
        obtain ⟨v2, ev2⟩ : ∃ y : Int32, y = (nI n) + 1 := ⟨_, rfl⟩
        refine lv_iinc (v := v2) (lv' := [(3, .int v2), (2, .int q.1), (0, .ref (g 6)), (1, .int v)]) hx hb dX4_rank_29 hl (k := 1) rfl (by rw [ev2]; rfl) (by decide) rfl (fun ls hl => ?_)
        refine lv_goto (tgt := 4) hx hb dX4_rank_32 (by decide) ?_
        have e9 : v2 = nI (n + 1) := by rw [ev2]; exact nI_1 n
        rw [e9] at hl
        exact ih (n + 1) (by omega) q (by show _ = rkS 25 n (fU (rkS 25) (v, x) n); rw [← hq]; unfold rkS; rw [← ex1]; simp only [c1, ↓reduceIte]) trivial H locs ls (lv_sub hl [1, 0, 2, 3] rfl) (by rw [← ex1]; exact hH) hS
      · skip
        refine lv_aload_n hx hb dX4_rank_17 rfl (lv_at hl 2 rfl) ?_
        refine lv_iload_n hx hb dX4_rank_18 rfl (lv_at hl 1 rfl) ?_
        refine wr_iald (v := (x1.2 25 n)) hx hb hK hH lv_r6 (cel_rt (by omega)) 0 rfl (vp_in_nI (n := n) (N := 3) (by omega) (by decide)) (by rw [(nI_clamp (n := n) (by omega))]; try rfl) dX4_rank_19 ?_
        refine lv_istore (lv' := [(4, .int (x1.2 25 n)), (2, .int q.1), (3, .int (nI n)), (0, .ref (g 6)), (1, .int v)]) hx hb dX4_rank_20 hl (by decide) rfl (fun ls hl => ?_)
        refine lv_aload_n hx hb dX4_rank_22 rfl (lv_at hl 3 rfl) ?_
        refine lv_iload_n hx hb dX4_rank_23 rfl (lv_at hl 2 rfl) ?_
        refine lv_iload_n hx hb dX4_rank_24 rfl (lv_at hl 1 rfl) ?_
        refine wr_iast hx hb hK hH hS lv_r6 (cel_rt (by omega)) 0 rfl (vp_in_nI (n := n) (N := 3) (by omega) (by decide)) dX4_rank_25 (fun H locs hH hS => ?_)
        have hH : wHS E o g (uI x1 25 n q.1) y H := pa_l1 (v := q.1) (nI_clamp (n := n) (by omega)) hH
        refine lv_iload hx hb dX4_rank_26 (lv_at hl 0 rfl) ?_
        refine lv_istore_n (lv' := [(2, .int (x1.2 25 n)), (4, .int (x1.2 25 n)), (3, .int (nI n)), (0, .ref (g 6)), (1, .int v)]) hx hb dX4_rank_28 rfl hl (by decide) rfl (fun ls hl => ?_)
        obtain ⟨v3, ev3⟩ : ∃ y : Int32, y = (nI n) + 1 := ⟨_, rfl⟩
        refine lv_iinc (v := v3) (lv' := [(3, .int v3), (2, .int (x1.2 25 n)), (4, .int (x1.2 25 n)), (0, .ref (g 6)), (1, .int v)]) hx hb dX4_rank_29 hl (k := 2) rfl (by rw [ev3]; rfl) (by decide) rfl (fun ls hl => ?_)
        refine lv_goto (tgt := 4) hx hb dX4_rank_32 (by decide) ?_
        have e9 : v3 = nI (n + 1) := by rw [ev3]; exact nI_1 n
        rw [e9] at hl
        exact ih (n + 1) (by omega) (x1.2 25 n, (uI x1 25 n q.1)) (by show _ = rkS 25 n (fU (rkS 25) (v, x) n); rw [← hq]; unfold rkS; rw [← ex1]; simp only [c1, ↓reduceIte]) trivial H locs ls (lv_sub hl [1, 0, 3, 4] rfl) hH hS
  exact loop 3 0 (by omega) (v, x) rfl trivial H _ ls (lv_sub hl [1, 0, 2, 3] rfl) hH hS
set_option maxHeartbeats 4000000 in
set_option maxRecDepth 100000 in
theorem met_J7_fill_LL (l : Launch) (E : wE) (o : wO) (g : Nat → Nat) (x y : St) (v : Int32) (hI : CI x) : Met l yJ7_fill_53178 wsJ7_fill_53178 ({ frames := 0, cells := 0, slots := 0, locals := 0 } : Room) (va_Pc [.ref (g 6), .int v] (wPre E o g x y)) (va_Qv (fun (_ : Unit) => True) (fun (_ : Unit) t => wHS E o g (fl 25 v x) y t.heap) (wA E)) 0 0 (wA E) := by
  refine Met.ofW (cc := cJ7_fill_53178) (maxL := 4) (ret := none) (by decide) rfl ?_
  intro p e s m args below meth c s₁ B hml hv
  obtain ⟨rfl, hz, hH, hK⟩ := hv
  have hx := B.exec
  have hb := B.bytes
  have hr := B.returns
  have hts := atoms_spec (ws := wsJ7_fill_53178) B.pre
  have hown : s.vm.findClass RJ7 = some m.cls := findClass_of_methodNamed B.named
  have hlocks := B.notSynchronized
  have hS : va_S (wA E) s.heap s.heap [] := va_S.rf
  have hl := lv_entry ([.ref (g 6), .int v]) (n := 4) (Nat.le_of_ble_eq_true rfl)
  rw [lg_entry_eq]
  generalize (lg_sl ([.ref (g 6), .int v]) ++ List.replicate (4 - (lg_sl ([.ref (g 6), .int v])).length) Slot.unset).toArray = ls at hl ⊢
  have hl : lv_has ls 4 [(0, .ref (g 6)), (1, .int v)] := hl
  obtain ⟨H, eH⟩ : ∃ z, z = s.heap := ⟨_, rfl⟩
  have hH : wHS E o g x y H := by rw [eH]; exact hH
  have hS : va_S (wA E) s.heap H [] := by rw [eH]; exact hS
  refine W.heapTo eH ?_
  obtain ⟨hn0, hn1, hn2, hn3, hn4, hn5, hc7, hc8, hc5, hc54, hc4, hc50, hc9, hc12, hc10, hcj⟩ := id hI
  refine W.nameQ (fun Q eQ => ?_)
  refine lv_iconst (v := 0) hx hb dJ7_fill_53178_0 (by decide) ?_
  refine lv_istore_n (lv' := [(2, .int 0), (0, .ref (g 6)), (1, .int v)]) hx hb dJ7_fill_53178_1 rfl hl (by decide) rfl (fun ls hl => ?_)
  refine lv_aload_n hx hb dJ7_fill_53178_2 rfl (lv_at hl 1 rfl) ?_
  refine wr_alen (v := 3) hx hb hK hH lv_r6 (cel_rt (by omega)) 0 rfl rfl dJ7_fill_53178_3 ?_
  refine lv_istore_n (lv' := [(3, .int 3), (2, .int 0), (0, .ref (g 6)), (1, .int v)]) hx hb dJ7_fill_53178_4 rfl hl (by decide) rfl (fun ls hl => ?_)
  have loop : ∀ (k n : Nat), n + k = 3 → ∀ (H : Heap) (locs : List Loc) (ls : Array Slot), lv_has ls 4 [(2, .int (nI n)), (0, .ref (g 6)), (1, .int v), (3, .int 3)] → wHS E o g (fU (flS 25 v) x n) y H → va_S (wA E) s.heap H locs → W p l e ({ frames := 0, cells := 0, slots := 0, locals := 0 } : Room) s m #[.ref (g 6), .int v] below meth c H locs 0 0 Q (F0 m 5 ls []) := by
    intro k
    induction k with
    | zero =>
      intro n hn H locs ls hl hH hS
      obtain rfl : n = 3 := by omega
      have hl : lv_has ls 4 [(2, .int (nI 3)), (0, .ref (g 6)), (1, .int v), (3, .int 3)] := hl
      refine lv_iload_n hx hb dJ7_fill_53178_5 rfl (lv_at hl 0 rfl) ?_
      refine lv_iload_n hx hb dJ7_fill_53178_6 rfl (lv_at hl 3 rfl) ?_
      refine lv_icmp_ge (tgt := 20) hx hb dJ7_fill_53178_7 (by decide) (fun _ => ?_) (fun hq => absurd ((nI_leI (a := 3) (b := 3) (by omega) (by omega)).mpr (Nat.le_refl _)) hq)
      rw [eQ]
      exact W.vret hx hb hr (fun t ht hW => ⟨⟨(), rfl, trivial, wHS_t ht hH⟩, hS.F ht⟩) hS.2.2 dJ7_fill_53178_20
    | succ k ih =>
      intro n hn H locs ls hl hH hS
      have hlt : n < 3 := by omega
      obtain ⟨x1, ex1⟩ : ∃ z, z = fU (flS 25 v) x n := ⟨_, rfl⟩
      rw [← ex1] at hH
      have h1 : x1.1 = x.1 := by rw [ex1]; exact (fU_1 _ (flS_1 (by decide) v) x n).1
      have h10 : x1.2 10 = x.2 10 := by rw [ex1]; exact (fU_1 _ (flS_1 (by decide) v) x n).2
      have hI1 : CI x1 := CI_I hI h1 h10
      obtain ⟨hp0, hp1, hp2, hp3, hp4, hp5, hd7, hd8, hd5, hd54, hd4, hd50, hd9, hd12, hd10, hdj⟩ := id hI1
      refine lv_iload_n hx hb dJ7_fill_53178_5 rfl (lv_at hl 0 rfl) ?_
      refine lv_iload_n hx hb dJ7_fill_53178_6 rfl (lv_at hl 3 rfl) ?_
      refine lv_icmp_ge (tgt := 20) hx hb dJ7_fill_53178_7 (by decide) (fun hq => absurd ((nI_leI (a := 3) (b := n) (by omega) (by omega)).mp hq) (Nat.not_le.mpr hlt)) (fun _ => ?_)
      refine lv_aload_n hx hb dJ7_fill_53178_10 rfl (lv_at hl 1 rfl) ?_
      refine lv_iload_n hx hb dJ7_fill_53178_11 rfl (lv_at hl 0 rfl) ?_
      refine lv_iload_n hx hb dJ7_fill_53178_12 rfl (lv_at hl 2 rfl) ?_
      refine wr_iast hx hb hK hH hS lv_r6 (cel_rt (by omega)) 0 rfl (vp_in_nI (n := n) (N := 3) (by omega) (by decide)) dJ7_fill_53178_13 (fun H locs hH hS => ?_)
      have hH : wHS E o g (uI x1 25 n v) y H := pa_l1 (v := v) (nI_clamp (n := n) (by omega)) hH
      obtain ⟨v1, ev1⟩ : ∃ y : Int32, y = (nI n) + 1 := ⟨_, rfl⟩
      refine lv_iinc (v := v1) (lv' := [(2, .int v1), (0, .ref (g 6)), (1, .int v), (3, .int 3)]) hx hb dJ7_fill_53178_14 hl (k := 0) rfl (by rw [ev1]; rfl) (by decide) rfl (fun ls hl => ?_)
      refine lv_goto (tgt := 5) hx hb dJ7_fill_53178_17 (by decide) ?_
      have e9 : v1 = nI (n + 1) := by rw [ev1]; exact nI_1 n
      rw [e9] at hl
      exact ih (n + 1) (by omega) H locs ls (lv_sub hl [0, 1, 2, 3] rfl) (by show wHS E o g (flS 25 v n (fU (flS 25 v) x n)) y H; rw [← ex1]; exact hH) hS
  exact loop 3 0 (by omega) H _ ls (lv_sub hl [1, 2, 3, 0] rfl) hH hS
