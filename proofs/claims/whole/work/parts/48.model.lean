/-! ===== the model: bestWorth ===== -/
theorem pk_rem10 {n : Nat} (h : n < 2 ^ 31) : nI n - nI n / 10 * 10 = nI (n % 10) := pk_rem (a := n) (d := 10) h (by decide) (by decide)
def stZ (i : Nat) (y : St) : St := uI (uI y 26 i 0) 27 (i % 10) 0
theorem fZ_1 (y : St) (n : Nat) : (fU stZ y n).1 = y.1 := by
  induction n with
  | zero => rfl
  | succ n ih => rw [fU_s]; exact ih
def bwD (j : Nat) (y : St) : Nat := fU (stS y j) 0 (y.1 0 0)
def bwW (j : Nat) (y : St) : Nat := fU (stW y j) 0 10
/-- what the change is worth: the disc D - 1 for the slot W - 1 -/
def bwM (y : St) (j D W : Nat) : Int32 := pD y (D - 1) (y.2 5 j) (nI (y.1 9 0)) - pS y (10 * j + (W - 1)) (y.2 5 ((10 * j + (W - 1)) / 10)) (nI (y.1 9 0))
def stBW (j : Nat) (_ : Nat) (p : Int32 × St) : Int32 × St := if bwD j p.2 = 0 then p else (if bwM p.2 j (bwD j p.2) (bwW j p.2) ≤ 0 then p.1 + 0 else p.1 + bwM p.2 j (bwD j p.2) (bwW j p.2), uI (uI p.2 26 (bwD j p.2 - 1) 1) 27 (bwW j p.2 - 1) 1)
theorem stBW_1 (j n : Nat) (p : Int32 × St) : (stBW j n p).2.1 = p.2.1 := by
  unfold stBW
  split <;> rfl
theorem fBW_1 (j : Nat) (p : Int32 × St) : ∀ n, (fU (stBW j) p n).2.1 = p.2.1
  | 0 => rfl
  | n + 1 => by rw [fU_s, stBW_1]; exact fBW_1 j p n
theorem stBW_27 (j n : Nat) (p : Int32 × St) (c : ¬ bwD j p.2 = 0) (k : Nat) : (stBW j n p).2.2 27 k = if k = bwW j p.2 - 1 then 1 else p.2.2 27 k := by
  unfold stBW
  rw [if_neg c]
  simp [uI, va_up]
theorem stZ_27 (i : Nat) (y : St) (k : Nat) : (stZ i y).2 27 k = if k = i % 10 then 0 else y.2 27 k := by
  unfold stZ
  simp [uI, va_up]
/-- the slots taken are few -/
def Tk (n : Nat) (y : St) : Prop := ∃ l : List Nat, l.length ≤ n ∧ ∀ k, k < 10 → y.2 27 k ≠ 0 → k ∈ l
theorem fBW_T (j : Nat) (p : Int32 × St) (h0 : ∀ k, k < 10 → p.2.2 27 k = 0) : ∀ n, Tk n (fU (stBW j) p n).2
  | 0 => ⟨[], Nat.le_refl _, fun k hk q => absurd (h0 k hk) q⟩
  | n + 1 => by
    obtain ⟨l, h1, h2⟩ := fBW_T j p h0 n
    rw [fU_s]
    generalize fU (stBW j) p n = p1 at h2
    by_cases c : bwD j p1.2 = 0
    · rw [show stBW j n p1 = p1 from if_pos c]
      exact ⟨l, by omega, h2⟩
    · refine ⟨(bwW j p1.2 - 1) :: l, by rw [List.length_cons]; omega, fun k hk q => ?_⟩
      rw [stBW_27 j n p1 c] at q
      by_cases e : k = bwW j p1.2 - 1
      · rw [e]; exact List.mem_cons_self
      · rw [if_neg e] at q
        exact List.mem_cons_of_mem _ (h2 k hk q)
theorem Tk_free {n : Nat} {y : St} (h : Tk n y) (hn : n < 3) : ∃ k, k < 10 ∧ y.2 27 k = 0 := by
  obtain ⟨l, h1, h2⟩ := h
  refine Classical.byContradiction fun q => ?_
  have hm : ∀ k, k < 10 → k ∈ l := fun k hk => h2 k hk (fun z => q ⟨k, hk, z⟩)
  have m0 := hm 0 (by decide)
  have m1 := hm 1 (by decide)
  have m2 := hm 2 (by decide)
  match l, h1, m0, m1, m2 with
  | [], _, m0, _, _ => exact absurd m0 (by simp)
  | [a], _, m0, m1, _ =>
    rw [List.mem_singleton] at m0 m1
    omega
  | [a, b], _, m0, m1, m2 =>
    simp only [List.mem_cons, List.not_mem_nil, or_false] at m0 m1 m2
    omega
  | a :: b :: c :: l, h1, _, _, _ =>
    simp only [List.length_cons] at h1
    omega
theorem fW_ne (y : St) (j : Nat) {k : Nat} (hk : y.2 27 k = 0) : ∀ n, k < n → fU (stW y j) 0 n ≠ 0
  | 0, h => absurd h (by omega)
  | n + 1, h => by
    rw [fU_s]
    by_cases e : k = n
    · subst e
      unfold stW
      rw [if_pos hk]
      split
      · omega
      · split
        · assumption
        · omega
    · have ih := fW_ne y j hk n (by omega)
      rcases stW_or y j n (fU (stW y j) 0 n) with q | q <;> rw [q]
      · exact ih
      · omega
theorem fW_le (y : St) (j n : Nat) : fU (stW y j) 0 n ≤ n := fU_le _ (stW_or y j) n
theorem fS_le (y : St) (j n : Nat) : fU (stS y j) 0 n ≤ n := fU_le _ (stS_or y j) n
theorem fZ_0 (y : St) (k : Nat) : ∀ n, k < n → n ≤ 10 → (fU stZ y n).2 27 k = 0
  | 0, h, _ => absurd h (by omega)
  | n + 1, h, h2 => by
    rw [fU_s, stZ_27, Nat.mod_eq_of_lt (by omega)]
    by_cases e : k = n
    · rw [if_pos e]
    · rw [if_neg e]
      exact fZ_0 y k n (by omega) (by omega)
theorem fZ_30 (y : St) (k : Nat) (hk : k < 10) : ∀ n, (fU stZ y (10 + n)).2 27 k = 0
  | 0 => fZ_0 y k 10 hk (Nat.le_refl _)
  | n + 1 => by
    rw [← Nat.add_assoc, fU_s, stZ_27]
    by_cases e : k = (10 + n) % 10
    · rw [if_pos e]
    · rw [if_neg e]
      exact fZ_30 y k hk n
def mp_bestWorth (y : St) (b : Int32) (v : Int32) : Int32 × St := if inB b (y.1 1 0) = true then (if 0 ≤ v ∧ v ≤ 3 then (((fU (stBW (ix b)) (0, (fU stZ (uI (uI y 28 0 0) 28 0 0) 30)) (ix v)).1), (fU (stBW (ix b)) (0, (fU stZ (uI (uI y 28 0 0) 28 0 0) 30)) (ix v)).2) else (0, (uI (uI y 28 0 0) 28 0 2))) else (0, (uI y 28 0 1))
set_option maxHeartbeats 4000000 in
set_option maxRecDepth 100000 in
theorem met_X5_bestWorth (l : Launch) (E : wE) (o : wO) (g : Nat → Nat) (x y : St) (b : Int32) (v : Int32) (hI : MI y) : Met l yX5_bestWorth wsX5_bestWorth ({ frames := 6, cells := 0, slots := 0, locals := 700 } : Room) (va_Pc [.ref (g 10), .int b, .int v] (wPre E o g x y)) (va_Qi (fun (r : Int32) (_ : Unit) => r = (mp_bestWorth y b v).1) (fun (_ : Unit) t => wHS E o g x (mp_bestWorth y b v).2 t.heap) (wA E)) 0 0 (wA E) := by
  refine Met.ofW (cc := cX5_bestWorth) (maxL := 8) (ret := (some .int)) (by decide) rfl ?_
  intro p e s m args below meth c s₁ B hml hv
  obtain ⟨rfl, hz, hH, hK⟩ := hv
  have hx := B.exec
  have hb := B.bytes
  have hr := B.returns
  have hts := atoms_spec (ws := wsX5_bestWorth) B.pre
  have hown : s.vm.findClass RX5 = some m.cls := findClass_of_methodNamed B.named
  have hlocks := B.notSynchronized
  have hS : va_S (wA E) s.heap s.heap [] := va_S.rf
  have hinX5 : ∀ w ∈ wsX50, w ∈ wsX5_bestWorth := fun w h => List.mem_cons_of_mem _ (List.mem_append_left _ (List.mem_append_right _ h))
  have hl := lv_entry ([.ref (g 10), .int b, .int v]) (n := 8) (Nat.le_of_ble_eq_true rfl)
  rw [lg_entry_eq]
  generalize (lg_sl ([.ref (g 10), .int b, .int v]) ++ List.replicate (8 - (lg_sl ([.ref (g 10), .int b, .int v])).length) Slot.unset).toArray = ls at hl ⊢
  have hl : lv_has ls 8 [(0, .ref (g 10)), (1, .int b), (2, .int v)] := hl
  obtain ⟨H, eH⟩ : ∃ z, z = s.heap := ⟨_, rfl⟩
  have hH : wHS E o g x y H := by rw [eH]; exact hH
  have hS : va_S (wA E) s.heap H [] := by rw [eH]; exact hS
  refine W.heapTo eH ?_
  obtain ⟨hm0, hm1, hm7, hm8, hm5, hm6, hm9, hm12, hm11⟩ := id hI
  refine W.nameQ (fun Q eQ => ?_)
  refine lv_aload_n hx hb dX5_bestWorth_0 rfl (lv_at hl 0 rfl) ?_
  refine lv_aload_n hx hb dX5_bestWorth_1 rfl (lv_at hl 0 rfl) ?_
  refine lv_iload_n hx hb dX5_bestWorth_2 rfl (lv_at hl 1 rfl) ?_
  refine va_calli (va_runV (As := [.int b]) (rest := [.ref (g 10)]) ⟨hx, hb, hml, hown, hts⟩ (met_X5_isBox l E o g x y b (show (y.1 1 0) ≤ 100 by omega)) (cwV 1 hts gX5_bestWorth_X5_isBox rfl rfl rfl (by decide +kernel) ⟨Nat.le_of_ble_eq_true rfl, Nat.le_of_ble_eq_true rfl⟩) ⟨fun a U f mk q => ⟨q.1, wPre.calling q.2 a f mk⟩, (va_recv hK (wH_one hH (lv_md (by decide) (by decide)) (cel_md (by omega) (by omega))) (ci := 7) (q0 := 0) rfl rfl), fun U hU hW => ⟨rfl, wPre_at hz hS hH hK U hU hW⟩⟩ rfl rfl hl.1 rfl (lv_room (Nat.le_of_ble_eq_true rfl)) dX5_bestWorth_3 ⟨Nat.le_of_ble_eq_true rfl, Nat.le_of_ble_eq_true rfl⟩) hS (fun q _ h => h) (fun q h => h) (fun r u t H locs ht hvm hw hB hz1 hk1 hS => ?_)
  have hB := wHS_h ht hB
  try dsimp only at hw
  have hH := hB
  rcases hw with ⟨rfl, c1⟩ | ⟨rfl, c1⟩
  · have c1 : inB b (y.1 1 0) = true := c1
    obtain ⟨jb, hjb, rfl⟩ := inB_t c1 (by omega)
    refine lv_iconst (v := 1) hx hb dX5_bestWorth_6 (by decide) ?_
    refine va_calli (va_runV (As := [.int 1, .int 1]) (rest := []) ⟨hx, hb, hml, hown, hts⟩ (met_X5_no1 l E o g x y 1) (cwV 2 hts gX5_bestWorth_X5_no rfl rfl rfl (by decide +kernel) ⟨Nat.le_of_ble_eq_true rfl, Nat.le_of_ble_eq_true rfl⟩) ⟨fun a U f mk q => ⟨q.1, wPre.calling q.2 a f mk⟩, (va_recv hK (wH_one hH (lv_md (by decide) (by decide)) (cel_md (by omega) (by omega))) (ci := 7) (q0 := 0) rfl rfl), fun U hU hW => ⟨rfl, wPre_at hz hS hH hK U hU hW⟩⟩ rfl rfl hl.1 rfl (lv_room (Nat.le_of_ble_eq_true rfl)) dX5_bestWorth_7 ⟨Nat.le_of_ble_eq_true rfl, Nat.le_of_ble_eq_true rfl⟩) hS (fun q _ h => h) (fun q h => h) (fun r u t H locs ht hvm hw hB hz1 hk1 hS => ?_)
    have hB := wHS_h ht hB
    try dsimp only at hw
    obtain rfl := hw
    have hH := hB
    refine lv_if_ne (tgt := 27) hx hb dX5_bestWorth_10 (by decide) (fun hq => absurd (show (0 : Int32) = 0 by decide) hq) (fun _ => ?_)
    refine lv_aload_n hx hb dX5_bestWorth_13 rfl (lv_at hl 0 rfl) ?_
    refine lv_iload_n hx hb dX5_bestWorth_14 rfl (lv_at hl 2 rfl) ?_
    refine lv_iconst (v := 0) hx hb dX5_bestWorth_15 (by decide) ?_
    refine lv_iconst (v := 3) hx hb dX5_bestWorth_16 (by decide) ?_
    refine va_calli (va_runS (As := [.int v, .int 0, .int 3]) (rest := [.ref (g 10)]) ⟨hx, hb, hml, hown, hts⟩ (met_X5_isIn l E o g x (uI y 28 0 0) v 0 3) (va_cwS 3 hts gX5_bestWorth_X5_isIn rfl rfl rfl (by decide +kernel) ⟨Nat.le_of_ble_eq_true rfl, Nat.le_of_ble_eq_true rfl⟩) ⟨fun a U f mk q => ⟨q.1, wPre.calling q.2 a f mk⟩, fun U hU hW => ⟨rfl, wPre_at hz hS hH hK U hU hW⟩⟩ rfl rfl hl.1 rfl (lv_room (Nat.le_of_ble_eq_true rfl)) dX5_bestWorth_17 ⟨Nat.le_of_ble_eq_true rfl, Nat.le_of_ble_eq_true rfl⟩) hS (fun q _ h => h) (fun q h => h) (fun r u t H locs ht hvm hw hB hz1 hk1 hS => ?_)
    have hB := wHS_h ht hB
    try dsimp only at hw
    have hH := hB
    rcases hw with ⟨rfl, c2⟩ | ⟨rfl, c2⟩
    · obtain ⟨jv, hjv, rfl⟩ := in_nat (n := 3) (by decide) c2
      refine lv_iconst (v := 2) hx hb dX5_bestWorth_20 (by decide) ?_
      refine va_calli (va_runV (As := [.int 1, .int 2]) (rest := []) ⟨hx, hb, hml, hown, hts⟩ (met_X5_no1 l E o g x (uI y 28 0 0) 2) (cwV 2 hts gX5_bestWorth_X5_no rfl rfl rfl (by decide +kernel) ⟨Nat.le_of_ble_eq_true rfl, Nat.le_of_ble_eq_true rfl⟩) ⟨fun a U f mk q => ⟨q.1, wPre.calling q.2 a f mk⟩, (va_recv hK (wH_one hH (lv_md (by decide) (by decide)) (cel_md (by omega) (by omega))) (ci := 7) (q0 := 0) rfl rfl), fun U hU hW => ⟨rfl, wPre_at hz hS hH hK U hU hW⟩⟩ rfl rfl hl.1 rfl (lv_room (Nat.le_of_ble_eq_true rfl)) dX5_bestWorth_21 ⟨Nat.le_of_ble_eq_true rfl, Nat.le_of_ble_eq_true rfl⟩) hS (fun q _ h => h) (fun q h => h) (fun r u t H locs ht hvm hw hB hz1 hk1 hS => ?_)
      have hB := wHS_h ht hB
      try dsimp only at hw
      obtain rfl := hw
      have hH := hB
      refine lv_if_eq (tgt := 29) hx hb dX5_bestWorth_24 (by decide) (fun _ => ?_) (fun hq => absurd (show (0 : Int32) = 0 by decide) hq)
      refine lv_iconst (v := 0) hx hb dX5_bestWorth_29 (by decide) ?_
      refine lv_istore_n (lv' := [(3, .int 0), (0, .ref (g 10)), (1, .int (nI jb)), (2, .int (nI jv))]) hx hb dX5_bestWorth_30 rfl hl (by decide) rfl (fun ls hl => ?_)
      have loop : ∀ (k n : Nat), n + k = 30 → ∀ (H : Heap) (locs : List Loc) (ls : Array Slot), lv_has ls 8 [(3, .int (nI n)), (0, .ref (g 10)), (1, .int (nI jb)), (2, .int (nI jv))] → wHS E o g x (fU stZ (uI (uI y 28 0 0) 28 0 0) n) H → va_S (wA E) s.heap H locs → W p l e ({ frames := 6, cells := 0, slots := 0, locals := 700 } : Room) s m #[.ref (g 10), .int (nI jb), .int (nI jv)] below meth c H locs 0 0 Q (F0 m 31 ls []) := by
        intro k
        induction k with
        | zero =>
          intro n hn H locs ls hl hH hS
          obtain rfl : 30 = n := by omega
          have hl : lv_has ls 8 [(3, .int (nI 30)), (0, .ref (g 10)), (1, .int (nI jb)), (2, .int (nI jv))] := hl
          refine lv_iload_n hx hb dX5_bestWorth_31 rfl (lv_at hl 0 rfl) ?_
          refine lv_bipush (v := 30) hx hb dX5_bestWorth_32 (by decide) ?_
          refine lv_icmp_ge (tgt := 60) hx hb dX5_bestWorth_34 (by decide) (fun _ => ?_) (fun hq => absurd ((nI_leI (a := 30) (b := 30) (by omega) (by omega)).mpr (Nat.le_refl _)) hq)
          refine lv_iconst (v := 0) hx hb dX5_bestWorth_60 (by decide) ?_
          refine lv_istore_n (lv' := [(3, .int 0), (0, .ref (g 10)), (1, .int (nI jb)), (2, .int (nI jv))]) hx hb dX5_bestWorth_61 rfl hl (by decide) rfl (fun ls hl => ?_)
          refine lv_iconst (v := 0) hx hb dX5_bestWorth_62 (by decide) ?_
          refine lv_istore (lv' := [(4, .int 0), (3, .int 0), (0, .ref (g 10)), (1, .int (nI jb)), (2, .int (nI jv))]) hx hb dX5_bestWorth_63 hl (by decide) rfl (fun ls hl => ?_)
          have loop : ∀ (k n : Nat), n + k = jv → ∀ (q : Int32 × St), q = fU (stBW jb) (0, (fU stZ (uI (uI y 28 0 0) 28 0 0) 30)) n → True → ∀ (H : Heap) (locs : List Loc) (ls : Array Slot), lv_has ls 8 [(3, .int q.1), (4, .int (nI n)), (0, .ref (g 10)), (1, .int (nI jb)), (2, .int (nI jv))] → wHS E o g x q.2 H → va_S (wA E) s.heap H locs → W p l e ({ frames := 6, cells := 0, slots := 0, locals := 700 } : Room) s m #[.ref (g 10), .int (nI jb), .int (nI jv)] below meth c H locs 0 0 Q (F0 m 65 ls []) := by
            intro k
            induction k with
            | zero =>
              intro n hn q hq hqb H locs ls hl hH hS
              obtain rfl : jv = n := by omega
              have hl : lv_has ls 8 [(3, .int q.1), (4, .int (nI jv)), (0, .ref (g 10)), (1, .int (nI jb)), (2, .int (nI jv))] := hl
              rw [hq] at hl hH
              refine lv_iload hx hb dX5_bestWorth_65 (lv_at hl 1 rfl) ?_
              refine lv_iload_n hx hb dX5_bestWorth_67 rfl (lv_at hl 4 rfl) ?_
              refine lv_icmp_ge (tgt := 147) hx hb dX5_bestWorth_68 (by decide) (fun _ => ?_) (fun hq => absurd ((nI_leI (a := jv) (b := jv) (by omega) (by omega)).mpr (Nat.le_refl _)) hq)
              refine lv_iload_n hx hb dX5_bestWorth_147 rfl (lv_at hl 0 rfl) ?_
              have hsp : mp_bestWorth y (nI jb) (nI jv) = (((fU (stBW jb) (0, (fU stZ (uI (uI y 28 0 0) 28 0 0) 30)) jv).1), (fU (stBW jb) (0, (fU stZ (uI (uI y 28 0 0) 28 0 0) 30)) jv).2) := by
                unfold mp_bestWorth
                first | (simp only [c1, c2, inB_nI hjb (by omega), ix_nI (show jb < 2 ^ 31 by omega), inB_nI hjv (by omega), ix_nI (show jv < 2 ^ 31 by omega), ↓reduceIte, and_self, and_true, true_and, Bool.false_eq_true, reduceCtorEq, eq_self, false_and, and_false]; done) | (simp [c1, c2, inB_nI hjb (by omega), ix_nI (show jb < 2 ^ 31 by omega), inB_nI hjv (by omega), ix_nI (show jv < 2 ^ 31 by omega), ↓reduceIte, and_self, and_true, true_and, Bool.false_eq_true, reduceCtorEq, eq_self, false_and, and_false]; done) | simp only [c1, c2, inB_nI hjb (by omega), ix_nI (show jb < 2 ^ 31 by omega), inB_nI hjv (by omega), ix_nI (show jv < 2 ^ 31 by omega), ↓reduceIte, and_self, and_true, true_and, Bool.false_eq_true, reduceCtorEq, eq_self, false_and, and_false]
              rw [eQ]
              exact W.iret (v := ((fU (stBW jb) (0, (fU stZ (uI (uI y 28 0 0) 28 0 0) 30)) jv).1)) hx hb hr (fun t ht hW => ⟨⟨((fU (stBW jb) (0, (fU stZ (uI (uI y 28 0 0) 28 0 0) 30)) jv).1), (), rfl, (by rw [hsp]), wHS_t ht (by rw [hsp]; exact hH)⟩, hS.F ht⟩) hS.2.2 dX5_bestWorth_148
            | succ k ih =>
              intro n hn q hq hqb H locs ls hl hH hS
              have hlt : n < jv := by omega
              obtain ⟨y1, ey1⟩ : ∃ z, z = q.2 := ⟨_, rfl⟩
              rw [← ey1] at hH
              have h1 : y1.1 = y.1 := by rw [ey1, hq, fBW_1]; exact fZ_1 _ _
              have hfree : fU (stW y1 jb) 0 10 ≠ 0 := by
                obtain ⟨k9, hk9, hz9⟩ := Tk_free (fBW_T jb (0, (fU stZ (uI (uI y 28 0 0) 28 0 0) 30)) (fun k hk => fZ_30 _ k hk 20) n) (by omega)
                rw [ey1, hq]
                exact fW_ne _ _ hz9 10 hk9
              obtain ⟨ho0, ho1, ho7, ho8, ho5, ho6, ho9, ho12, ho11⟩ := MI_of h1 hI
              have hjy : jb < y1.1 1 0 := by rw [h1]; exact hjb
              refine lv_iload hx hb dX5_bestWorth_65 (lv_at hl 1 rfl) ?_
              refine lv_iload_n hx hb dX5_bestWorth_67 rfl (lv_at hl 4 rfl) ?_
              refine lv_icmp_ge (tgt := 147) hx hb dX5_bestWorth_68 (by decide) (fun hq => absurd ((nI_leI (a := jv) (b := n) (by omega) (by omega)).mp hq) (Nat.not_le.mpr hlt)) (fun _ => ?_)
              refine lv_aload_n hx hb dX5_bestWorth_71 rfl (lv_at hl 2 rfl) ?_
              refine lv_iload_n hx hb dX5_bestWorth_72 rfl (lv_at hl 3 rfl) ?_
              refine va_calli (va_runV (As := [.int (nI jb)]) (rest := []) ⟨hx, hb, hml, hown, hts⟩ (met_X5_strongest l E o g x y1 jb (MI_of h1 hI) (by omega)) (cwV 1 hts gX5_bestWorth_X5_strongest rfl rfl rfl (by decide +kernel) ⟨Nat.le_of_ble_eq_true rfl, Nat.le_of_ble_eq_true rfl⟩) ⟨fun a U f mk q => ⟨q.1, wPre.calling q.2 a f mk⟩, (va_recv hK (wH_one hH (lv_md (by decide) (by decide)) (cel_md (by omega) (by omega))) (ci := 7) (q0 := 0) rfl rfl), fun U hU hW => ⟨rfl, wPre_at hz hS hH hK U hU hW⟩⟩ rfl rfl hl.1 rfl (lv_room (Nat.le_of_ble_eq_true rfl)) dX5_bestWorth_73 ⟨Nat.le_of_ble_eq_true rfl, Nat.le_of_ble_eq_true rfl⟩) hS (fun q _ h => h) (fun q h => h) (fun r u t H locs ht hvm hw hB hz1 hk1 hS => ?_)
              have hB := wHS_h ht hB
              try dsimp only at hw
              have hH : wHS E o g x y1 H := hB
              obtain ⟨D, eD⟩ : ∃ z, z = bwD jb y1 := ⟨_, rfl⟩
              have hD : D ≤ y1.1 0 0 := by rw [eD]; exact fS_le _ _ _
              have hw : r = bI D := by rw [hw, eD]; rfl
              obtain rfl := hw
              refine lv_istore (lv' := [(5, .int (bI D)), (3, .int q.1), (4, .int (nI n)), (0, .ref (g 10)), (1, .int (nI jb)), (2, .int (nI jv))]) hx hb dX5_bestWorth_76 hl (by decide) rfl (fun ls hl => ?_)
              refine lv_aload_n hx hb dX5_bestWorth_78 rfl (lv_at hl 3 rfl) ?_
              refine lv_iload_n hx hb dX5_bestWorth_79 rfl (lv_at hl 4 rfl) ?_
              refine va_calli (va_runV (As := [.int (nI jb)]) (rest := []) ⟨hx, hb, hml, hown, hts⟩ (met_X5_weakest l E o g x y1 jb (MI_of h1 hI) (by omega)) (cwV 1 hts gX5_bestWorth_X5_weakest rfl rfl rfl (by decide +kernel) ⟨Nat.le_of_ble_eq_true rfl, Nat.le_of_ble_eq_true rfl⟩) ⟨fun a U f mk q => ⟨q.1, wPre.calling q.2 a f mk⟩, (va_recv hK (wH_one hH (lv_md (by decide) (by decide)) (cel_md (by omega) (by omega))) (ci := 7) (q0 := 0) rfl rfl), fun U hU hW => ⟨rfl, wPre_at hz hS hH hK U hU hW⟩⟩ rfl rfl hl.1 rfl (lv_room (Nat.le_of_ble_eq_true rfl)) dX5_bestWorth_80 ⟨Nat.le_of_ble_eq_true rfl, Nat.le_of_ble_eq_true rfl⟩) hS (fun q _ h => h) (fun q h => h) (fun r u t H locs ht hvm hw hB hz1 hk1 hS => ?_)
              have hB := wHS_h ht hB
              try dsimp only at hw
              have hH : wHS E o g x y1 H := hB
              obtain ⟨Wk, eW⟩ : ∃ z, z = bwW jb y1 := ⟨_, rfl⟩
              have hW : Wk ≤ 10 := by rw [eW]; exact fW_le _ _ _
              have hW0 : Wk ≠ 0 := by rw [eW]; exact hfree
              have hw : r = nI (Wk - 1) := by rw [hw, ← bI_s hW0, eW]; rfl
              obtain rfl := hw
              refine lv_istore (lv' := [(6, .int (nI (Wk - 1))), (5, .int (bI D)), (3, .int q.1), (4, .int (nI n)), (0, .ref (g 10)), (1, .int (nI jb)), (2, .int (nI jv))]) hx hb dX5_bestWorth_83 hl (by decide) rfl (fun ls hl => ?_)
              by_cases c3 : D = 0
              · skip
                rw [bI_0 c3] at hl
                refine lv_iload hx hb dX5_bestWorth_85 (lv_at hl 1 rfl) ?_
                refine lv_if_lt (tgt := 141) hx hb dX5_bestWorth_87 (by decide) (fun _ => ?_) (fun hq => absurd (show ((-1) : Int32) < 0 by decide) hq)
                obtain ⟨v4, ev4⟩ : ∃ y : Int32, y = (nI n) + 1 := ⟨_, rfl⟩
                refine lv_iinc (v := v4) (lv' := [(4, .int v4), (6, .int (nI (Wk - 1))), (5, .int (-1)), (3, .int q.1), (0, .ref (g 10)), (1, .int (nI jb)), (2, .int (nI jv))]) hx hb dX5_bestWorth_141 hl (k := 3) rfl (by rw [ev4]; rfl) (by decide) rfl (fun ls hl => ?_)
                refine lv_goto (tgt := 65) hx hb dX5_bestWorth_144 (by decide) ?_
                have e9 : v4 = nI (n + 1) := by rw [ev4]; exact nI_1 n
                rw [e9] at hl
                subst ev4
                exact ih (n + 1) (by omega) q (by rw [fU_s, ← hq]; unfold stBW; rw [← ey1, ← eD, if_pos c3]) trivial H locs ls (lv_sub hl [3, 0, 4, 5, 6] rfl) (by rw [← ey1]; exact hH) hS
              · skip
                rw [bI_s c3] at hl
                refine lv_iload hx hb dX5_bestWorth_85 (lv_at hl 1 rfl) ?_
                refine lv_if_lt (tgt := 141) hx hb dX5_bestWorth_87 (by decide) (fun hq => absurd ((nI_ltI (a := (D - 1)) (b := 0) (by omega) (by omega)).mp hq) (Nat.not_lt_zero _)) (fun _ => ?_)
                refine lv_aload_n hx hb dX5_bestWorth_90 rfl (lv_at hl 4 rfl) ?_
                refine lv_iload_n hx hb dX5_bestWorth_91 rfl (lv_at hl 5 rfl) ?_
                refine lv_iload hx hb dX5_bestWorth_92 (lv_at hl 1 rfl) ?_
                refine va_calli (va_runV (As := [.int (nI jb), .int (nI (D - 1))]) (rest := []) ⟨hx, hb, hml, hown, hts⟩ (met_X5_pullAt_b l E o g x y1 jb (D - 1) (by omega) (by omega) (show (y1.1 8 (D - 1)) < 42 by have q0 := ho8 (D - 1); omega) (show (y1.1 12 (D - 1)) < 100 by have q0 := ho12 (D - 1); omega)) (cwV 2 hts gX5_bestWorth_X5_pullAt rfl rfl rfl (by decide +kernel) ⟨Nat.le_of_ble_eq_true rfl, Nat.le_of_ble_eq_true rfl⟩) ⟨fun a U f mk q => ⟨q.1, wPre.calling q.2 a f mk⟩, (va_recv hK (wH_one hH (lv_md (by decide) (by decide)) (cel_md (by omega) (by omega))) (ci := 7) (q0 := 0) rfl rfl), fun U hU hW => ⟨rfl, wPre_at hz hS hH hK U hU hW⟩⟩ rfl rfl hl.1 rfl (lv_room (Nat.le_of_ble_eq_true rfl)) dX5_bestWorth_94 ⟨Nat.le_of_ble_eq_true rfl, Nat.le_of_ble_eq_true rfl⟩) hS (fun q _ h => h) (fun q h => h) (fun r u t H locs ht hvm hw hB hz1 hk1 hS => ?_)
                have hB := wHS_h ht hB
                try dsimp only at hw
                obtain rfl := hw
                have hH := hB
                refine lv_aload_n hx hb dX5_bestWorth_97 rfl (lv_at hl 4 rfl) ?_
                refine lv_bipush (v := 10) hx hb dX5_bestWorth_98 (by decide) ?_
                refine lv_iload_n hx hb dX5_bestWorth_100 rfl (lv_at hl 5 rfl) ?_
                refine lv_imul hx hb dX5_bestWorth_101 ?_
                refine lv_tope (pk_mul 10 jb) ?_
                refine lv_iload hx hb dX5_bestWorth_102 (lv_at hl 0 rfl) ?_
                refine lv_iadd hx hb dX5_bestWorth_104 ?_
                refine lv_tope (nI_add (10 * jb) (Wk - 1)) ?_
                refine va_calli (va_runV (As := [.int (nI ((10 * jb) + (Wk - 1)))]) (rest := [.int (pD y1 (D - 1) (y1.2 5 jb) (nI (y1.1 9 0)))]) ⟨hx, hb, hml, hown, hts⟩ (met_X5_pullOfSlot l E o g x y1 ((10 * jb) + (Wk - 1)) (by omega) (show (y1.1 7 ((10 * jb) + (Wk - 1))) ≤ 30 by have q0 := ho7 ((10 * jb) + (Wk - 1)); omega) ho8 ho12) (cwV 1 hts gX5_bestWorth_X5_pullOfSlot rfl rfl rfl (by decide +kernel) ⟨Nat.le_of_ble_eq_true rfl, Nat.le_of_ble_eq_true rfl⟩) ⟨fun a U f mk q => ⟨q.1, wPre.calling q.2 a f mk⟩, (va_recv hK (wH_one hH (lv_md (by decide) (by decide)) (cel_md (by omega) (by omega))) (ci := 7) (q0 := 0) rfl rfl), fun U hU hW => ⟨rfl, wPre_at hz hS hH hK U hU hW⟩⟩ rfl rfl hl.1 rfl (lv_room (Nat.le_of_ble_eq_true rfl)) dX5_bestWorth_105 ⟨Nat.le_of_ble_eq_true rfl, Nat.le_of_ble_eq_true rfl⟩) hS (fun q _ h => h) (fun q h => h) (fun r u t H locs ht hvm hw hB hz1 hk1 hS => ?_)
                have hB := wHS_h ht hB
                try dsimp only at hw
                obtain rfl := hw
                have hH := hB
                refine lv_isub hx hb dX5_bestWorth_108 ?_
                refine lv_istore (lv' := [(7, .int ((pD y1 (D - 1) (y1.2 5 jb) (nI (y1.1 9 0))) - (pS y1 ((10 * jb) + (Wk - 1)) (y1.2 5 (((10 * jb) + (Wk - 1)) / 10)) (nI (y1.1 9 0))))), (6, .int (nI (Wk - 1))), (5, .int (nI (D - 1))), (3, .int q.1), (4, .int (nI n)), (0, .ref (g 10)), (1, .int (nI jb)), (2, .int (nI jv))]) hx hb dX5_bestWorth_109 hl (by decide) rfl (fun ls hl => ?_)
                refine lv_iload_n hx hb dX5_bestWorth_111 rfl (lv_at hl 3 rfl) ?_
                refine lv_iload hx hb dX5_bestWorth_112 (lv_at hl 0 rfl) ?_
                refine lv_if_le (tgt := 122) hx hb dX5_bestWorth_114 (by decide) (fun c5 => ?_) (fun c5 => ?_)
                · skip
                  refine lv_iconst (v := 0) hx hb dX5_bestWorth_122 (by decide) ?_
                  refine lv_iadd hx hb dX5_bestWorth_123 ?_
                  refine lv_istore_n (lv' := [(3, .int (q.1 + 0)), (7, .int ((pD y1 (D - 1) (y1.2 5 jb) (nI (y1.1 9 0))) - (pS y1 ((10 * jb) + (Wk - 1)) (y1.2 5 (((10 * jb) + (Wk - 1)) / 10)) (nI (y1.1 9 0))))), (6, .int (nI (Wk - 1))), (5, .int (nI (D - 1))), (4, .int (nI n)), (0, .ref (g 10)), (1, .int (nI jb)), (2, .int (nI jv))]) hx hb dX5_bestWorth_124 rfl hl (by decide) rfl (fun ls hl => ?_)
                  refine lv_aload_n hx hb dX5_bestWorth_125 rfl (lv_at hl 5 rfl) ?_
                  refine wr_get (T := TX5) (N := 30) (ci := 7) (v := .ref (g 32)) hx hb hts hinX5 hown hK hH (lv_md (by decide) (by decide)) (cel_md (by omega) (by omega)) rfl 23 (by decide) (hts (.fieldLink RX5 74 "SelectoRouteModel" "used" "[Z") (by decide +kernel)) (fun _ h => h) rfl dX5_bestWorth_126 ?_
                  refine lv_iload hx hb dX5_bestWorth_129 (lv_at hl 3 rfl) ?_
                  refine lv_iconst (v := 1) hx hb dX5_bestWorth_131 (by decide) ?_
                  refine wr_zast hx hb hK hH hS (lv_md (by decide) (by decide)) (cel_md (by decide) (by decide)) 1 rfl (vp_in_nI (n := (D - 1)) (N := 30) (by omega) (by decide)) dX5_bestWorth_132 (fun H locs hH hS => ?_)
                  have hH : wHS E o g x (uI y1 26 (D - 1) 1) H := pa_used (v := 1) (nI_clamp (n := (D - 1)) (by omega)) (by decide) hH
                  refine lv_aload_n hx hb dX5_bestWorth_133 rfl (lv_at hl 5 rfl) ?_
                  refine wr_get (T := TX5) (N := 30) (ci := 7) (v := .ref (g 33)) hx hb hts hinX5 hown hK hH (lv_md (by decide) (by decide)) (cel_md (by omega) (by omega)) rfl 24 (by decide) (hts (.fieldLink RX5 77 "SelectoRouteModel" "taken" "[Z") (by decide +kernel)) (fun _ h => h) rfl dX5_bestWorth_134 ?_
                  refine lv_iload hx hb dX5_bestWorth_137 (lv_at hl 2 rfl) ?_
                  refine lv_iconst (v := 1) hx hb dX5_bestWorth_139 (by decide) ?_
                  refine wr_zast hx hb hK hH hS (lv_md (by decide) (by decide)) (cel_md (by decide) (by decide)) 1 rfl (vp_in_nI (n := (Wk - 1)) (N := 10) (by omega) (by decide)) dX5_bestWorth_140 (fun H locs hH hS => ?_)
                  have hH : wHS E o g x (uI (uI y1 26 (D - 1) 1) 27 (Wk - 1) 1) H := pa_taken (v := 1) (nI_clamp (n := (Wk - 1)) (by omega)) (by decide) hH
                  obtain ⟨v6, ev6⟩ : ∃ y : Int32, y = (nI n) + 1 := ⟨_, rfl⟩
                  refine lv_iinc (v := v6) (lv' := [(4, .int v6), (3, .int (q.1 + 0)), (7, .int ((pD y1 (D - 1) (y1.2 5 jb) (nI (y1.1 9 0))) - (pS y1 ((10 * jb) + (Wk - 1)) (y1.2 5 (((10 * jb) + (Wk - 1)) / 10)) (nI (y1.1 9 0))))), (6, .int (nI (Wk - 1))), (5, .int (nI (D - 1))), (0, .ref (g 10)), (1, .int (nI jb)), (2, .int (nI jv))]) hx hb dX5_bestWorth_141 hl (k := 4) rfl (by rw [ev6]; rfl) (by decide) rfl (fun ls hl => ?_)
                  refine lv_goto (tgt := 65) hx hb dX5_bestWorth_144 (by decide) ?_
                  have e9 : v6 = nI (n + 1) := by rw [ev6]; exact nI_1 n
                  rw [e9] at hl
                  subst ev6
                  have hcm : bwM y1 jb D Wk ≤ 0 := c5
                  exact ih (n + 1) (by omega) ((q.1 + 0), (uI (uI y1 26 (D - 1) 1) 27 (Wk - 1) 1)) (by rw [fU_s, ← hq]; unfold stBW; rw [← ey1, ← eD, ← eW, if_neg c3, if_pos hcm]; first | done | rfl) trivial H locs ls (lv_sub hl [1, 0, 5, 6, 7] rfl) hH hS
                · skip
                  refine lv_iload hx hb dX5_bestWorth_117 (lv_at hl 0 rfl) ?_
                  refine lv_goto (tgt := 123) hx hb dX5_bestWorth_119 (by decide) ?_
                  refine lv_iadd hx hb dX5_bestWorth_123 ?_
                  refine lv_istore_n (lv' := [(3, .int (q.1 + ((pD y1 (D - 1) (y1.2 5 jb) (nI (y1.1 9 0))) - (pS y1 ((10 * jb) + (Wk - 1)) (y1.2 5 (((10 * jb) + (Wk - 1)) / 10)) (nI (y1.1 9 0)))))), (7, .int ((pD y1 (D - 1) (y1.2 5 jb) (nI (y1.1 9 0))) - (pS y1 ((10 * jb) + (Wk - 1)) (y1.2 5 (((10 * jb) + (Wk - 1)) / 10)) (nI (y1.1 9 0))))), (6, .int (nI (Wk - 1))), (5, .int (nI (D - 1))), (4, .int (nI n)), (0, .ref (g 10)), (1, .int (nI jb)), (2, .int (nI jv))]) hx hb dX5_bestWorth_124 rfl hl (by decide) rfl (fun ls hl => ?_)
                  refine lv_aload_n hx hb dX5_bestWorth_125 rfl (lv_at hl 5 rfl) ?_
                  refine wr_get (T := TX5) (N := 30) (ci := 7) (v := .ref (g 32)) hx hb hts hinX5 hown hK hH (lv_md (by decide) (by decide)) (cel_md (by omega) (by omega)) rfl 23 (by decide) (hts (.fieldLink RX5 74 "SelectoRouteModel" "used" "[Z") (by decide +kernel)) (fun _ h => h) rfl dX5_bestWorth_126 ?_
                  refine lv_iload hx hb dX5_bestWorth_129 (lv_at hl 3 rfl) ?_
                  refine lv_iconst (v := 1) hx hb dX5_bestWorth_131 (by decide) ?_
                  refine wr_zast hx hb hK hH hS (lv_md (by decide) (by decide)) (cel_md (by decide) (by decide)) 1 rfl (vp_in_nI (n := (D - 1)) (N := 30) (by omega) (by decide)) dX5_bestWorth_132 (fun H locs hH hS => ?_)
                  have hH : wHS E o g x (uI y1 26 (D - 1) 1) H := pa_used (v := 1) (nI_clamp (n := (D - 1)) (by omega)) (by decide) hH
                  refine lv_aload_n hx hb dX5_bestWorth_133 rfl (lv_at hl 5 rfl) ?_
                  refine wr_get (T := TX5) (N := 30) (ci := 7) (v := .ref (g 33)) hx hb hts hinX5 hown hK hH (lv_md (by decide) (by decide)) (cel_md (by omega) (by omega)) rfl 24 (by decide) (hts (.fieldLink RX5 77 "SelectoRouteModel" "taken" "[Z") (by decide +kernel)) (fun _ h => h) rfl dX5_bestWorth_134 ?_
                  refine lv_iload hx hb dX5_bestWorth_137 (lv_at hl 2 rfl) ?_
                  refine lv_iconst (v := 1) hx hb dX5_bestWorth_139 (by decide) ?_
                  refine wr_zast hx hb hK hH hS (lv_md (by decide) (by decide)) (cel_md (by decide) (by decide)) 1 rfl (vp_in_nI (n := (Wk - 1)) (N := 10) (by omega) (by decide)) dX5_bestWorth_140 (fun H locs hH hS => ?_)
                  have hH : wHS E o g x (uI (uI y1 26 (D - 1) 1) 27 (Wk - 1) 1) H := pa_taken (v := 1) (nI_clamp (n := (Wk - 1)) (by omega)) (by decide) hH
                  obtain ⟨v7, ev7⟩ : ∃ y : Int32, y = (nI n) + 1 := ⟨_, rfl⟩
                  refine lv_iinc (v := v7) (lv' := [(4, .int v7), (3, .int (q.1 + ((pD y1 (D - 1) (y1.2 5 jb) (nI (y1.1 9 0))) - (pS y1 ((10 * jb) + (Wk - 1)) (y1.2 5 (((10 * jb) + (Wk - 1)) / 10)) (nI (y1.1 9 0)))))), (7, .int ((pD y1 (D - 1) (y1.2 5 jb) (nI (y1.1 9 0))) - (pS y1 ((10 * jb) + (Wk - 1)) (y1.2 5 (((10 * jb) + (Wk - 1)) / 10)) (nI (y1.1 9 0))))), (6, .int (nI (Wk - 1))), (5, .int (nI (D - 1))), (0, .ref (g 10)), (1, .int (nI jb)), (2, .int (nI jv))]) hx hb dX5_bestWorth_141 hl (k := 4) rfl (by rw [ev7]; rfl) (by decide) rfl (fun ls hl => ?_)
                  refine lv_goto (tgt := 65) hx hb dX5_bestWorth_144 (by decide) ?_
                  have e9 : v7 = nI (n + 1) := by rw [ev7]; exact nI_1 n
                  rw [e9] at hl
                  subst ev7
                  have hcm : ¬ bwM y1 jb D Wk ≤ 0 := c5
                  exact ih (n + 1) (by omega) ((q.1 + ((pD y1 (D - 1) (y1.2 5 jb) (nI (y1.1 9 0))) - (pS y1 ((10 * jb) + (Wk - 1)) (y1.2 5 (((10 * jb) + (Wk - 1)) / 10)) (nI (y1.1 9 0))))), (uI (uI y1 26 (D - 1) 1) 27 (Wk - 1) 1)) (by rw [fU_s, ← hq]; unfold stBW; rw [← ey1, ← eD, ← eW, if_neg c3, if_neg hcm]; first | done | rfl) trivial H locs ls (lv_sub hl [1, 0, 5, 6, 7] rfl) hH hS
          exact loop jv 0 (by omega) (0, (fU stZ (uI (uI y 28 0 0) 28 0 0) 30)) rfl trivial H _ ls (lv_sub hl [1, 0, 2, 3, 4] rfl) hH hS
        | succ k ih =>
          intro n hn H locs ls hl hH hS
          have hlt : n < 30 := by omega
          refine lv_iload_n hx hb dX5_bestWorth_31 rfl (lv_at hl 0 rfl) ?_
          refine lv_bipush (v := 30) hx hb dX5_bestWorth_32 (by decide) ?_
          refine lv_icmp_ge (tgt := 60) hx hb dX5_bestWorth_34 (by decide) (fun hq => absurd ((nI_leI (a := 30) (b := n) (by omega) (by omega)).mp hq) (Nat.not_le.mpr hlt)) (fun _ => ?_)
          refine lv_aload_n hx hb dX5_bestWorth_37 rfl (lv_at hl 1 rfl) ?_
          refine wr_get (T := TX5) (N := 30) (ci := 7) (v := .ref (g 32)) hx hb hts hinX5 hown hK hH (lv_md (by decide) (by decide)) (cel_md (by omega) (by omega)) rfl 23 (by decide) (hts (.fieldLink RX5 74 "SelectoRouteModel" "used" "[Z") (by decide +kernel)) (fun _ h => h) rfl dX5_bestWorth_38 ?_
          refine lv_iload_n hx hb dX5_bestWorth_41 rfl (lv_at hl 0 rfl) ?_
          refine lv_iconst (v := 0) hx hb dX5_bestWorth_42 (by decide) ?_
          refine wr_zast hx hb hK hH hS (lv_md (by decide) (by decide)) (cel_md (by decide) (by decide)) 1 rfl (vp_in_nI (n := n) (N := 30) (by omega) (by decide)) dX5_bestWorth_43 (fun H locs hH hS => ?_)
          have hH : wHS E o g x (uI (fU stZ (uI (uI y 28 0 0) 28 0 0) n) 26 n 0) H := pa_used (v := 0) (nI_clamp (n := n) (by omega)) (by decide) hH
          refine lv_aload_n hx hb dX5_bestWorth_44 rfl (lv_at hl 1 rfl) ?_
          refine wr_get (T := TX5) (N := 30) (ci := 7) (v := .ref (g 33)) hx hb hts hinX5 hown hK hH (lv_md (by decide) (by decide)) (cel_md (by omega) (by omega)) rfl 24 (by decide) (hts (.fieldLink RX5 77 "SelectoRouteModel" "taken" "[Z") (by decide +kernel)) (fun _ h => h) rfl dX5_bestWorth_45 ?_
          refine lv_iload_n hx hb dX5_bestWorth_48 rfl (lv_at hl 0 rfl) ?_
          refine lv_bipush (v := 10) hx hb dX5_bestWorth_49 (by decide) ?_
          refine lv_irem hx hb dX5_bestWorth_51 (by decide) ?_
          refine lv_tope (pk_rem10 (by omega)) ?_
          refine lv_iconst (v := 0) hx hb dX5_bestWorth_52 (by decide) ?_
          refine wr_zast hx hb hK hH hS (lv_md (by decide) (by decide)) (cel_md (by decide) (by decide)) 1 rfl (vp_in_nI (n := (n % 10)) (N := 10) (by omega) (by decide)) dX5_bestWorth_53 (fun H locs hH hS => ?_)
          have hH : wHS E o g x (uI (uI (fU stZ (uI (uI y 28 0 0) 28 0 0) n) 26 n 0) 27 (n % 10) 0) H := pa_taken (v := 0) (nI_clamp (n := (n % 10)) (by omega)) (by decide) hH
          obtain ⟨v8, ev8⟩ : ∃ y : Int32, y = (nI n) + 1 := ⟨_, rfl⟩
          refine lv_iinc (v := v8) (lv' := [(3, .int v8), (0, .ref (g 10)), (1, .int (nI jb)), (2, .int (nI jv))]) hx hb dX5_bestWorth_54 hl (k := 0) rfl (by rw [ev8]; rfl) (by decide) rfl (fun ls hl => ?_)
          refine lv_goto (tgt := 31) hx hb dX5_bestWorth_57 (by decide) ?_
          have e9 : v8 = nI (n + 1) := by rw [ev8]; exact nI_1 n
          rw [e9] at hl
          exact ih (n + 1) (by omega) H locs ls (lv_sub hl [0, 1, 2, 3] rfl) (by rw [fU_s]; unfold stZ; exact hH) hS
      exact loop 30 0 (by omega) H _ ls (lv_sub hl [0, 1, 2, 3] rfl) hH hS
    · skip
      refine lv_iconst (v := 2) hx hb dX5_bestWorth_20 (by decide) ?_
      refine va_calli (va_runV (As := [.int 0, .int 2]) (rest := []) ⟨hx, hb, hml, hown, hts⟩ (met_X5_no0 l E o g x (uI y 28 0 0) 2) (cwV 2 hts gX5_bestWorth_X5_no rfl rfl rfl (by decide +kernel) ⟨Nat.le_of_ble_eq_true rfl, Nat.le_of_ble_eq_true rfl⟩) ⟨fun a U f mk q => ⟨q.1, wPre.calling q.2 a f mk⟩, (va_recv hK (wH_one hH (lv_md (by decide) (by decide)) (cel_md (by omega) (by omega))) (ci := 7) (q0 := 0) rfl rfl), fun U hU hW => ⟨rfl, wPre_at hz hS hH hK U hU hW⟩⟩ rfl rfl hl.1 rfl (lv_room (Nat.le_of_ble_eq_true rfl)) dX5_bestWorth_21 ⟨Nat.le_of_ble_eq_true rfl, Nat.le_of_ble_eq_true rfl⟩) hS (fun q _ h => h) (fun q h => h) (fun r u t H locs ht hvm hw hB hz1 hk1 hS => ?_)
      have hB := wHS_h ht hB
      try dsimp only at hw
      obtain rfl := hw
      have hH := hB
      refine lv_if_eq (tgt := 29) hx hb dX5_bestWorth_24 (by decide) (fun hq => absurd hq (show ¬ (1 : Int32) = 0 by decide)) (fun _ => ?_)
      refine lv_iconst (v := 0) hx hb dX5_bestWorth_27 (by decide) ?_
      have hsp : mp_bestWorth y (nI jb) v = (0, (uI (uI y 28 0 0) 28 0 2)) := by
        unfold mp_bestWorth
        first | (simp only [c1, c2, inB_nI hjb (by omega), ix_nI (show jb < 2 ^ 31 by omega), ↓reduceIte, and_self, and_true, true_and, Bool.false_eq_true, reduceCtorEq, eq_self, false_and, and_false]; done) | (simp [c1, c2, inB_nI hjb (by omega), ix_nI (show jb < 2 ^ 31 by omega), ↓reduceIte, and_self, and_true, true_and, Bool.false_eq_true, reduceCtorEq, eq_self, false_and, and_false]; done) | simp only [c1, c2, inB_nI hjb (by omega), ix_nI (show jb < 2 ^ 31 by omega), ↓reduceIte, and_self, and_true, true_and, Bool.false_eq_true, reduceCtorEq, eq_self, false_and, and_false]
      rw [eQ]
      exact W.iret (v := 0) hx hb hr (fun t ht hW => ⟨⟨0, (), rfl, (by rw [hsp]), wHS_t ht (by rw [hsp]; exact hH)⟩, hS.F ht⟩) hS.2.2 dX5_bestWorth_28
  · have c1 : inB b (y.1 1 0) = false := c1
    refine lv_iconst (v := 1) hx hb dX5_bestWorth_6 (by decide) ?_
    refine va_calli (va_runV (As := [.int 0, .int 1]) (rest := []) ⟨hx, hb, hml, hown, hts⟩ (met_X5_no0 l E o g x y 1) (cwV 2 hts gX5_bestWorth_X5_no rfl rfl rfl (by decide +kernel) ⟨Nat.le_of_ble_eq_true rfl, Nat.le_of_ble_eq_true rfl⟩) ⟨fun a U f mk q => ⟨q.1, wPre.calling q.2 a f mk⟩, (va_recv hK (wH_one hH (lv_md (by decide) (by decide)) (cel_md (by omega) (by omega))) (ci := 7) (q0 := 0) rfl rfl), fun U hU hW => ⟨rfl, wPre_at hz hS hH hK U hU hW⟩⟩ rfl rfl hl.1 rfl (lv_room (Nat.le_of_ble_eq_true rfl)) dX5_bestWorth_7 ⟨Nat.le_of_ble_eq_true rfl, Nat.le_of_ble_eq_true rfl⟩) hS (fun q _ h => h) (fun q h => h) (fun r u t H locs ht hvm hw hB hz1 hk1 hS => ?_)
    have hB := wHS_h ht hB
    try dsimp only at hw
    obtain rfl := hw
    have hH := hB
    refine lv_if_ne (tgt := 27) hx hb dX5_bestWorth_10 (by decide) (fun _ => ?_) (fun hq => absurd hq (show ¬ (1 : Int32) = 0 by decide))
    refine lv_iconst (v := 0) hx hb dX5_bestWorth_27 (by decide) ?_
    have hsp : mp_bestWorth y b v = (0, (uI y 28 0 1)) := by
      unfold mp_bestWorth
      first | (simp only [(Bool.eq_false_iff.mp c1), ↓reduceIte, and_self, and_true, true_and, Bool.false_eq_true, reduceCtorEq, eq_self, false_and, and_false]; done) | (simp [(Bool.eq_false_iff.mp c1), ↓reduceIte, and_self, and_true, true_and, Bool.false_eq_true, reduceCtorEq, eq_self, false_and, and_false]; done) | simp only [(Bool.eq_false_iff.mp c1), ↓reduceIte, and_self, and_true, true_and, Bool.false_eq_true, reduceCtorEq, eq_self, false_and, and_false]
    rw [eQ]
    exact W.iret (v := 0) hx hb hr (fun t ht hW => ⟨⟨0, (), rfl, (by rw [hsp]), wHS_t ht (by rw [hsp]; exact hH)⟩, hS.F ht⟩) hS.2.2 dX5_bestWorth_28
