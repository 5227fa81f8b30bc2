/-! ===== the law's loop ===== -/
theorem Rel.up {k k2 : Nat} {x y : St} (h : Rel k x y) (hk : k ≤ k2) : Rel k2 x y := by
  obtain ⟨h1, h2, h3, h4, h5, h6, h7, ⟨b1, b2, b3⟩, h9, h10⟩ := h
  exact ⟨h1, h2, h3, h4, h5, h6, h7, ⟨b1, b2, fun j => ⟨(b3 j).1, by have := (b3 j).2; omega⟩⟩, h9, h10⟩
theorem and63 (x : Int32) : ∃ k : Nat, k < 64 ∧ x &&& 63 = nI k := by
  refine ⟨(x &&& 63).toBitVec.toNat, ?_, ?_⟩
  · rw [show (x &&& 63).toBitVec = x.toBitVec &&& 63#32 from rfl, BitVec.toNat_and]
    exact Nat.lt_of_le_of_lt Nat.and_le_right (by decide)
  · refine Int32.toBitVec_inj.mp ?_
    show _ = BitVec.ofNat 32 _
    rw [BitVec.ofNat_toNat, BitVec.setWidth_eq]
theorem lw_more {i L : Nat} (hi : 4 * i ≤ L) (hL : L ≤ 2048) (h : ¬ (Int32.ofNat L - 4 < nI (4 * i))) : 4 * i + 4 ≤ L := by
  by_cases h4 : 4 ≤ L
  · obtain ⟨M, rfl⟩ : ∃ M, L = M + 4 := ⟨L - 4, by omega⟩
    have e : Int32.ofNat (M + 4) - 4 = nI M := by
      show nI (M + 4) - nI 4 = nI M
      rw [← nI_add, Int32.add_sub_cancel]
    rw [e] at h
    by_cases h2 : M < 4 * i
    · exact absurd (nI_lt h2 (by omega)) h
    · omega
  · refine absurd ?_ h
    have h0 : nI 0 ≤ nI (4 * i) := nI_le (Nat.zero_le _) (by omega)
    have h5 : Int32.ofNat L - 4 < nI 0 := by
      rcases (show L = 0 ∨ L = 1 ∨ L = 2 ∨ L = 3 by omega) with rfl | rfl | rfl | rfl <;> decide
    rw [Int32.lt_iff_toInt_lt] at h5 ⊢
    rw [Int32.le_iff_toInt_le] at h0
    omega
set_option maxHeartbeats 4000000 in
set_option maxRecDepth 100000 in
theorem lw_loop {p : Program} {l : Launch} {e : Env} {s : State} {m : MethodId} {below : List Frame} {meth : Method} {c : Code} {E : wE} {b L : Nat} {xs : Nat → Int32} {Q : State → Prop} (hE : lwE p l s m meth c E b L xs)
    (fin : ∀ (H : Heap) (locs : List Loc) (ls : Array Slot) (cells slots : Nat), cells ≤ 30000 → slots ≤ 300000 → va_S (wA E) s.heap H locs → W p l e room_1 s m #[Value.ref b] below meth c H locs cells slots Q (F0 m 2268 ls [])) :
    ∀ (n i : Nat), 4 * i ≤ L → L < 4 * (i + n) → ∀ (o : wO) (g : Nat → Nat) (x y : St) (H : Heap) (locs : List Loc) (ls : Array Slot) (cells slots : Nat), cells ≤ 40 + 40 * i → slots ≤ 1000 + 500 * i → Rel i x y → lv_has ls 9 (lwL b g i) → wHS E o g x y H → va_S (wA E) s.heap H locs → W p l e room_1 s m #[Value.ref b] below meth c H locs cells slots Q (F0 m 28 ls []) := by
  obtain ⟨hx, hb, hml, hown, hts, hr, hlocks, hX, hbl, hbA, hz, hK, hC, hDD, hNc, hlt, hL⟩ := id hE
  intro n
  induction n with
  | zero => intro i h1 h2; exact absurd h2 (by omega)
  | succ n ih =>
    intro i h1 h2 o g x y H locs ls cells slots hc hs hR hl hH hS
    refine lv_iload hx hb dL_law_28 (lv_at hl 0 rfl) ?_
    refine lv_aload_n hx hb dL_law_30 rfl (lv_at hl 1 rfl) ?_
    refine va_slen hx hb hX hbl hbA hS dL_law_31 ?_
    refine lv_iconst (v := 4) hx hb dL_law_32 (by decide) ?_
    refine lv_isub hx hb dL_law_33 ?_
    refine lv_icmp_gt (tgt := 2268) hx hb dL_law_34 (by decide) (fun h => fin _ _ _ _ _ (by omega) (by omega) hS) (fun h => ?_)
    have hi : 4 * i + 4 ≤ L := lw_more h1 hL h
    refine lv_aload_n hx hb dL_law_37 rfl (lv_at hl 1 rfl) ?_
    refine lv_iload hx hb dL_law_38 (lv_at hl 0 rfl) ?_
    refine va_sld hx hb hX hbl hbA hS (vp_in_nI (n := 4 * i) (N := L) (by omega) (by omega)) dL_law_40 ?_
    refine lv_bipush (v := 63) hx hb dL_law_41 (by decide) ?_
    refine lv_iand hx hb dL_law_43 ?_
    obtain ⟨k, hk, ek⟩ := and63 (xs (nI (4 * i)).toNatClampNeg)
    refine lv_tope ek ?_
    have kont : ∀ (o : wO) (g : Nat → Nat) (x y : St) (H : Heap) (locs : List Loc) (ls : Array Slot) (cells2 slots2 : Nat), cells2 ≤ cells + 40 → slots2 ≤ slots + 500 → Rel (i + 1) x y → lv_has ls 9 (lwL b g i) → wHS E o g x y H → va_S (wA E) s.heap H locs → W p l e room_1 s m #[Value.ref b] below meth c H locs cells2 slots2 Q (F0 m 2262 ls []) := by
      intro o g x y H locs ls c2 s2 hc2 hs2 hR hl hH hS
      refine lv_iinc (v := nI (4 * (i + 1))) (lv' := lwL b g (i + 1)) hx hb dL_law_2262 hl (k := 0) rfl (nI_add (4 * i) 4) (by decide) rfl (fun ls hl => ?_)
      refine lv_goto (tgt := 28) hx hb dL_law_2265 (by decide) ?_
      exact ih (i + 1) (by omega) (by omega) o g x y H locs ls c2 s2 (by omega) (by omega) hR hl hH hS
    rcases (show k = 0 ∨ k = 1 ∨ k = 2 ∨ k = 3 ∨ k = 4 ∨ k = 5 ∨ k = 6 ∨ k = 7 ∨ k = 8 ∨ k = 9 ∨ k = 10 ∨ k = 11 ∨ k = 12 ∨ k = 13 ∨ k = 14 ∨ k = 15 ∨ k = 16 ∨ k = 17 ∨ k = 18 ∨ k = 19 ∨ k = 20 ∨ k = 21 ∨ k = 22 ∨ k = 23 ∨ k = 24 ∨ k = 25 ∨ k = 26 ∨ k = 27 ∨ k = 28 ∨ k = 29 ∨ k = 30 ∨ k = 31 ∨ k = 32 ∨ k = 33 ∨ k = 34 ∨ k = 35 ∨ k = 36 ∨ 37 ≤ k by omega) with rfl | rfl | rfl | rfl | rfl | rfl | rfl | rfl | rfl | rfl | rfl | rfl | rfl | rfl | rfl | rfl | rfl | rfl | rfl | rfl | rfl | rfl | rfl | rfl | rfl | rfl | rfl | rfl | rfl | rfl | rfl | rfl | rfl | rfl | rfl | rfl | rfl | hk2
    · exact lv_tableIn (off := 164) (tgt := 208) hx hb dL_law_44 (by decide +kernel) (by decide +kernel) (by decide +kernel) (by decide) (lc_addDisc hE i hi hR hl hH hS ⟨by omega, by omega⟩ kont)
    · exact lv_tableIn (off := 244) (tgt := 288) hx hb dL_law_44 (by decide +kernel) (by decide +kernel) (by decide +kernel) (by decide) (lc_addBox hE i hi hR hl hH hS ⟨by omega, by omega⟩ kont)
    · exact lv_tableIn (off := 312) (tgt := 356) hx hb dL_law_44 (by decide +kernel) (by decide +kernel) (by decide +kernel) (by decide) (lc_setRisk hE i hi hR hl hH hS ⟨by omega, by omega⟩ kont)
    · exact lv_tableIn (off := 380) (tgt := 424) hx hb dL_law_44 (by decide +kernel) (by decide +kernel) (by decide +kernel) (by decide) (lc_setSeed hE i hi hR hl hH hS ⟨by omega, by omega⟩ kont)
    · exact lv_tableIn (off := 436) (tgt := 480) hx hb dL_law_44 (by decide +kernel) (by decide +kernel) (by decide +kernel) (by decide) (lc_insert hE i hi hR hl hH hS ⟨by omega, by omega⟩ kont)
    · exact lv_tableIn (off := 506) (tgt := 550) hx hb dL_law_44 (by decide +kernel) (by decide +kernel) (by decide +kernel) (by decide) (lc_press hE i hi hR hl hH hS ⟨by omega, by omega⟩ kont)
    · exact lv_tableIn (off := 574) (tgt := 618) hx hb dL_law_44 (by decide +kernel) (by decide +kernel) (by decide +kernel) (by decide) (lc_play hE i hi hR hl hH hS ⟨by omega, by omega⟩ kont)
    · exact lv_tableIn (off := 630) (tgt := 674) hx hb dL_law_44 (by decide +kernel) (by decide +kernel) (by decide +kernel) (by decide) (lc_getCredits hE i hi hR hl hH hS ⟨by omega, by omega⟩ kont)
    · exact lv_tableIn (off := 686) (tgt := 730) hx hb dL_law_44 (by decide +kernel) (by decide +kernel) (by decide +kernel) (by decide) (lc_getQueued hE i hi hR hl hH hS ⟨by omega, by omega⟩ kont)
    · exact lv_tableIn (off := 742) (tgt := 786) hx hb dL_law_44 (by decide +kernel) (by decide +kernel) (by decide +kernel) (by decide) (lc_getCents hE i hi hR hl hH hS ⟨by omega, by omega⟩ kont)
    · exact lv_tableIn (off := 798) (tgt := 842) hx hb dL_law_44 (by decide +kernel) (by decide +kernel) (by decide +kernel) (by decide) (lc_isJammed hE i hi hR hl hH hS ⟨by omega, by omega⟩ kont)
    · exact lv_tableIn (off := 861) (tgt := 905) hx hb dL_law_44 (by decide +kernel) (by decide +kernel) (by decide +kernel) (by decide) (lc_getWheel hE i hi hR hl hH hS ⟨by omega, by omega⟩ kont)
    · exact lv_tableIn (off := 929) (tgt := 973) hx hb dL_law_44 (by decide +kernel) (by decide +kernel) (by decide +kernel) (by decide) (lc_getNeedle hE i hi hR hl hH hS ⟨by omega, by omega⟩ kont)
    · exact lv_tableIn (off := 985) (tgt := 1029) hx hb dL_law_44 (by decide +kernel) (by decide +kernel) (by decide +kernel) (by decide) (lc_getWear hE i hi hR hl hH hS ⟨by omega, by omega⟩ kont)
    · exact lv_tableIn (off := 1041) (tgt := 1085) hx hb dL_law_44 (by decide +kernel) (by decide +kernel) (by decide +kernel) (by decide) (lc_getPlace hE i hi hR hl hH hS ⟨by omega, by omega⟩ kont)
    · exact lv_tableIn (off := 1097) (tgt := 1141) hx hb dL_law_44 (by decide +kernel) (by decide +kernel) (by decide +kernel) (by decide) (lc_discAt hE i hi hR hl hH hS ⟨by omega, by omega⟩ kont)
    · exact lv_tableIn (off := 1165) (tgt := 1209) hx hb dL_law_44 (by decide +kernel) (by decide +kernel) (by decide +kernel) (by decide) (lc_pull hE i hi hR hl hH hS ⟨by omega, by omega⟩ kont)
    · exact lv_tableIn (off := 1221) (tgt := 1265) hx hb dL_law_44 (by decide +kernel) (by decide +kernel) (by decide +kernel) (by decide) (lc_pullIn hE i hi hR hl hH hS ⟨by omega, by omega⟩ kont)
    · exact lv_tableIn (off := 1289) (tgt := 1333) hx hb dL_law_44 (by decide +kernel) (by decide +kernel) (by decide +kernel) (by decide) (lc_pass hE i hi hR hl hH hS ⟨by omega, by omega⟩ kont)
    · exact lv_tableIn (off := 1333) (tgt := 1377) hx hb dL_law_44 (by decide +kernel) (by decide +kernel) (by decide +kernel) (by decide) (lc_getWeek hE i hi hR hl hH hS ⟨by omega, by omega⟩ kont)
    · exact lv_tableIn (off := 1346) (tgt := 1390) hx hb dL_law_44 (by decide +kernel) (by decide +kernel) (by decide +kernel) (by decide) (lc_getMinutes hE i hi hR hl hH hS ⟨by omega, by omega⟩ kont)
    · exact lv_tableIn (off := 1359) (tgt := 1403) hx hb dL_law_44 (by decide +kernel) (by decide +kernel) (by decide +kernel) (by decide) (lc_visit hE i hi hR hl hH hS ⟨by omega, by omega⟩ kont)
    · exact lv_tableIn (off := 1415) (tgt := 1459) hx hb dL_law_44 (by decide +kernel) (by decide +kernel) (by decide +kernel) (by decide) (lc_getShort hE i hi hR hl hH hS ⟨by omega, by omega⟩ kont)
    · exact lv_tableIn (off := 1471) (tgt := 1515) hx hb dL_law_44 (by decide +kernel) (by decide +kernel) (by decide +kernel) (by decide) (lc_getShare hE i hi hR hl hH hS ⟨by omega, by omega⟩ kont)
    · exact lv_tableIn (off := 1527) (tgt := 1571) hx hb dL_law_44 (by decide +kernel) (by decide +kernel) (by decide +kernel) (by decide) (lc_getEarned hE i hi hR hl hH hS ⟨by omega, by omega⟩ kont)
    · exact lv_tableIn (off := 1540) (tgt := 1584) hx hb dL_law_44 (by decide +kernel) (by decide +kernel) (by decide +kernel) (by decide) (lc_change hE i hi hR hl hH hS ⟨by omega, by omega⟩ kont)
    · exact lv_tableIn (off := 1620) (tgt := 1664) hx hb dL_law_44 (by decide +kernel) (by decide +kernel) (by decide +kernel) (by decide) (lc_changeNeedle hE i hi hR hl hH hS ⟨by omega, by omega⟩ kont)
    · exact lv_tableIn (off := 1676) (tgt := 1720) hx hb dL_law_44 (by decide +kernel) (by decide +kernel) (by decide +kernel) (by decide) (lc_burn hE i hi hR hl hH hS ⟨by omega, by omega⟩ kont)
    · exact lv_tableIn (off := 1732) (tgt := 1776) hx hb dL_law_44 (by decide +kernel) (by decide +kernel) (by decide +kernel) (by decide) (lc_ask hE i hi hR hl hH hS ⟨by omega, by omega⟩ kont)
    · exact lv_tableIn (off := 1800) (tgt := 1844) hx hb dL_law_44 (by decide +kernel) (by decide +kernel) (by decide +kernel) (by decide) (lc_mostAsked hE i hi hR hl hH hS ⟨by omega, by omega⟩ kont)
    · exact lv_tableIn (off := 1856) (tgt := 1900) hx hb dL_law_44 (by decide +kernel) (by decide +kernel) (by decide +kernel) (by decide) (lc_least hE i hi hR hl hH hS ⟨by omega, by omega⟩ kont)
    · exact lv_tableIn (off := 1912) (tgt := 1956) hx hb dL_law_44 (by decide +kernel) (by decide +kernel) (by decide +kernel) (by decide) (lc_worth hE i hi hR hl hH hS ⟨by omega, by omega⟩ kont)
    · exact lv_tableIn (off := 1992) (tgt := 2036) hx hb dL_law_44 (by decide +kernel) (by decide +kernel) (by decide +kernel) (by decide) (lc_bestWorth hE i hi hR hl hH hS ⟨by omega, by omega⟩ kont)
    · exact lv_tableIn (off := 2060) (tgt := 2104) hx hb dL_law_44 (by decide +kernel) (by decide +kernel) (by decide +kernel) (by decide) (lc_wornShare hE i hi hR hl hH hS ⟨by omega, by omega⟩ kont)
    · exact lv_tableIn (off := 2126) (tgt := 2170) hx hb dL_law_44 (by decide +kernel) (by decide +kernel) (by decide +kernel) (by decide) (lc_meanPull hE i hi hR hl hH hS ⟨by omega, by omega⟩ kont)
    · exact lv_tableIn (off := 2191) (tgt := 2235) hx hb dL_law_44 (by decide +kernel) (by decide +kernel) (by decide +kernel) (by decide) (lc_checksum hE i hi hR hl hH hS ⟨by omega, by omega⟩ kont)
    · exact lv_tableIn (off := 2205) (tgt := 2249) hx hb dL_law_44 (by decide +kernel) (by decide +kernel) (by decide +kernel) (by decide) (lc_isSound hE i hi hR hl hH hS ⟨by omega, by omega⟩ kont)
    · exact lv_tableOut (tgt := 2262) hx hb dL_law_44 (Or.inr (by rw [nI_toInt (by omega)]; omega)) (by decide) (kont o g x y H locs ls cells slots (by omega) (by omega) (hR.up (by omega)) hl hH hS)
