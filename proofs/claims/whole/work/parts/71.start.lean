def coinNm : List String := ["NICKEL", "DIME", "QUARTER", "SLUG"]
def coinD : String := "LSelectoRoute$Coin;"
def coinsT : Term := .static "SelectoRoute" "COINS" "[LSelectoRoute$Coin;"
def emptyT : Term := .static "java/util/ArrayList" "DEFAULTCAPACITY_EMPTY_ELEMENTDATA" "[Ljava/lang/Object;"
set_option maxHeartbeats 4000000 in
set_option maxRecDepth 100000 in
theorem law_coin {A : Array Value} {s : State} {E : wE} (hE : E.2.2 = s.heap.size) (hts : ∀ w ∈ lw_tbl, w.before A s = true) (hgv : (Jvm.Cond.and given_1 narrow_1).before A s = true) : wCoin E s s.heap := by
  have hs := flat_of_before _ hgv
  have hA : ∀ a : Nat, a < s.heap.size → ¬ wA E a := fun a h q => absurd (show E.2.2 ≤ a from q) (by rw [hE]; omega)
  have hex : ∀ q ∈ List.range 4, (Cond.exactly (.static "SelectoRoute$Coin" (coinNm.getD q "") coinD) "SelectoRoute$Coin").before A s = true := mem_f (f := fun q => Cond.exactly (.static "SelectoRoute$Coin" (coinNm.getD q "") coinD) "SelectoRoute$Coin") hs (by decide +kernel)
  have h1 : ∀ q ∈ List.range 4, (Cond.eq (.field (.static "SelectoRoute$Coin" (coinNm.getD q "") coinD) "SelectoRoute$Coin" "sign" "I") (.int (cSg q))).before A s = true := mem_f (f := fun q => Cond.eq (.field (.static "SelectoRoute$Coin" (coinNm.getD q "") coinD) "SelectoRoute$Coin" "sign" "I") (.int (cSg q))) hs (by decide +kernel)
  have h2 : ∀ q ∈ List.range 4, (Cond.eq (.field (.static "SelectoRoute$Coin" (coinNm.getD q "") coinD) "SelectoRoute$Coin" "credits" "I") (.int (cCr q))).before A s = true := mem_f (f := fun q => Cond.eq (.field (.static "SelectoRoute$Coin" (coinNm.getD q "") coinD) "SelectoRoute$Coin" "credits" "I") (.int (cCr q))) hs (by decide +kernel)
  have h3 : ∀ q ∈ List.range 4, (Cond.eq (.field (.static "SelectoRoute$Coin" (coinNm.getD q "") coinD) "SelectoRoute$Coin" "cents" "I") (.int (cCe q))).before A s = true := mem_f (f := fun q => Cond.eq (.field (.static "SelectoRoute$Coin" (coinNm.getD q "") coinD) "SelectoRoute$Coin" "cents" "I") (.int (cCe q))) hs (by decide +kernel)
  have hel : ∀ q ∈ List.range 4, (Cond.eq (.elem coinsT (.int (Int32.ofNat q))) (.static "SelectoRoute$Coin" (coinNm.getD q "") coinD)).before A s = true := mem_f (f := fun q => Cond.eq (.elem coinsT (.int (Int32.ofNat q))) (.static "SelectoRoute$Coin" (coinNm.getD q "") coinD)) hs (by decide +kernel)
  have had : ∀ i : Nat, ∃ a : Nat, i < 4 → (Term.static "SelectoRoute$Coin" (coinNm.getD i "") coinD).eval A s none [] s = some (.ref a) := by
    intro i
    by_cases hi : i < 4
    · obtain ⟨a, c, cell, k, q1, -⟩ := Cond.exactly_spec (args := A) (first := s) (o := none) (s := s) (idx := []) (hex i (List.mem_range.mpr hi))
      exact ⟨a, fun _ => q1⟩
    · exact ⟨0, fun h => absurd h hi⟩
  obtain ⟨ad, had⟩ : ∃ ad : Nat → Nat, ∀ i, i < 4 → (Term.static "SelectoRoute$Coin" (coinNm.getD i "") coinD).eval A s none [] s = some (.ref (ad i)) := ⟨fun i => Classical.choose (had i), fun i => Classical.choose_spec (had i)⟩
  have hlen : (Term.length coinsT).eval A s none [] s = some (.int (Int32.ofNat 4)) := va_eqv (hs (.eq (.length coinsT) (.int 4)) (by decide +kernel)) rfl
  obtain ⟨t, ht, hT⟩ := va_Tof (tm := coinsT) (ty := .object "SelectoRoute$Coin") (N := 4) (f := fun i => .ref (ad i)) (by decide) (hs (.arrayOf coinsT (.object "SelectoRoute$Coin")) (by decide +kernel)) hlen (fun j hj => va_eqv (hel j (List.mem_range.mpr hj)) (had j hj)) hA
  refine ⟨t, ad, va_Zof (hts (.laysStatic "SelectoRoute" "COINS" "[LSelectoRoute$Coin;") (by decide +kernel)) (hts (.initialized "SelectoRoute") (by decide +kernel)) ht hA, hT, ?_, ?_, ?_⟩
  · exact va_Efof (E := "SelectoRoute$Coin") (d0 := coinD) (nm := coinNm) (tm := fun i => .int (cSg i)) had (fun i hi => h1 i (List.mem_range.mpr hi)) (fun i hi => rfl) hA
  · exact va_Efof (E := "SelectoRoute$Coin") (d0 := coinD) (nm := coinNm) (tm := fun i => .int (cCr i)) had (fun i hi => h2 i (List.mem_range.mpr hi)) (fun i hi => rfl) hA
  · exact va_Efof (E := "SelectoRoute$Coin") (d0 := coinD) (nm := coinNm) (tm := fun i => .int (cCe i)) had (fun i hi => h3 i (List.mem_range.mpr hi)) (fun i hi => rfl) hA
set_option maxHeartbeats 4000000 in
set_option maxRecDepth 100000 in
theorem law_wN {A : Array Value} {s : State} (hgv : (Jvm.Cond.and given_1 narrow_1).before A s = true) : wN s := by
  have hs := flat_of_before _ hgv
  have h := mem_f (xs := wNc) (f := fun q => Cond.not (.castable q.1 q.2)) hs (by decide +kernel)
  exact fun q hq => va_Nc.of (h q hq)
set_option maxHeartbeats 4000000 in
set_option maxRecDepth 100000 in
theorem law_C {A : Array Value} {s : State} (hts : ∀ w ∈ lw_tbl, w.before A s = true) (hgv : (Jvm.Cond.and given_1 narrow_1).before A s = true) : ∃ e0 : Nat, ∀ E : wE, E.2.2 = s.heap.size → E.2.1.2 = e0 → wC E s s.heap := by
  have hs := flat_of_before _ hgv
  have hsr := mem_f (xs := wStr) (f := fun q => Cond.stringRef RX4 q.1 q.2) hts (by decide +kernel)
  have hse := mem_f (xs := wStr) (f := fun q => Cond.exactly (.string RX4 q.1) "java/lang/String") hs (by decide +kernel)
  have hca := mem_f (xs := wCas) (f := fun q => Cond.castable q.1 q.2) hts (by decide +kernel)
  have hde := mem_f (xs := wDec) (f := fun q => Cond.declares (Bundle.initS q)) hts (by decide +kernel)
  have hlen : (Term.length emptyT).eval A s none [] s = some (.int (Int32.ofNat 0)) := va_eqv (hs (.eq (.length emptyT) (.int 0)) (by decide +kernel)) rfl
  obtain ⟨t, ht, hT⟩ := va_Tof (A := fun a => s.heap.size ≤ a) (tm := emptyT) (ty := .object "java/lang/Object") (N := 0) (f := fun _ => .null) (by decide) (hs (.arrayOf emptyT (.object "java/lang/Object")) (by decide +kernel)) hlen (fun j hj => absurd hj (Nat.not_lt_zero j)) (fun a h q => absurd q (by omega))
  refine ⟨t, fun E hE he => ?_⟩
  have hA : ∀ a : Nat, a < s.heap.size → ¬ wA E a := fun a h q => absurd (show E.2.2 ≤ a from q) (by rw [hE]; omega)
  have hT : va_T (.object "java/lang/Object") t 0 (fun _ => .null) (wA E) s s.heap := by
    have e : wA E = fun a => s.heap.size ≤ a := by unfold wA; rw [hE]
    rw [e]; exact hT
  refine ⟨vx_Zqof (hts (.laysStatic Bundle.tN "UNASSIGNED_STACK" Bundle.steD) (by decide +kernel)) (hts (.initialized Bundle.tN) (by decide +kernel)) (hs (.isRef (.static Bundle.tN "UNASSIGNED_STACK" Bundle.steD)) (by decide +kernel)) hA, vx_Zqof (hts (.laysStatic Bundle.tN "SUPPRESSED_SENTINEL" Bundle.listD) (by decide +kernel)) (hts (.initialized Bundle.tN) (by decide +kernel)) (hs (.isRef (.static Bundle.tN "SUPPRESSED_SENTINEL" Bundle.listD)) (by decide +kernel)) hA, fun q hq => ?_, fun q hq => va_Nw.of rfl (hca q hq), ?_, ?_, fun q hq => va_Nw.of rfl (hde q hq)⟩
  · obtain ⟨a, c, cell, k, q1, -⟩ := Cond.exactly_spec (args := A) (first := s) (o := none) (s := s) (idx := []) (hse q hq)
    exact ⟨a, vk_R.of (hsr q hq) q1⟩
  · rw [he]; exact va_Zof (hts (.laysStatic "java/util/ArrayList" "DEFAULTCAPACITY_EMPTY_ELEMENTDATA" "[Ljava/lang/Object;") (by decide +kernel)) (hts (.initialized "java/util/ArrayList") (by decide +kernel)) ht hA
  · rw [he]; exact hT
set_option maxHeartbeats 4000000 in
set_option maxRecDepth 100000 in
theorem law_E {A : Array Value} {s : State} (hts : ∀ w ∈ lw_tbl, w.before A s = true) (hgv : (Jvm.Cond.and given_1 narrow_1).before A s = true) : ∃ E : wE, E.2.2 = s.heap.size ∧ va_K E.1 vwCl (wTys E.2.1) s ∧ wC E s s.heap ∧ wD E s s.heap ∧ wN s := by
  have hs := flat_of_before _ hgv
  obtain ⟨D, q, hK⟩ := law_K hts
  obtain ⟨e0, hC⟩ := law_C hts hgv
  refine ⟨(D, (q, e0), s.heap.size), rfl, hK e0, hC _ rfl rfl, ⟨va_Mi.of (hs (.isRef (.mirror "[Ljava/lang/Object;")) (by decide +kernel)), va_AO.of (hts (.arrayOver (.object "java/lang/Object")) (by decide +kernel)), va_AO.of (hts (.arrayOver (.object "SelectoRoute$Slot")) (by decide +kernel)), va_Dc.of (hts (.declares ⟨"java/lang/Object", "getClass", "()Ljava/lang/Class;"⟩) (by decide +kernel)), law_coin rfl hts hgv⟩, law_wN hgv⟩
