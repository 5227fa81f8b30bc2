/-! ===== ArrayList: writes (any world) ===== -/
section ROWS2
variable {p : Program} {l : Launch} {e : Env} {R : Room} {s : State} {m : MethodId} {args : Array Value} {below : List Frame} {meth : Method} {c : Code} {H : Heap} {locs : List Loc} {cells slots : Nat} {Q : State → Prop}
variable {cc : ByteArray} {pc : Nat} {ls : Array Slot} {rest : List Value} {D : va_G} {tys : List (ClassId × FieldType)} {H0 : Heap} {sz0 : Nat} {g : Nat → Nat} {live : Nat → Prop} {F : Nat → va_E}
theorem wr_copyM (hx : p.tables.exec = Jvm.exec) (hb : c.code = cc) (hml : c.maxLocals = ls.size) {own : String} {index : Nat} (hown : s.vm.findClass own = some m.cls) (hlink : (Cond.methodLink own index arraycopyName).before args s = true) (hnat : (Cond.native arraycopyName).before args s = true) (hstat : (Cond.static arraycopyName).before args s = true) (hini : (Cond.initialized "java/lang/System").before args s = true)
    (hK : va_K D vwCl tys s) (hH : wH D sz0 g live F H) (hS : va_S (fun q => sz0 ≤ q) H0 H locs) {ta tb : Nat} (hta : live ta) (htb : live tb) (t0 t1 : Nat) {c0 c1 : ClassId} {n0 n1 : Nat} {f gf : Nat → Option Nat} {E0 E1 : String} (hFa : F ta = .inl (c0, n0, .inr (.inr (.inr (.inr f))))) (hFb : F tb = .inl (c1, n1, .inr (.inr (.inr (.inr gf))))) (ht0 : tys[t0]? = some (c0, .object E0)) (ht1 : tys[t1]? = some (c1, .object E1))
    {sp dp n : Int32} (h1 : ¬ sp < 0) (h2 : ¬ dp < 0) (h3 : ¬ n < 0) (h4 : sp.toNatClampNeg + n.toNatClampNeg ≤ n0) (h5 : dp.toNatClampNeg + n.toNatClampNeg ≤ n1) (hel : ∀ i : Nat, i < n.toNatClampNeg → ∀ y : Nat, f (sp.toNatClampNeg + i) = some y → va_Any E1 s H y)
    (hframes : 1 ≤ R.frames) (hlocals : (rest.map fun v => v.category).sum + (nativeFrameWords "java/lang/System" "arraycopy" 5 + 11) ≤ R.locals) (hdg : decode cc pc = .ok (.invokestatic index, 3))
    (kk : ∀ (H1 : Heap) (locs1 : List Loc), wH D sz0 g live (va_up F tb (.inl (c1, n1, .inr (.inr (.inr (.inr (va_cpy f gf sp.toNatClampNeg dp.toNatClampNeg n.toNatClampNeg))))))) H1 → va_S (fun q => sz0 ≤ q) H0 H1 locs1 → W p l e R s m args below meth c H1 locs1 cells slots Q (F0 m (pc + 3) ls rest)) : W p l e R s m args below meth c H locs cells slots Q (F0 m pc ls (.int n :: .int dp :: .ref (g tb) :: .int sp :: .ref (g ta) :: rest)) := by
  obtain ⟨q0, -, k0⟩ := wW_get hH hta
  obtain ⟨q1, k1, k2⟩ := wW_get hH htb
  rw [hFa] at k0
  rw [hFb] at k2
  exact va_copyM hx hb hml hown hlink hnat hstat hini hK (wW_P hH) (wW_D hH) hS q0 q1 t0 t1 k0 k2 ht0 ht1 h1 h2 h3 h4 h5 hel hframes hlocals hdg (fun H1 locs1 hP hD hS1 => kk H1 locs1 (wH_put hH.1 k1 hP hD) hS1)
theorem wr_cls (hK : va_K D vwCl tys s) (hH : wH D sz0 g live F H) {t : Nat} (ht : live t) {cA : ClassId} {C : String} {n : Nat} {f : Nat → Option Nat} (hF : F t = .inl (cA, n, .inr (.inr (.inr (.inr f))))) (t0 : Nat) (hty : tys[t0]? = some (cA, .object C)) : ∃ cell : Cell, H[g t]? = some cell ∧ cell.vm.isStatics = false ∧ s.vm.findClass ("[" ++ (FieldType.object C).toString) = some cell.cls := by
  have h1 := hH.2.1 t ht
  rw [hF] at h1
  have h2 : H[g t]? = some (vp_cell cA (n, .inr (.inr (.inr (.inr f))))) := h1
  obtain ⟨kA, comp, k1, k2, k3, k4⟩ := (hK.2 t0 _ hty).2
  exact ⟨_, h2, rfl, k4⟩
theorem wr_any {E : String} (hK : va_K D vwCl tys s) (hH : wH D sz0 g live F H) {tv ci : Nat} {vs : List Value} {r : vw_C} (hl : live tv) (hF : F tv = .inr (ci, vs)) (hc : vwCl[ci]? = some r) (hca : va_Nw (.castable r.1 E) s) : va_Any E s H (g tv) := by
  refine va_rAny hK (wH_one hH hl hF) (q0 := 0) rfl hc (fun comp c0 h1 h2 => ?_)
  obtain ⟨c1, t1, f1, f2, f3⟩ := Cond.castable_spec (va_Nw.use (A := #[]) rfl hca)
  cases h2.symm.trans f1
  cases h1.symm.trans f2
  exact f3
end ROWS2
theorem push_eq {n v : Nat} {f : Nat → Nat} (h : n < 2 ^ 31) : (va_up (fun i => if i < n then some (f i) else none) (nI n).toNatClampNeg (some v)) = (fun i => if i < n + 1 then some (va_up f n v i) else none) := by
  rw [nI_clamp h]
  funext i
  simp only [va_up]
  by_cases e : i = n
  · subst e; simp
  · simp only [e, ↓reduceIte]
    by_cases q : i < n
    · rw [if_pos q, if_pos (by omega)]
    · rw [if_neg q, if_neg (by omega)]
theorem cut_eq {n : Nat} {f : Nat → Nat} (h : n + 1 < 2 ^ 31) : (va_up (va_cpy (fun i => if i < n + 1 then some (f i) else none) (fun i => if i < n + 1 then some (f i) else none) (1 : Int32).toNatClampNeg (0 : Int32).toNatClampNeg (nI n).toNatClampNeg) (nI n).toNatClampNeg none) = (fun i => if i < n then some (f (i + 1)) else none) := by
  rw [nI_clamp (by omega), show (1 : Int32).toNatClampNeg = 1 from rfl, show (0 : Int32).toNatClampNeg = 0 from rfl]
  funext i
  simp only [va_up, va_cpy]
  by_cases e : i = n
  · subst e; simp
  · simp only [e, ↓reduceIte]
    by_cases q : i < n
    · rw [if_pos (by omega), if_pos (by omega), if_pos q, show 1 + (i - 0) = i + 1 by omega]
    · rw [if_neg (by omega), if_neg (by omega), if_neg q]
theorem cut_eq0 {f : Nat → Nat} : (va_up (fun i => if i < 1 then some (f i) else none) (nI 0).toNatClampNeg none) = (fun i => if i < 0 then some (f (i + 1)) else none) := by
  rw [show (nI 0).toNatClampNeg = 0 from rfl]
  funext i
  simp only [va_up]
  by_cases e : i = 0
  · subst e; simp
  · simp only [e, ↓reduceIte]
    rw [if_neg (by omega), if_neg (by omega)]
theorem copy_eq {n mm : Nat} {f : Nat → Nat} (h : n ≤ mm) (hm : mm < 2 ^ 31) : (va_cpy (fun i => if i < n then some (f i) else none) (fun _ => none) (0 : Int32).toNatClampNeg (0 : Int32).toNatClampNeg (nI n).toNatClampNeg) = (fun i => if i < n then some (f i) else none) := by
  rw [nI_clamp (by omega), show (0 : Int32).toNatClampNeg = 0 from rfl]
  funext i
  simp only [va_cpy]
  by_cases q : i < n
  · rw [if_pos (by omega), if_pos (by omega), if_pos q, show 0 + (i - 0) = i by omega]
  · rw [if_neg (by omega), if_neg q]
