/-! ===== the law's wrappers ===== -/
def wNc : List (String × String) := ["java/lang/IndexOutOfBoundsException", "java/lang/IllegalArgumentException", "java/lang/IllegalStateException", "java/lang/UnsupportedOperationException", "java/lang/ArithmeticException", "java/util/NoSuchElementException"].flatMap (fun a => (["java/lang/IndexOutOfBoundsException", "java/lang/IllegalArgumentException", "java/lang/IllegalStateException", "java/lang/UnsupportedOperationException", "java/lang/ArithmeticException", "java/util/NoSuchElementException"].filter (fun b => b != a)).map (fun b => (a, b)))
def wN (U : State) : Prop := ∀ q ∈ wNc, va_Nc q.1 q.2 U
theorem wN.moved {u U : State} (hvm : u.vm.Alike U.vm) (h : wN u) : wN U := fun q hq => (h q hq).moved hvm
def wPreL (E : wE) (o : wO) (g : Nat → Nat) (x y : St) (U : State) : Prop := wPreZ E o g x y U ∧ wN U
theorem wPreL.calling {E : wE} {o : wO} {g : Nat → Nat} {x y : St} {U : State} (h : wPreL E o g x y U) (a : Array Value) (f : JFrame) (mk : MethodId) : wPreL E o g x y (U.calling f mk a) := ⟨wPreZ.calling h.1 a f mk, h.2.moved (Vm.Alike.refl U.vm)⟩
theorem wPreL_at {E : wE} {o : wO} {g : Nat → Nat} {x y : St} {s : State} {H : Heap} {locs : List Loc} (hz : E.2.2 ≤ s.heap.size) (hS : va_S (wA E) s.heap H locs) (hH : wHS E o g x y H) (hK : va_K E.1 vwCl (wTys E.2.1) s) (hC : wC E s s.heap) (hD : wD E s s.heap) (hN : wN s) (U : State) (hU : U.heap = H) (hW : s.WarmedH U.vm) : wPreL E o g x y U := ⟨wPreZ_at hz hS hH hK hC hD U hU hW, hN.moved hW.alike⟩
/-- the number that a wrapper answers for a class of exceptions -/
def lcd (lst : List String) (X : String) : Int32 := nI (lst.findIdx (fun a => a == X) + 1)
abbrev lRes (lst : List String) (r : Int32) (v : Int64) (res : Option String × Int32 × St) : Prop := (res.1 = none → r = 0 ∧ v = res.2.1.toInt64) ∧ ∀ X, res.1 = some X → r = lcd lst X
abbrev lResZ (lst : List String) (r : Int32) (v : Int64) (res : Option String × Int32 × St) : Prop := (res.1 = none → r = 0 ∧ v = if res.2.1 = 0 then 0 else 1) ∧ ∀ X, res.1 = some X → r = lcd lst X
abbrev lResF (lst : List String) (r : Int32) (v : UInt64) (res : Option String × UInt32 × St) : Prop := (res.1 = none → r = 0 ∧ v = FP.f2d res.2.1) ∧ ∀ X, res.1 = some X → r = lcd lst X
abbrev lResD (lst : List String) (r : Int32) (v : UInt64) (res : Option String × UInt64 × St) : Prop := (res.1 = none → r = 0 ∧ v = res.2.1) ∧ ∀ X, res.1 = some X → r = lcd lst X
theorem po_l {E : wE} {o : wO} {g : Nat → Nat} {x y : St} {H : Heap} {f : Nat → Int64} (h : wH E.1 E.2.2 g (liv x.1) (va_up (cel E.2.1 g x y o.1 o.2) 40 (.inl (E.2.1.1 4, 1, .inr (.inl f)))) H) : wHS E (f, o.2) g x y H := by
  refine wH_to h (fun _ h => h) rfl (fun t ht => ?_)
  unfold cel
  by_cases h1 : t < 10
  · rw [if_pos h1, if_pos h1]
  rw [if_neg h1, if_neg h1]
  by_cases h2 : t < 40
  · rw [if_pos h2, if_pos h2]
  rw [if_neg h2, if_neg h2]
  by_cases h3 : t < 100
  · rw [if_pos h3, if_pos h3]
    unfold cOt
    split <;> first | rfl | exact absurd rfl ht
  rw [if_neg h3, if_neg h3]
theorem po_d {E : wE} {o : wO} {g : Nat → Nat} {x y : St} {H : Heap} {f : Nat → UInt64} (h : wH E.1 E.2.2 g (liv x.1) (va_up (cel E.2.1 g x y o.1 o.2) 41 (.inl (E.2.1.1 5, 1, .inr (.inr (.inr (.inl f)))))) H) : wHS E (o.1, f) g x y H := by
  refine wH_to h (fun _ h => h) rfl (fun t ht => ?_)
  unfold cel
  by_cases h1 : t < 10
  · rw [if_pos h1, if_pos h1]
  rw [if_neg h1, if_neg h1]
  by_cases h2 : t < 40
  · rw [if_pos h2, if_pos h2]
  rw [if_neg h2, if_neg h2]
  by_cases h3 : t < 100
  · rw [if_pos h3, if_pos h3]
    unfold cOt
    split <;> first | rfl | exact absurd rfl ht
  rw [if_neg h3, if_neg h3]
