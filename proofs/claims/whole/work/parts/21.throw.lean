/-! ===== what never changes in a run: statics, texts, casts; methods that throw ===== -/
def wStr : List (Nat × String) := [(39, "song, strength or week out of range"), (50, "no room for another disc"), (65, "share or taste out of range"), (67, "no room for another box"), (79, "risk out of range"), (85, "seed out of range"), (91, "no such coin"), (99, "the box is jammed"), (108, "too many credits"), (124, "no credit, or an empty slot"), (129, "the queue is full"), (137, "the queue is empty"), (170, "the slot is empty"), (186, "it is the last week"), (199, "already visited, or too few minutes"), (223, "not visited, the disc not in the van, or too few minutes"), (229, "not visited, or too few minutes"), (231, "the disc is not in the van"), (236, "no such song"), (238, "asked for too often"), (240, "no song is asked for"), (246, "all slots are empty"), (253, "so many changes are out of range"), (264, "no disc that is not burnt"), (267, "no disc in a box"), (294, "no such box"), (297, "no such disc"), (299, "no such slot")]
def xI : String := "java/lang/IndexOutOfBoundsException"
def xA : String := "java/lang/IllegalArgumentException"
def xS : String := "java/lang/IllegalStateException"
def xU : String := "java/lang/UnsupportedOperationException"
def xR : String := "java/lang/ArithmeticException"
def xN : String := "java/util/NoSuchElementException"
/-- casts that hold -/
def wCas : List (String × String) := [("java/lang/IndexOutOfBoundsException", "java/lang/IndexOutOfBoundsException"), ("java/lang/IllegalArgumentException", "java/lang/IllegalArgumentException"), ("java/lang/IllegalStateException", "java/lang/IllegalStateException"), ("java/lang/UnsupportedOperationException", "java/lang/UnsupportedOperationException"), ("java/lang/ArithmeticException", "java/lang/ArithmeticException"), ("java/util/NoSuchElementException", "java/util/NoSuchElementException"), ("SelectoRoute$Disc", "java/lang/Object"), ("SelectoRoute$Box", "java/lang/Object"), ("SelectoRoute$Slot", "java/lang/Object")]
/-- constructors that a chain of exceptions names -/
def wDec : List String := ["java/lang/RuntimeException", "java/lang/Exception", "java/lang/Throwable"]
def wC (E : wE) (U : State) (H : Heap) : Prop :=
  vx_Zq Bundle.tN "UNASSIGNED_STACK" Bundle.steD (wA E) U H ∧ vx_Zq Bundle.tN "SUPPRESSED_SENTINEL" Bundle.listD (wA E) U H ∧ (∀ q ∈ wStr, ∃ a, vk_R RX4 q.1 q.2 a U) ∧ (∀ q ∈ wCas, va_Nw (.castable q.1 q.2) U) ∧
  va_Z "java/util/ArrayList" "DEFAULTCAPACITY_EMPTY_ELEMENTDATA" "[Ljava/lang/Object;" (.ref E.2.1.2) (wA E) U H ∧ va_T (.object "java/lang/Object") E.2.1.2 0 (fun _ => .null) (wA E) U H ∧ (∀ q ∈ wDec, va_Nw (.declares (Bundle.initS q)) U)
theorem wC.call {E : wE} {s U : State} {H : Heap} {locs : List Loc} (h : wC E s s.heap) (hS : va_S (wA E) s.heap H locs) (hU : U.heap = H) (hW : s.WarmedH U.vm) : wC E U U.heap := by
  obtain ⟨h1, h2, h3, h4, h5, h6, h7⟩ := h
  rw [hU]
  exact ⟨vx_Zq.moved hW.alike (h1.kept hS.2.1), vx_Zq.moved hW.alike (h2.kept hS.2.1), fun q hq => by obtain ⟨a, ha⟩ := h3 q hq; exact ⟨a, vk_R.warm hW ha⟩, fun q hq => va_Nw.warmC hW (h4 q hq), (h5.kept hS.2.1).moved hW.alike, (h6.kept hS.2.1).moved hW.alike, fun q hq => va_Nw.warmD hW (h7 q hq)⟩
theorem wC.calling {E : wE} {U : State} (h : wC E U U.heap) (a : Array Value) (f : JFrame) (mk : MethodId) : wC E (U.calling f mk a) (U.calling f mk a).heap := by
  obtain ⟨h1, h2, h3, h4, h5, h6, h7⟩ := h
  have al : U.vm.Alike (U.calling f mk a).vm := Vm.Alike.refl U.vm
  exact ⟨vx_Zq.moved al h1, vx_Zq.moved al h2, fun q hq => by obtain ⟨b, hb⟩ := h3 q hq; exact ⟨b, vk_R.same rfl hb⟩, fun q hq => va_Nw.same rfl rfl (h4 q hq), h5.moved al, h6.moved al, fun q hq => va_Nw.same rfl rfl (h7 q hq)⟩
def wPreX (E : wE) (o : wO) (g : Nat → Nat) (x y : St) (U : State) : Prop := wPre E o g x y U ∧ wC E U U.heap
theorem wPreX.calling {E : wE} {o : wO} {g : Nat → Nat} {x y : St} {U : State} (h : wPreX E o g x y U) (a : Array Value) (f : JFrame) (mk : MethodId) : wPreX E o g x y (U.calling f mk a) := ⟨wPre.calling h.1 a f mk, wC.calling h.2 a f mk⟩
theorem wPreX_at {E : wE} {o : wO} {g : Nat → Nat} {x y : St} {s : State} {H : Heap} {locs : List Loc} (hz : E.2.2 ≤ s.heap.size) (hS : va_S (wA E) s.heap H locs) (hH : wHS E o g x y H) (hK : va_K E.1 vwCl (wTys E.2.1) s) (hC : wC E s s.heap) (U : State) (hU : U.heap = H) (hW : s.WarmedH U.vm) : wPreX E o g x y U := ⟨wPre_at hz hS hH hK U hU hW, wC.call hC hS hU hW⟩
/-- an exception's world: the state as it was -/
abbrev wXC (E : wE) (o : wO) (g : Nat → Nat) (x y : St) (K : String → Prop) : String → State → State → Prop := vx_X (fun (_ : Unit) => True) (fun X _ t => K X ∧ wHS E o g x y t.heap) (wA E)
theorem wX_of {E : wE} {o : wO} {g : Nat → Nat} {x y : St} {s : State} {H : Heap} {locs : List Loc} {K : String → Prop} {cls : String} (hS : va_S (wA E) s.heap H locs) (hH : wHS E o g x y H) (hk : K cls) : ∀ t : State, s.vm.Alike t.vm → H.size ≤ t.heap.size → (∀ q : Nat, q < H.size → t.heap[q]? = H[q]?) → wXC E o g x y K cls s t :=
  fun t _ h1 h2 => ⟨(), trivial, ⟨hk, wH.kept hH h2⟩, Nat.le_trans hS.1 h1, fun q a b => (h2 q (Nat.lt_of_lt_of_le a hS.1)).trans (hS.2.1 q a b)⟩
/-- .. passed on -/
theorem wX_on {E : wE} {o : wO} {g : Nat → Nat} {x y : St} {s : State} {H : Heap} {locs : List Loc} {K : String → Prop} {cls : String} (hS : va_S (wA E) s.heap H locs) (hH : wHS E o g x y H) (hk : K cls) : ∀ t : State, t.heap = H → s.vm.Alike t.vm → wXC E o g x y K cls s t :=
  fun t ht _ => ⟨(), trivial, ⟨hk, wHS_t ht hH⟩, hS.F ht⟩
theorem inB_neg {x : Int32} {n : Nat} (h : x < 0) : inB x n = false := by
  rw [Bool.eq_false_iff]
  intro q
  exact (inB_vp.mp q) (Or.inl h)
theorem inB_big {j n : Nat} (h : n ≤ j) (hj : j < 2 ^ 31) : inB (nI j) n = false := by
  rw [Bool.eq_false_iff]
  intro q
  refine (inB_vp.mp q) (Or.inr ?_)
  rw [nI_clamp hj]
  exact h
