/-! ===== the law: what holds throughout ===== -/
def lwE (p : Program) (l : Launch) (s : State) (m : MethodId) (meth : Method) (c : Code) (E : wE) (b L : Nat) (xs : Nat → Int32) : Prop :=
  p.tables.exec = Jvm.exec ∧ c.code = code ∧ c.maxLocals = 9 ∧ s.vm.findClass RL = some m.cls ∧ (∀ w ∈ wsL_law, w.before #[Value.ref b] s = true) ∧ meth.sig.returnType = ret ∧ meth.locks = false ∧ va_X b L xs s s.heap ∧ b < s.heap.size ∧ ¬ wA E b ∧ E.2.2 ≤ s.heap.size ∧ va_K E.1 vwCl (wTys E.2.1) s ∧ wC E s s.heap ∧ wD E s s.heap ∧ wN s ∧ l.stackTraces = false ∧ L ≤ 2048
abbrev lwL (b : Nat) (g : Nat → Nat) (i : Nat) : List (Nat × Value) := [(5, .int (nI (4 * i))), (0, .ref b), (1, .ref (g 0)), (2, .ref (g 10)), (3, .ref (g 40)), (4, .ref (g 41))]
