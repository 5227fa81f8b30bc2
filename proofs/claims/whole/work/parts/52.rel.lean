/-! ===== the class and the model, side by side ===== -/
/-- how large the numbers are behind k calls -/
def BK (k : Nat) (x : St) : Prop := (∀ d, d < x.1 0 0 → 1 ≤ (x.2 1 d).toInt ∧ (x.2 1 d).toInt ≤ 50 ∧ 0 ≤ (x.2 2 d).toInt ∧ (x.2 2 d).toInt ≤ 99) ∧ (∀ d, 0 ≤ (x.2 3 d).toInt ∧ (x.2 3 d).toInt ≤ 20000) ∧ ∀ j, 0 ≤ (x.2 9 j).toInt ∧ (x.2 9 j).toInt ≤ 100 * (k : Int)
/-- where a disc stands, there it lies -/
def CK (x : St) : Prop := ∀ d, d < x.1 0 0 → 2 ≤ x.1 8 d → x.1 7 (x.1 8 d - 2) = d + 1
/-- what landlords and the route got is what was taken -/
def CSm (x : St) : Prop := fU (stH x) (x.2 18 0) (x.1 1 0) = x.2 19 0
def EQ (x y : St) : Prop := (∀ k, k = 0 ∨ k = 1 ∨ k = 5 ∨ k = 7 ∨ k = 9 ∨ k = 12 → ∀ i, x.1 k i = y.1 k i) ∧ (∀ d, d < x.1 0 0 → x.1 8 d = y.1 8 d) ∧ (∀ j i, j < 4 → i < x.1 5 j → x.1 (50 + j) i = y.1 6 (8 * j + i)) ∧ (∀ j, j < 4 → y.1 11 j = if x.1 10 j = x.1 9 0 + 1 then 1 else 0) ∧ (∀ k, (1 ≤ k ∧ k ≤ 14) ∨ k = 16 ∨ k = 17 ∨ k = 18 → ∀ i, x.2 k i = y.2 k i) ∧ (∀ j s, j < 4 → s < 100 → x.2 (100 + j) s = y.2 15 (100 * j + s))
def Rel (k : Nat) (x y : St) : Prop := CI x ∧ CJ x ∧ CK x ∧ CQ x ∧ FrD x ∧ FrB x ∧ MI y ∧ BK k x ∧ CSm x ∧ EQ x y
/-- one call: the class's answer or throw, and the model's -/
def Sim {α : Type} (lst : List String) (res : Option String × α × St) (rm : α × St) (k : Nat) : Prop := (res.1 = none → rm.2.2 28 0 = 0) ∧ (∀ X, res.1 = some X → rm.2.2 28 0 = lcd lst X) ∧ (res.1 = none → res.2.1 = rm.1) ∧ Rel (k + 1) res.2.2 rm.2
def SimG {α : Type} (res : Option String × α × St) (rm : α × St) (k : Nat) : Prop := res.1 = none ∧ res.2.1 = rm.1 ∧ Rel (k + 1) res.2.2 rm.2
theorem lcd_ne (lst : List String) (X : String) (h : lst.length < 1000) : lcd lst X ≠ 0 := by
  unfold lcd
  have h1 : lst.findIdx (fun a => a == X) ≤ lst.length := List.findIdx_le_length
  exact nI_ne0 (by omega) (by omega)
theorem sim_r {α : Type} {lst : List String} {r : Int32} {res : Option String × α × St} {rm : α × St} {k : Nat} {A : Prop} (h : Sim lst res rm k) (h1 : res.1 = none → r = 0 ∧ A) (h2 : ∀ X, res.1 = some X → r = lcd lst X) : rm.2.2 28 0 = r := by
  cases e : res.1 with
  | none => rw [h.1 e, (h1 e).1]
  | some X => rw [h.2.1 X e, h2 X e]
theorem sim_n {α : Type} {lst : List String} {r : Int32} {res : Option String × α × St} {A : Prop} (hl : lst.length < 1000) (h1 : res.1 = none → r = 0 ∧ A) (h2 : ∀ X, res.1 = some X → r = lcd lst X) (h0 : r = 0) : res.1 = none ∧ A := by
  cases e : res.1 with
  | none => exact ⟨rfl, (h1 e).2⟩
  | some X => exact absurd ((h2 X e).symm.trans h0) (lcd_ne lst X hl)
theorem lgc_self (x : Int64) : lg_cmp x x = 0 := by
  unfold lg_cmp
  rw [if_neg (by rw [gt_iff_lt, Int64.lt_iff_toInt_lt]; omega), if_pos rfl]
theorem b01 {r : Int32} : (if r = 0 then (0 : Int64) else 1) = if r = 0 then 0 else 1 := rfl
