/-! ===== the class against the model ===== -/
def cp_isSound (x : St) : Option String × Int32 × St := (none, 1, fU stN x (x.1 1 0))
theorem sim_addDisc {q : Nat} {x y : St} (hR : Rel q x y) (hq : q < 512) (a : Int32) (st : Int32) (fw : Int32) : Sim ["java/lang/IllegalArgumentException", "java/lang/IllegalStateException"] (cp_addDisc x a st fw) (mp_addDisc y a st fw) q := by sorry
theorem sim_addBox {q : Nat} {x y : St} (hR : Rel q x y) (hq : q < 512) (sh : Int32) (ta : Int32) : Sim ["java/lang/IllegalArgumentException", "java/lang/IllegalStateException"] (cp_addBox x sh ta) (mp_addBox y sh ta) q := by sorry
theorem sim_setRisk {q : Nat} {x y : St} (hR : Rel q x y) (hq : q < 512) (b : Int32) (v : Int32) : Sim ["java/lang/IndexOutOfBoundsException", "java/lang/IllegalArgumentException"] (cp_setRisk x b v) (mp_setRisk y b v) q := by sorry
theorem sim_setSeed {q : Nat} {x y : St} (hR : Rel q x y) (hq : q < 512) (v : Int32) : Sim ["java/lang/IllegalArgumentException"] (cp_setSeed x v) (mp_setSeed y v) q := by sorry
theorem sim_insert {q : Nat} {x y : St} (hR : Rel q x y) (hq : q < 512) (b : Int32) (v : Int32) : Sim ["java/lang/IndexOutOfBoundsException", "java/lang/IllegalArgumentException", "java/lang/UnsupportedOperationException", "java/lang/IllegalStateException"] (cp_insert x b v) (mp_insert y b v) q := by sorry
theorem sim_press {q : Nat} {x y : St} (hR : Rel q x y) (hq : q < 512) (b : Int32) (k : Int32) : Sim ["java/lang/IndexOutOfBoundsException", "java/lang/UnsupportedOperationException", "java/lang/IllegalStateException"] (cp_press x b k) (mp_press y b k) q := by sorry
theorem sim_play {q : Nat} {x y : St} (hR : Rel q x y) (hq : q < 512) (b : Int32) : Sim ["java/lang/IndexOutOfBoundsException", "java/lang/UnsupportedOperationException", "java/util/NoSuchElementException"] (cp_play x b) (mp_play y b) q := by sorry
theorem sim_getCredits {q : Nat} {x y : St} (hR : Rel q x y) (hq : q < 512) (b : Int32) : Sim ["java/lang/IndexOutOfBoundsException"] (cp_getCredits x b) (mp_getCredits y b) q := by sorry
theorem sim_getQueued {q : Nat} {x y : St} (hR : Rel q x y) (hq : q < 512) (b : Int32) : Sim ["java/lang/IndexOutOfBoundsException"] (cp_getQueued x b) (mp_getQueued y b) q := by sorry
theorem sim_getCents {q : Nat} {x y : St} (hR : Rel q x y) (hq : q < 512) (b : Int32) : Sim ["java/lang/IndexOutOfBoundsException"] (cp_getCents x b) (mp_getCents y b) q := by sorry
theorem sim_isJammed {q : Nat} {x y : St} (hR : Rel q x y) (hq : q < 512) (b : Int32) : Sim ["java/lang/IndexOutOfBoundsException"] (cp_isJammed x b) (mp_isJammed y b) q := by sorry
theorem sim_getWheel {q : Nat} {x y : St} (hR : Rel q x y) (hq : q < 512) (b : Int32) (k : Int32) : Sim ["java/lang/IndexOutOfBoundsException"] (cp_getWheel x b k) (mp_getWheel y b k) q := by sorry
theorem sim_getNeedle {q : Nat} {x y : St} (hR : Rel q x y) (hq : q < 512) (b : Int32) : Sim ["java/lang/IndexOutOfBoundsException"] (cp_getNeedle x b) (mp_getNeedle y b) q := by sorry
theorem sim_getWear {q : Nat} {x y : St} (hR : Rel q x y) (hq : q < 512) (b : Int32) : Sim ["java/lang/IndexOutOfBoundsException"] (cp_getWear x b) (mp_getWear y b) q := by sorry
theorem sim_getPlace {q : Nat} {x y : St} (hR : Rel q x y) (hq : q < 512) (b : Int32) : Sim ["java/lang/IndexOutOfBoundsException"] (cp_getPlace x b) (mp_getPlace y b) q := by sorry
theorem sim_discAt {q : Nat} {x y : St} (hR : Rel q x y) (hq : q < 512) (b : Int32) (k : Int32) : Sim ["java/lang/IndexOutOfBoundsException", "java/util/NoSuchElementException"] (cp_discAt x b k) (mp_discAt y b k) q := by sorry
theorem sim_pull {q : Nat} {x y : St} (hR : Rel q x y) (hq : q < 512) (b : Int32) : Sim ["java/lang/IndexOutOfBoundsException"] (cp_pull x b) (mp_pull y b) q := by sorry
theorem sim_pullIn {q : Nat} {x y : St} (hR : Rel q x y) (hq : q < 512) (b : Int32) (v : Int32) : Sim ["java/lang/IndexOutOfBoundsException"] (cp_pullIn x b v) (mp_pullIn y b v) q := by sorry
theorem sim_pass {q : Nat} {x y : St} (hR : Rel q x y) (hq : q < 512) : Sim ["java/lang/IllegalStateException"] (cp_pass x) (mp_pass y) q := by sorry
theorem sim_getWeek {q : Nat} {x y : St} (hR : Rel q x y) (hq : q < 512) : SimG (cp_getWeek x) (mp_getWeek y) q := by sorry
theorem sim_getMinutes {q : Nat} {x y : St} (hR : Rel q x y) (hq : q < 512) : SimG (cp_getMinutes x) (mp_getMinutes y) q := by sorry
theorem sim_visit {q : Nat} {x y : St} (hR : Rel q x y) (hq : q < 512) (b : Int32) : Sim ["java/lang/IndexOutOfBoundsException", "java/lang/UnsupportedOperationException"] (cp_visit x b) (mp_visit y b) q := by sorry
theorem sim_getShort {q : Nat} {x y : St} (hR : Rel q x y) (hq : q < 512) (b : Int32) : Sim ["java/lang/IndexOutOfBoundsException"] (cp_getShort x b) (mp_getShort y b) q := by sorry
theorem sim_getShare {q : Nat} {x y : St} (hR : Rel q x y) (hq : q < 512) (b : Int32) : Sim ["java/lang/IndexOutOfBoundsException"] (cp_getShare x b) (mp_getShare y b) q := by sorry
theorem sim_getEarned {q : Nat} {x y : St} (hR : Rel q x y) (hq : q < 512) : SimG (cp_getEarned x) (mp_getEarned y) q := by sorry
theorem sim_change {q : Nat} {x y : St} (hR : Rel q x y) (hq : q < 512) (b : Int32) (k : Int32) (v : Int32) : Sim ["java/lang/IndexOutOfBoundsException", "java/lang/UnsupportedOperationException"] (cp_change x b k v) (mp_change y b k v) q := by sorry
theorem sim_changeNeedle {q : Nat} {x y : St} (hR : Rel q x y) (hq : q < 512) (b : Int32) : Sim ["java/lang/IndexOutOfBoundsException", "java/lang/UnsupportedOperationException"] (cp_changeNeedle x b) (mp_changeNeedle y b) q := by sorry
theorem sim_burn {q : Nat} {x y : St} (hR : Rel q x y) (hq : q < 512) (b : Int32) : Sim ["java/lang/IndexOutOfBoundsException", "java/lang/UnsupportedOperationException"] (cp_burn x b) (mp_burn y b) q := by sorry
theorem sim_ask {q : Nat} {x y : St} (hR : Rel q x y) (hq : q < 512) (b : Int32) (v : Int32) : Sim ["java/lang/IndexOutOfBoundsException", "java/lang/IllegalArgumentException", "java/lang/IllegalStateException"] (cp_ask x b v) (mp_ask y b v) q := by sorry
theorem sim_mostAsked {q : Nat} {x y : St} (hR : Rel q x y) (hq : q < 512) (b : Int32) : Sim ["java/lang/IndexOutOfBoundsException", "java/util/NoSuchElementException"] (cp_mostAsked x b) (mp_mostAsked y b) q := by sorry
theorem sim_least {q : Nat} {x y : St} (hR : Rel q x y) (hq : q < 512) (b : Int32) : Sim ["java/lang/IndexOutOfBoundsException", "java/util/NoSuchElementException"] (cp_least x b) (mp_least y b) q := by sorry
theorem sim_worth {q : Nat} {x y : St} (hR : Rel q x y) (hq : q < 512) (b : Int32) (k : Int32) (v : Int32) : Sim ["java/lang/IndexOutOfBoundsException", "java/lang/UnsupportedOperationException"] (cp_worth x b k v) (mp_worth y b k v) q := by sorry
theorem sim_bestWorth {q : Nat} {x y : St} (hR : Rel q x y) (hq : q < 512) (b : Int32) (v : Int32) : Sim ["java/lang/IndexOutOfBoundsException", "java/lang/IllegalArgumentException"] (cp_bestWorth x b v) (mp_bestWorth y b v) q := by sorry
theorem sim_wornShare {q : Nat} {x y : St} (hR : Rel q x y) (hq : q < 512) : Sim ["java/lang/ArithmeticException"] (cp_wornShare x) (mp_wornShare y) q := by sorry
theorem sim_meanPull {q : Nat} {x y : St} (hR : Rel q x y) (hq : q < 512) : Sim ["java/lang/ArithmeticException"] (cp_meanPull x) (mp_meanPull y) q := by sorry
theorem sim_checksum {q : Nat} {x y : St} (hR : Rel q x y) (hq : q < 512) : SimG (cp_checksum x) (mp_checksum y) q := by sorry
theorem sim_isSound {q : Nat} {x y : St} (hR : Rel q x y) (hq : q < 512) : SimG (cp_isSound x) (mp_isSound y) q := by sorry
theorem nan_ws {q : Nat} {x y : St} (hR : Rel q x y) : (cp_wornShare x).1 = none → vf_n64 (FP.f2d (cp_wornShare x).2.1) := by sorry
theorem eq_ws {q : Nat} {x y : St} (hR : Rel q x y) (h : (cp_wornShare x).1 = none) : Op.cmpValue (FP.dcmp (FP.f2d (cp_wornShare x).2.1) (FP.f2d (cp_wornShare x).2.1)) .l = 0 := by sorry
theorem hNx {k : Nat} {x y : St} (hR : Rel k x y) : ∀ q : Nat × Int32, q = fU (stMp x) ((0 : Nat), (0 : Int32)) (x.1 0 0) → ¬ q.1 = 0 → vf_n64 (FP.ddiv (FP.i2d q.2) (FP.i2d (nI q.1))) := by sorry
theorem hNy {k : Nat} {x y : St} (hR : Rel k x y) : ∀ q : Nat × Int32, q = fU (stMq y) ((0 : Nat), (0 : Int32)) 40 → ¬ q.1 = 0 → vf_n64 (FP.ddiv (FP.i2d q.2) (FP.i2d (nI q.1))) := by sorry
theorem best_all {k : Nat} {x y : St} (hR : Rel k x y) : ∀ j, j < x.1 1 0 → ∀ x8 : St, x8 = fU stN x j → ∀ a d, 10 * j ≤ a → a < 10 * j + 10 → d < (stN j x8).1 0 0 → (stN j x8).1 8 d = 1 → pD (stN j x8) d ((stN j x8).2 5 j) (nI ((stN j x8).1 9 0)) - pS (stN j x8) a ((stN j x8).2 5 j) (nI ((stN j x8).1 9 0)) ≤ fU (stSm (stN j x8)) 0 1 := by sorry
theorem Rel0 : Rel 0 x0 y0 := by sorry
