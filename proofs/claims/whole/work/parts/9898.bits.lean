/-! fewest: bits counted -/
def bc1 (a : Int32) : Int32 := a - ((a.toUInt32 >>> (Int32.toUInt32 1 &&& Int32.toUInt32 31)).toInt32 &&& 1431655765)
def bc2 (a : Int32) : Int32 := (a &&& 858993459) + ((a.toUInt32 >>> (Int32.toUInt32 2 &&& Int32.toUInt32 31)).toInt32 &&& 858993459)
def bc3 (a : Int32) : Int32 := (a + (a.toUInt32 >>> (Int32.toUInt32 4 &&& Int32.toUInt32 31)).toInt32) &&& 252645135
def bc4 (a : Int32) : Int32 := a + (a.toUInt32 >>> (Int32.toUInt32 8 &&& Int32.toUInt32 31)).toInt32
def bc5 (a : Int32) : Int32 := (a + (a.toUInt32 >>> (Int32.toUInt32 16 &&& Int32.toUInt32 31)).toInt32) &&& 63
theorem bc_ok_ : ∀ a, a < 64 → ∀ b, b < 64 → bc5 (bc4 (bc3 (bc2 (bc1 (nI (64 * a + b)))))) = nI (bt (64 * a + b)) := by decide +kernel
theorem bc_ok {x : Nat} (hx : x < 4096) : bc5 (bc4 (bc3 (bc2 (bc1 (nI x))))) = nI (bt x) := by
  have e : 64 * (x / 64) + x % 64 = x := by omega
  have := bc_ok_ (x / 64) (by omega) (x % 64) (by omega)
  rw [e] at this; exact this
theorem lf_264 {G : pm_G} {d : Nat} {S : pm_S} {x : Nat} {q : Int32 → pm_S → Prop} (hx : x < 4096) (h : q (nI (bt x)) S) : pm_CI G d 264 [.int (nI x)] S q := by
  rw [← bc_ok hx] at h
  refine pm_goI 264 6 pb_c264 (by decide) (Nat.le_of_ble_eq_true rfl) rfl ?_
  simp only [show pm_mL 264 = 1 from rfl, pm_WI0, pm_WI1, pm_WI2, pm_WI3, pm_WI4, pm_WI5, pm_WV, pm_WW, pm_WX, pb_B264, pm_if, pm_QI_at, pm_QL_at, pm_QV_at, pm_QR_at, pm_QR_at0, pm_QR_at1, Nat.reduceSub, Nat.reduceAdd, List.replicate_zero, List.replicate_succ, true_and, and_true, true_or, or_true, and_self, reduceIte, Nat.reduceEqDiff, Nat.reduceLT, Nat.reduceLeDiff, Nat.reduceMul, false_and, and_false, reduceCtorEq, false_or, or_false, not_true_eq_false, not_false_eq_true, true_implies, false_implies, implies_true, lf_10, eq_self, Int32.reduceLT, Int32.reduceLE, Int32.reduceAdd, Int32.reduceSub]
  exact h
