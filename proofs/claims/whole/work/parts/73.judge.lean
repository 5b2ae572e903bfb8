theorem LQ5 : (((0 : Int32) = Int32.ofNat 0) = True) ∧ (((0 : Int32) = Int32.ofNat 1) = False) ∧ (((0 : Int32) = Int32.ofNat 2) = False) ∧ (((0 : Int32) = Int32.ofNat 3) = False) ∧ (((0 : Int32) = Int32.ofNat 4) = False) ∧ (((0 : Int32) = Int32.ofNat 5) = False) ∧ (((0 : Int32) = Int32.ofNat 6) = False) ∧ (((0 : Int32) = Int32.ofNat 7) = False) ∧ (((0 : Int32) = Int32.ofNat 8) = False) ∧ (((0 : Int32) = Int32.ofNat 9) = False) ∧ (((0 : Int32) = Int32.ofNat 10) = False) ∧ (((1 : Int32) = Int32.ofNat 0) = False) ∧ (((1 : Int32) = Int32.ofNat 1) = True) ∧ (((1 : Int32) = Int32.ofNat 2) = False) ∧ (((1 : Int32) = Int32.ofNat 3) = False) ∧ (((1 : Int32) = Int32.ofNat 4) = False) ∧ (((1 : Int32) = Int32.ofNat 5) = False) ∧ (((1 : Int32) = Int32.ofNat 6) = False) ∧ (((1 : Int32) = Int32.ofNat 7) = False) ∧ (((1 : Int32) = Int32.ofNat 8) = False) ∧ (((1 : Int32) = Int32.ofNat 9) = False) ∧ (((1 : Int32) = Int32.ofNat 10) = False) ∧ (((2 : Int32) = Int32.ofNat 0) = False) ∧ (((2 : Int32) = Int32.ofNat 1) = False) ∧ (((2 : Int32) = Int32.ofNat 2) = True) ∧ (((2 : Int32) = Int32.ofNat 3) = False) ∧ (((2 : Int32) = Int32.ofNat 4) = False) ∧ (((2 : Int32) = Int32.ofNat 5) = False) ∧ (((2 : Int32) = Int32.ofNat 6) = False) ∧ (((2 : Int32) = Int32.ofNat 7) = False) ∧ (((2 : Int32) = Int32.ofNat 8) = False) ∧ (((2 : Int32) = Int32.ofNat 9) = False) ∧ (((2 : Int32) = Int32.ofNat 10) = False) ∧ (((3 : Int32) = Int32.ofNat 0) = False) ∧ (((3 : Int32) = Int32.ofNat 1) = False) ∧ (((3 : Int32) = Int32.ofNat 2) = False) ∧ (((3 : Int32) = Int32.ofNat 3) = True) ∧ (((3 : Int32) = Int32.ofNat 4) = False) ∧ (((3 : Int32) = Int32.ofNat 5) = False) ∧ (((3 : Int32) = Int32.ofNat 6) = False) ∧ (((3 : Int32) = Int32.ofNat 7) = False) ∧ (((3 : Int32) = Int32.ofNat 8) = False) ∧ (((3 : Int32) = Int32.ofNat 9) = False) ∧ (((3 : Int32) = Int32.ofNat 10) = False) ∧ (((4 : Int32) = Int32.ofNat 0) = False) ∧ (((4 : Int32) = Int32.ofNat 1) = False) ∧ (((4 : Int32) = Int32.ofNat 2) = False) ∧ (((4 : Int32) = Int32.ofNat 3) = False) ∧ (((4 : Int32) = Int32.ofNat 4) = True) ∧ (((4 : Int32) = Int32.ofNat 5) = False) ∧ (((4 : Int32) = Int32.ofNat 6) = False) ∧ (((4 : Int32) = Int32.ofNat 7) = False) ∧ (((4 : Int32) = Int32.ofNat 8) = False) ∧ (((4 : Int32) = Int32.ofNat 9) = False) ∧ (((4 : Int32) = Int32.ofNat 10) = False) ∧ (((5 : Int32) = Int32.ofNat 0) = False) ∧ (((5 : Int32) = Int32.ofNat 1) = False) ∧ (((5 : Int32) = Int32.ofNat 2) = False) ∧ (((5 : Int32) = Int32.ofNat 3) = False) ∧ (((5 : Int32) = Int32.ofNat 4) = False) ∧ (((5 : Int32) = Int32.ofNat 5) = True) ∧ (((5 : Int32) = Int32.ofNat 6) = False) ∧ (((5 : Int32) = Int32.ofNat 7) = False) ∧ (((5 : Int32) = Int32.ofNat 8) = False) ∧ (((5 : Int32) = Int32.ofNat 9) = False) ∧ (((5 : Int32) = Int32.ofNat 10) = False) ∧ (((6 : Int32) = Int32.ofNat 0) = False) ∧ (((6 : Int32) = Int32.ofNat 1) = False) ∧ (((6 : Int32) = Int32.ofNat 2) = False) ∧ (((6 : Int32) = Int32.ofNat 3) = False) ∧ (((6 : Int32) = Int32.ofNat 4) = False) ∧ (((6 : Int32) = Int32.ofNat 5) = False) ∧ (((6 : Int32) = Int32.ofNat 6) = True) ∧ (((6 : Int32) = Int32.ofNat 7) = False) ∧ (((6 : Int32) = Int32.ofNat 8) = False) ∧ (((6 : Int32) = Int32.ofNat 9) = False) ∧ (((6 : Int32) = Int32.ofNat 10) = False) ∧ (((7 : Int32) = Int32.ofNat 0) = False) ∧ (((7 : Int32) = Int32.ofNat 1) = False) ∧ (((7 : Int32) = Int32.ofNat 2) = False) ∧ (((7 : Int32) = Int32.ofNat 3) = False) ∧ (((7 : Int32) = Int32.ofNat 4) = False) ∧ (((7 : Int32) = Int32.ofNat 5) = False) ∧ (((7 : Int32) = Int32.ofNat 6) = False) ∧ (((7 : Int32) = Int32.ofNat 7) = True) ∧ (((7 : Int32) = Int32.ofNat 8) = False) ∧ (((7 : Int32) = Int32.ofNat 9) = False) ∧ (((7 : Int32) = Int32.ofNat 10) = False) ∧ (((8 : Int32) = Int32.ofNat 0) = False) ∧ (((8 : Int32) = Int32.ofNat 1) = False) ∧ (((8 : Int32) = Int32.ofNat 2) = False) ∧ (((8 : Int32) = Int32.ofNat 3) = False) ∧ (((8 : Int32) = Int32.ofNat 4) = False) ∧ (((8 : Int32) = Int32.ofNat 5) = False) ∧ (((8 : Int32) = Int32.ofNat 6) = False) ∧ (((8 : Int32) = Int32.ofNat 7) = False) ∧ (((8 : Int32) = Int32.ofNat 8) = True) ∧ (((8 : Int32) = Int32.ofNat 9) = False) ∧ (((8 : Int32) = Int32.ofNat 10) = False) ∧ (((9 : Int32) = Int32.ofNat 0) = False) ∧ (((9 : Int32) = Int32.ofNat 1) = False) ∧ (((9 : Int32) = Int32.ofNat 2) = False) ∧ (((9 : Int32) = Int32.ofNat 3) = False) ∧ (((9 : Int32) = Int32.ofNat 4) = False) ∧ (((9 : Int32) = Int32.ofNat 5) = False) ∧ (((9 : Int32) = Int32.ofNat 6) = False) ∧ (((9 : Int32) = Int32.ofNat 7) = False) ∧ (((9 : Int32) = Int32.ofNat 8) = False) ∧ (((9 : Int32) = Int32.ofNat 9) = True) ∧ (((9 : Int32) = Int32.ofNat 10) = False) ∧ (((10 : Int32) = Int32.ofNat 0) = False) ∧ (((10 : Int32) = Int32.ofNat 1) = False) ∧ (((10 : Int32) = Int32.ofNat 2) = False) ∧ (((10 : Int32) = Int32.ofNat 3) = False) ∧ (((10 : Int32) = Int32.ofNat 4) = False) ∧ (((10 : Int32) = Int32.ofNat 5) = False) ∧ (((10 : Int32) = Int32.ofNat 6) = False) ∧ (((10 : Int32) = Int32.ofNat 7) = False) ∧ (((10 : Int32) = Int32.ofNat 8) = False) ∧ (((10 : Int32) = Int32.ofNat 9) = False) ∧ (((10 : Int32) = Int32.ofNat 10) = True) := ⟨eq_true (by decide), eq_false (by decide), eq_false (by decide), eq_false (by decide), eq_false (by decide), eq_false (by decide), eq_false (by decide), eq_false (by decide), eq_false (by decide), eq_false (by decide), eq_false (by decide), eq_false (by decide), eq_true (by decide), eq_false (by decide), eq_false (by decide), eq_false (by decide), eq_false (by decide), eq_false (by decide), eq_false (by decide), eq_false (by decide), eq_false (by decide), eq_false (by decide), eq_false (by decide), eq_false (by decide), eq_true (by decide), eq_false (by decide), eq_false (by decide), eq_false (by decide), eq_false (by decide), eq_false (by decide), eq_false (by decide), eq_false (by decide), eq_false (by decide), eq_false (by decide), eq_false (by decide), eq_false (by decide), eq_true (by decide), eq_false (by decide), eq_false (by decide), eq_false (by decide), eq_false (by decide), eq_false (by decide), eq_false (by decide), eq_false (by decide), eq_false (by decide), eq_false (by decide), eq_false (by decide), eq_false (by decide), eq_true (by decide), eq_false (by decide), eq_false (by decide), eq_false (by decide), eq_false (by decide), eq_false (by decide), eq_false (by decide), eq_false (by decide), eq_false (by decide), eq_false (by decide), eq_false (by decide), eq_false (by decide), eq_true (by decide), eq_false (by decide), eq_false (by decide), eq_false (by decide), eq_false (by decide), eq_false (by decide), eq_false (by decide), eq_false (by decide), eq_false (by decide), eq_false (by decide), eq_false (by decide), eq_false (by decide), eq_true (by decide), eq_false (by decide), eq_false (by decide), eq_false (by decide), eq_false (by decide), eq_false (by decide), eq_false (by decide), eq_false (by decide), eq_false (by decide), eq_false (by decide), eq_false (by decide), eq_false (by decide), eq_true (by decide), eq_false (by decide), eq_false (by decide), eq_false (by decide), eq_false (by decide), eq_false (by decide), eq_false (by decide), eq_false (by decide), eq_false (by decide), eq_false (by decide), eq_false (by decide), eq_false (by decide), eq_true (by decide), eq_false (by decide), eq_false (by decide), eq_false (by decide), eq_false (by decide), eq_false (by decide), eq_false (by decide), eq_false (by decide), eq_false (by decide), eq_false (by decide), eq_false (by decide), eq_false (by decide), eq_true (by decide), eq_false (by decide), eq_false (by decide), eq_false (by decide), eq_false (by decide), eq_false (by decide), eq_false (by decide), eq_false (by decide), eq_false (by decide), eq_false (by decide), eq_false (by decide), eq_false (by decide), eq_true (by decide)⟩
/-! E judged by the class -/
theorem st_bits {x : Nat} (hx : x < 2 ^ 22) : nI x >>> ((4 : Int32) &&& 31) = nI (x / 16) ∧ nI (x / 16) &&& 15 = nI (x / 16 % 16) ∧ nI x >>> ((8 : Int32) &&& 31) = nI (x / 256) ∧ nI x &&& 15 = nI (x % 16) :=
  ⟨pk_shrN (by omega) _ 4 (by decide), pk_andN (by omega) 4 (by decide), pk_shrN (by omega) _ 8 (by decide), pk_andN (by omega) 4 (by decide)⟩
theorem fa_f_cl {A : iv_A} {S : pm_S} (hI : Inv A S) {m : Nat} {s k : Int32} : ac_f (ac_c (pm_i S 76) (pm_i S 79) s k) (ac_bt (pm_i S 77) false) (iv_acts S m) none = fa_f S m s k := ac_eq hI _ _
theorem fa_l_cl {A : iv_A} {S : pm_S} (hI : Inv A S) {m : Nat} {s k : Int32} : ac_f (ac_c (pm_i S 76) (pm_i S 79) s k) (ac_bt (pm_i S 77) true) (iv_acts S m) none = fa_l S m s k := ac_eq hI _ _
theorem fa_f_lt {S : pm_S} {m : Nat} {s k : Int32} {a : Nat} (h : fa_f S m s k = some a) : a < iv_c S 24 := ac_f_lt h
theorem fa_l_lt {S : pm_S} {m : Nat} {s k : Int32} {a : Nat} (h : fa_l S m s k = some a) : a < iv_c S 24 := ac_f_lt h
theorem lf_59 {G : pm_G} {d : Nat} {A : iv_A} {S : pm_S} {m : Nat} {s k : Int32} {q : Option Nat → pm_S → Prop} (hI : Inv A S) (hm : m < iv_c S 18) (h : q ((fa_f S m s k).map (iv_a A)) S) : pm_CR G d 59 [.ref (iv_m A m), .int s, .int k] S q := ac_59 hI hm (by rw [fa_f_cl hI]; exact h)
theorem lf_60 {G : pm_G} {d : Nat} {A : iv_A} {S : pm_S} {m : Nat} {s k : Int32} {q : Option Nat → pm_S → Prop} (hI : Inv A S) (hm : m < iv_c S 18) (h : q ((fa_l S m s k).map (iv_a A)) S) : pm_CR G d 60 [.ref (iv_m A m), .int s, .int k] S q := ac_60 hI hm (by rw [fa_l_cl hI]; exact h)
theorem lf_36_0 {G : pm_G} {d : Nat} {A : iv_A} {S : pm_S} {m x : Nat} {k : Int32} {q : Int32 → pm_S → Prop} (hd : 2 ≤ d) (hI : Inv A S) (hm : m < iv_c S 18) (hx : x < 2 ^ 22) (h : q (bI (tv S m k x)) S) (hc : x % 16 = 0) : pm_CI G d 36 [.int (nI x), .ref (iv_m A m), .int k] S q := by
  obtain ⟨b1, b2, b3, b4⟩ := st_bits hx
  have hw := hI.row hm
  rw [hc] at b4
  have ht : tv S m k x = decide (pm_i S 65 m = nI (x / 256)) := by unfold tv; rw [hc]; rfl
  rw [ht] at h
  have ei : (nI 0 : Int32) = 0 := rfl
  rw [ei] at b4
  refine pm_goI 36 6 pb_c36 (by decide) (Nat.le_of_ble_eq_true rfl) rfl ?_
  try simp only [show pm_mL 36 = 6 from rfl, pm_WI0, pm_WI1, pm_WI2, pm_WI3, pm_WI4, pm_WI5, pm_WV, pm_WW, pm_WX, pb_B36, pm_if, pm_QI_at, pm_QL_at, pm_QV_at, pm_QR_at, pm_QR_at0, pm_QR_at1, Nat.reduceSub, Nat.reduceAdd, List.replicate_zero, List.replicate_succ, true_and, and_true, true_or, or_true, and_self, reduceIte, Nat.reduceEqDiff, Nat.reduceLT, Nat.reduceLeDiff, Nat.reduceMul, false_and, and_false, reduceCtorEq, false_or, or_false, not_true_eq_false, not_false_eq_true, true_implies, false_implies, implies_true, lf_10, eq_self, Int32.reduceLT, Int32.reduceLE, Int32.reduceAdd, Int32.reduceSub, Int32.reduceDiv, Int32.reduceMul, pm_same, pm_i_wI, pm_l_wL, pm_l_wM, pm_oR_rf, pm_oQ_rf, nI_1, sw_e, LQ1, LQ2, LQ5, b1, b2, b3, hw.k, hw.f3, hw.f4, hw.f5, b4]
  by_cases hcc : pm_i S 65 m = nI (x / 256)
  · have h1 : q 1 S := by rw [decide_eq_true hcc] at h; exact h
    refine ⟨fun z => ?_, fun z => ?_⟩
    all_goals first | exact absurd hcc z | exact h1 | (exfalso; lia)
  · have h1 : q 0 S := by rw [decide_eq_false hcc] at h; exact h
    refine ⟨fun z => ?_, fun z => ?_⟩
    all_goals first | exact absurd z hcc | exact h1 | (exfalso; lia)
theorem lf_36_1 {G : pm_G} {d : Nat} {A : iv_A} {S : pm_S} {m x : Nat} {k : Int32} {q : Int32 → pm_S → Prop} (hd : 2 ≤ d) (hI : Inv A S) (hm : m < iv_c S 18) (hx : x < 2 ^ 22) (h : q (bI (tv S m k x)) S) (hc : x % 16 = 1) : pm_CI G d 36 [.int (nI x), .ref (iv_m A m), .int k] S q := by
  obtain ⟨b1, b2, b3, b4⟩ := st_bits hx
  have hw := hI.row hm
  rw [hc] at b4
  have ht : tv S m k x = (fa_f S m (nI (x / 16 % 16)) k).isSome := by unfold tv; rw [hc]; rfl
  rw [ht] at h
  have ei : (nI 1 : Int32) = 1 := rfl
  rw [ei] at b4
  refine pm_goI 36 6 pb_c36 (by decide) (Nat.le_of_ble_eq_true rfl) rfl ?_
  try simp only [show pm_mL 36 = 6 from rfl, pm_WI0, pm_WI1, pm_WI2, pm_WI3, pm_WI4, pm_WI5, pm_WV, pm_WW, pm_WX, pb_B36, pm_if, pm_QI_at, pm_QL_at, pm_QV_at, pm_QR_at, pm_QR_at0, pm_QR_at1, Nat.reduceSub, Nat.reduceAdd, List.replicate_zero, List.replicate_succ, true_and, and_true, true_or, or_true, and_self, reduceIte, Nat.reduceEqDiff, Nat.reduceLT, Nat.reduceLeDiff, Nat.reduceMul, false_and, and_false, reduceCtorEq, false_or, or_false, not_true_eq_false, not_false_eq_true, true_implies, false_implies, implies_true, lf_10, eq_self, Int32.reduceLT, Int32.reduceLE, Int32.reduceAdd, Int32.reduceSub, Int32.reduceDiv, Int32.reduceMul, pm_same, pm_i_wI, pm_l_wL, pm_l_wM, pm_oR_rf, pm_oQ_rf, nI_1, sw_e, LQ1, LQ2, LQ5, b1, b2, b3, hw.k, hw.f3, hw.f4, hw.f5, b4]
  refine ⟨by omega, lf_59 hI hm ?_⟩
  cases ha : fa_f S m (nI (x / 16 % 16)) k with
  | none =>
    rw [ha] at h
    try simp only [pm_WV, pm_WW, true_and, and_true, true_or, or_true, and_self, reduceIte, Nat.reduceEqDiff, Nat.reduceLT, Nat.reduceLeDiff, Nat.reduceMul, false_and, and_false, reduceCtorEq, false_or, or_false, not_true_eq_false, not_false_eq_true, true_implies, false_implies, implies_true, lf_10, eq_self, Int32.reduceLT, Int32.reduceLE, Int32.reduceAdd, Int32.reduceSub, Int32.reduceDiv, Int32.reduceMul, pm_same, pm_i_wI, pm_l_wL, pm_l_wM, pm_oR_rf, pm_oQ_rf, nI_1, sw_e, LQ1, LQ2, LQ5, pm_WI0, pm_WI1, pm_WI2, pm_WI3, pm_WI4, pm_WI5, pm_WV, pm_WW, pm_WX, pb_B36, pm_if, pm_QI_at, pm_QL_at, pm_QV_at, pm_QR_at, pm_QR_at0, pm_QR_at1, Nat.reduceSub, Nat.reduceAdd, List.replicate_zero, List.replicate_succ, Option.map_none]
    exact h
  | some a =>
    rw [ha] at h
    try simp only [pm_WV, pm_WW, true_and, and_true, true_or, or_true, and_self, reduceIte, Nat.reduceEqDiff, Nat.reduceLT, Nat.reduceLeDiff, Nat.reduceMul, false_and, and_false, reduceCtorEq, false_or, or_false, not_true_eq_false, not_false_eq_true, true_implies, false_implies, implies_true, lf_10, eq_self, Int32.reduceLT, Int32.reduceLE, Int32.reduceAdd, Int32.reduceSub, Int32.reduceDiv, Int32.reduceMul, pm_same, pm_i_wI, pm_l_wL, pm_l_wM, pm_oR_rf, pm_oQ_rf, nI_1, sw_e, LQ1, LQ2, LQ5, pm_WI0, pm_WI1, pm_WI2, pm_WI3, pm_WI4, pm_WI5, pm_WV, pm_WW, pm_WX, pb_B36, pm_if, pm_QI_at, pm_QL_at, pm_QV_at, pm_QR_at, pm_QR_at0, pm_QR_at1, Nat.reduceSub, Nat.reduceAdd, List.replicate_zero, List.replicate_succ, Option.map_some]
    exact h
theorem lf_36_2 {G : pm_G} {d : Nat} {A : iv_A} {S : pm_S} {m x : Nat} {k : Int32} {q : Int32 → pm_S → Prop} (hd : 2 ≤ d) (hI : Inv A S) (hm : m < iv_c S 18) (hx : x < 2 ^ 22) (h : q (bI (tv S m k x)) S) (hc : x % 16 = 2) : pm_CI G d 36 [.int (nI x), .ref (iv_m A m), .int k] S q := by
  obtain ⟨b1, b2, b3, b4⟩ := st_bits hx
  have hw := hI.row hm
  rw [hc] at b4
  have ht : tv S m k x = tv_w S (fa_l S m (nI (x / 16 % 16)) k) true (nI (x / 256)) := by unfold tv; rw [hc]; rfl
  rw [ht] at h
  have ei : (nI 2 : Int32) = 2 := rfl
  rw [ei] at b4
  refine pm_goI 36 6 pb_c36 (by decide) (Nat.le_of_ble_eq_true rfl) rfl ?_
  try simp only [show pm_mL 36 = 6 from rfl, pm_WI0, pm_WI1, pm_WI2, pm_WI3, pm_WI4, pm_WI5, pm_WV, pm_WW, pm_WX, pb_B36, pm_if, pm_QI_at, pm_QL_at, pm_QV_at, pm_QR_at, pm_QR_at0, pm_QR_at1, Nat.reduceSub, Nat.reduceAdd, List.replicate_zero, List.replicate_succ, true_and, and_true, true_or, or_true, and_self, reduceIte, Nat.reduceEqDiff, Nat.reduceLT, Nat.reduceLeDiff, Nat.reduceMul, false_and, and_false, reduceCtorEq, false_or, or_false, not_true_eq_false, not_false_eq_true, true_implies, false_implies, implies_true, lf_10, eq_self, Int32.reduceLT, Int32.reduceLE, Int32.reduceAdd, Int32.reduceSub, Int32.reduceDiv, Int32.reduceMul, pm_same, pm_i_wI, pm_l_wL, pm_l_wM, pm_oR_rf, pm_oQ_rf, nI_1, sw_e, LQ1, LQ2, LQ5, b1, b2, b3, hw.k, hw.f3, hw.f4, hw.f5, b4]
  refine ⟨by omega, lf_60 hI hm ?_⟩
  cases ha : fa_l S m (nI (x / 16 % 16)) k with
  | none =>
    rw [ha] at h
    try simp only [pm_WV, pm_WW, true_and, and_true, true_or, or_true, and_self, reduceIte, Nat.reduceEqDiff, Nat.reduceLT, Nat.reduceLeDiff, Nat.reduceMul, false_and, and_false, reduceCtorEq, false_or, or_false, not_true_eq_false, not_false_eq_true, true_implies, false_implies, implies_true, lf_10, eq_self, Int32.reduceLT, Int32.reduceLE, Int32.reduceAdd, Int32.reduceSub, Int32.reduceDiv, Int32.reduceMul, pm_same, pm_i_wI, pm_l_wL, pm_l_wM, pm_oR_rf, pm_oQ_rf, nI_1, sw_e, LQ1, LQ2, LQ5, pm_WI0, pm_WI1, pm_WI2, pm_WI3, pm_WI4, pm_WI5, pm_WV, pm_WW, pm_WX, pb_B36, pm_if, pm_QI_at, pm_QL_at, pm_QV_at, pm_QR_at, pm_QR_at0, pm_QR_at1, Nat.reduceSub, Nat.reduceAdd, List.replicate_zero, List.replicate_succ, b1, b2, b3, hw.k, hw.f3, hw.f4, hw.f5, b4, Option.map_none]
    exact h
  | some a =>
    rw [ha] at h
    obtain ⟨⟨a1, a2, a3⟩, ⟨f0, f1, f2, f3, f4⟩, _⟩ := hI.act.2.2.1 a (fa_l_lt ha)
    try simp only [pm_WV, pm_WW, true_and, and_true, true_or, or_true, and_self, reduceIte, Nat.reduceEqDiff, Nat.reduceLT, Nat.reduceLeDiff, Nat.reduceMul, false_and, and_false, reduceCtorEq, false_or, or_false, not_true_eq_false, not_false_eq_true, true_implies, false_implies, implies_true, lf_10, eq_self, Int32.reduceLT, Int32.reduceLE, Int32.reduceAdd, Int32.reduceSub, Int32.reduceDiv, Int32.reduceMul, pm_same, pm_i_wI, pm_l_wL, pm_l_wM, pm_oR_rf, pm_oQ_rf, nI_1, sw_e, LQ1, LQ2, LQ5, pm_WI0, pm_WI1, pm_WI2, pm_WI3, pm_WI4, pm_WI5, pm_WV, pm_WW, pm_WX, pb_B36, pm_if, pm_QI_at, pm_QL_at, pm_QV_at, pm_QR_at, pm_QR_at0, pm_QR_at1, Nat.reduceSub, Nat.reduceAdd, List.replicate_zero, List.replicate_succ, b1, b2, b3, hw.k, hw.f3, hw.f4, hw.f5, b4, Option.map_some, a3, f2, b4]
    unfold tv_w at h
    refine ⟨fun z => ?_, fun z => ?_⟩
    all_goals first
      | (have hcc : ¬ pm_i S 78 a < nI (x / 256) := by lia
         have h1 : q 0 S := by simp only [hcc, decide_false, reduceIte, Bool.false_eq_true] at h; exact h
         exact h1)
      | (have hcc : pm_i S 78 a < nI (x / 256) := by lia
         have h1 : q 1 S := by simp only [hcc, decide_true, reduceIte, Bool.false_eq_true] at h; exact h
         exact h1)
theorem lf_36_4 {G : pm_G} {d : Nat} {A : iv_A} {S : pm_S} {m x : Nat} {k : Int32} {q : Int32 → pm_S → Prop} (hd : 2 ≤ d) (hI : Inv A S) (hm : m < iv_c S 18) (hx : x < 2 ^ 22) (h : q (bI (tv S m k x)) S) (hc : x % 16 = 4) : pm_CI G d 36 [.int (nI x), .ref (iv_m A m), .int k] S q := by
  obtain ⟨b1, b2, b3, b4⟩ := st_bits hx
  have hw := hI.row hm
  rw [hc] at b4
  have ht : tv S m k x = decide (pm_i S 67 m < nI (x / 256)) := by unfold tv; rw [hc]; rfl
  rw [ht] at h
  have ei : (nI 4 : Int32) = 4 := rfl
  rw [ei] at b4
  refine pm_goI 36 6 pb_c36 (by decide) (Nat.le_of_ble_eq_true rfl) rfl ?_
  try simp only [show pm_mL 36 = 6 from rfl, pm_WI0, pm_WI1, pm_WI2, pm_WI3, pm_WI4, pm_WI5, pm_WV, pm_WW, pm_WX, pb_B36, pm_if, pm_QI_at, pm_QL_at, pm_QV_at, pm_QR_at, pm_QR_at0, pm_QR_at1, Nat.reduceSub, Nat.reduceAdd, List.replicate_zero, List.replicate_succ, true_and, and_true, true_or, or_true, and_self, reduceIte, Nat.reduceEqDiff, Nat.reduceLT, Nat.reduceLeDiff, Nat.reduceMul, false_and, and_false, reduceCtorEq, false_or, or_false, not_true_eq_false, not_false_eq_true, true_implies, false_implies, implies_true, lf_10, eq_self, Int32.reduceLT, Int32.reduceLE, Int32.reduceAdd, Int32.reduceSub, Int32.reduceDiv, Int32.reduceMul, pm_same, pm_i_wI, pm_l_wL, pm_l_wM, pm_oR_rf, pm_oQ_rf, nI_1, sw_e, LQ1, LQ2, LQ5, b1, b2, b3, hw.k, hw.f3, hw.f4, hw.f5, b4]
  by_cases hcc : pm_i S 67 m < nI (x / 256)
  · have h1 : q 1 S := by rw [decide_eq_true hcc] at h; exact h
    refine ⟨fun z => ?_, fun z => ?_⟩
    all_goals first | exact absurd hcc z | exact h1 | (exfalso; lia)
  · have h1 : q 0 S := by rw [decide_eq_false hcc] at h; exact h
    refine ⟨fun z => ?_, fun z => ?_⟩
    all_goals first | exact absurd z hcc | exact h1 | (exfalso; lia)
theorem lf_36_5 {G : pm_G} {d : Nat} {A : iv_A} {S : pm_S} {m x : Nat} {k : Int32} {q : Int32 → pm_S → Prop} (hd : 2 ≤ d) (hI : Inv A S) (hm : m < iv_c S 18) (hx : x < 2 ^ 22) (h : q (bI (tv S m k x)) S) (hc : x % 16 = 5) : pm_CI G d 36 [.int (nI x), .ref (iv_m A m), .int k] S q := by
  obtain ⟨b1, b2, b3, b4⟩ := st_bits hx
  have hw := hI.row hm
  rw [hc] at b4
  have ht : tv S m k x = decide (nI (x / 256) < pm_i S 67 m) := by unfold tv; rw [hc]; rfl
  rw [ht] at h
  have ei : (nI 5 : Int32) = 5 := rfl
  rw [ei] at b4
  refine pm_goI 36 6 pb_c36 (by decide) (Nat.le_of_ble_eq_true rfl) rfl ?_
  try simp only [show pm_mL 36 = 6 from rfl, pm_WI0, pm_WI1, pm_WI2, pm_WI3, pm_WI4, pm_WI5, pm_WV, pm_WW, pm_WX, pb_B36, pm_if, pm_QI_at, pm_QL_at, pm_QV_at, pm_QR_at, pm_QR_at0, pm_QR_at1, Nat.reduceSub, Nat.reduceAdd, List.replicate_zero, List.replicate_succ, true_and, and_true, true_or, or_true, and_self, reduceIte, Nat.reduceEqDiff, Nat.reduceLT, Nat.reduceLeDiff, Nat.reduceMul, false_and, and_false, reduceCtorEq, false_or, or_false, not_true_eq_false, not_false_eq_true, true_implies, false_implies, implies_true, lf_10, eq_self, Int32.reduceLT, Int32.reduceLE, Int32.reduceAdd, Int32.reduceSub, Int32.reduceDiv, Int32.reduceMul, pm_same, pm_i_wI, pm_l_wL, pm_l_wM, pm_oR_rf, pm_oQ_rf, nI_1, sw_e, LQ1, LQ2, LQ5, b1, b2, b3, hw.k, hw.f3, hw.f4, hw.f5, b4]
  by_cases hcc : nI (x / 256) < pm_i S 67 m
  · have h1 : q 1 S := by rw [decide_eq_true hcc] at h; exact h
    refine ⟨fun z => ?_, fun z => ?_⟩
    all_goals first | exact absurd hcc z | exact h1 | (exfalso; lia)
  · have h1 : q 0 S := by rw [decide_eq_false hcc] at h; exact h
    refine ⟨fun z => ?_, fun z => ?_⟩
    all_goals first | exact absurd z hcc | exact h1 | (exfalso; lia)
theorem lf_36_6 {G : pm_G} {d : Nat} {A : iv_A} {S : pm_S} {m x : Nat} {k : Int32} {q : Int32 → pm_S → Prop} (hd : 2 ≤ d) (hI : Inv A S) (hm : m < iv_c S 18) (hx : x < 2 ^ 22) (h : q (bI (tv S m k x)) S) (hc : x % 16 = 6) : pm_CI G d 36 [.int (nI x), .ref (iv_m A m), .int k] S q := by
  obtain ⟨b1, b2, b3, b4⟩ := st_bits hx
  have hw := hI.row hm
  rw [hc] at b4
  have ht : tv S m k x = decide (k - pm_i S 66 m < nI (x / 256)) := by unfold tv; rw [hc]; rfl
  rw [ht] at h
  have ei : (nI 6 : Int32) = 6 := rfl
  rw [ei] at b4
  refine pm_goI 36 6 pb_c36 (by decide) (Nat.le_of_ble_eq_true rfl) rfl ?_
  try simp only [show pm_mL 36 = 6 from rfl, pm_WI0, pm_WI1, pm_WI2, pm_WI3, pm_WI4, pm_WI5, pm_WV, pm_WW, pm_WX, pb_B36, pm_if, pm_QI_at, pm_QL_at, pm_QV_at, pm_QR_at, pm_QR_at0, pm_QR_at1, Nat.reduceSub, Nat.reduceAdd, List.replicate_zero, List.replicate_succ, true_and, and_true, true_or, or_true, and_self, reduceIte, Nat.reduceEqDiff, Nat.reduceLT, Nat.reduceLeDiff, Nat.reduceMul, false_and, and_false, reduceCtorEq, false_or, or_false, not_true_eq_false, not_false_eq_true, true_implies, false_implies, implies_true, lf_10, eq_self, Int32.reduceLT, Int32.reduceLE, Int32.reduceAdd, Int32.reduceSub, Int32.reduceDiv, Int32.reduceMul, pm_same, pm_i_wI, pm_l_wL, pm_l_wM, pm_oR_rf, pm_oQ_rf, nI_1, sw_e, LQ1, LQ2, LQ5, b1, b2, b3, hw.k, hw.f3, hw.f4, hw.f5, b4]
  by_cases hcc : k - pm_i S 66 m < nI (x / 256)
  · have h1 : q 1 S := by rw [decide_eq_true hcc] at h; exact h
    refine ⟨fun z => ?_, fun z => ?_⟩
    all_goals first | exact absurd hcc z | exact h1 | (exfalso; lia)
  · have h1 : q 0 S := by rw [decide_eq_false hcc] at h; exact h
    refine ⟨fun z => ?_, fun z => ?_⟩
    all_goals first | exact absurd z hcc | exact h1 | (exfalso; lia)
theorem lf_36_7 {G : pm_G} {d : Nat} {A : iv_A} {S : pm_S} {m x : Nat} {k : Int32} {q : Int32 → pm_S → Prop} (hd : 2 ≤ d) (hI : Inv A S) (hm : m < iv_c S 18) (hx : x < 2 ^ 22) (h : q (bI (tv S m k x)) S) (hc : x % 16 = 7) : pm_CI G d 36 [.int (nI x), .ref (iv_m A m), .int k] S q := by
  obtain ⟨b1, b2, b3, b4⟩ := st_bits hx
  have hw := hI.row hm
  rw [hc] at b4
  have ht : tv S m k x = decide (nI (x / 256) < k - pm_i S 66 m) := by unfold tv; rw [hc]; rfl
  rw [ht] at h
  have ei : (nI 7 : Int32) = 7 := rfl
  rw [ei] at b4
  refine pm_goI 36 6 pb_c36 (by decide) (Nat.le_of_ble_eq_true rfl) rfl ?_
  try simp only [show pm_mL 36 = 6 from rfl, pm_WI0, pm_WI1, pm_WI2, pm_WI3, pm_WI4, pm_WI5, pm_WV, pm_WW, pm_WX, pb_B36, pm_if, pm_QI_at, pm_QL_at, pm_QV_at, pm_QR_at, pm_QR_at0, pm_QR_at1, Nat.reduceSub, Nat.reduceAdd, List.replicate_zero, List.replicate_succ, true_and, and_true, true_or, or_true, and_self, reduceIte, Nat.reduceEqDiff, Nat.reduceLT, Nat.reduceLeDiff, Nat.reduceMul, false_and, and_false, reduceCtorEq, false_or, or_false, not_true_eq_false, not_false_eq_true, true_implies, false_implies, implies_true, lf_10, eq_self, Int32.reduceLT, Int32.reduceLE, Int32.reduceAdd, Int32.reduceSub, Int32.reduceDiv, Int32.reduceMul, pm_same, pm_i_wI, pm_l_wL, pm_l_wM, pm_oR_rf, pm_oQ_rf, nI_1, sw_e, LQ1, LQ2, LQ5, b1, b2, b3, hw.k, hw.f3, hw.f4, hw.f5, b4]
  by_cases hcc : nI (x / 256) < k - pm_i S 66 m
  · have h1 : q 1 S := by rw [decide_eq_true hcc] at h; exact h
    refine ⟨fun z => ?_, fun z => ?_⟩
    all_goals first | exact absurd hcc z | exact h1 | (exfalso; lia)
  · have h1 : q 0 S := by rw [decide_eq_false hcc] at h; exact h
    refine ⟨fun z => ?_, fun z => ?_⟩
    all_goals first | exact absurd z hcc | exact h1 | (exfalso; lia)
theorem lf_36_99 {G : pm_G} {d : Nat} {A : iv_A} {S : pm_S} {m x : Nat} {k : Int32} {q : Int32 → pm_S → Prop} (hd : 2 ≤ d) (hI : Inv A S) (hm : m < iv_c S 18) (hx : x < 2 ^ 22) (h : q (bI (tv S m k x)) S) (h0 : ¬ x % 16 = 0) (h1 : ¬ x % 16 = 1) (h2 : ¬ x % 16 = 2) (h4 : ¬ x % 16 = 4) (h5 : ¬ x % 16 = 5) (h6 : ¬ x % 16 = 6) (h7 : ¬ x % 16 = 7) : pm_CI G d 36 [.int (nI x), .ref (iv_m A m), .int k] S q := by
  obtain ⟨b1, b2, b3, b4⟩ := st_bits hx
  have hw := hI.row hm
  have ht : tv S m k x = tv_w S (fa_l S m (nI (x / 16 % 16)) k) false (nI (x / 256)) := by unfold tv; rw [if_neg h0, if_neg h1, if_neg h2, if_neg h4, if_neg h5, if_neg h6, if_neg h7]
  rw [ht] at h
  have g0 : (nI (x % 16) = Int32.ofNat 0) = False := eq_false (fun z => h0 ((nI_eq (by omega) (by omega)).mp z))
  have g1 : (nI (x % 16) = Int32.ofNat 1) = False := eq_false (fun z => h1 ((nI_eq (by omega) (by omega)).mp z))
  have g2 : (nI (x % 16) = Int32.ofNat 2) = False := eq_false (fun z => h2 ((nI_eq (by omega) (by omega)).mp z))
  have g4 : (nI (x % 16) = Int32.ofNat 4) = False := eq_false (fun z => h4 ((nI_eq (by omega) (by omega)).mp z))
  have g5 : (nI (x % 16) = Int32.ofNat 5) = False := eq_false (fun z => h5 ((nI_eq (by omega) (by omega)).mp z))
  have g6 : (nI (x % 16) = Int32.ofNat 6) = False := eq_false (fun z => h6 ((nI_eq (by omega) (by omega)).mp z))
  have g7 : (nI (x % 16) = Int32.ofNat 7) = False := eq_false (fun z => h7 ((nI_eq (by omega) (by omega)).mp z))
  have g2e : (nI (x % 16) = 2) = False := g2
  have g3e : (nI (x % 16) = Int32.ofNat 3) = (x % 16 = 3) := propext (nI_eq (by omega) (by omega))
  refine pm_goI 36 6 pb_c36 (by decide) (Nat.le_of_ble_eq_true rfl) rfl ?_
  try simp only [show pm_mL 36 = 6 from rfl, pm_WI0, pm_WI1, pm_WI2, pm_WI3, pm_WI4, pm_WI5, pm_WV, pm_WW, pm_WX, pb_B36, pm_if, pm_QI_at, pm_QL_at, pm_QV_at, pm_QR_at, pm_QR_at0, pm_QR_at1, Nat.reduceSub, Nat.reduceAdd, List.replicate_zero, List.replicate_succ, true_and, and_true, true_or, or_true, and_self, reduceIte, Nat.reduceEqDiff, Nat.reduceLT, Nat.reduceLeDiff, Nat.reduceMul, false_and, and_false, reduceCtorEq, false_or, or_false, not_true_eq_false, not_false_eq_true, true_implies, false_implies, implies_true, lf_10, eq_self, Int32.reduceLT, Int32.reduceLE, Int32.reduceAdd, Int32.reduceSub, Int32.reduceDiv, Int32.reduceMul, pm_same, pm_i_wI, pm_l_wL, pm_l_wM, pm_oR_rf, pm_oQ_rf, nI_1, sw_e, LQ1, LQ2, LQ5, b1, b2, b3, hw.k, hw.f3, hw.f4, hw.f5, b4, g0, g1, g2, g4, g5, g6, g7, g2e, g3e]
  try (refine ⟨fun _ => ?_, fun _ => ?_⟩)
  all_goals
    refine ⟨by omega, lf_60 hI hm ?_⟩
    cases ha : fa_l S m (nI (x / 16 % 16)) k with
    | none =>
      rw [ha] at h
      try simp only [pm_WV, pm_WW, true_and, and_true, true_or, or_true, and_self, reduceIte, Nat.reduceEqDiff, Nat.reduceLT, Nat.reduceLeDiff, Nat.reduceMul, false_and, and_false, reduceCtorEq, false_or, or_false, not_true_eq_false, not_false_eq_true, true_implies, false_implies, implies_true, lf_10, eq_self, Int32.reduceLT, Int32.reduceLE, Int32.reduceAdd, Int32.reduceSub, Int32.reduceDiv, Int32.reduceMul, pm_same, pm_i_wI, pm_l_wL, pm_l_wM, pm_oR_rf, pm_oQ_rf, nI_1, sw_e, LQ1, LQ2, LQ5, pm_WI0, pm_WI1, pm_WI2, pm_WI3, pm_WI4, pm_WI5, pm_WV, pm_WW, pm_WX, pb_B36, pm_if, pm_QI_at, pm_QL_at, pm_QV_at, pm_QR_at, pm_QR_at0, pm_QR_at1, Nat.reduceSub, Nat.reduceAdd, List.replicate_zero, List.replicate_succ, b1, b2, b3, hw.k, hw.f3, hw.f4, hw.f5, b4, g0, g1, g2, g4, g5, g6, g7, g2e, g3e, Option.map_none]
      exact h
    | some a =>
      rw [ha] at h
      obtain ⟨⟨a1, a2, a3⟩, ⟨f0, f1, f2, f3, f4⟩, _⟩ := hI.act.2.2.1 a (fa_l_lt ha)
      try simp only [pm_WV, pm_WW, true_and, and_true, true_or, or_true, and_self, reduceIte, Nat.reduceEqDiff, Nat.reduceLT, Nat.reduceLeDiff, Nat.reduceMul, false_and, and_false, reduceCtorEq, false_or, or_false, not_true_eq_false, not_false_eq_true, true_implies, false_implies, implies_true, lf_10, eq_self, Int32.reduceLT, Int32.reduceLE, Int32.reduceAdd, Int32.reduceSub, Int32.reduceDiv, Int32.reduceMul, pm_same, pm_i_wI, pm_l_wL, pm_l_wM, pm_oR_rf, pm_oQ_rf, nI_1, sw_e, LQ1, LQ2, LQ5, pm_WI0, pm_WI1, pm_WI2, pm_WI3, pm_WI4, pm_WI5, pm_WV, pm_WW, pm_WX, pb_B36, pm_if, pm_QI_at, pm_QL_at, pm_QV_at, pm_QR_at, pm_QR_at0, pm_QR_at1, Nat.reduceSub, Nat.reduceAdd, List.replicate_zero, List.replicate_succ, b1, b2, b3, hw.k, hw.f3, hw.f4, hw.f5, b4, g0, g1, g2, g4, g5, g6, g7, g2e, g3e, Option.map_some, a3, f2, b4]
      unfold tv_w at h
      refine ⟨fun z => ?_, fun z => ?_⟩
      all_goals first
        | (have hcc : ¬ nI (x / 256) < pm_i S 78 a := by lia
           have h1 : q 0 S := by simp only [hcc, decide_false, reduceIte, Bool.false_eq_true] at h; exact h
           exact h1)
        | (have hcc : nI (x / 256) < pm_i S 78 a := by lia
           have h1 : q 1 S := by simp only [hcc, decide_true, reduceIte, Bool.false_eq_true] at h; exact h
           exact h1)
theorem lf_36 {G : pm_G} {d : Nat} {A : iv_A} {S : pm_S} {m x : Nat} {k : Int32} {q : Int32 → pm_S → Prop} (hd : 2 ≤ d) (hI : Inv A S) (hm : m < iv_c S 18) (hx : x < 2 ^ 22) (h : q (bI (tv S m k x)) S) : pm_CI G d 36 [.int (nI x), .ref (iv_m A m), .int k] S q := by
  by_cases h0 : x % 16 = 0
  · exact lf_36_0 hd hI hm hx h h0
  by_cases h1 : x % 16 = 1
  · exact lf_36_1 hd hI hm hx h h1
  by_cases h2 : x % 16 = 2
  · exact lf_36_2 hd hI hm hx h h2
  by_cases h4 : x % 16 = 4
  · exact lf_36_4 hd hI hm hx h h4
  by_cases h5 : x % 16 = 5
  · exact lf_36_5 hd hI hm hx h h5
  by_cases h6 : x % 16 = 6
  · exact lf_36_6 hd hI hm hx h h6
  by_cases h7 : x % 16 = 7
  · exact lf_36_7 hd hI hm hx h h7
  exact lf_36_99 hd hI hm hx h h0 h1 h2 h4 h5 h6 h7
def en : List Bool → Nat
  | [] => 1
  | b :: st => 2 * en st + (if b then 1 else 0)
theorem en_lt : ∀ st : List Bool, 1 ≤ en st ∧ en st < 2 ^ (st.length + 1)
  | [] => by decide
  | b :: st => by
    have := en_lt st
    try simp only [en, List.length_cons, Nat.pow_succ] at this ⊢
    split <;> omega
theorem or_1 (a b : Nat) : nI a ||| nI b = nI (a ||| b) := by
  apply Int32.toBitVec_inj.mp
  show BitVec.ofNat 32 a ||| BitVec.ofNat 32 b = BitVec.ofNat 32 (a ||| b)
  exact (BitVec.ofNat_or ..).symm
theorem xor_1 (a b : Nat) : nI a ^^^ nI b = nI (a ^^^ b) := by
  apply Int32.toBitVec_inj.1
  show BitVec.ofNat 32 a ^^^ BitVec.ofNat 32 b = BitVec.ofNat 32 (a ^^^ b)
  apply BitVec.eq_of_getLsbD_eq
  intro i hi
  simp [hi]
theorem and_1 (a b : Nat) : nI a &&& nI b = nI (a &&& b) := by
  apply Int32.toBitVec_inj.1
  show BitVec.ofNat 32 a &&& BitVec.ofNat 32 b = BitVec.ofNat 32 (a &&& b)
  apply BitVec.eq_of_getLsbD_eq
  intro i hi
  simp [hi]
theorem or_11 (A : Nat) : (A ||| 1) ||| 1 = A ||| 1 := Nat.eq_of_testBit_eq (fun i => by rw [Nat.testBit_or, Nat.testBit_or]; cases A.testBit i <;> cases (1 : Nat).testBit i <;> rfl)
theorem or_nat1 (W : Nat) : W ||| 1 = 2 * (W / 2) + 1 := by
  have h2 : 2 ^ 1 * (W / 2) + 1 = 2 ^ 1 * (W / 2) ||| 1 := Nat.two_pow_add_eq_or_of_lt (by decide) (W / 2)
  have h3 : W % 2 = 0 ∨ W % 2 = 1 := by omega
  rcases h3 with h3 | h3
  · rw [show W = 2 ^ 1 * (W / 2) from by omega, ← show 2 ^ 1 * (W / 2) + 1 = 2 ^ 1 * (W / 2) ||| 1 from h2]; omega
  · have h4 : W = 2 ^ 1 * (W / 2) ||| 1 := by rw [← h2]; omega
    conv => lhs; rw [h4]
    rw [or_11, ← h2]
theorem and_nat2 {W : Nat} (hW : W < 2 ^ 20) : W &&& 4294967294 = 2 * (W / 2) := by
  have e1 : W &&& (2 ^ 32 - 1) = W % 2 ^ 32 := Nat.and_two_pow_sub_one_eq_mod W 32
  have e2 : (2 * (W / 2)) &&& (2 ^ 32 - 1) = (2 * (W / 2)) % 2 ^ 32 := Nat.and_two_pow_sub_one_eq_mod _ 32
  have e3 : (2 * (W / 2)) &&& (2 ^ 1 - 1) = (2 * (W / 2)) % 2 ^ 1 := Nat.and_two_pow_sub_one_eq_mod _ 1
  have e4 : (2 ^ 32 - 1 : Nat) = 4294967294 ||| (2 ^ 1 - 1) := by decide
  have k : (2 * (W / 2)) &&& 4294967294 = 2 * (W / 2) := by
    rw [e4, Nat.and_comm, Nat.and_or_distrib_right, Nat.and_comm 4294967294, Nat.and_comm (2 ^ 1 - 1), e3] at e2
    rw [show (2 * (W / 2)) % 2 ^ 1 = 0 by omega, show (2 * (W / 2)) % 2 ^ 32 = 2 * (W / 2) by omega] at e2
    simpa using e2
  have h2 : 2 ^ 1 * (W / 2) + 1 = 2 ^ 1 * (W / 2) ||| 1 := Nat.two_pow_add_eq_or_of_lt (by decide) (W / 2)
  have h3 : W % 2 = 0 ∨ W % 2 = 1 := by omega
  rcases h3 with h3 | h3
  · rw [show W = 2 * (W / 2) by omega]
    rw [show 2 * (W / 2) / 2 = W / 2 by omega]; exact k
  · have h4 : W = 2 * (W / 2) ||| 1 := by rw [show 2 * (W / 2) = 2 ^ 1 * (W / 2) by omega, ← h2]; omega
    conv => lhs; rw [h4]
    rw [Nat.and_or_distrib_right, k, show (1 &&& 4294967294 : Nat) = 0 from by decide]
    simp
theorem en_bits {W : Nat} (hW : W < 2 ^ 20) : nI W &&& 1 = nI (W % 2) ∧ ((nI W).toUInt32 >>> ((1 : Int32).toUInt32 &&& Int32.toUInt32 31)).toInt32 = nI (W / 2) ∧ nI W ^^^ 1 = nI (2 * (W / 2) + (1 - W % 2)) ∧ nI W &&& -2 = nI (2 * (W / 2)) ∧ nI W ||| 1 = nI (2 * (W / 2) + 1) ∧ nI W ||| 0 = nI W ∧ nI W <<< ((1 : Int32) &&& 31) = nI (2 * W) := by
  refine ⟨pk_andN (by omega) 1 (by decide), pk_ushrN (by omega) _ 1 (by decide), ?_, ?_, ?_, ?_, ?_⟩
  · rw [show (1 : Int32) = nI 1 from rfl, xor_1]
    congr 1
    have h1 : (W ^^^ 1) % 2 ^ 1 = (W % 2 ^ 1) ^^^ (1 % 2 ^ 1) := Nat.xor_mod_two_pow
    have h2 : (W ^^^ 1) / 2 ^ 1 = (W / 2 ^ 1) ^^^ (1 / 2 ^ 1) := Nat.xor_div_two_pow
    rw [show 1 / 2 ^ 1 = 0 from rfl, Nat.xor_zero] at h2
    have h3 : W % 2 ^ 1 = 0 ∨ W % 2 ^ 1 = 1 := by omega
    rcases h3 with h3 | h3 <;> rw [h3] at h1
    · rw [show 0 ^^^ (1 % 2 ^ 1) = 1 from rfl] at h1; omega
    · rw [show 1 ^^^ (1 % 2 ^ 1) = 0 from rfl] at h1; omega
  · rw [show (-2 : Int32) = nI 4294967294 from by decide, and_1, and_nat2 hW]
  · rw [show (1 : Int32) = nI 1 from rfl, or_1, or_nat1]
  · rw [show (0 : Int32) = nI 0 from rfl, or_1]; simp
  · rw [pk_shlN (n := W) _ 1 (by decide) (by omega)]; congr 1; omega
theorem en_c {b : Bool} {st : List Bool} : en (b :: st) % 2 = (if b then 1 else 0) ∧ en (b :: st) / 2 = en st := by
  cases b <;> simp only [en, reduceIte, Bool.false_eq_true] <;> omega
/-- a LAW's steps in an object's row -/
def lst (S : pm_S) (p w5 : Nat) (st : List Nat) : Prop := pm_k S p = 5 ∧ pm_r S p 17 = some w5 ∧ pm_k S w5 = 20 ∧ pm_z S w5 = 160 ∧ st.length ≤ 160 ∧ (∀ x, x ∈ st → x < 2 ^ 22) ∧ ∀ i, i < st.length → pm_i S w5 i = nI (st.getD i 0)
theorem tk_succ : ∀ (l : List Nat) (j : Nat), j < l.length → l.take (j + 1) = l.take j ++ [l.getD j 0]
  | [], j, h => absurd h (by simp)
  | a :: l, 0, h => by simp
  | a :: l, j + 1, h => by
    have := tk_succ l j (by simpa using h)
    simp [this]
theorem gd_drop : ∀ (l : List Nat) (a j : Nat), (l.drop a).getD j 0 = l.getD (a + j) 0
  | l, 0, j => by simp
  | [], a + 1, j => by simp
  | x :: l, a + 1, j => by
    have := gd_drop l a j
    rw [show a + 1 + j = (a + j) + 1 by omega]
    simpa using this
theorem gd_take : ∀ (l : List Nat) (n j : Nat), j < n → (l.take n).getD j 0 = l.getD j 0
  | l, 0, j, h => absurd h (Nat.not_lt_zero j)
  | [], n + 1, j, h => by simp
  | x :: l, n + 1, 0, h => by simp
  | x :: l, n + 1, j + 1, h => by
    have := gd_take l n j (by omega)
    simpa using this
theorem sub_get {st : List Nat} {a b j : Nat} (hb : b ≤ st.length) (hj : a + j < b) : (gx_sub st a b).take (j + 1) = (gx_sub st a b).take j ++ [st.getD (a + j) 0] := by
  have hlen : (gx_sub st a b).length = b - a := by unfold gx_sub; simp; omega
  rw [tk_succ _ j (by omega), ← gd_drop]
  congr 2
  unfold gx_sub
  exact gd_take _ _ _ (by omega)
theorem sub_len {st : List Nat} {a b : Nat} (hb : b ≤ st.length) : (gx_sub st a b).length = b - a := by unfold gx_sub; simp; omega
theorem gx_s1_8 {t : Nat → Bool} {x : Nat} {a : Bool} {r : List Bool} (h : x % 16 = 8) : gx_s1 t x (a :: r) = (!a) :: r := by unfold gx_s1; rw [h]; rfl
theorem gx_s1_9 {t : Nat → Bool} {x : Nat} {a b : Bool} {r : List Bool} (h : x % 16 = 9) : gx_s1 t x (a :: b :: r) = (b && a) :: r := by unfold gx_s1; rw [h]; rfl
theorem gx_s1_10 {t : Nat → Bool} {x : Nat} {a b : Bool} {r : List Bool} (h : x % 16 = 10) : gx_s1 t x (a :: b :: r) = (b || a) :: r := by unfold gx_s1; rw [h]; rfl
theorem gx_s1_o {t : Nat → Bool} {x : Nat} {st : List Bool} (h8 : ¬ x % 16 = 8) (h9 : ¬ x % 16 = 9) (h10 : ¬ x % 16 = 10) : gx_s1 t x st = t x :: st := by
  unfold gx_s1
  split
  · exact absurd (by assumption) h8
  · exact absurd (by assumption) h9
  · exact absurd (by assumption) h10
  · rfl
theorem en_head : ∀ st : List Bool, en st % 2 = if st.headD true then 1 else 0
  | [] => rfl
  | b :: st => en_c.1
theorem lf_35 {G : pm_G} {d : Nat} {A : iv_A} {S : pm_S} {m p w5 a b : Nat} {k : Int32} {st : List Nat} {q : Int32 → pm_S → Prop} (hd : 3 ≤ d) (hI : Inv A S) (hm : m < iv_c S 18) (hl : lst S p w5 st) (hab : a ≤ b) (hb : b ≤ st.length) (hev : gx_sub st a b = [] ∨ gx_ev (tv S m k) (gx_sub st a b) 15) (h : q (bI (gx_hv (tv S m k) (gx_sub st a b))) S) : pm_CI G d 35 [.ref p, .int (nI a), .int (nI b), .ref (iv_m A m), .int k] S q := by
  obtain ⟨l1, l2, l3, l4, l5, l6, l7⟩ := hl
  generalize hE : gx_sub st a b = E at hev h
  have hEl : E.length = b - a := by rw [← hE]; exact sub_len hb
  generalize hT : tv S m k = t at hev h
  have key : ∀ r j, j + r = b - a → pm_W G d 35 (pm_QI q) 6 [.ref p, .int (nI a), .int (nI b), .ref (iv_m A m), .int k, .int (nI (en (gx_run t (E.take j) []))), .int (nI (a + j)), .float 0, .float 0] [] S 0 0 := by
    intro r
    induction r with
    | zero =>
      intro j hj
      have hEj : E.take j = E := List.take_of_length_le (by omega)
      rw [hEj]
      have hlt := en_lt (gx_run t E [])
      have hlen : (gx_run t E []).length ≤ 15 := by
        rcases hev with rfl | hev
        · simp [gx_run]
        · have := hev.2.1 [] E.length
          rw [List.take_length] at this; simpa using this
      have hW : en (gx_run t E []) < 2 ^ 20 := Nat.lt_of_lt_of_le hlt.2 (Nat.pow_le_pow_right (by omega) (by omega))
      have h1 := (en_bits hW).1
      have h2 := en_head (gx_run t E [])
      have haj : nI b ≤ nI (a + j) := nI_le (by omega) (by omega)
      have hn0 : ¬ nI (a + j) < 0 := nI_pos (by omega)
      have hhv : (gx_run t E []).headD true = gx_hv t E := rfl
      rw [hhv] at h2
      refine pm_wb_ok pb_c35 4 6 0 _ _ _ _ _ ?_
      try simp only [pm_WI0, pm_WI1, pm_WI2, pm_WI3, pm_WI4, pm_WI5, pm_WV, pm_WW, pm_WX, pb_B35, pm_if, pm_QI_at, pm_QL_at, pm_QV_at, pm_QR_at, pm_QR_at0, pm_QR_at1, Nat.reduceSub, Nat.reduceAdd, List.replicate_zero, List.replicate_succ, true_and, and_true, true_or, or_true, and_self, reduceIte, Nat.reduceEqDiff, Nat.reduceLT, Nat.reduceLeDiff, Nat.reduceMul, false_and, and_false, reduceCtorEq, false_or, or_false, not_true_eq_false, not_false_eq_true, true_implies, false_implies, implies_true, lf_10, eq_self, Int32.reduceLT, Int32.reduceLE, Int32.reduceAdd, Int32.reduceSub, Int32.reduceDiv, Int32.reduceMul, pm_same, pm_i_wI, pm_l_wL, pm_l_wM, pm_oR_rf, pm_oQ_rf, nI_1, sw_e, LQ1, LQ2, LQ5, haj, hn0, h1, h2]
      cases hg : gx_hv t E <;> rw [hg] at h <;> simp only [hg, reduceIte, Bool.false_eq_true, nI_0]
      · exact ⟨fun z => absurd z (by decide), fun _ => h⟩
      · exact ⟨fun _ => h, fun z => absurd rfl z⟩
    | succ r ih =>
      intro j hj
      have hev' : gx_ev t E 15 := by
        rcases hev with he | he
        · rw [he] at hEl; simp at hEl; omega
        · exact he
      have hx := sub_get (st := st) (a := a) (b := b) (j := j) hb (by omega)
      rw [hE] at hx
      have hxm : st.getD (a + j) 0 ∈ st := by
        rw [List.getD_eq_getElem?_getD, List.getElem?_eq_getElem (show a + j < st.length by omega)]; exact List.getElem_mem _
      have hx22 := l6 _ hxm
      have hsi := l7 (a + j) (by omega)
      generalize hX : st.getD (a + j) 0 = x at hx hxm hx22 hsi
      generalize hST : gx_run t (E.take j) [] = ST
      have hlen : ST.length ≤ 15 := by
        have := hev'.2.1 [] j
        rw [hST] at this; simpa using this
      have hnx : gx_run t (E.take (j + 1)) [] = gx_s1 t x ST := by rw [hx, gx_run_app, hST]; rfl
      have hfit : (x % 16 = 8 → 1 ≤ ST.length) ∧ (x % 16 = 9 ∨ x % 16 = 10 → 2 ≤ ST.length) := by
        have h1 := hev'.2.2 []
        rw [← List.take_append_drop (j + 1) E, gx_fit_app, hx, gx_fit_app, hST] at h1
        exact h1.1.2.1
      have go := ih (j + 1) (by omega)
      rw [hnx] at go
      have hlt := en_lt ST
      have hW : en ST < 2 ^ 18 := Nat.lt_of_lt_of_le hlt.2 (Nat.pow_le_pow_right (by omega) (by omega))
      obtain ⟨e1, e2, e3, e4, e5, e6, e7⟩ := en_bits (show en ST < 2 ^ 20 by omega)
      obtain ⟨g1, g2, g3, g4, g5, g6, g7⟩ := en_bits (show en ST / 2 < 2 ^ 20 by omega)
      obtain ⟨k1, k2, k3, k4, k5, k6, k7⟩ := en_bits (show 2 * en ST < 2 ^ 20 by omega)
      have haj : ¬ nI b ≤ nI (a + j) := nI_ge (by omega) (by omega)
      have hn0 : ¬ nI (a + j) < 0 := nI_pos (by omega)
      have h160 : ¬ (160 : Int32) ≤ nI (a + j) := nI_ge (a := a + j) (b := 160) (by omega) (by omega)
      have hcl := nI_clamp (n := a + j) (by omega)
      have hvp := vp_in_nI (n := a + j) (N := 160) (by omega) (by decide)
      have b4 := (st_bits hx22).2.2.2
      have wk : ∀ (W : Nat) (v7 v8 : Value), W = en (gx_s1 t x ST) → pm_W G d 35 (pm_QI q) 6 [.ref p, .int (nI a), .int (nI b), .ref (iv_m A m), .int k, .int (nI W), .int (nI (a + j + 1)), v7, v8] [] S 0 0 := fun W v7 v8 e => by
        rw [e]; exact pv_W go (by simp [pv_le, pm_unk, Nat.add_assoc])
      by_cases c8 : x % 16 = 8
      · have hi8 : (nI 8 : Int32) = 8 := rfl
        rw [c8, hi8] at b4
        refine pm_wb_ok pb_c35 5 6 0 _ _ _ _ _ ?_
        try simp only [pm_WI0, pm_WI1, pm_WI2, pm_WI3, pm_WI4, pm_WI5, pm_WV, pm_WW, pm_WX, pb_B35, pm_if, pm_QI_at, pm_QL_at, pm_QV_at, pm_QR_at, pm_QR_at0, pm_QR_at1, Nat.reduceSub, Nat.reduceAdd, List.replicate_zero, List.replicate_succ, true_and, and_true, true_or, or_true, and_self, reduceIte, Nat.reduceEqDiff, Nat.reduceLT, Nat.reduceLeDiff, Nat.reduceMul, false_and, and_false, reduceCtorEq, false_or, or_false, not_true_eq_false, not_false_eq_true, true_implies, false_implies, implies_true, lf_10, eq_self, Int32.reduceLT, Int32.reduceLE, Int32.reduceAdd, Int32.reduceSub, Int32.reduceDiv, Int32.reduceMul, pm_same, pm_i_wI, pm_l_wL, pm_l_wM, pm_oR_rf, pm_oQ_rf, nI_1, sw_e, LQ1, LQ2, LQ5, l1, l2, l3, l4, haj, hn0, h160, hcl, hsi, b4, e3]
        refine ⟨hvp, wk _ _ _ ?_⟩
        cases ST with
        | nil => have := hfit.1 c8; simp at this
        | cons v r =>
          rw [gx_s1_8 c8]
          have := en_c (b := v) (st := r)
          rw [this.1, this.2]
          cases v <;> simp [en]
      · by_cases c9 : x % 16 = 9
        · have hi8 : (nI 9 : Int32) = 9 := rfl
          rw [c9, hi8] at b4
          refine pm_wb_ok pb_c35 6 6 0 _ _ _ _ _ ?_
          try simp only [pm_WI0, pm_WI1, pm_WI2, pm_WI3, pm_WI4, pm_WI5, pm_WV, pm_WW, pm_WX, pb_B35, pm_if, pm_QI_at, pm_QL_at, pm_QV_at, pm_QR_at, pm_QR_at0, pm_QR_at1, Nat.reduceSub, Nat.reduceAdd, List.replicate_zero, List.replicate_succ, true_and, and_true, true_or, or_true, and_self, reduceIte, Nat.reduceEqDiff, Nat.reduceLT, Nat.reduceLeDiff, Nat.reduceMul, false_and, and_false, reduceCtorEq, false_or, or_false, not_true_eq_false, not_false_eq_true, true_implies, false_implies, implies_true, lf_10, eq_self, Int32.reduceLT, Int32.reduceLE, Int32.reduceAdd, Int32.reduceSub, Int32.reduceDiv, Int32.reduceMul, pm_same, pm_i_wI, pm_l_wL, pm_l_wM, pm_oR_rf, pm_oQ_rf, nI_1, sw_e, LQ1, LQ2, LQ5, l1, l2, l3, l4, haj, hn0, h160, hcl, hsi, b4, e1, e2, g4]
          refine ⟨hvp, ?_⟩
          match ST, hfit.2 (Or.inl c9) with
          | v :: u :: r, _ =>
            have q1 := en_c (b := v) (st := u :: r)
            have q2 := en_c (b := u) (st := r)
            rw [q1.1, q1.2] at *
            rw [gx_s1_9 c9] at wk
            refine ⟨fun z => ?_, fun z => ?_⟩
            · refine wk _ _ _ ?_
              cases v
              · exact absurd z (by decide)
              · cases u <;> simp [en]
            · refine wk _ _ _ ?_
              cases v
              · cases u <;> simp [en]; omega
              · exact absurd rfl z
        · by_cases c10 : x % 16 = 10
          · have hi8 : (nI 10 : Int32) = 10 := rfl
            rw [c10, hi8] at b4
            refine pm_wb_ok pb_c35 6 6 0 _ _ _ _ _ ?_
            try simp only [pm_WI0, pm_WI1, pm_WI2, pm_WI3, pm_WI4, pm_WI5, pm_WV, pm_WW, pm_WX, pb_B35, pm_if, pm_QI_at, pm_QL_at, pm_QV_at, pm_QR_at, pm_QR_at0, pm_QR_at1, Nat.reduceSub, Nat.reduceAdd, List.replicate_zero, List.replicate_succ, true_and, and_true, true_or, or_true, and_self, reduceIte, Nat.reduceEqDiff, Nat.reduceLT, Nat.reduceLeDiff, Nat.reduceMul, false_and, and_false, reduceCtorEq, false_or, or_false, not_true_eq_false, not_false_eq_true, true_implies, false_implies, implies_true, lf_10, eq_self, Int32.reduceLT, Int32.reduceLE, Int32.reduceAdd, Int32.reduceSub, Int32.reduceDiv, Int32.reduceMul, pm_same, pm_i_wI, pm_l_wL, pm_l_wM, pm_oR_rf, pm_oQ_rf, nI_1, sw_e, LQ1, LQ2, LQ5, l1, l2, l3, l4, haj, hn0, h160, hcl, hsi, b4, e1, e2]
            refine ⟨hvp, ?_⟩
            match ST, hfit.2 (Or.inr c10) with
            | v :: u :: r, _ =>
              have q1 := en_c (b := v) (st := u :: r)
              have q2 := en_c (b := u) (st := r)
              rw [gx_s1_10 c10] at wk
              rw [q1.2] at g5 g6 ⊢
              rw [q1.1]
              cases v
              · try simp only [reduceIte, Bool.false_eq_true]
                rw [show nI 0 = 0 from rfl, g6]
                exact wk _ _ _ (by cases u <;> simp [en])
              · try simp only [reduceIte]
                rw [show nI 1 = 1 from rfl, g5]
                exact wk _ _ _ (by rw [q2.2]; cases u <;> simp [en])
          · rw [gx_s1_o c8 c9 c10] at wk
            have f8 : (nI (x % 16) = Int32.ofNat 8) = False := eq_false (fun z => c8 ((nI_eq (by omega) (by omega)).mp z))
            have f9 : (nI (x % 16) = Int32.ofNat 9) = False := eq_false (fun z => c9 ((nI_eq (by omega) (by omega)).mp z))
            have f10 : (nI (x % 16) = Int32.ofNat 10) = False := eq_false (fun z => c10 ((nI_eq (by omega) (by omega)).mp z))
            refine pm_wb_ok pb_c35 6 6 0 _ _ _ _ _ ?_
            try simp only [pm_WI0, pm_WI1, pm_WI2, pm_WI3, pm_WI4, pm_WI5, pm_WV, pm_WW, pm_WX, pb_B35, pm_if, pm_QI_at, pm_QL_at, pm_QV_at, pm_QR_at, pm_QR_at0, pm_QR_at1, Nat.reduceSub, Nat.reduceAdd, List.replicate_zero, List.replicate_succ, true_and, and_true, true_or, or_true, and_self, reduceIte, Nat.reduceEqDiff, Nat.reduceLT, Nat.reduceLeDiff, Nat.reduceMul, false_and, and_false, reduceCtorEq, false_or, or_false, not_true_eq_false, not_false_eq_true, true_implies, false_implies, implies_true, lf_10, eq_self, Int32.reduceLT, Int32.reduceLE, Int32.reduceAdd, Int32.reduceSub, Int32.reduceDiv, Int32.reduceMul, pm_same, pm_i_wI, pm_l_wL, pm_l_wM, pm_oR_rf, pm_oQ_rf, nI_1, sw_e, LQ1, LQ2, LQ5, l1, l2, l3, l4, haj, hn0, h160, hcl, hsi, b4, e7, f8, f9, f10]
            refine ⟨hvp, hvp, by omega, lf_36 (by omega) hI hm hx22 ?_⟩
            rw [hT]
            cases hx0 : t x
            · refine ⟨fun _ => ?_, fun z => absurd rfl z⟩
              rw [k6]
              exact wk _ _ _ (by simp [en, hx0])
            · refine ⟨fun z => absurd z (by decide), fun _ => ?_⟩
              rw [k5]
              exact wk _ _ _ (by simp [en, hx0])
  refine pm_goI 35 1 pb_c35 (by decide) (Nat.le_of_ble_eq_true rfl) rfl ?_
  try simp only [show pm_mL 35 = 9 from rfl, pm_WI0, pm_WI1, pm_WI2, pm_WI3, pm_WI4, pm_WI5, pm_WV, pm_WW, pm_WX, pb_B35, pm_if, pm_QI_at, pm_QL_at, pm_QV_at, pm_QR_at, pm_QR_at0, pm_QR_at1, Nat.reduceSub, Nat.reduceAdd, List.replicate_zero, List.replicate_succ, true_and, and_true, true_or, or_true, and_self, reduceIte, Nat.reduceEqDiff, Nat.reduceLT, Nat.reduceLeDiff, Nat.reduceMul, false_and, and_false, reduceCtorEq, false_or, or_false, not_true_eq_false, not_false_eq_true, true_implies, false_implies, implies_true, lf_10, eq_self, Int32.reduceLT, Int32.reduceLE, Int32.reduceAdd, Int32.reduceSub, Int32.reduceDiv, Int32.reduceMul, pm_same, pm_i_wI, pm_l_wL, pm_l_wM, pm_oR_rf, pm_oQ_rf, nI_1, sw_e, LQ1, LQ2, LQ5]
  exact key (b - a) 0 (by omega)
