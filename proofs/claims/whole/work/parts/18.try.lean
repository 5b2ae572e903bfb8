theorem ptr_1 (x : Int32) (h1 : 0 ≤ x) (h2 : x ≤ 9999) (h3 : ¬ x < 20) : 20 ≤ x := by grind
theorem ptr_2 (x y : Int32) (h1 : 0 ≤ x) (h2 : x ≤ 9999) (h3 : 0 ≤ y) (h4 : y ≤ 9999) : (x + y).toInt = x.toInt + y.toInt := by grind
theorem ptr_3 (x y : Int32) (h1 : 0 ≤ x) (h2 : x ≤ 9999) (h3 : 1 ≤ y) (h4 : y ≤ 400) (h : x + y ≤ 9999) : 0 ≤ x + y := by grind
theorem ptr_4 (t n : Nat) (h : t < 40) (h2 : n ≤ 40) (h3 : Int32.ofNat t < Int32.ofNat n) : t < n := by grind
theorem ptr_5 (t : Nat) (h : t < 40) : (Int32.ofNat t).toNatClampNeg = t := by grind
theorem ptr_6 (t : Nat) (h : t < 40) : Int32.ofNat t + 1 = Int32.ofNat (t+1) := by grind
theorem ptr_7 (x y : Int32) (h : ¬ x < y) : y ≤ x := by grind
theorem pc_159 {G : pm_G} {d : Nat} {S : pm_S} {v l m : Int32} {q : Int32 → pm_S → Prop} (h1 : l ≤ v → v ≤ m → q 1 S) (h0 : ¬ (l ≤ v ∧ v ≤ m) → q 0 S) : pm_CI G d 159 [.int v, .int l, .int m] S q := by
  refine pm_goI 159 40 pb_c159 (by decide) (Nat.le_of_ble_eq_true rfl) rfl ?_
  simp only [show pm_mL 159 = 3 from rfl, pm_WI0, pm_WI1, pm_WI2, pm_WI3, pm_WI4, pm_WI5, pm_WV, pm_WW, pm_WX, pb_B159, pm_if, pm_QI_at, pm_QL_at, pm_QV_at, pm_QR_at, pm_QR_at0, pm_QR_at1, Nat.reduceSub, Nat.reduceAdd, List.replicate_zero, List.replicate_succ]
  trace_state
  sorry
theorem pc_97 {G : pm_G} {d : Nat} {S : pm_S} {v : Int32} {q : Int32 → pm_S → Prop} (hS : Sh S) : pm_CI G d 97 [.ref 0, .int v] S q := by
  refine pm_goI 97 40 pb_c97 (by decide) (Nat.le_of_ble_eq_true rfl) rfl ?_
  simp only [show pm_mL 97 = 2 from rfl, pm_WI0, pm_WI1, pm_WI2, pm_WI3, pm_WI4, pm_WI5, pm_WV, pm_WW, pm_WX, pb_B97, pm_if, pm_QI_at, pm_QL_at, pm_QV_at, pm_QR_at, pm_QR_at0, pm_QR_at1, Nat.reduceSub, Nat.reduceAdd, List.replicate_zero, List.replicate_succ, sh_k0 hS, sh_r0_0 hS, sh_k1 hS, pm_same, pm_i_wI]
  trace_state
  sorry
theorem pc_158 {G : pm_G} {d : Nat} {S : pm_S} {v : Int32} {q : Int32 → pm_S → Prop} (hS : Sh S) : pm_CI G d 158 [.ref 59, .int v] S q := by
  refine pm_goI 158 40 pb_c158 (by decide) (Nat.le_of_ble_eq_true rfl) rfl ?_
  simp only [show pm_mL 158 = 2 from rfl, pm_WI0, pm_WI1, pm_WI2, pm_WI3, pm_WI4, pm_WI5, pm_WV, pm_WW, pm_WX, pb_B158, pm_if, pm_QI_at, pm_QL_at, pm_QV_at, pm_QR_at, pm_QR_at0, pm_QR_at1, Nat.reduceSub, Nat.reduceAdd, List.replicate_zero, List.replicate_succ, sh_k59 hS, pm_same, pm_i_wI]
  trace_state
  sorry
