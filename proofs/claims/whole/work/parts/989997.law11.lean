/-! law: the checks of both sides; the pair -/
theorem cl_126 {G : pm_G} {d c : Nat} {S : pm_S} {b k : Int32} {q : Int32 → pm_S → Prop} (hd : 40 ≤ d) (hS : Sh S) (h14 : pm_i S 14 2 = nI c) (hc : c ≤ 12)
    (h1 : ¬ (b = -1 ∨ (0 ≤ b ∧ b ≤ 5)) → q (-1) S) (h2 : (b = -1 ∨ (0 ≤ b ∧ b ≤ 5)) → ¬ (0 ≤ k ∧ k ≤ 9999) → q (-2) S) (h3 : (b = -1 ∨ (0 ≤ b ∧ b ≤ 5)) → (0 ≤ k ∧ k ≤ 9999) → c = 12 → q (-4) S)
    (h4 : (b = -1 ∨ (0 ≤ b ∧ b ≤ 5)) → (0 ≤ k ∧ k ≤ 9999) → c < 12 → pm_W G d 126 (pm_QI q) 39 [.ref 0, .int b, .int k, .float 0] [] S 0 0) : pm_CI G d 126 [.ref 0, .int b, .int k] S q := by
  have k24 : (b = -1 ∨ (0 ≤ b ∧ b ≤ 5)) → (0 ≤ k ∧ k ≤ 9999) → pm_W G d 126 (pm_QI q) 24 [.ref 0, .int b, .int k, .float 0] [] S 0 0 := fun z1 z2 => by
    by_cases e : c < 12
    · have l12 : nI c < 12 := nI_lt (b := 12) e (by decide)
      have fin := h4 z1 z2 e
      try refine pm_wb_ok pb_c126 1 24 0 _ _ _ _ _ ?_
      try simp only [pm_WI0, pm_WI1, pm_WI2, pm_WI3, pm_WI4, pm_WI5, pm_WV, pm_WW, pm_WX, pb_B126, pm_if, pm_QI_at, pm_QL_at, pm_QV_at, pm_QR_at, pm_QR_at0, pm_QR_at1, Nat.reduceSub, Nat.reduceAdd, List.replicate_zero, List.replicate_succ, true_and, and_true, true_or, or_true, and_self, reduceIte, Nat.reduceEqDiff, Nat.reduceLT, Nat.reduceLeDiff, Nat.reduceMul, false_and, and_false, reduceCtorEq, false_or, or_false, not_true_eq_false, not_false_eq_true, true_implies, false_implies, implies_true, lf_10, eq_self, Int32.reduceLT, Int32.reduceLE, Int32.reduceAdd, Int32.reduceSub, pm_same, pm_i_wI, pm_l_wL, pm_l_wM, pm_oR_rf, pm_oQ_rf, nI_1, LQ1, LQ2, LQ5, sh_k0 hS, sh_r0_7 hS, sh_k14 hS, h14, l12]
      exact fin
    · have l12 : ¬ nI c < 12 := nI_nlt (a := c) (b := 12) (by omega) (by omega)
      have fin := h3 z1 z2 (by omega)
      try refine pm_wb_ok pb_c126 1 24 0 _ _ _ _ _ ?_
      try simp only [pm_WI0, pm_WI1, pm_WI2, pm_WI3, pm_WI4, pm_WI5, pm_WV, pm_WW, pm_WX, pb_B126, pm_if, pm_QI_at, pm_QL_at, pm_QV_at, pm_QR_at, pm_QR_at0, pm_QR_at1, Nat.reduceSub, Nat.reduceAdd, List.replicate_zero, List.replicate_succ, true_and, and_true, true_or, or_true, and_self, reduceIte, Nat.reduceEqDiff, Nat.reduceLT, Nat.reduceLeDiff, Nat.reduceMul, false_and, and_false, reduceCtorEq, false_or, or_false, not_true_eq_false, not_false_eq_true, true_implies, false_implies, implies_true, lf_10, eq_self, Int32.reduceLT, Int32.reduceLE, Int32.reduceAdd, Int32.reduceSub, pm_same, pm_i_wI, pm_l_wL, pm_l_wM, pm_oR_rf, pm_oQ_rf, nI_1, LQ1, LQ2, LQ5, sh_k0 hS, sh_r0_7 hS, sh_k14 hS, h14, l12]
      exact fin
  have k14 : (b = -1 ∨ (0 ≤ b ∧ b ≤ 5)) → pm_W G d 126 (pm_QI q) 14 [.ref 0, .int b, .int k, .float 0] [] S 0 0 := fun z1 => by
    try refine pm_wb_ok pb_c126 1 14 0 _ _ _ _ _ ?_
    try simp only [pm_WI0, pm_WI1, pm_WI2, pm_WI3, pm_WI4, pm_WI5, pm_WV, pm_WW, pm_WX, pb_B126, pm_if, pm_QI_at, pm_QL_at, pm_QV_at, pm_QR_at, pm_QR_at0, pm_QR_at1, Nat.reduceSub, Nat.reduceAdd, List.replicate_zero, List.replicate_succ, true_and, and_true, true_or, or_true, and_self, reduceIte, Nat.reduceEqDiff, Nat.reduceLT, Nat.reduceLeDiff, Nat.reduceMul, false_and, and_false, reduceCtorEq, false_or, or_false, not_true_eq_false, not_false_eq_true, true_implies, false_implies, implies_true, lf_10, eq_self, Int32.reduceLT, Int32.reduceLE, Int32.reduceAdd, Int32.reduceSub, pm_same, pm_i_wI, pm_l_wL, pm_l_wM, pm_oR_rf, pm_oQ_rf, nI_1, LQ1, LQ2, LQ5]
    refine ⟨by omega, lf_99 (fun z2 => ?_) (fun z2 => ?_)⟩
    · have fin := k24 z1 z2
      try simp only [pm_WV, pm_WW, true_and, and_true, true_or, or_true, and_self, reduceIte, Nat.reduceEqDiff, Nat.reduceLT, Nat.reduceLeDiff, Nat.reduceMul, false_and, and_false, reduceCtorEq, false_or, or_false, not_true_eq_false, not_false_eq_true, true_implies, false_implies, implies_true, lf_10, eq_self, Int32.reduceLT, Int32.reduceLE, Int32.reduceAdd, Int32.reduceSub, pm_same, pm_i_wI, pm_l_wL, pm_l_wM, pm_oR_rf, pm_oQ_rf, nI_1, sw_e, LQ1, LQ2, pm_WI0, pm_WI1, pm_WI2, pm_WI3, pm_WI4, pm_WI5, pm_WV, pm_WW, pm_WX, pb_B126, pm_if, pm_QI_at, pm_QL_at, pm_QV_at, pm_QR_at, pm_QR_at0, pm_QR_at1, Nat.reduceSub, Nat.reduceAdd, List.replicate_zero, List.replicate_succ, true_and, and_true, true_or, or_true, and_self, reduceIte, Nat.reduceEqDiff, Nat.reduceLT, Nat.reduceLeDiff, Nat.reduceMul, false_and, and_false, reduceCtorEq, false_or, or_false, not_true_eq_false, not_false_eq_true, true_implies, false_implies, implies_true, lf_10, eq_self, Int32.reduceLT, Int32.reduceLE, Int32.reduceAdd, Int32.reduceSub, pm_same, pm_i_wI, pm_l_wL, pm_l_wM, pm_oR_rf, pm_oQ_rf, nI_1, LQ1, LQ2, LQ5]
      exact fin
    · have fin := h2 z1 z2
      try simp only [pm_WV, pm_WW, true_and, and_true, true_or, or_true, and_self, reduceIte, Nat.reduceEqDiff, Nat.reduceLT, Nat.reduceLeDiff, Nat.reduceMul, false_and, and_false, reduceCtorEq, false_or, or_false, not_true_eq_false, not_false_eq_true, true_implies, false_implies, implies_true, lf_10, eq_self, Int32.reduceLT, Int32.reduceLE, Int32.reduceAdd, Int32.reduceSub, pm_same, pm_i_wI, pm_l_wL, pm_l_wM, pm_oR_rf, pm_oQ_rf, nI_1, sw_e, LQ1, LQ2, pm_WI0, pm_WI1, pm_WI2, pm_WI3, pm_WI4, pm_WI5, pm_WV, pm_WW, pm_WX, pb_B126, pm_if, pm_QI_at, pm_QL_at, pm_QV_at, pm_QR_at, pm_QR_at0, pm_QR_at1, Nat.reduceSub, Nat.reduceAdd, List.replicate_zero, List.replicate_succ, true_and, and_true, true_or, or_true, and_self, reduceIte, Nat.reduceEqDiff, Nat.reduceLT, Nat.reduceLeDiff, Nat.reduceMul, false_and, and_false, reduceCtorEq, false_or, or_false, not_true_eq_false, not_false_eq_true, true_implies, false_implies, implies_true, lf_10, eq_self, Int32.reduceLT, Int32.reduceLE, Int32.reduceAdd, Int32.reduceSub, pm_same, pm_i_wI, pm_l_wL, pm_l_wM, pm_oR_rf, pm_oQ_rf, nI_1, LQ1, LQ2, LQ5]
      exact fin
  refine pm_goI 126 1 pb_c126 (by decide) (Nat.le_of_ble_eq_true rfl) rfl ?_
  try simp only [show pm_mL 126 = 4 from rfl, pm_WI0, pm_WI1, pm_WI2, pm_WI3, pm_WI4, pm_WI5, pm_WV, pm_WW, pm_WX, pb_B126, pm_if, pm_QI_at, pm_QL_at, pm_QV_at, pm_QR_at, pm_QR_at0, pm_QR_at1, Nat.reduceSub, Nat.reduceAdd, List.replicate_zero, List.replicate_succ, true_and, and_true, true_or, or_true, and_self, reduceIte, Nat.reduceEqDiff, Nat.reduceLT, Nat.reduceLeDiff, Nat.reduceMul, false_and, and_false, reduceCtorEq, false_or, or_false, not_true_eq_false, not_false_eq_true, true_implies, false_implies, implies_true, lf_10, eq_self, Int32.reduceLT, Int32.reduceLE, Int32.reduceAdd, Int32.reduceSub, pm_same, pm_i_wI, pm_l_wL, pm_l_wM, pm_oR_rf, pm_oQ_rf, nI_1, LQ1, LQ2, LQ5]
  refine ⟨by omega, lf_106 (fun z => ?_) (fun z => ?_)⟩
  · have fin := k14 (Or.inr z)
    try simp only [pm_WV, pm_WW, true_and, and_true, true_or, or_true, and_self, reduceIte, Nat.reduceEqDiff, Nat.reduceLT, Nat.reduceLeDiff, Nat.reduceMul, false_and, and_false, reduceCtorEq, false_or, or_false, not_true_eq_false, not_false_eq_true, true_implies, false_implies, implies_true, lf_10, eq_self, Int32.reduceLT, Int32.reduceLE, Int32.reduceAdd, Int32.reduceSub, pm_same, pm_i_wI, pm_l_wL, pm_l_wM, pm_oR_rf, pm_oQ_rf, nI_1, sw_e, LQ1, LQ2, pm_WI0, pm_WI1, pm_WI2, pm_WI3, pm_WI4, pm_WI5, pm_WV, pm_WW, pm_WX, pb_B126, pm_if, pm_QI_at, pm_QL_at, pm_QV_at, pm_QR_at, pm_QR_at0, pm_QR_at1, Nat.reduceSub, Nat.reduceAdd, List.replicate_zero, List.replicate_succ, true_and, and_true, true_or, or_true, and_self, reduceIte, Nat.reduceEqDiff, Nat.reduceLT, Nat.reduceLeDiff, Nat.reduceMul, false_and, and_false, reduceCtorEq, false_or, or_false, not_true_eq_false, not_false_eq_true, true_implies, false_implies, implies_true, lf_10, eq_self, Int32.reduceLT, Int32.reduceLE, Int32.reduceAdd, Int32.reduceSub, pm_same, pm_i_wI, pm_l_wL, pm_l_wM, pm_oR_rf, pm_oQ_rf, nI_1, LQ1, LQ2, LQ5]
    exact fin
  · by_cases e : b = -1
    · have fin := k14 (Or.inl e)
      try simp only [pm_WV, pm_WW, true_and, and_true, true_or, or_true, and_self, reduceIte, Nat.reduceEqDiff, Nat.reduceLT, Nat.reduceLeDiff, Nat.reduceMul, false_and, and_false, reduceCtorEq, false_or, or_false, not_true_eq_false, not_false_eq_true, true_implies, false_implies, implies_true, lf_10, eq_self, Int32.reduceLT, Int32.reduceLE, Int32.reduceAdd, Int32.reduceSub, pm_same, pm_i_wI, pm_l_wL, pm_l_wM, pm_oR_rf, pm_oQ_rf, nI_1, sw_e, LQ1, LQ2, pm_WI0, pm_WI1, pm_WI2, pm_WI3, pm_WI4, pm_WI5, pm_WV, pm_WW, pm_WX, pb_B126, pm_if, pm_QI_at, pm_QL_at, pm_QV_at, pm_QR_at, pm_QR_at0, pm_QR_at1, Nat.reduceSub, Nat.reduceAdd, List.replicate_zero, List.replicate_succ, true_and, and_true, true_or, or_true, and_self, reduceIte, Nat.reduceEqDiff, Nat.reduceLT, Nat.reduceLeDiff, Nat.reduceMul, false_and, and_false, reduceCtorEq, false_or, or_false, not_true_eq_false, not_false_eq_true, true_implies, false_implies, implies_true, lf_10, eq_self, Int32.reduceLT, Int32.reduceLE, Int32.reduceAdd, Int32.reduceSub, pm_same, pm_i_wI, pm_l_wL, pm_l_wM, pm_oR_rf, pm_oQ_rf, nI_1, LQ1, LQ2, LQ5]
      exact ⟨fun _ => fin, fun y => absurd e y⟩
    · have fin := h1 (fun y => y.elim e z)
      try simp only [pm_WV, pm_WW, true_and, and_true, true_or, or_true, and_self, reduceIte, Nat.reduceEqDiff, Nat.reduceLT, Nat.reduceLeDiff, Nat.reduceMul, false_and, and_false, reduceCtorEq, false_or, or_false, not_true_eq_false, not_false_eq_true, true_implies, false_implies, implies_true, lf_10, eq_self, Int32.reduceLT, Int32.reduceLE, Int32.reduceAdd, Int32.reduceSub, pm_same, pm_i_wI, pm_l_wL, pm_l_wM, pm_oR_rf, pm_oQ_rf, nI_1, sw_e, LQ1, LQ2, pm_WI0, pm_WI1, pm_WI2, pm_WI3, pm_WI4, pm_WI5, pm_WV, pm_WW, pm_WX, pb_B126, pm_if, pm_QI_at, pm_QL_at, pm_QV_at, pm_QR_at, pm_QR_at0, pm_QR_at1, Nat.reduceSub, Nat.reduceAdd, List.replicate_zero, List.replicate_succ, true_and, and_true, true_or, or_true, and_self, reduceIte, Nat.reduceEqDiff, Nat.reduceLT, Nat.reduceLeDiff, Nat.reduceMul, false_and, and_false, reduceCtorEq, false_or, or_false, not_true_eq_false, not_false_eq_true, true_implies, false_implies, implies_true, lf_10, eq_self, Int32.reduceLT, Int32.reduceLE, Int32.reduceAdd, Int32.reduceSub, pm_same, pm_i_wI, pm_l_wL, pm_l_wM, pm_oR_rf, pm_oQ_rf, nI_1, LQ1, LQ2, LQ5]
      exact ⟨fun y => absurd y e, fun _ => fin⟩
theorem mo_222 {G : pm_G} {d c : Nat} {S : pm_S} {b k : Int32} {q : Int32 → pm_S → Prop} (hd : 40 ≤ d) (hS : Sh S) (h31 : pm_i S 59 31 = nI c) (hc : c ≤ 12)
    (h1 : ¬ (b = -1 ∨ (0 ≤ b ∧ b ≤ 5)) → q (-1) S) (h2 : (b = -1 ∨ (0 ≤ b ∧ b ≤ 5)) → ¬ (0 ≤ k ∧ k ≤ 9999) → q (-2) S) (h3 : (b = -1 ∨ (0 ≤ b ∧ b ≤ 5)) → (0 ≤ k ∧ k ≤ 9999) → c = 12 → q (-4) S)
    (h4 : (b = -1 ∨ (0 ≤ b ∧ b ≤ 5)) → (0 ≤ k ∧ k ≤ 9999) → c < 12 → pm_W G d 222 (pm_QI q) 36 [.ref 59, .int b, .int k, .float 0, .float 0] [] S 0 0) : pm_CI G d 222 [.ref 59, .int b, .int k] S q := by
  have k24 : (b = -1 ∨ (0 ≤ b ∧ b ≤ 5)) → (0 ≤ k ∧ k ≤ 9999) → pm_W G d 222 (pm_QI q) 24 [.ref 59, .int b, .int k, .float 0, .float 0] [] S 0 0 := fun z1 z2 => by
    by_cases e : c < 12
    · have l12 : ¬ nI c = 12 := fun z => by
        have := (nI_eq (a := c) (b := 12) (by omega) (by decide)).mp z
        omega
      have fin := h4 z1 z2 e
      try refine pm_wb_ok pb_c222 1 24 0 _ _ _ _ _ ?_
      try simp only [pm_WI0, pm_WI1, pm_WI2, pm_WI3, pm_WI4, pm_WI5, pm_WV, pm_WW, pm_WX, pb_B222, pm_if, pm_QI_at, pm_QL_at, pm_QV_at, pm_QR_at, pm_QR_at0, pm_QR_at1, Nat.reduceSub, Nat.reduceAdd, List.replicate_zero, List.replicate_succ, true_and, and_true, true_or, or_true, and_self, reduceIte, Nat.reduceEqDiff, Nat.reduceLT, Nat.reduceLeDiff, Nat.reduceMul, false_and, and_false, reduceCtorEq, false_or, or_false, not_true_eq_false, not_false_eq_true, true_implies, false_implies, implies_true, lf_10, eq_self, Int32.reduceLT, Int32.reduceLE, Int32.reduceAdd, Int32.reduceSub, pm_same, pm_i_wI, pm_l_wL, pm_l_wM, pm_oR_rf, pm_oQ_rf, nI_1, LQ1, LQ2, LQ5, sh_k59 hS, h31, l12]
      exact fin
    · have l12 : nI c = 12 := by rw [show c = 12 by omega]; rfl
      have fin := h3 z1 z2 (by omega)
      try refine pm_wb_ok pb_c222 1 24 0 _ _ _ _ _ ?_
      try simp only [pm_WI0, pm_WI1, pm_WI2, pm_WI3, pm_WI4, pm_WI5, pm_WV, pm_WW, pm_WX, pb_B222, pm_if, pm_QI_at, pm_QL_at, pm_QV_at, pm_QR_at, pm_QR_at0, pm_QR_at1, Nat.reduceSub, Nat.reduceAdd, List.replicate_zero, List.replicate_succ, true_and, and_true, true_or, or_true, and_self, reduceIte, Nat.reduceEqDiff, Nat.reduceLT, Nat.reduceLeDiff, Nat.reduceMul, false_and, and_false, reduceCtorEq, false_or, or_false, not_true_eq_false, not_false_eq_true, true_implies, false_implies, implies_true, lf_10, eq_self, Int32.reduceLT, Int32.reduceLE, Int32.reduceAdd, Int32.reduceSub, pm_same, pm_i_wI, pm_l_wL, pm_l_wM, pm_oR_rf, pm_oQ_rf, nI_1, LQ1, LQ2, LQ5, sh_k59 hS, h31, l12]
      exact fin
  have k14 : (b = -1 ∨ (0 ≤ b ∧ b ≤ 5)) → pm_W G d 222 (pm_QI q) 14 [.ref 59, .int b, .int k, .float 0, .float 0] [] S 0 0 := fun z1 => by
    try refine pm_wb_ok pb_c222 1 14 0 _ _ _ _ _ ?_
    try simp only [pm_WI0, pm_WI1, pm_WI2, pm_WI3, pm_WI4, pm_WI5, pm_WV, pm_WW, pm_WX, pb_B222, pm_if, pm_QI_at, pm_QL_at, pm_QV_at, pm_QR_at, pm_QR_at0, pm_QR_at1, Nat.reduceSub, Nat.reduceAdd, List.replicate_zero, List.replicate_succ, true_and, and_true, true_or, or_true, and_self, reduceIte, Nat.reduceEqDiff, Nat.reduceLT, Nat.reduceLeDiff, Nat.reduceMul, false_and, and_false, reduceCtorEq, false_or, or_false, not_true_eq_false, not_false_eq_true, true_implies, false_implies, implies_true, lf_10, eq_self, Int32.reduceLT, Int32.reduceLE, Int32.reduceAdd, Int32.reduceSub, pm_same, pm_i_wI, pm_l_wL, pm_l_wM, pm_oR_rf, pm_oQ_rf, nI_1, LQ1, LQ2, LQ5]
    refine ⟨by omega, lf_161 (by omega) (fun z2 => ?_) (fun z2 => ?_)⟩
    · have fin := k24 z1 z2
      try simp only [pm_WV, pm_WW, true_and, and_true, true_or, or_true, and_self, reduceIte, Nat.reduceEqDiff, Nat.reduceLT, Nat.reduceLeDiff, Nat.reduceMul, false_and, and_false, reduceCtorEq, false_or, or_false, not_true_eq_false, not_false_eq_true, true_implies, false_implies, implies_true, lf_10, eq_self, Int32.reduceLT, Int32.reduceLE, Int32.reduceAdd, Int32.reduceSub, pm_same, pm_i_wI, pm_l_wL, pm_l_wM, pm_oR_rf, pm_oQ_rf, nI_1, sw_e, LQ1, LQ2, pm_WI0, pm_WI1, pm_WI2, pm_WI3, pm_WI4, pm_WI5, pm_WV, pm_WW, pm_WX, pb_B222, pm_if, pm_QI_at, pm_QL_at, pm_QV_at, pm_QR_at, pm_QR_at0, pm_QR_at1, Nat.reduceSub, Nat.reduceAdd, List.replicate_zero, List.replicate_succ, true_and, and_true, true_or, or_true, and_self, reduceIte, Nat.reduceEqDiff, Nat.reduceLT, Nat.reduceLeDiff, Nat.reduceMul, false_and, and_false, reduceCtorEq, false_or, or_false, not_true_eq_false, not_false_eq_true, true_implies, false_implies, implies_true, lf_10, eq_self, Int32.reduceLT, Int32.reduceLE, Int32.reduceAdd, Int32.reduceSub, pm_same, pm_i_wI, pm_l_wL, pm_l_wM, pm_oR_rf, pm_oQ_rf, nI_1, LQ1, LQ2, LQ5]
      exact fin
    · have fin := h2 z1 z2
      try simp only [pm_WV, pm_WW, true_and, and_true, true_or, or_true, and_self, reduceIte, Nat.reduceEqDiff, Nat.reduceLT, Nat.reduceLeDiff, Nat.reduceMul, false_and, and_false, reduceCtorEq, false_or, or_false, not_true_eq_false, not_false_eq_true, true_implies, false_implies, implies_true, lf_10, eq_self, Int32.reduceLT, Int32.reduceLE, Int32.reduceAdd, Int32.reduceSub, pm_same, pm_i_wI, pm_l_wL, pm_l_wM, pm_oR_rf, pm_oQ_rf, nI_1, sw_e, LQ1, LQ2, pm_WI0, pm_WI1, pm_WI2, pm_WI3, pm_WI4, pm_WI5, pm_WV, pm_WW, pm_WX, pb_B222, pm_if, pm_QI_at, pm_QL_at, pm_QV_at, pm_QR_at, pm_QR_at0, pm_QR_at1, Nat.reduceSub, Nat.reduceAdd, List.replicate_zero, List.replicate_succ, true_and, and_true, true_or, or_true, and_self, reduceIte, Nat.reduceEqDiff, Nat.reduceLT, Nat.reduceLeDiff, Nat.reduceMul, false_and, and_false, reduceCtorEq, false_or, or_false, not_true_eq_false, not_false_eq_true, true_implies, false_implies, implies_true, lf_10, eq_self, Int32.reduceLT, Int32.reduceLE, Int32.reduceAdd, Int32.reduceSub, pm_same, pm_i_wI, pm_l_wL, pm_l_wM, pm_oR_rf, pm_oQ_rf, nI_1, LQ1, LQ2, LQ5]
      exact fin
  refine pm_goI 222 1 pb_c222 (by decide) (Nat.le_of_ble_eq_true rfl) rfl ?_
  try simp only [show pm_mL 222 = 5 from rfl, pm_WI0, pm_WI1, pm_WI2, pm_WI3, pm_WI4, pm_WI5, pm_WV, pm_WW, pm_WX, pb_B222, pm_if, pm_QI_at, pm_QL_at, pm_QV_at, pm_QR_at, pm_QR_at0, pm_QR_at1, Nat.reduceSub, Nat.reduceAdd, List.replicate_zero, List.replicate_succ, true_and, and_true, true_or, or_true, and_self, reduceIte, Nat.reduceEqDiff, Nat.reduceLT, Nat.reduceLeDiff, Nat.reduceMul, false_and, and_false, reduceCtorEq, false_or, or_false, not_true_eq_false, not_false_eq_true, true_implies, false_implies, implies_true, lf_10, eq_self, Int32.reduceLT, Int32.reduceLE, Int32.reduceAdd, Int32.reduceSub, pm_same, pm_i_wI, pm_l_wL, pm_l_wM, pm_oR_rf, pm_oQ_rf, nI_1, LQ1, LQ2, LQ5]
  refine ⟨fun e => k14 (Or.inl e), fun e => ⟨by omega, lf_171 (by omega) (fun z => ?_) (fun z => ?_)⟩⟩
  · have fin := k14 (Or.inr z)
    try simp only [pm_WV, pm_WW, true_and, and_true, true_or, or_true, and_self, reduceIte, Nat.reduceEqDiff, Nat.reduceLT, Nat.reduceLeDiff, Nat.reduceMul, false_and, and_false, reduceCtorEq, false_or, or_false, not_true_eq_false, not_false_eq_true, true_implies, false_implies, implies_true, lf_10, eq_self, Int32.reduceLT, Int32.reduceLE, Int32.reduceAdd, Int32.reduceSub, pm_same, pm_i_wI, pm_l_wL, pm_l_wM, pm_oR_rf, pm_oQ_rf, nI_1, sw_e, LQ1, LQ2, pm_WI0, pm_WI1, pm_WI2, pm_WI3, pm_WI4, pm_WI5, pm_WV, pm_WW, pm_WX, pb_B222, pm_if, pm_QI_at, pm_QL_at, pm_QV_at, pm_QR_at, pm_QR_at0, pm_QR_at1, Nat.reduceSub, Nat.reduceAdd, List.replicate_zero, List.replicate_succ, true_and, and_true, true_or, or_true, and_self, reduceIte, Nat.reduceEqDiff, Nat.reduceLT, Nat.reduceLeDiff, Nat.reduceMul, false_and, and_false, reduceCtorEq, false_or, or_false, not_true_eq_false, not_false_eq_true, true_implies, false_implies, implies_true, lf_10, eq_self, Int32.reduceLT, Int32.reduceLE, Int32.reduceAdd, Int32.reduceSub, pm_same, pm_i_wI, pm_l_wL, pm_l_wM, pm_oR_rf, pm_oQ_rf, nI_1, LQ1, LQ2, LQ5]
    exact fin
  · have fin := h1 (fun y => y.elim e z)
    try simp only [pm_WV, pm_WW, true_and, and_true, true_or, or_true, and_self, reduceIte, Nat.reduceEqDiff, Nat.reduceLT, Nat.reduceLeDiff, Nat.reduceMul, false_and, and_false, reduceCtorEq, false_or, or_false, not_true_eq_false, not_false_eq_true, true_implies, false_implies, implies_true, lf_10, eq_self, Int32.reduceLT, Int32.reduceLE, Int32.reduceAdd, Int32.reduceSub, pm_same, pm_i_wI, pm_l_wL, pm_l_wM, pm_oR_rf, pm_oQ_rf, nI_1, sw_e, LQ1, LQ2, pm_WI0, pm_WI1, pm_WI2, pm_WI3, pm_WI4, pm_WI5, pm_WV, pm_WW, pm_WX, pb_B222, pm_if, pm_QI_at, pm_QL_at, pm_QV_at, pm_QR_at, pm_QR_at0, pm_QR_at1, Nat.reduceSub, Nat.reduceAdd, List.replicate_zero, List.replicate_succ, true_and, and_true, true_or, or_true, and_self, reduceIte, Nat.reduceEqDiff, Nat.reduceLT, Nat.reduceLeDiff, Nat.reduceMul, false_and, and_false, reduceCtorEq, false_or, or_false, not_true_eq_false, not_false_eq_true, true_implies, false_implies, implies_true, lf_10, eq_self, Int32.reduceLT, Int32.reduceLE, Int32.reduceAdd, Int32.reduceSub, pm_same, pm_i_wI, pm_l_wL, pm_l_wM, pm_oR_rf, pm_oQ_rf, nI_1, LQ1, LQ2, LQ5]
    exact fin
def lv_y (A : iv_A) (c q j : Nat) : Prop := q = iv_l A c ∨ (∃ i, i < 6 ∧ q = iv_w A c i) ∨ (q = 5 ∧ (j = 1 ∨ j = 2)) ∨ (q = 59 ∧ j = 26)
/-- a fault: the text is gone, the draft may be anything -/
theorem iv_lawF {A : iv_A} {S S' : pm_S} (hI : Inv A S) (e1 : pm_n S' = pm_n S) (e2 : pm_k S' = pm_k S) (e3 : pm_z S' = pm_z S) (e4 : pm_r S' = pm_r S) (e5 : pm_l S' = pm_l S)
    (hi : ∀ q j, ¬ lv_y A (iv_c S 31) q j → pm_i S' q j = pm_i S q j) (t5 : pm_i S' 5 1 = 0) (t26 : pm_i S' 59 26 = 0) : Inv A S' := by
  have h114 := hI.sh.1
  obtain ⟨n12, hn31⟩ := MI.c31 hI.mi
  obtain ⟨l1, l2, l3, l4, l5, l6⟩ := hI.law
  obtain ⟨c1, c2, c3, c4, c5⟩ := l3 (iv_c S 31) (Nat.le_refl _)
  have low : ∀ q j, q < 114 → ¬ (7 ≤ q ∧ q ≤ 13) → ¬ (q = 5 ∧ (j = 1 ∨ j = 2)) → ¬ (q = 59 ∧ j = 26) → pm_i S' q j = pm_i S q j := fun q j h1 h2 h3 h4 => hi q j (fun z => by
    unfold lv_y at z
    rcases z with z | ⟨i, z1, z2⟩ | z | z
    · omega
    · have := (c5 i z1).2.1; omega
    · exact h3 z
    · exact h4 z)
  have obj : ∀ q j, 114 ≤ q → ¬ pm_k S q = 5 → ¬ (pm_k S q = 20 ∧ ¬ pm_z S q = 6) → pm_i S' q j = pm_i S q j := fun q j h1 h2 h3 => hi q j (fun z => by
    unfold lv_y at z
    rcases z with z | ⟨i, z1, z2⟩ | z | z
    · subst z; exact h2 c3
    · subst z2
      obtain ⟨y1, y2, y3, y4, y5, y6⟩ := c5 i z1
      exact h3 ⟨y4, by rw [y5]; split <;> omega⟩
    · omega
    · omega)
  have n1 : pm_n S ≤ pm_n S' := by omega
  have n2' : ∀ p, p < pm_n S → pm_k S' p = pm_k S p ∧ pm_z S' p = pm_z S p := fun p _ => by rw [e2, e3]; exact ⟨rfl, rfl⟩
  have hr : ∀ p j, pm_r S' p j = pm_r S p j := fun p j => by rw [e4]
  have ec : iv_c S' 31 = iv_c S 31 := by unfold iv_c; rw [low 59 31 (by omega) (by omega) (by omega) (by omega)]
  refine ⟨hI.sh.same e1 e2 e3 e4, ?_, ?_, ?_, ?_, ?_, ?_, ?_, ?_, ?_, ?_, ?_, ?_⟩
  · exact hI.day.cg (fun p j h => by unfold iv_rDay at h; exact low p j (by omega) (by omega) (by omega) (by omega))
  · exact hI.per.cg (fun p j h => by unfold iv_rPer at h; exact low p j (by omega) (by omega) (by omega) (by omega))
  · exact hI.mat.cg n1 n2' (fun p j _ => hr p j) (fun p j h => by
      unfold iv_rMat at h
      by_cases z : p < 114
      · exact low p j z (by omega) (by omega) (by omega)
      · exact obj p j (by omega) (by omega) (by omega))
  · exact hI.act.cg hI.mat n1 n2' (fun p j _ => hr p j) (fun p j h => by
      unfold iv_rAct at h
      by_cases z : p < 114
      · exact low p j z (by omega) (by omega) (by omega)
      · exact obj p j (by omega) (by omega) (by omega))
  · obtain ⟨x1, x2, x3, x4⟩ := hI.txt
    have r6 : pm_i S' 6 = pm_i S 6 := funext fun j => low 6 j (by omega) (by omega) (by omega) (by omega)
    have r80 : pm_i S' 80 = pm_i S 80 := funext fun j => low 80 j (by omega) (by omega) (by omega) (by omega)
    exact ⟨t5.trans t26.symm, by rw [t26]; exact ⟨by decide, by decide⟩, by rw [r6, r80]; exact x3, fun k => by rw [r80]; exact x4 k⟩
  · refine ⟨by rw [low 14 2 (by omega) (by omega) (by omega) (by omega), low 59 31 (by omega) (by omega) (by omega) (by omega)]; exact l1, by rw [low 59 31 (by omega) (by omega) (by omega) (by omega)]; exact l2, fun l hl => ?_, fun l hl => ?_, ?_, ?_⟩
    · rw [ec] at hl
      have y := l3 l hl
      unfold iv_lcell at y ⊢
      rw [e1, e2, e3, e4]; exact y
    · rw [ec] at hl
      obtain ⟨y1, y2, y3, y4, y5⟩ := l3 l (Nat.le_of_lt hl)
      obtain ⟨z1, z2, z3, z4, z5, z6, z7, p, L', z8, z9⟩ := l4 l hl
      have ro : pm_i S' (iv_l A l) = pm_i S (iv_l A l) := funext fun j => hi _ j (fun z => by
        unfold lv_y at z
        rcases z with z | ⟨i, i1, i2⟩ | z | z
        · rw [z, c4] at y4; omega
        · rw [i2, (c5 i i1).2.2.2.2.2] at y4; omega
        · omega
        · omega)
      have rw' : ∀ q, q < 6 → pm_i S' (iv_w A l q) = pm_i S (iv_w A l q) := fun q hq => funext fun j => by
        obtain ⟨w1, w2, w3, w4, w5, w6⟩ := y5 q hq
        refine hi _ j (fun z => ?_)
        unfold lv_y at z
        rcases z with z | ⟨i, i1, i2⟩ | z | z
        · rw [z, c4] at w6; omega
        · rw [i2, (c5 i i1).2.2.2.2.2] at w6; omega
        · omega
        · omega
      have r8 : ∀ q, 81 ≤ q → q ≤ 84 → pm_i S' q = pm_i S q := fun q h1 h2 => funext fun j => low q j (by omega) (by omega) (by omega) (by omega)
      have et : iv_txt S' l = iv_txt S l := by unfold iv_txt; rw [r8 81 (by omega) (by omega)]
      unfold iv_lrow
      rw [hr, ro, r8 82 (by omega) (by omega), r8 83 (by omega) (by omega), r8 84 (by omega) (by omega), et]
      exact ⟨z1, z2, z3, z4, z5, z6, z7, p, L', z8, z9.cg ro rw'⟩
    · rw [hr, ec]; exact l5
    · exact l6.cg (funext fun j => low 16 j (by omega) (by omega) (by omega) (by omega)) (fun q hq => funext fun j => low (17 + q) j (by omega) (by omega) (by omega) (by omega))
  · exact hI.cau.cg (fun p j h => by unfold iv_rCau at h; exact low p j (by omega) (by omega) (by omega) (by omega))
  · exact hI.red.cg (fun p j h => by unfold iv_rRed at h; exact low p j (by omega) (by omega) (by omega) (by omega))
  · exact hI.rep.cg (fun p j h => by unfold iv_rRep at h; exact low p j (by omega) (by omega) (by omega) (by omega))
  · exact hI.wk.cg (fun p j h => by unfold iv_rWk at h; exact low p j (by omega) (by omega) (by omega) (by omega))
  · exact hI.tp.cg (fun p j h => by unfold iv_rTp at h; exact low p j (by omega) (by omega) (by omega) (by omega)) (fun p _ => by rw [e5])
  · exact hI.tr.cg (fun p j h => by unfold iv_rTr at h; exact low p j (by omega) (by omega) (by omega) (by omega))
/-- what the class leaves when a LAW was adopted -/
theorem lv_C_ok {S S1 : pm_S} {D c : Nat} {b k : Int32} (h114 : 114 ≤ pm_n S) (hD : D < pm_n S) (s1 : pm_n S1 = pm_n S) (s2 : pm_k S1 = pm_k S) (s3 : pm_z S1 = pm_z S) (s4 : pm_r S1 = pm_r S) (s5 : pm_l S1 = pm_l S) :
    pm_n (lv_D (lw_H (pm_wI S1 5 1 0)) D c b k) = pm_n S + 7 ∧
    (∀ y, y < pm_n S → pm_k (lv_D (lw_H (pm_wI S1 5 1 0)) D c b k) y = pm_k S y ∧ pm_z (lv_D (lw_H (pm_wI S1 5 1 0)) D c b k) y = pm_z S y ∧ pm_l (lv_D (lw_H (pm_wI S1 5 1 0)) D c b k) y = pm_l S y) ∧
    pm_k (lv_D (lw_H (pm_wI S1 5 1 0)) D c b k) (pm_n S) = 5 ∧
    (∀ q, q < 6 → pm_r (lv_D (lw_H (pm_wI S1 5 1 0)) D c b k) (pm_n S) (iv_lf q) = some (pm_n S + 1 + q) ∧ pm_k (lv_D (lw_H (pm_wI S1 5 1 0)) D c b k) (pm_n S + 1 + q) = 20 ∧ pm_z (lv_D (lw_H (pm_wI S1 5 1 0)) D c b k) (pm_n S + 1 + q) = (if q = 5 then 160 else 10)) ∧
    (∀ y j, y < pm_n S → pm_i (lv_D (lw_H (pm_wI S1 5 1 0)) D c b k) y j = if y = 14 ∧ j = 2 then nI (c + 1) else if y = D ∧ j = 1 then k else if y = D ∧ j = 0 then b else if y = 5 ∧ j = 1 then 0 else pm_i S1 y j) ∧
    (∀ y j, y < pm_n S → pm_r (lv_D (lw_H (pm_wI S1 5 1 0)) D c b k) y j = if y = 15 ∧ j = c then some D else if y = 5 ∧ j = 3 then some (pm_n S) else pm_r S y j) := by
  have nX : pm_n (pm_wI S1 5 1 0) = pm_n S := s1
  have kX : pm_k (pm_wI S1 5 1 0) = pm_k S := s2
  have zX : pm_z (pm_wI S1 5 1 0) = pm_z S := s3
  have rX : pm_r (pm_wI S1 5 1 0) = pm_r S := s4
  have lX : pm_l (pm_wI S1 5 1 0) = pm_l S := s5
  have iX : ∀ y j, pm_i (pm_wI S1 5 1 0) y j = if y = 5 ∧ j = 1 then 0 else pm_i S1 y j := fun y j => by rw [pm_i_wI]
  generalize pm_wI S1 5 1 0 = X at *
  obtain ⟨q1, q2, q3⟩ := lw_N_ok (S := pm_nw X 5 0) (p := pm_n X) (by rw [pm_n_nw]; omega)
  have kN := (pm_nw_at X 5 0).1
  have aK := fun y => @pm_k_nw_ne X 5 0 y
  have aZ := fun y => @pm_z_nw_ne X 5 0 y
  have aL := fun y => @pm_l_nw_ne X 5 0 y
  have aI := fun y => @pm_i_nw_ne X 5 0 y
  have aR := fun y => @pm_r_nw_ne X 5 0 y
  have nN : pm_n (pm_nw X 5 0) = pm_n S + 1 := by rw [pm_n_nw, nX]
  rw [nX] at q1 q2 q3 kN aK aZ aL aI aR
  rw [nN] at q1 q2 q3
  have eH : lw_H X = pm_wR (lw_N (pm_nw X 5 0) (pm_n S)) 5 3 (some (pm_n S)) := by unfold lw_H; rw [nX]
  rw [eH]
  unfold lv_D
  generalize lw_N (pm_nw X 5 0) (pm_n S) = N at *
  generalize pm_nw X 5 0 = M at *
  refine ⟨?_, fun y hy => ⟨?_, ?_, ?_⟩, ?_, fun q hq => ⟨?_, ?_, ?_⟩, fun y j hy => ?_, fun y j hy => ?_⟩
  · show pm_n N = _; omega
  · show pm_k N y = _; rw [(q2 y (by omega)).1, aK y (by omega), kX]
  · show pm_z N y = _; rw [(q2 y (by omega)).2.1, aZ y (by omega), zX]
  · show pm_l N y = _; rw [(q2 y (by omega)).2.2.1, aL y (by omega), lX]
  · show pm_k N (pm_n S) = _; rw [(q2 (pm_n S) (by omega)).1]; exact kN
  · show pm_r (pm_wR (pm_wI (pm_wI (pm_wR N 5 3 (some (pm_n S))) D 0 b) D 1 k) 15 c (some D)) (pm_n S) (iv_lf q) = _
    rw [pm_r_wRi, if_neg (by omega)]
    show pm_r (pm_wR N 5 3 (some (pm_n S))) (pm_n S) (iv_lf q) = _
    rw [pm_r_wRi, if_neg (by omega)]; exact (q3 q hq).1
  · show pm_k N (pm_n S + 1 + q) = _; exact (q3 q hq).2.1
  · show pm_z N (pm_n S + 1 + q) = _; exact (q3 q hq).2.2
  · rw [pm_i_wI]
    show (if y = 14 ∧ j = 2 then nI (c + 1) else pm_i (pm_wI (pm_wI (pm_wR N 5 3 (some (pm_n S))) D 0 b) D 1 k) y j) = _
    rw [pm_i_wI, pm_i_wI]
    show (if y = 14 ∧ j = 2 then nI (c + 1) else if y = D ∧ j = 1 then k else if y = D ∧ j = 0 then b else pm_i N y j) = _
    rw [((q2 y (by omega)).2.2.2 (by omega)).1, aI y (by omega), iX]
  · show pm_r (pm_wR (pm_wI (pm_wI (pm_wR N 5 3 (some (pm_n S))) D 0 b) D 1 k) 15 c (some D)) y j = _
    rw [pm_r_wRi]
    show (if y = 15 ∧ j = c then some D else pm_r (pm_wR N 5 3 (some (pm_n S))) y j) = _
    rw [pm_r_wRi, ((q2 y (by omega)).2.2.2 (by omega)).2, aR y (by omega), rX]
theorem pp_law {G : pm_G} {d : Nat} {A : iv_A} {S : pm_S} {b k : Int32} (hd : 40 ≤ d) (hI : Inv A S) : pm_CI G d 126 [.ref 0, .int b, .int k] S (fun r S1 => pm_CI G d 222 [.ref 59, .int b, .int k] S1 (fun r' S2 => pv_end A r r' S2)) := by
  have hS := hI.sh
  have h114 := hS.1
  have hMI := hI.mi
  obtain ⟨n12, hn31⟩ := MI.c31 hMI
  have h14 : pm_i S 14 2 = nI (iv_c S 31) := by rw [hI.law.1]; exact hn31
  have hn26 : pm_i S 59 26 = nI (iv_c S 26) := iv_nn hI.txt.2.1.1
  have n160 : iv_c S 26 ≤ 160 := iv_le (n := 160) 160 hI.txt.2.1.2 (by decide)
  have h51 : pm_i S 5 1 = nI (iv_c S 26) := by rw [hI.txt.1]; exact hn26
  have h80 : pm_i S 6 = pm_i S 80 := hI.txt.2.2.1
  have t80 := hI.txt.2.2.2
  have free : ∀ p, pm_n S ≤ p → pm_k (pm_tr S) p = 99 := fun p hp => pm_tr_9 hp
  refine cl_126 hd hS h14 n12 (fun z => ?_) (fun z1 z2 => ?_) (fun z1 z2 z3 => ?_) (fun z1 z2 z3 => ?_)
  · exact mo_222 hd hS hn31 n12 (fun _ => pv_same hI) (fun y _ => absurd y z) (fun y _ _ => absurd y z) (fun y _ _ => absurd y z)
  · exact mo_222 hd hS hn31 n12 (fun y => absurd z1 y) (fun _ _ => pv_same hI) (fun _ y _ => absurd y z2) (fun _ y _ => absurd y z2)
  · exact mo_222 hd hS hn31 n12 (fun y => absurd z1 y) (fun _ y => absurd z2 y) (fun _ _ _ => pv_same hI) (fun _ _ y => absurd z3 (by omega))
  · have LC := hI.law.2.2.1 _ (Nat.le_refl _)
    refine cl_126a (n := iv_c S 26) (by omega) hI z3 h51 n160 (fun x L S1 hrd hrs => ?_) (fun x S1 hrd hrq => ?_)
    · obtain ⟨⟨s1, s2, s3, s4, s5⟩, si, srd, srep⟩ := hrs
      obtain ⟨c1, c2, c3, c4, c5⟩ := LC
      obtain ⟨q1, q2, q3, q4, q5, q6⟩ := lv_C_ok (S := S) (S1 := S1) (D := iv_l A (iv_c S 31)) (c := iv_c S 31) (b := b) (k := k) h114 c2 s1 s2 s3 s4 s5
      generalize lv_D (lw_H (pm_wI S1 5 1 0)) (iv_l A (iv_c S 31)) (iv_c S 31) b k = T at *
      have tlow : ∀ y j, y < 114 → ¬ (7 ≤ y ∧ y ≤ 14) → y ≠ 5 → pm_i T y j = pm_i S y j := fun y j h1 h2 h3 => by
        rw [q5 y j (by omega), if_neg (by omega), if_neg (by omega), if_neg (by omega), if_neg (by omega)]
        exact si y j (by omega) (by omega) (fun i hi => by have := (c5 i hi).2.1; omega)
      have hT : Sh T := by
        refine ⟨by omega, fun p hp => by rw [(q2 p (by omega)).1, (q2 p (by omega)).2.1]; exact hS.2.1 p hp, fun e he => ?_⟩
        have h3 : ∀ e, e ∈ sh_rr → e.1 < 114 ∧ e.1 ≠ 15 ∧ ¬ (e.1 = 5 ∧ e.2.1 = 3) := by decide
        have := h3 e he
        rw [q6 _ _ (by omega), if_neg (by omega), if_neg (by omega)]; exact hS.2.2 e he
      have r80 : pm_i T 80 = pm_i S 80 := funext fun j => tlow 80 j (by omega) (by omega) (by omega)
      have T26 : pm_i T 59 26 = nI (iv_c S 26) := by rw [tlow 59 26 (by omega) (by omega) (by omega)]; exact hn26
      have T31 : pm_i T 59 31 = nI (iv_c S 31) := by rw [tlow 59 31 (by omega) (by omega) (by omega)]; exact hn31
      have T18 : iv_c T 18 = iv_c S 18 := by unfold iv_c; rw [tlow 59 18 (by omega) (by omega) (by omega)]
      have T24 : iv_c T 24 = iv_c S 24 := by unfold iv_c; rw [tlow 59 24 (by omega) (by omega) (by omega)]
      have hrd8 : gx_read (pm_i T 80) (iv_c S 26) = (x, some L) := by rw [r80, ← h80]; exact hrd
      refine mo_222 hd hT T31 n12 (fun y => absurd z1 y) (fun _ y => absurd z2 y) (fun _ _ y => absurd z3 (by omega)) (fun _ _ _ => ?_)
      refine mo_222a (c := iv_c S 31) (n := iv_c S 26) (by omega) hT T26 n160 T31 z3 (fun j => by rw [r80]; exact t80 j) (by rw [T18]; exact (MI.c18 hMI).1) (by rw [T24, tlow 59 24 (by omega) (by omega) (by omega)]; exact (MI.c24 hMI).2) (by rw [T24]; exact (MI.c24 hMI).1) (fun x2 e => by rw [hrd8] at e; cases e) (fun x2 L2 V U e hs hF hg => ?_) (fun x2 V e hs => by rw [hrd8] at e; cases e)
      refine ⟨rfl, lv_A A (iv_c S 31) (pm_n S), ?_⟩
      have vi : ∀ y j, y < pm_n S → ¬ sc_q (pm_tr S) y j → pm_i V y j = pm_i T y j := fun y j hy hq => hs.2.1 y j (fun z => hq (by
        unfold sc_q at z ⊢
        rw [pm_tr_k hy, ← (q2 y hy).1]; exact z))
      have ui : ∀ y j, ¬ (y = 81 ∧ 160 * iv_c S 31 ≤ j ∧ j < 160 * iv_c S 31 + 160) → ¬ (y = 59 ∧ j = 26) → pm_i U y j = pm_i V y j := fun y j h1 h2 => by
        rw [hF.2 y j h1, pm_i_wI, if_neg h2]
      generalize hW : pm_wI (pm_wI (pm_wI (pm_wI U 82 (iv_c S 31) (nI (iv_c S 26))) 83 (iv_c S 31) b) 84 (iv_c S 31) k) 59 31 (nI (iv_c S 31 + 1)) = W
      have wi : ∀ y j, pm_i W y j = if y = 59 ∧ j = 31 then nI (iv_c S 31 + 1) else if y = 84 ∧ j = iv_c S 31 then k else if y = 83 ∧ j = iv_c S 31 then b else if y = 82 ∧ j = iv_c S 31 then nI (iv_c S 26) else pm_i U y j := fun y j => by
        rw [← hW, pm_i_wI, pm_i_wI, pm_i_wI, pm_i_wI]
      have wn : pm_n W = pm_n S + 7 := by rw [← hW]; show pm_n U = _; rw [hF.1.1]; show pm_n V = _; rw [hs.n]; exact q1
      have wk : pm_k W = pm_k T := by rw [← hW]; show pm_k U = _; rw [hF.1.2.1]; show pm_k V = _; rw [hs.k]
      have wz : pm_z W = pm_z T := by rw [← hW]; show pm_z U = _; rw [hF.1.2.2.1]; show pm_z V = _; rw [hs.z]
      have wr : pm_r W = pm_r T := by rw [← hW]; show pm_r U = _; rw [hF.1.2.2.2.1]; show pm_r V = _; rw [hs.r]
      have wl : ∀ p, ¬ sc_l p → pm_l W p = pm_l T p := fun p hp => by rw [← hW]; show pm_l U p = _; rw [hF.1.2.2.2.2]; show pm_l V p = _; exact hs.2.2 p hp
      have wt : ∀ y j, y < pm_n S → ¬ sc_q (pm_tr S) y j → ¬ (y = 59 ∧ (j = 26 ∨ j = 31)) → ¬ (81 ≤ y ∧ y ≤ 84) → pm_i W y j = pm_i T y j := fun y j h1 h2 h3 h4 => by
        rw [wi, if_neg (by omega), if_neg (by omega), if_neg (by omega), if_neg (by omega), ui y j (by omega) (by omega)]; exact vi y j h1 h2
      have nsD : ∀ j, ¬ sc_q (pm_tr S) (iv_l A (iv_c S 31)) j := fun j z => by
        unfold sc_q at z
        rw [pm_tr_k c2, c3] at z; omega
      have nsW : ∀ i, i < 6 → ∀ j, ¬ sc_q (pm_tr S) (iv_w A (iv_c S 31) i) j := fun i hi j z => by
        obtain ⟨y1, y2, y3, y4, y5, y6⟩ := c5 i hi
        unfold sc_q at z
        rw [pm_tr_k y3, y4] at z; omega
      have wD : ∀ j, pm_i W (iv_l A (iv_c S 31)) j = pm_i T (iv_l A (iv_c S 31)) j := fun j => wt _ j c2 (nsD j) (by omega) (by omega)
      have wD2 : ∀ j, 2 ≤ j → pm_i W (iv_l A (iv_c S 31)) j = pm_i S1 (iv_l A (iv_c S 31)) j := fun j hj => by
        rw [wD, q5 _ _ c2, if_neg (by omega), if_neg (by omega), if_neg (by omega), if_neg (by omega)]
      have wW : ∀ i, i < 6 → pm_i W (iv_w A (iv_c S 31) i) = pm_i S1 (iv_w A (iv_c S 31) i) := fun i hi => funext fun j => by
        obtain ⟨y1, y2, y3, y4, y5, y6⟩ := c5 i hi
        have ne : iv_w A (iv_c S 31) i ≠ iv_l A (iv_c S 31) := fun z => by rw [z, c3] at y4; omega
        rw [wt _ j y3 (nsW i hi j) (by omega) (by omega), q5 _ _ y3, if_neg (by omega), if_neg (fun z => ne z.1), if_neg (fun z => ne z.1), if_neg (by omega)]
      have wtx : ∀ j, j < iv_c S 26 → iv_txt W (iv_c S 31) j = pm_i S 80 j := fun j hj => by
        unfold iv_txt
        rw [wi, if_neg (by omega), if_neg (by omega), if_neg (by omega), if_neg (by omega), hg j hj, r80]
      refine iv_law1 (b := b) (k := k) (S := pm_tr S) (S' := W) (n := iv_c S 26) (x := x) (L := L) hI.trm free z3 ?_ z2 wn (fun p hp => ⟨?_, ?_, fun hl => ?_⟩) (by rw [wk]; exact q3) (fun i hi => by rw [wr, wk, wz]; exact q4 i hi) (fun y j hy hx hq => ?_) (fun y j hy h1 h2 => ?_) ?_ ?_ ?_ ?_ ?_ ?_ ?_ ?_ ?_ ?_ ?_ n160 (fun j hj => ?_) ?_ ?_
      · exact z1.elim (fun e => by rw [e]; exact ⟨by decide, by decide⟩) (fun e => ⟨by lia, e.2⟩)
      · replace hp : p < pm_n S := hp
        rw [wk, (q2 p hp).1]; exact (pm_tr_k hp).symm
      · replace hp : p < pm_n S := hp
        rw [wz, (q2 p hp).2.1]; rfl
      · replace hp : p < pm_n S := hp
        rw [wl p hl, (q2 p hp).2.2]; rfl
      · replace hy : y < pm_n S := hy
        replace hx : ¬ lv_x A (iv_c S 31) y j := hx
        unfold lv_x at hx
        show pm_i W y j = pm_i S y j
        have a1 : ¬ y = iv_l A (iv_c S 31) := fun z => hx (Or.inl z)
        have a2 : ∀ i, i < 6 → y ≠ iv_w A (iv_c S 31) i := fun i hi z => hx (Or.inr (Or.inl ⟨i, hi, z⟩))
        have a3 : ¬ (y = 5 ∧ (j = 1 ∨ j = 2)) := fun z => hx (Or.inr (Or.inr (Or.inl z)))
        have a4 : ¬ (y = 59 ∧ (j = 26 ∨ j = 31)) := fun z => hx (Or.inr (Or.inr (Or.inr (Or.inl z))))
        have a5 : ¬ (y = 14 ∧ j = 2) := fun z => hx (Or.inr (Or.inr (Or.inr (Or.inr (Or.inl z)))))
        have a6 : ¬ (y = 81 ∧ 160 * iv_c S 31 ≤ j ∧ j < 160 * iv_c S 31 + 160) := fun z => hx (Or.inr (Or.inr (Or.inr (Or.inr (Or.inr (Or.inl z))))))
        have a7 : ¬ (82 ≤ y ∧ y ≤ 84 ∧ j = iv_c S 31) := fun z => hx (Or.inr (Or.inr (Or.inr (Or.inr (Or.inr (Or.inr z))))))
        rw [wi, if_neg (by omega), if_neg (by omega), if_neg (by omega), if_neg (by omega), ui y j a6 (by omega), vi y j hy hq, q5 y j hy, if_neg a5, if_neg (fun z => a1 z.1), if_neg (fun z => a1 z.1), if_neg (by omega)]
        exact si y j (by omega) a1 a2
      · replace hy : y < pm_n S := hy
        replace h1 : ¬ (y = 15 ∧ j = iv_c S 31) := h1
        show pm_r W y j = pm_r S y j
        rw [wr, q6 y j hy, if_neg h1, if_neg h2]
      · show pm_r W 15 (iv_c S 31) = some (iv_l A (iv_c S 31))
        rw [wr, q6 15 _ (by omega), if_pos ⟨rfl, rfl⟩]
      · show pm_r W 5 3 = some (pm_n S)
        rw [wr, q6 5 3 (by omega), if_neg (by omega), if_pos ⟨rfl, rfl⟩]
      · rw [wt 5 1 (by omega) (by unfold sc_q; omega) (by omega) (by omega), q5 5 1 (by omega), if_neg (by omega), if_neg (by omega), if_neg (by omega), if_pos ⟨rfl, rfl⟩]
      · rw [wi, if_neg (by omega), if_neg (by omega), if_neg (by omega), if_neg (by omega), hF.2 59 26 (by omega), pm_i_wI, if_pos ⟨rfl, rfl⟩]
      · show pm_i W 59 31 = nI (iv_c S 31 + 1)
        rw [wi, if_pos ⟨rfl, rfl⟩]
      · show pm_i W 14 2 = nI (iv_c S 31 + 1)
        rw [wt 14 2 (by omega) (by unfold sc_q; omega) (by omega) (by omega), q5 14 2 (by omega), if_pos ⟨rfl, rfl⟩]
      · show pm_i W (iv_l A (iv_c S 31)) 0 = b
        rw [wD, q5 _ _ c2, if_neg (by omega), if_neg (by omega), if_pos ⟨rfl, rfl⟩]
      · show pm_i W (iv_l A (iv_c S 31)) 1 = k
        rw [wD, q5 _ _ c2, if_neg (by omega), if_pos ⟨rfl, rfl⟩]
      · show pm_i W 83 (iv_c S 31) = b
        rw [wi, if_neg (by omega), if_neg (by omega), if_pos ⟨rfl, rfl⟩]
      · show pm_i W 84 (iv_c S 31) = k
        rw [wi, if_neg (by omega), if_pos ⟨rfl, rfl⟩]
      · show pm_i W 82 (iv_c S 31) = nI (iv_c S 26)
        rw [wi, if_neg (by omega), if_neg (by omega), if_neg (by omega), if_pos ⟨rfl, rfl⟩]
      · show iv_in (iv_txt W (iv_c S 31) j) 0 255
        rw [wtx j hj]; exact t80 j
      · show gx_read (iv_txt W (iv_c S 31)) (iv_c S 26) = (x, some L)
        rw [gx_read_cong wtx, ← h80]; exact hrd
      · show iv_lrep W (iv_l A (iv_c S 31)) (iv_w A (iv_c S 31)) L
        obtain ⟨g1, g2, g3, g4, g5, g6, g7⟩ := srep
        refine ⟨by rw [wD2 2 (by omega)]; exact g1, by rw [wD2 18 (by omega)]; exact g2, g3, g4, fun f h8 h16 => by rw [wD2 f (by omega)]; exact g5 f h8 h16, fun j hj => ?_, fun j hj => ?_⟩
        · rw [wW 0 (by omega), wW 1 (by omega), wW 2 (by omega), wW 3 (by omega), wW 4 (by omega)]; exact g6 j hj
        · rw [wW 5 (by omega)]; exact g7 j hj
    · obtain ⟨⟨s1, s2, s3, s4, s5⟩, si, srd⟩ := hrq
      obtain ⟨c1, c2, c3, c4, c5⟩ := LC
      have xn : x ≤ 160 := Nat.le_trans srd.2.2.1 srd.2.2.2.1
      have hT : Sh (pm_wI S1 5 1 0) := hS.same s1 s2 s3 s4
      have tlow : ∀ y j, y < 114 → ¬ (7 ≤ y ∧ y ≤ 13) → y ≠ 5 → pm_i (pm_wI S1 5 1 0) y j = pm_i S y j := fun y j h1 h2 h3 => by
        rw [pm_i_wI, if_neg (by omega)]
        exact si y j (by omega) (by omega) (fun i hi => by have := (c5 i hi).2.1; omega)
      have t51 : pm_i (pm_wI S1 5 1 0) 5 1 = 0 := by rw [pm_i_wI, if_pos ⟨rfl, rfl⟩]
      have ti : ∀ y j, ¬ lv_y A (iv_c S 31) y j → pm_i (pm_wI S1 5 1 0) y j = pm_i S y j := fun y j hx => by
        unfold lv_y at hx
        have a1 : ¬ y = iv_l A (iv_c S 31) := fun z => hx (Or.inl z)
        have a2 : ∀ i, i < 6 → y ≠ iv_w A (iv_c S 31) i := fun i hi z => hx (Or.inr (Or.inl ⟨i, hi, z⟩))
        have a3 : ¬ (y = 5 ∧ (j = 1 ∨ j = 2)) := fun z => hx (Or.inr (Or.inr (Or.inl z)))
        rw [pm_i_wI, if_neg (by omega)]
        exact si y j (by omega) a1 a2
      have tn : pm_n (pm_wI S1 5 1 0) = pm_n S ∧ pm_k (pm_wI S1 5 1 0) = pm_k S ∧ pm_z (pm_wI S1 5 1 0) = pm_z S ∧ pm_r (pm_wI S1 5 1 0) = pm_r S ∧ pm_l (pm_wI S1 5 1 0) = pm_l S := ⟨s1, s2, s3, s4, s5⟩
      generalize pm_wI S1 5 1 0 = T at *
      have r80 : pm_i T 80 = pm_i S 80 := funext fun j => tlow 80 j (by omega) (by omega) (by omega)
      have T26 : pm_i T 59 26 = nI (iv_c S 26) := by rw [tlow 59 26 (by omega) (by omega) (by omega)]; exact hn26
      have T31 : pm_i T 59 31 = nI (iv_c S 31) := by rw [tlow 59 31 (by omega) (by omega) (by omega)]; exact hn31
      have T18 : iv_c T 18 = iv_c S 18 := by unfold iv_c; rw [tlow 59 18 (by omega) (by omega) (by omega)]
      have T24 : iv_c T 24 = iv_c S 24 := by unfold iv_c; rw [tlow 59 24 (by omega) (by omega) (by omega)]
      have hrd8 : gx_read (pm_i T 80) (iv_c S 26) = (x, none) := by rw [r80, ← h80]; exact hrd
      refine mo_222 hd hT T31 n12 (fun y => absurd z1 y) (fun _ y => absurd z2 y) (fun _ _ y => absurd z3 (by omega)) (fun _ _ _ => ?_)
      refine mo_222a (c := iv_c S 31) (n := iv_c S 26) (by omega) hT T26 n160 T31 z3 (fun j => by rw [r80]; exact t80 j) (by rw [T18]; exact (MI.c18 hMI).1) (by rw [T24, tlow 59 24 (by omega) (by omega) (by omega)]; exact (MI.c24 hMI).2) (by rw [T24]; exact (MI.c24 hMI).1) (fun x2 e => by rw [hrd8] at e; cases e; exact xn) (fun x2 L2 V U e hs hF hg => by rw [hrd8] at e; cases e) (fun x2 V e hs => ?_)
      rw [hrd8] at e
      cases e
      refine ⟨rfl, A, Inv.sc ?_ (hs.cI (p := 59) (j := 26) (v := 0))⟩
      refine iv_lawF hI tn.1 tn.2.1 tn.2.2.1 tn.2.2.2.1 tn.2.2.2.2 (fun y j hx => ?_) ?_ ?_
      · rw [pm_i_wI, if_neg (fun z => hx (Or.inr (Or.inr (Or.inr z))))]; exact ti y j hx
      · rw [pm_i_wI, if_neg (by omega)]; exact t51
      · rw [pm_i_wI, if_pos ⟨rfl, rfl⟩]
