/-! law: the checks of both sides; the pair -/
theorem cl_126 {G : pm_G} {d c : Nat} {S : pm_S} {b k : Int32} {q : Int32 → pm_S → Prop} (hd : 40 ≤ d) (hS : Sh S) (h14 : pm_i S 14 2 = nI c) (hc : c ≤ 12)
    (h1 : ¬ (b = -1 ∨ (0 ≤ b ∧ b ≤ 5)) → q (-1) S) (h2 : (b = -1 ∨ (0 ≤ b ∧ b ≤ 5)) → ¬ (0 ≤ k ∧ k ≤ 9999) → q (-2) S) (h3 : (b = -1 ∨ (0 ≤ b ∧ b ≤ 5)) → (0 ≤ k ∧ k ≤ 9999) → c = 12 → q (-4) S)
    (h4 : (b = -1 ∨ (0 ≤ b ∧ b ≤ 5)) → (0 ≤ k ∧ k ≤ 9999) → c < 12 → pm_W G d 126 (pm_QI q) 39 [.ref 0, .int b, .int k, .float 0] [] S 0 0) : pm_CI G d 126 [.ref 0, .int b, .int k] S q := by
  have k24 : (b = -1 ∨ (0 ≤ b ∧ b ≤ 5)) → (0 ≤ k ∧ k ≤ 9999) → pm_W G d 126 (pm_QI q) 24 [.ref 0, .int b, .int k, .float 0] [] S 0 0 := fun z1 z2 => by
    by_cases e : c < 12
    · have l12 : nI c < 12 := nI_lt (b := 12) e (by decide)
      have fin := h4 z1 z2 e
      try refine pm_wb_ok pb_c126 1 24 0 _ _ _ _ _ ?_
      try simp only [pm_WI0, pm_WI1, pm_WI2, pm_WI3, pm_WI4, pm_WI5, pm_WV, pm_WW, pm_WX, pb_B126, pm_if, pm_QI_at, pm_QL_at, pm_QV_at, pm_QR_at, pm_QR_at0, pm_QR_at1, Nat.reduceSub, Nat.reduceAdd, List.replicate_zero, List.replicate_succ, true_and, and_true, true_or, or_true, and_self, reduceIte, Nat.reduceEqDiff, Nat.reduceLT, Nat.reduceLeDiff, Nat.reduceMul, false_and, and_false, reduceCtorEq, false_or, or_false, not_true_eq_false, not_false_eq_true, true_implies, false_implies, implies_true, lf_10, eq_self, Int32.reduceLT, Int32.reduceLE, Int32.reduceAdd, Int32.reduceSub, pm_same, pm_i_wI, pm_l_wL, pm_l_wM, pm_oR_rf, pm_oQ_rf, nI_1, LQ1, LQ2, LQ5, sh_k0 hS, sh_r0_7 hS, sh_k14 hS, h14, l12]
      exact fin
    · have l12 : ¬ nI c < 12 := nI_nlt (a := c) (b := 12) (by omega) (by omega)
      have fin := h3 z1 z2 (by omega)
      try refine pm_wb_ok pb_c126 1 24 0 _ _ _ _ _ ?_
      try simp only [pm_WI0, pm_WI1, pm_WI2, pm_WI3, pm_WI4, pm_WI5, pm_WV, pm_WW, pm_WX, pb_B126, pm_if, pm_QI_at, pm_QL_at, pm_QV_at, pm_QR_at, pm_QR_at0, pm_QR_at1, Nat.reduceSub, Nat.reduceAdd, List.replicate_zero, List.replicate_succ, true_and, and_true, true_or, or_true, and_self, reduceIte, Nat.reduceEqDiff, Nat.reduceLT, Nat.reduceLeDiff, Nat.reduceMul, false_and, and_false, reduceCtorEq, false_or, or_false, not_true_eq_false, not_false_eq_true, true_implies, false_implies, implies_true, lf_10, eq_self, Int32.reduceLT, Int32.reduceLE, Int32.reduceAdd, Int32.reduceSub, pm_same, pm_i_wI, pm_l_wL, pm_l_wM, pm_oR_rf, pm_oQ_rf, nI_1, LQ1, LQ2, LQ5, sh_k0 hS, sh_r0_7 hS, sh_k14 hS, h14, l12]
      exact fin
  have k14 : (b = -1 ∨ (0 ≤ b ∧ b ≤ 5)) → pm_W G d 126 (pm_QI q) 14 [.ref 0, .int b, .int k, .float 0] [] S 0 0 := fun z1 => by
    try refine pm_wb_ok pb_c126 1 14 0 _ _ _ _ _ ?_
    try simp only [pm_WI0, pm_WI1, pm_WI2, pm_WI3, pm_WI4, pm_WI5, pm_WV, pm_WW, pm_WX, pb_B126, pm_if, pm_QI_at, pm_QL_at, pm_QV_at, pm_QR_at, pm_QR_at0, pm_QR_at1, Nat.reduceSub, Nat.reduceAdd, List.replicate_zero, List.replicate_succ, true_and, and_true, true_or, or_true, and_self, reduceIte, Nat.reduceEqDiff, Nat.reduceLT, Nat.reduceLeDiff, Nat.reduceMul, false_and, and_false, reduceCtorEq, false_or, or_false, not_true_eq_false, not_false_eq_true, true_implies, false_implies, implies_true, lf_10, eq_self, Int32.reduceLT, Int32.reduceLE, Int32.reduceAdd, Int32.reduceSub, pm_same, pm_i_wI, pm_l_wL, pm_l_wM, pm_oR_rf, pm_oQ_rf, nI_1, LQ1, LQ2, LQ5]
    refine ⟨by omega, lf_99 (fun z2 => ?_) (fun z2 => ?_)⟩
    · have fin := k24 z1 z2
      try simp only [pm_WV, pm_WW, true_and, and_true, true_or, or_true, and_self, reduceIte, Nat.reduceEqDiff, Nat.reduceLT, Nat.reduceLeDiff, Nat.reduceMul, false_and, and_false, reduceCtorEq, false_or, or_false, not_true_eq_false, not_false_eq_true, true_implies, false_implies, implies_true, lf_10, eq_self, Int32.reduceLT, Int32.reduceLE, Int32.reduceAdd, Int32.reduceSub, pm_same, pm_i_wI, pm_l_wL, pm_l_wM, pm_oR_rf, pm_oQ_rf, nI_1, sw_e, LQ1, LQ2, pm_WI0, pm_WI1, pm_WI2, pm_WI3, pm_WI4, pm_WI5, pm_WV, pm_WW, pm_WX, pb_B126, pm_if, pm_QI_at, pm_QL_at, pm_QV_at, pm_QR_at, pm_QR_at0, pm_QR_at1, Nat.reduceSub, Nat.reduceAdd, List.replicate_zero, List.replicate_succ, true_and, and_true, true_or, or_true, and_self, reduceIte, Nat.reduceEqDiff, Nat.reduceLT, Nat.reduceLeDiff, Nat.reduceMul, false_and, and_false, reduceCtorEq, false_or, or_false, not_true_eq_false, not_false_eq_true, true_implies, false_implies, implies_true, lf_10, eq_self, Int32.reduceLT, Int32.reduceLE, Int32.reduceAdd, Int32.reduceSub, pm_same, pm_i_wI, pm_l_wL, pm_l_wM, pm_oR_rf, pm_oQ_rf, nI_1, LQ1, LQ2, LQ5]
      exact fin
    · have fin := h2 z1 z2
      try simp only [pm_WV, pm_WW, true_and, and_true, true_or, or_true, and_self, reduceIte, Nat.reduceEqDiff, Nat.reduceLT, Nat.reduceLeDiff, Nat.reduceMul, false_and, and_false, reduceCtorEq, false_or, or_false, not_true_eq_false, not_false_eq_true, true_implies, false_implies, implies_true, lf_10, eq_self, Int32.reduceLT, Int32.reduceLE, Int32.reduceAdd, Int32.reduceSub, pm_same, pm_i_wI, pm_l_wL, pm_l_wM, pm_oR_rf, pm_oQ_rf, nI_1, sw_e, LQ1, LQ2, pm_WI0, pm_WI1, pm_WI2, pm_WI3, pm_WI4, pm_WI5, pm_WV, pm_WW, pm_WX, pb_B126, pm_if, pm_QI_at, pm_QL_at, pm_QV_at, pm_QR_at, pm_QR_at0, pm_QR_at1, Nat.reduceSub, Nat.reduceAdd, List.replicate_zero, List.replicate_succ, true_and, and_true, true_or, or_true, and_self, reduceIte, Nat.reduceEqDiff, Nat.reduceLT, Nat.reduceLeDiff, Nat.reduceMul, false_and, and_false, reduceCtorEq, false_or, or_false, not_true_eq_false, not_false_eq_true, true_implies, false_implies, implies_true, lf_10, eq_self, Int32.reduceLT, Int32.reduceLE, Int32.reduceAdd, Int32.reduceSub, pm_same, pm_i_wI, pm_l_wL, pm_l_wM, pm_oR_rf, pm_oQ_rf, nI_1, LQ1, LQ2, LQ5]
      exact fin
  refine pm_goI 126 1 pb_c126 (by decide) (Nat.le_of_ble_eq_true rfl) rfl ?_
  try simp only [show pm_mL 126 = 4 from rfl, pm_WI0, pm_WI1, pm_WI2, pm_WI3, pm_WI4, pm_WI5, pm_WV, pm_WW, pm_WX, pb_B126, pm_if, pm_QI_at, pm_QL_at, pm_QV_at, pm_QR_at, pm_QR_at0, pm_QR_at1, Nat.reduceSub, Nat.reduceAdd, List.replicate_zero, List.replicate_succ, true_and, and_true, true_or, or_true, and_self, reduceIte, Nat.reduceEqDiff, Nat.reduceLT, Nat.reduceLeDiff, Nat.reduceMul, false_and, and_false, reduceCtorEq, false_or, or_false, not_true_eq_false, not_false_eq_true, true_implies, false_implies, implies_true, lf_10, eq_self, Int32.reduceLT, Int32.reduceLE, Int32.reduceAdd, Int32.reduceSub, pm_same, pm_i_wI, pm_l_wL, pm_l_wM, pm_oR_rf, pm_oQ_rf, nI_1, LQ1, LQ2, LQ5]
  refine ⟨by omega, lf_106 (fun z => ?_) (fun z => ?_)⟩
  · have fin := k14 (Or.inr z)
    try simp only [pm_WV, pm_WW, true_and, and_true, true_or, or_true, and_self, reduceIte, Nat.reduceEqDiff, Nat.reduceLT, Nat.reduceLeDiff, Nat.reduceMul, false_and, and_false, reduceCtorEq, false_or, or_false, not_true_eq_false, not_false_eq_true, true_implies, false_implies, implies_true, lf_10, eq_self, Int32.reduceLT, Int32.reduceLE, Int32.reduceAdd, Int32.reduceSub, pm_same, pm_i_wI, pm_l_wL, pm_l_wM, pm_oR_rf, pm_oQ_rf, nI_1, sw_e, LQ1, LQ2, pm_WI0, pm_WI1, pm_WI2, pm_WI3, pm_WI4, pm_WI5, pm_WV, pm_WW, pm_WX, pb_B126, pm_if, pm_QI_at, pm_QL_at, pm_QV_at, pm_QR_at, pm_QR_at0, pm_QR_at1, Nat.reduceSub, Nat.reduceAdd, List.replicate_zero, List.replicate_succ, true_and, and_true, true_or, or_true, and_self, reduceIte, Nat.reduceEqDiff, Nat.reduceLT, Nat.reduceLeDiff, Nat.reduceMul, false_and, and_false, reduceCtorEq, false_or, or_false, not_true_eq_false, not_false_eq_true, true_implies, false_implies, implies_true, lf_10, eq_self, Int32.reduceLT, Int32.reduceLE, Int32.reduceAdd, Int32.reduceSub, pm_same, pm_i_wI, pm_l_wL, pm_l_wM, pm_oR_rf, pm_oQ_rf, nI_1, LQ1, LQ2, LQ5]
    exact fin
  · by_cases e : b = -1
    · have fin := k14 (Or.inl e)
      try simp only [pm_WV, pm_WW, true_and, and_true, true_or, or_true, and_self, reduceIte, Nat.reduceEqDiff, Nat.reduceLT, Nat.reduceLeDiff, Nat.reduceMul, false_and, and_false, reduceCtorEq, false_or, or_false, not_true_eq_false, not_false_eq_true, true_implies, false_implies, implies_true, lf_10, eq_self, Int32.reduceLT, Int32.reduceLE, Int32.reduceAdd, Int32.reduceSub, pm_same, pm_i_wI, pm_l_wL, pm_l_wM, pm_oR_rf, pm_oQ_rf, nI_1, sw_e, LQ1, LQ2, pm_WI0, pm_WI1, pm_WI2, pm_WI3, pm_WI4, pm_WI5, pm_WV, pm_WW, pm_WX, pb_B126, pm_if, pm_QI_at, pm_QL_at, pm_QV_at, pm_QR_at, pm_QR_at0, pm_QR_at1, Nat.reduceSub, Nat.reduceAdd, List.replicate_zero, List.replicate_succ, true_and, and_true, true_or, or_true, and_self, reduceIte, Nat.reduceEqDiff, Nat.reduceLT, Nat.reduceLeDiff, Nat.reduceMul, false_and, and_false, reduceCtorEq, false_or, or_false, not_true_eq_false, not_false_eq_true, true_implies, false_implies, implies_true, lf_10, eq_self, Int32.reduceLT, Int32.reduceLE, Int32.reduceAdd, Int32.reduceSub, pm_same, pm_i_wI, pm_l_wL, pm_l_wM, pm_oR_rf, pm_oQ_rf, nI_1, LQ1, LQ2, LQ5]
      exact ⟨fun _ => fin, fun y => absurd e y⟩
    · have fin := h1 (fun y => y.elim e z)
      try simp only [pm_WV, pm_WW, true_and, and_true, true_or, or_true, and_self, reduceIte, Nat.reduceEqDiff, Nat.reduceLT, Nat.reduceLeDiff, Nat.reduceMul, false_and, and_false, reduceCtorEq, false_or, or_false, not_true_eq_false, not_false_eq_true, true_implies, false_implies, implies_true, lf_10, eq_self, Int32.reduceLT, Int32.reduceLE, Int32.reduceAdd, Int32.reduceSub, pm_same, pm_i_wI, pm_l_wL, pm_l_wM, pm_oR_rf, pm_oQ_rf, nI_1, sw_e, LQ1, LQ2, pm_WI0, pm_WI1, pm_WI2, pm_WI3, pm_WI4, pm_WI5, pm_WV, pm_WW, pm_WX, pb_B126, pm_if, pm_QI_at, pm_QL_at, pm_QV_at, pm_QR_at, pm_QR_at0, pm_QR_at1, Nat.reduceSub, Nat.reduceAdd, List.replicate_zero, List.replicate_succ, true_and, and_true, true_or, or_true, and_self, reduceIte, Nat.reduceEqDiff, Nat.reduceLT, Nat.reduceLeDiff, Nat.reduceMul, false_and, and_false, reduceCtorEq, false_or, or_false, not_true_eq_false, not_false_eq_true, true_implies, false_implies, implies_true, lf_10, eq_self, Int32.reduceLT, Int32.reduceLE, Int32.reduceAdd, Int32.reduceSub, pm_same, pm_i_wI, pm_l_wL, pm_l_wM, pm_oR_rf, pm_oQ_rf, nI_1, LQ1, LQ2, LQ5]
      exact ⟨fun y => absurd y e, fun _ => fin⟩
theorem mo_222 {G : pm_G} {d c : Nat} {S : pm_S} {b k : Int32} {q : Int32 → pm_S → Prop} (hd : 40 ≤ d) (hS : Sh S) (h31 : pm_i S 59 31 = nI c) (hc : c ≤ 12)
    (h1 : ¬ (b = -1 ∨ (0 ≤ b ∧ b ≤ 5)) → q (-1) S) (h2 : (b = -1 ∨ (0 ≤ b ∧ b ≤ 5)) → ¬ (0 ≤ k ∧ k ≤ 9999) → q (-2) S) (h3 : (b = -1 ∨ (0 ≤ b ∧ b ≤ 5)) → (0 ≤ k ∧ k ≤ 9999) → c = 12 → q (-4) S)
    (h4 : (b = -1 ∨ (0 ≤ b ∧ b ≤ 5)) → (0 ≤ k ∧ k ≤ 9999) → c < 12 → pm_W G d 222 (pm_QI q) 36 [.ref 59, .int b, .int k, .float 0, .float 0] [] S 0 0) : pm_CI G d 222 [.ref 59, .int b, .int k] S q := by
  have k24 : (b = -1 ∨ (0 ≤ b ∧ b ≤ 5)) → (0 ≤ k ∧ k ≤ 9999) → pm_W G d 222 (pm_QI q) 24 [.ref 59, .int b, .int k, .float 0, .float 0] [] S 0 0 := fun z1 z2 => by
    by_cases e : c < 12
    · have l12 : ¬ nI c = 12 := fun z => by
        have := (nI_eq (a := c) (b := 12) (by omega) (by decide)).mp z
        omega
      have fin := h4 z1 z2 e
      try refine pm_wb_ok pb_c222 1 24 0 _ _ _ _ _ ?_
      try simp only [pm_WI0, pm_WI1, pm_WI2, pm_WI3, pm_WI4, pm_WI5, pm_WV, pm_WW, pm_WX, pb_B222, pm_if, pm_QI_at, pm_QL_at, pm_QV_at, pm_QR_at, pm_QR_at0, pm_QR_at1, Nat.reduceSub, Nat.reduceAdd, List.replicate_zero, List.replicate_succ, true_and, and_true, true_or, or_true, and_self, reduceIte, Nat.reduceEqDiff, Nat.reduceLT, Nat.reduceLeDiff, Nat.reduceMul, false_and, and_false, reduceCtorEq, false_or, or_false, not_true_eq_false, not_false_eq_true, true_implies, false_implies, implies_true, lf_10, eq_self, Int32.reduceLT, Int32.reduceLE, Int32.reduceAdd, Int32.reduceSub, pm_same, pm_i_wI, pm_l_wL, pm_l_wM, pm_oR_rf, pm_oQ_rf, nI_1, LQ1, LQ2, LQ5, sh_k59 hS, h31, l12]
      exact fin
    · have l12 : nI c = 12 := by rw [show c = 12 by omega]; rfl
      have fin := h3 z1 z2 (by omega)
      try refine pm_wb_ok pb_c222 1 24 0 _ _ _ _ _ ?_
      try simp only [pm_WI0, pm_WI1, pm_WI2, pm_WI3, pm_WI4, pm_WI5, pm_WV, pm_WW, pm_WX, pb_B222, pm_if, pm_QI_at, pm_QL_at, pm_QV_at, pm_QR_at, pm_QR_at0, pm_QR_at1, Nat.reduceSub, Nat.reduceAdd, List.replicate_zero, List.replicate_succ, true_and, and_true, true_or, or_true, and_self, reduceIte, Nat.reduceEqDiff, Nat.reduceLT, Nat.reduceLeDiff, Nat.reduceMul, false_and, and_false, reduceCtorEq, false_or, or_false, not_true_eq_false, not_false_eq_true, true_implies, false_implies, implies_true, lf_10, eq_self, Int32.reduceLT, Int32.reduceLE, Int32.reduceAdd, Int32.reduceSub, pm_same, pm_i_wI, pm_l_wL, pm_l_wM, pm_oR_rf, pm_oQ_rf, nI_1, LQ1, LQ2, LQ5, sh_k59 hS, h31, l12]
      exact fin
  have k14 : (b = -1 ∨ (0 ≤ b ∧ b ≤ 5)) → pm_W G d 222 (pm_QI q) 14 [.ref 59, .int b, .int k, .float 0, .float 0] [] S 0 0 := fun z1 => by
    try refine pm_wb_ok pb_c222 1 14 0 _ _ _ _ _ ?_
    try simp only [pm_WI0, pm_WI1, pm_WI2, pm_WI3, pm_WI4, pm_WI5, pm_WV, pm_WW, pm_WX, pb_B222, pm_if, pm_QI_at, pm_QL_at, pm_QV_at, pm_QR_at, pm_QR_at0, pm_QR_at1, Nat.reduceSub, Nat.reduceAdd, List.replicate_zero, List.replicate_succ, true_and, and_true, true_or, or_true, and_self, reduceIte, Nat.reduceEqDiff, Nat.reduceLT, Nat.reduceLeDiff, Nat.reduceMul, false_and, and_false, reduceCtorEq, false_or, or_false, not_true_eq_false, not_false_eq_true, true_implies, false_implies, implies_true, lf_10, eq_self, Int32.reduceLT, Int32.reduceLE, Int32.reduceAdd, Int32.reduceSub, pm_same, pm_i_wI, pm_l_wL, pm_l_wM, pm_oR_rf, pm_oQ_rf, nI_1, LQ1, LQ2, LQ5]
    refine ⟨by omega, lf_161 (by omega) (fun z2 => ?_) (fun z2 => ?_)⟩
    · have fin := k24 z1 z2
      try simp only [pm_WV, pm_WW, true_and, and_true, true_or, or_true, and_self, reduceIte, Nat.reduceEqDiff, Nat.reduceLT, Nat.reduceLeDiff, Nat.reduceMul, false_and, and_false, reduceCtorEq, false_or, or_false, not_true_eq_false, not_false_eq_true, true_implies, false_implies, implies_true, lf_10, eq_self, Int32.reduceLT, Int32.reduceLE, Int32.reduceAdd, Int32.reduceSub, pm_same, pm_i_wI, pm_l_wL, pm_l_wM, pm_oR_rf, pm_oQ_rf, nI_1, sw_e, LQ1, LQ2, pm_WI0, pm_WI1, pm_WI2, pm_WI3, pm_WI4, pm_WI5, pm_WV, pm_WW, pm_WX, pb_B222, pm_if, pm_QI_at, pm_QL_at, pm_QV_at, pm_QR_at, pm_QR_at0, pm_QR_at1, Nat.reduceSub, Nat.reduceAdd, List.replicate_zero, List.replicate_succ, true_and, and_true, true_or, or_true, and_self, reduceIte, Nat.reduceEqDiff, Nat.reduceLT, Nat.reduceLeDiff, Nat.reduceMul, false_and, and_false, reduceCtorEq, false_or, or_false, not_true_eq_false, not_false_eq_true, true_implies, false_implies, implies_true, lf_10, eq_self, Int32.reduceLT, Int32.reduceLE, Int32.reduceAdd, Int32.reduceSub, pm_same, pm_i_wI, pm_l_wL, pm_l_wM, pm_oR_rf, pm_oQ_rf, nI_1, LQ1, LQ2, LQ5]
      exact fin
    · have fin := h2 z1 z2
      try simp only [pm_WV, pm_WW, true_and, and_true, true_or, or_true, and_self, reduceIte, Nat.reduceEqDiff, Nat.reduceLT, Nat.reduceLeDiff, Nat.reduceMul, false_and, and_false, reduceCtorEq, false_or, or_false, not_true_eq_false, not_false_eq_true, true_implies, false_implies, implies_true, lf_10, eq_self, Int32.reduceLT, Int32.reduceLE, Int32.reduceAdd, Int32.reduceSub, pm_same, pm_i_wI, pm_l_wL, pm_l_wM, pm_oR_rf, pm_oQ_rf, nI_1, sw_e, LQ1, LQ2, pm_WI0, pm_WI1, pm_WI2, pm_WI3, pm_WI4, pm_WI5, pm_WV, pm_WW, pm_WX, pb_B222, pm_if, pm_QI_at, pm_QL_at, pm_QV_at, pm_QR_at, pm_QR_at0, pm_QR_at1, Nat.reduceSub, Nat.reduceAdd, List.replicate_zero, List.replicate_succ, true_and, and_true, true_or, or_true, and_self, reduceIte, Nat.reduceEqDiff, Nat.reduceLT, Nat.reduceLeDiff, Nat.reduceMul, false_and, and_false, reduceCtorEq, false_or, or_false, not_true_eq_false, not_false_eq_true, true_implies, false_implies, implies_true, lf_10, eq_self, Int32.reduceLT, Int32.reduceLE, Int32.reduceAdd, Int32.reduceSub, pm_same, pm_i_wI, pm_l_wL, pm_l_wM, pm_oR_rf, pm_oQ_rf, nI_1, LQ1, LQ2, LQ5]
      exact fin
  refine pm_goI 222 1 pb_c222 (by decide) (Nat.le_of_ble_eq_true rfl) rfl ?_
  try simp only [show pm_mL 222 = 5 from rfl, pm_WI0, pm_WI1, pm_WI2, pm_WI3, pm_WI4, pm_WI5, pm_WV, pm_WW, pm_WX, pb_B222, pm_if, pm_QI_at, pm_QL_at, pm_QV_at, pm_QR_at, pm_QR_at0, pm_QR_at1, Nat.reduceSub, Nat.reduceAdd, List.replicate_zero, List.replicate_succ, true_and, and_true, true_or, or_true, and_self, reduceIte, Nat.reduceEqDiff, Nat.reduceLT, Nat.reduceLeDiff, Nat.reduceMul, false_and, and_false, reduceCtorEq, false_or, or_false, not_true_eq_false, not_false_eq_true, true_implies, false_implies, implies_true, lf_10, eq_self, Int32.reduceLT, Int32.reduceLE, Int32.reduceAdd, Int32.reduceSub, pm_same, pm_i_wI, pm_l_wL, pm_l_wM, pm_oR_rf, pm_oQ_rf, nI_1, LQ1, LQ2, LQ5]
  refine ⟨fun e => k14 (Or.inl e), fun e => ⟨by omega, lf_171 (by omega) (fun z => ?_) (fun z => ?_)⟩⟩
  · have fin := k14 (Or.inr z)
    try simp only [pm_WV, pm_WW, true_and, and_true, true_or, or_true, and_self, reduceIte, Nat.reduceEqDiff, Nat.reduceLT, Nat.reduceLeDiff, Nat.reduceMul, false_and, and_false, reduceCtorEq, false_or, or_false, not_true_eq_false, not_false_eq_true, true_implies, false_implies, implies_true, lf_10, eq_self, Int32.reduceLT, Int32.reduceLE, Int32.reduceAdd, Int32.reduceSub, pm_same, pm_i_wI, pm_l_wL, pm_l_wM, pm_oR_rf, pm_oQ_rf, nI_1, sw_e, LQ1, LQ2, pm_WI0, pm_WI1, pm_WI2, pm_WI3, pm_WI4, pm_WI5, pm_WV, pm_WW, pm_WX, pb_B222, pm_if, pm_QI_at, pm_QL_at, pm_QV_at, pm_QR_at, pm_QR_at0, pm_QR_at1, Nat.reduceSub, Nat.reduceAdd, List.replicate_zero, List.replicate_succ, true_and, and_true, true_or, or_true, and_self, reduceIte, Nat.reduceEqDiff, Nat.reduceLT, Nat.reduceLeDiff, Nat.reduceMul, false_and, and_false, reduceCtorEq, false_or, or_false, not_true_eq_false, not_false_eq_true, true_implies, false_implies, implies_true, lf_10, eq_self, Int32.reduceLT, Int32.reduceLE, Int32.reduceAdd, Int32.reduceSub, pm_same, pm_i_wI, pm_l_wL, pm_l_wM, pm_oR_rf, pm_oQ_rf, nI_1, LQ1, LQ2, LQ5]
    exact fin
  · have fin := h1 (fun y => y.elim e z)
    try simp only [pm_WV, pm_WW, true_and, and_true, true_or, or_true, and_self, reduceIte, Nat.reduceEqDiff, Nat.reduceLT, Nat.reduceLeDiff, Nat.reduceMul, false_and, and_false, reduceCtorEq, false_or, or_false, not_true_eq_false, not_false_eq_true, true_implies, false_implies, implies_true, lf_10, eq_self, Int32.reduceLT, Int32.reduceLE, Int32.reduceAdd, Int32.reduceSub, pm_same, pm_i_wI, pm_l_wL, pm_l_wM, pm_oR_rf, pm_oQ_rf, nI_1, sw_e, LQ1, LQ2, pm_WI0, pm_WI1, pm_WI2, pm_WI3, pm_WI4, pm_WI5, pm_WV, pm_WW, pm_WX, pb_B222, pm_if, pm_QI_at, pm_QL_at, pm_QV_at, pm_QR_at, pm_QR_at0, pm_QR_at1, Nat.reduceSub, Nat.reduceAdd, List.replicate_zero, List.replicate_succ, true_and, and_true, true_or, or_true, and_self, reduceIte, Nat.reduceEqDiff, Nat.reduceLT, Nat.reduceLeDiff, Nat.reduceMul, false_and, and_false, reduceCtorEq, false_or, or_false, not_true_eq_false, not_false_eq_true, true_implies, false_implies, implies_true, lf_10, eq_self, Int32.reduceLT, Int32.reduceLE, Int32.reduceAdd, Int32.reduceSub, pm_same, pm_i_wI, pm_l_wL, pm_l_wM, pm_oR_rf, pm_oQ_rf, nI_1, LQ1, LQ2, LQ5]
    exact fin
def lv_y (A : iv_A) (c q j : Nat) : Prop := q = iv_l A c ∨ (∃ i, i < 6 ∧ q = iv_w A c i) ∨ (q = 5 ∧ (j = 1 ∨ j = 2)) ∨ (q = 59 ∧ j = 26)
/-- a fault: the text is gone, the draft may be anything -/
theorem iv_lawF {A : iv_A} {S S' : pm_S} (hI : Inv A S) (e1 : pm_n S' = pm_n S) (e2 : pm_k S' = pm_k S) (e3 : pm_z S' = pm_z S) (e4 : pm_r S' = pm_r S) (e5 : pm_l S' = pm_l S)
    (hi : ∀ q j, ¬ lv_y A (iv_c S 31) q j → pm_i S' q j = pm_i S q j) (t5 : pm_i S' 5 1 = 0) (t26 : pm_i S' 59 26 = 0) : Inv A S' := by
  have h114 := hI.sh.1
  obtain ⟨n12, hn31⟩ := MI.c31 hI.mi
  obtain ⟨l1, l2, l3, l4, l5, l6⟩ := hI.law
  obtain ⟨c1, c2, c3, c4, c5⟩ := l3 (iv_c S 31) (Nat.le_refl _)
  have low : ∀ q j, q < 114 → ¬ (7 ≤ q ∧ q ≤ 13) → ¬ (q = 5 ∧ (j = 1 ∨ j = 2)) → ¬ (q = 59 ∧ j = 26) → pm_i S' q j = pm_i S q j := fun q j h1 h2 h3 h4 => hi q j (fun z => by
    unfold lv_y at z
    rcases z with z | ⟨i, z1, z2⟩ | z | z
    · omega
    · have := (c5 i z1).2.1; omega
    · exact h3 z
    · exact h4 z)
  have obj : ∀ q j, 114 ≤ q → ¬ pm_k S q = 5 → ¬ (pm_k S q = 20 ∧ ¬ pm_z S q = 6) → pm_i S' q j = pm_i S q j := fun q j h1 h2 h3 => hi q j (fun z => by
    unfold lv_y at z
    rcases z with z | ⟨i, z1, z2⟩ | z | z
    · subst z; exact h2 c3
    · subst z2
      obtain ⟨y1, y2, y3, y4, y5, y6⟩ := c5 i z1
      exact h3 ⟨y4, by rw [y5]; split <;> omega⟩
    · omega
    · omega)
  have n1 : pm_n S ≤ pm_n S' := by omega
  have n2' : ∀ p, p < pm_n S → pm_k S' p = pm_k S p ∧ pm_z S' p = pm_z S p := fun p _ => by rw [e2, e3]; exact ⟨rfl, rfl⟩
  have hr : ∀ p j, pm_r S' p j = pm_r S p j := fun p j => by rw [e4]
  have ec : iv_c S' 31 = iv_c S 31 := by unfold iv_c; rw [low 59 31 (by omega) (by omega) (by omega) (by omega)]
  refine ⟨hI.sh.same e1 e2 e3 e4, ?_, ?_, ?_, ?_, ?_, ?_, ?_, ?_, ?_, ?_, ?_, ?_⟩
  · exact hI.day.cg (fun p j h => by unfold iv_rDay at h; exact low p j (by omega) (by omega) (by omega) (by omega))
  · exact hI.per.cg (fun p j h => by unfold iv_rPer at h; exact low p j (by omega) (by omega) (by omega) (by omega))
  · exact hI.mat.cg n1 n2' (fun p j _ => hr p j) (fun p j h => by
      unfold iv_rMat at h
      by_cases z : p < 114
      · exact low p j z (by omega) (by omega) (by omega)
      · exact obj p j (by omega) (by omega) (by omega))
  · exact hI.act.cg hI.mat n1 n2' (fun p j _ => hr p j) (fun p j h => by
      unfold iv_rAct at h
      by_cases z : p < 114
      · exact low p j z (by omega) (by omega) (by omega)
      · exact obj p j (by omega) (by omega) (by omega))
  · obtain ⟨x1, x2, x3, x4⟩ := hI.txt
    have r6 : pm_i S' 6 = pm_i S 6 := funext fun j => low 6 j (by omega) (by omega) (by omega) (by omega)
    have r80 : pm_i S' 80 = pm_i S 80 := funext fun j => low 80 j (by omega) (by omega) (by omega) (by omega)
    exact ⟨t5.trans t26.symm, by rw [t26]; exact ⟨by decide, by decide⟩, by rw [r6, r80]; exact x3, fun k => by rw [r80]; exact x4 k⟩
  · refine ⟨by rw [low 14 2 (by omega) (by omega) (by omega) (by omega), low 59 31 (by omega) (by omega) (by omega) (by omega)]; exact l1, by rw [low 59 31 (by omega) (by omega) (by omega) (by omega)]; exact l2, fun l hl => ?_, fun l hl => ?_, ?_, ?_⟩
    · rw [ec] at hl
      have y := l3 l hl
      unfold iv_lcell at y ⊢
      rw [e1, e2, e3, e4]; exact y
    · rw [ec] at hl
      obtain ⟨y1, y2, y3, y4, y5⟩ := l3 l (Nat.le_of_lt hl)
      obtain ⟨z1, z2, z3, z4, z5, z6, z7, p, L', z8, z9⟩ := l4 l hl
      have ro : pm_i S' (iv_l A l) = pm_i S (iv_l A l) := funext fun j => hi _ j (fun z => by
        unfold lv_y at z
        rcases z with z | ⟨i, i1, i2⟩ | z | z
        · rw [z, c4] at y4; omega
        · rw [i2, (c5 i i1).2.2.2.2.2] at y4; omega
        · omega
        · omega)
      have rw' : ∀ q, q < 6 → pm_i S' (iv_w A l q) = pm_i S (iv_w A l q) := fun q hq => funext fun j => by
        obtain ⟨w1, w2, w3, w4, w5, w6⟩ := y5 q hq
        refine hi _ j (fun z => ?_)
        unfold lv_y at z
        rcases z with z | ⟨i, i1, i2⟩ | z | z
        · rw [z, c4] at w6; omega
        · rw [i2, (c5 i i1).2.2.2.2.2] at w6; omega
        · omega
        · omega
      have r8 : ∀ q, 81 ≤ q → q ≤ 84 → pm_i S' q = pm_i S q := fun q h1 h2 => funext fun j => low q j (by omega) (by omega) (by omega) (by omega)
      have et : iv_txt S' l = iv_txt S l := by unfold iv_txt; rw [r8 81 (by omega) (by omega)]
      unfold iv_lrow
      rw [hr, ro, r8 82 (by omega) (by omega), r8 83 (by omega) (by omega), r8 84 (by omega) (by omega), et]
      exact ⟨z1, z2, z3, z4, z5, z6, z7, p, L', z8, z9.cg ro rw'⟩
    · rw [hr, ec]; exact l5
    · exact l6.cg (funext fun j => low 16 j (by omega) (by omega) (by omega) (by omega)) (fun q hq => funext fun j => low (17 + q) j (by omega) (by omega) (by omega) (by omega))
  · exact hI.cau.cg (fun p j h => by unfold iv_rCau at h; exact low p j (by omega) (by omega) (by omega) (by omega))
  · exact hI.red.cg (fun p j h => by unfold iv_rRed at h; exact low p j (by omega) (by omega) (by omega) (by omega))
  · exact hI.rep.cg (fun p j h => by unfold iv_rRep at h; exact low p j (by omega) (by omega) (by omega) (by omega))
  · exact hI.wk.cg (fun p j h => by unfold iv_rWk at h; exact low p j (by omega) (by omega) (by omega) (by omega))
  · exact hI.tp.cg (fun p j h => by unfold iv_rTp at h; exact low p j (by omega) (by omega) (by omega) (by omega)) (fun p _ => by rw [e5])
  · exact hI.tr.cg (fun p j h => by unfold iv_rTr at h; exact low p j (by omega) (by omega) (by omega) (by omega))
/-- what the class leaves when a LAW was adopted -/
theorem lv_C_ok {S S1 : pm_S} {D c : Nat} {b k : Int32} (h114 : 114 ≤ pm_n S) (hD : D < pm_n S) (s1 : pm_n S1 = pm_n S) (s2 : pm_k S1 = pm_k S) (s3 : pm_z S1 = pm_z S) (s4 : pm_r S1 = pm_r S) (s5 : pm_l S1 = pm_l S) :
    pm_n (lv_D (lw_H (pm_wI S1 5 1 0)) D c b k) = pm_n S + 7 ∧
    (∀ y, y < pm_n S → pm_k (lv_D (lw_H (pm_wI S1 5 1 0)) D c b k) y = pm_k S y ∧ pm_z (lv_D (lw_H (pm_wI S1 5 1 0)) D c b k) y = pm_z S y ∧ pm_l (lv_D (lw_H (pm_wI S1 5 1 0)) D c b k) y = pm_l S y) ∧
    pm_k (lv_D (lw_H (pm_wI S1 5 1 0)) D c b k) (pm_n S) = 5 ∧
    (∀ q, q < 6 → pm_r (lv_D (lw_H (pm_wI S1 5 1 0)) D c b k) (pm_n S) (iv_lf q) = some (pm_n S + 1 + q) ∧ pm_k (lv_D (lw_H (pm_wI S1 5 1 0)) D c b k) (pm_n S + 1 + q) = 20 ∧ pm_z (lv_D (lw_H (pm_wI S1 5 1 0)) D c b k) (pm_n S + 1 + q) = (if q = 5 then 160 else 10)) ∧
    (∀ y j, y < pm_n S → pm_i (lv_D (lw_H (pm_wI S1 5 1 0)) D c b k) y j = if y = 14 ∧ j = 2 then nI (c + 1) else if y = D ∧ j = 1 then k else if y = D ∧ j = 0 then b else if y = 5 ∧ j = 1 then 0 else pm_i S1 y j) ∧
    (∀ y j, y < pm_n S → pm_r (lv_D (lw_H (pm_wI S1 5 1 0)) D c b k) y j = if y = 15 ∧ j = c then some D else if y = 5 ∧ j = 3 then some (pm_n S) else pm_r S y j) := by
  have nX : pm_n (pm_wI S1 5 1 0) = pm_n S := s1
  have kX : pm_k (pm_wI S1 5 1 0) = pm_k S := s2
  have zX : pm_z (pm_wI S1 5 1 0) = pm_z S := s3
  have rX : pm_r (pm_wI S1 5 1 0) = pm_r S := s4
  have lX : pm_l (pm_wI S1 5 1 0) = pm_l S := s5
  have iX : ∀ y j, pm_i (pm_wI S1 5 1 0) y j = if y = 5 ∧ j = 1 then 0 else pm_i S1 y j := fun y j => by rw [pm_i_wI]
  generalize pm_wI S1 5 1 0 = X at *
  obtain ⟨q1, q2, q3⟩ := lw_N_ok (S := pm_nw X 5 0) (p := pm_n X) (by rw [pm_n_nw]; omega)
  have kN := (pm_nw_at X 5 0).1
  have aK := fun y => @pm_k_nw_ne X 5 0 y
  have aZ := fun y => @pm_z_nw_ne X 5 0 y
  have aL := fun y => @pm_l_nw_ne X 5 0 y
  have aI := fun y => @pm_i_nw_ne X 5 0 y
  have aR := fun y => @pm_r_nw_ne X 5 0 y
  have nN : pm_n (pm_nw X 5 0) = pm_n S + 1 := by rw [pm_n_nw, nX]
  rw [nX] at q1 q2 q3 kN aK aZ aL aI aR
  rw [nN] at q1 q2 q3
  have eH : lw_H X = pm_wR (lw_N (pm_nw X 5 0) (pm_n S)) 5 3 (some (pm_n S)) := by unfold lw_H; rw [nX]
  rw [eH]
  unfold lv_D
  generalize lw_N (pm_nw X 5 0) (pm_n S) = N at *
  generalize pm_nw X 5 0 = M at *
  refine ⟨?_, fun y hy => ⟨?_, ?_, ?_⟩, ?_, fun q hq => ⟨?_, ?_, ?_⟩, fun y j hy => ?_, fun y j hy => ?_⟩
  · show pm_n N = _; omega
  · show pm_k N y = _; rw [(q2 y (by omega)).1, aK y (by omega), kX]
  · show pm_z N y = _; rw [(q2 y (by omega)).2.1, aZ y (by omega), zX]
  · show pm_l N y = _; rw [(q2 y (by omega)).2.2.1, aL y (by omega), lX]
  · show pm_k N (pm_n S) = _; rw [(q2 (pm_n S) (by omega)).1]; exact kN
  · show pm_r (pm_wR (pm_wI (pm_wI (pm_wR N 5 3 (some (pm_n S))) D 0 b) D 1 k) 15 c (some D)) (pm_n S) (iv_lf q) = _
    rw [pm_r_wRi, if_neg (by omega)]
    show pm_r (pm_wR N 5 3 (some (pm_n S))) (pm_n S) (iv_lf q) = _
    rw [pm_r_wRi, if_neg (by omega)]; exact (q3 q hq).1
  · show pm_k N (pm_n S + 1 + q) = _; exact (q3 q hq).2.1
  · show pm_z N (pm_n S + 1 + q) = _; exact (q3 q hq).2.2
  · rw [pm_i_wI]
    show (if y = 14 ∧ j = 2 then nI (c + 1) else pm_i (pm_wI (pm_wI (pm_wR N 5 3 (some (pm_n S))) D 0 b) D 1 k) y j) = _
    rw [pm_i_wI, pm_i_wI]
    show (if y = 14 ∧ j = 2 then nI (c + 1) else if y = D ∧ j = 1 then k else if y = D ∧ j = 0 then b else pm_i N y j) = _
    rw [((q2 y (by omega)).2.2.2 (by omega)).1, aI y (by omega), iX]
  · show pm_r (pm_wR (pm_wI (pm_wI (pm_wR N 5 3 (some (pm_n S))) D 0 b) D 1 k) 15 c (some D)) y j = _
    rw [pm_r_wRi]
    show (if y = 15 ∧ j = c then some D else pm_r (pm_wR N 5 3 (some (pm_n S))) y j) = _
    rw [pm_r_wRi, ((q2 y (by omega)).2.2.2 (by omega)).2, aR y (by omega), rX]
theorem pp_law {G : pm_G} {d : Nat} {A : iv_A} {S : pm_S} {b k : Int32} (hd : 40 ≤ d) (hI : Inv A S) : pm_CI G d 126 [.ref 0, .int b, .int k] S (fun r S1 => pm_CI G d 222 [.ref 59, .int b, .int k] S1 (fun r' S2 => pv_end A r r' S2)) := by
  have hS := hI.sh
  have h114 := hS.1
  have hMI := hI.mi
  obtain ⟨n12, hn31⟩ := MI.c31 hMI
  have h14 : pm_i S 14 2 = nI (iv_c S 31) := by rw [hI.law.1]; exact hn31
  have hn26 : pm_i S 59 26 = nI (iv_c S 26) := iv_nn hI.txt.2.1.1
  have n160 : iv_c S 26 ≤ 160 := iv_le (n := 160) 160 hI.txt.2.1.2 (by decide)
  have h51 : pm_i S 5 1 = nI (iv_c S 26) := by rw [hI.txt.1]; exact hn26
  have h80 : pm_i S 6 = pm_i S 80 := hI.txt.2.2.1
  have t80 := hI.txt.2.2.2
  have free : ∀ p, pm_n S ≤ p → pm_k (pm_tr S) p = 99 := fun p hp => pm_tr_9 hp
  refine cl_126 hd hS h14 n12 (fun z => ?_) (fun z1 z2 => ?_) (fun z1 z2 z3 => ?_) (fun z1 z2 z3 => ?_)
  · exact mo_222 hd hS hn31 n12 (fun _ => pv_same hI) (fun y _ => absurd y z) (fun y _ _ => absurd y z) (fun y _ _ => absurd y z)
  · exact mo_222 hd hS hn31 n12 (fun y => absurd z1 y) (fun _ _ => pv_same hI) (fun _ y _ => absurd y z2) (fun _ y _ => absurd y z2)
  · exact mo_222 hd hS hn31 n12 (fun y => absurd z1 y) (fun _ y => absurd z2 y) (fun _ _ _ => pv_same hI) (fun _ _ y => absurd z3 (by omega))
  · have LC := hI.law.2.2.1 _ (Nat.le_refl _)
    refine cl_126a (n := iv_c S 26) (by omega) hI z3 h51 n160 (fun x L S1 hrd hrs => ?_) (fun x S1 hrd hrq => ?_)
    · obtain ⟨⟨s1, s2, s3, s4, s5⟩, si, srd, srep⟩ := hrs
      obtain ⟨c1, c2, c3, c4, c5⟩ := LC
      obtain ⟨q1, q2, q3, q4, q5, q6⟩ := lv_C_ok (S := S) (S1 := S1) (D := iv_l A (iv_c S 31)) (c := iv_c S 31) (b := b) (k := k) h114 c2 s1 s2 s3 s4 s5
      generalize lv_D (lw_H (pm_wI S1 5 1 0)) (iv_l A (iv_c S 31)) (iv_c S 31) b k = T at *
      have tlow : ∀ y j, y < 114 → ¬ (7 ≤ y ∧ y ≤ 14) → y ≠ 5 → pm_i T y j = pm_i S y j := fun y j h1 h2 h3 => by
        rw [q5 y j (by omega), if_neg (by omega), if_neg (by omega), if_neg (by omega), if_neg (by omega)]
        exact si y j (by omega) (by omega) (fun i hi => by have := (c5 i hi).2.1; omega)
      have hT : Sh T := by
        refine ⟨by omega, fun p hp => by rw [(q2 p (by omega)).1, (q2 p (by omega)).2.1]; exact hS.2.1 p hp, fun e he => ?_⟩
        have h3 : ∀ e, e ∈ sh_rr → e.1 < 114 ∧ e.1 ≠ 15 ∧ ¬ (e.1 = 5 ∧ e.2.1 = 3) := by decide
        have := h3 e he
        rw [q6 _ _ (by omega), if_neg (by omega), if_neg (by omega)]; exact hS.2.2 e he
      have r80 : pm_i T 80 = pm_i S 80 := funext fun j => tlow 80 j (by omega) (by omega) (by omega)
      have T26 : pm_i T 59 26 = nI (iv_c S 26) := by rw [tlow 59 26 (by omega) (by omega) (by omega)]; exact hn26
      have T31 : pm_i T 59 31 = nI (iv_c S 31) := by rw [tlow 59 31 (by omega) (by omega) (by omega)]; exact hn31
      have T18 : iv_c T 18 = iv_c S 18 := by unfold iv_c; rw [tlow 59 18 (by omega) (by omega) (by omega)]
      have T24 : iv_c T 24 = iv_c S 24 := by unfold iv_c; rw [tlow 59 24 (by omega) (by omega) (by omega)]
      have hrd8 : gx_read (pm_i T 80) (iv_c S 26) = (x, some L) := by rw [r80, ← h80]; exact hrd
      refine mo_222 hd hT T31 n12 (fun y => absurd z1 y) (fun _ y => absurd z2 y) (fun _ _ y => absurd z3 (by omega)) (fun _ _ _ => ?_)
      refine mo_222a (c := iv_c S 31) (n := iv_c S 26) (by omega) hT T26 n160 T31 z3 (fun j => by rw [r80]; exact t80 j) (by rw [T18]; exact (MI.c18 hMI).1) (by rw [T24, tlow 59 24 (by omega) (by omega) (by omega)]; exact (MI.c24 hMI).2) (by rw [T24]; exact (MI.c24 hMI).1) (fun x2 e => by rw [hrd8] at e; cases e) (fun x2 L2 V U e hs hF hg => ?_) (fun x2 V e hs => by rw [hrd8] at e; cases e)
      refine ⟨rfl, lv_A A (iv_c S 31) (pm_n S), ?_⟩
      have vi : ∀ y j, y < pm_n S → ¬ sc_q (pm_tr S) y j → pm_i V y j = pm_i T y j := fun y j hy hq => hs.2.1 y j (fun z => hq (by
        unfold sc_q at z ⊢
        rw [pm_tr_k hy, ← (q2 y hy).1]; exact z))
      have ui : ∀ y j, ¬ (y = 81 ∧ 160 * iv_c S 31 ≤ j ∧ j < 160 * iv_c S 31 + 160) → ¬ (y = 59 ∧ j = 26) → pm_i U y j = pm_i V y j := fun y j h1 h2 => by
        rw [hF.2 y j h1, pm_i_wI, if_neg h2]
      generalize hW : pm_wI (pm_wI (pm_wI (pm_wI U 82 (iv_c S 31) (nI (iv_c S 26))) 83 (iv_c S 31) b) 84 (iv_c S 31) k) 59 31 (nI (iv_c S 31 + 1)) = W
      have wi : ∀ y j, pm_i W y j = if y = 59 ∧ j = 31 then nI (iv_c S 31 + 1) else if y = 84 ∧ j = iv_c S 31 then k else if y = 83 ∧ j = iv_c S 31 then b else if y = 82 ∧ j = iv_c S 31 then nI (iv_c S 26) else pm_i U y j := fun y j => by
        rw [← hW, pm_i_wI, pm_i_wI, pm_i_wI, pm_i_wI]
      have wn : pm_n W = pm_n S + 7 := by rw [← hW]; show pm_n U = _; rw [hF.1.1]; show pm_n V = _; rw [hs.n]; exact q1
      have wk : pm_k W = pm_k T := by rw [← hW]; show pm_k U = _; rw [hF.1.2.1]; show pm_k V = _; rw [hs.k]
      have wz : pm_z W = pm_z T := by rw [← hW]; show pm_z U = _; rw [hF.1.2.2.1]; show pm_z V = _; rw [hs.z]
      have wr : pm_r W = pm_r T := by rw [← hW]; show pm_r U = _; rw [hF.1.2.2.2.1]; show pm_r V = _; rw [hs.r]
      have wl : ∀ p, ¬ sc_l p → pm_l W p = pm_l T p := fun p hp => by rw [← hW]; show pm_l U p = _; rw [hF.1.2.2.2.2]; show pm_l V p = _; exact hs.2.2 p hp
      have wt : ∀ y j, y < pm_n S → ¬ sc_q (pm_tr S) y j → ¬ (y = 59 ∧ (j = 26 ∨ j = 31)) → ¬ (81 ≤ y ∧ y ≤ 84) → pm_i W y j = pm_i T y j := fun y j h1 h2 h3 h4 => by
        rw [wi, if_neg (by omega), if_neg (by omega), if_neg (by omega), if_neg (by omega), ui y j (by omega) (by omega)]; exact vi y j h1 h2
      have nsD : ∀ j, ¬ sc_q (pm_tr S) (iv_l A (iv_c S 31)) j := fun j z => by
        unfold sc_q at z
        rw [pm_tr_k c2, c3] at z; omega
      have nsW : ∀ i, i < 6 → ∀ j, ¬ sc_q (pm_tr S) (iv_w A (iv_c S 31) i) j := fun i hi j z => by
        obtain ⟨y1, y2, y3, y4, y5, y6⟩ := c5 i hi
        unfold sc_q at z
        rw [pm_tr_k y3, y4] at z; omega
      have wD : ∀ j, pm_i W (iv_l A (iv_c S 31)) j = pm_i T (iv_l A (iv_c S 31)) j := fun j => wt _ j c2 (nsD j) (by omega) (by omega)
      have wD2 : ∀ j, 2 ≤ j → pm_i W (iv_l A (iv_c S 31)) j = pm_i S1 (iv_l A (iv_c S 31)) j := fun j hj => by
        rw [wD, q5 _ _ c2, if_neg (by omega), if_neg (by omega), if_neg (by omega), if_neg (by omega)]
      have wW : ∀ i, i < 6 → pm_i W (iv_w A (iv_c S 31) i) = pm_i S1 (iv_w A (iv_c S 31) i) := fun i hi => funext fun j => by
        obtain ⟨y1, y2, y3, y4, y5, y6⟩ := c5 i hi
        have ne : iv_w A (iv_c S 31) i ≠ iv_l A (iv_c S 31) := fun z => by rw [z, c3] at y4; omega
        rw [wt _ j y3 (nsW i hi j) (by omega) (by omega), q5 _ _ y3, if_neg (by omega), if_neg (fun z => ne z.1), if_neg (fun z => ne z.1), if_neg (by omega)]
      have wtx : ∀ j, j < iv_c S 26 → iv_txt W (iv_c S 31) j = pm_i S 80 j := fun j hj => by
        unfold iv_txt
        rw [wi, if_neg (by omega), if_neg (by omega), if_neg (by omega), if_neg (by omega), hg j hj, r80]
      refine iv_law1 (b := b) (k := k) (S := pm_tr S) (S' := W) (n := iv_c S 26) (x := x) (L := L) hI.trm free z3 ?_ z2 wn (fun p hp => ⟨?_, ?_, fun hl => ?_⟩) (by rw [wk]; exact q3) (fun i hi => by rw [wr, wk, wz]; exact q4 i hi) (fun y j hy hx hq => ?_) (fun y j hy h1 h2 => ?_) ?_ ?_ ?_ ?_ ?_ ?_ ?_ ?_ ?_ ?_ ?_ n160 (fun j hj => ?_) ?_ ?_
      · exact z1.elim (fun e => by rw [e]; exact ⟨by decide, by decide⟩) (fun e => ⟨by lia, e.2⟩)
      · replace hp : p < pm_n S := hp
        rw [wk, (q2 p hp).1]; exact (pm_tr_k hp).symm
      · replace hp : p < pm_n S := hp
        rw [wz, (q2 p hp).2.1]; rfl
      · replace hp : p < pm_n S := hp
        rw [wl p hl, (q2 p hp).2.2]; rfl
      · replace hy : y < pm_n S := hy
        replace hx : ¬ lv_x A (iv_c S 31) y j := hx
        unfold lv_x at hx
        show pm_i W y j = pm_i S y j
        have a1 : ¬ y = iv_l A (iv_c S 31) := fun z => hx (Or.inl z)
        have a2 : ∀ i, i < 6 → y ≠ iv_w A (iv_c S 31) i := fun i hi z => hx (Or.inr (Or.inl ⟨i, hi, z⟩))
        have a3 : ¬ (y = 5 ∧ (j = 1 ∨ j = 2)) := fun z => hx (Or.inr (Or.inr (Or.inl z)))
        have a4 : ¬ (y = 59 ∧ (j = 26 ∨ j = 31)) := fun z => hx (Or.inr (Or.inr (Or.inr (Or.inl z))))
        have a5 : ¬ (y = 14 ∧ j = 2) := fun z => hx (Or.inr (Or.inr (Or.inr (Or.inr (Or.inl z)))))
        have a6 : ¬ (y = 81 ∧ 160 * iv_c S 31 ≤ j ∧ j < 160 * iv_c S 31 + 160) := fun z => hx (Or.inr (Or.inr (Or.inr (Or.inr (Or.inr (Or.inl z))))))
        have a7 : ¬ (82 ≤ y ∧ y ≤ 84 ∧ j = iv_c S 31) := fun z => hx (Or.inr (Or.inr (Or.inr (Or.inr (Or.inr (Or.inr z))))))
        rw [wi, if_neg (by omega), if_neg (by omega), if_neg (by omega), if_neg (by omega), ui y j a6 (by omega), vi y j hy hq, q5 y j hy, if_neg a5, if_neg (fun z => a1 z.1), if_neg (fun z => a1 z.1), if_neg (by omega)]
        exact si y j (by omega) a1 a2
      · replace hy : y < pm_n S := hy
        replace h1 : ¬ (y = 15 ∧ j = iv_c S 31) := h1
        show pm_r W y j = pm_r S y j
        rw [wr, q6 y j hy, if_neg h1, if_neg h2]
      · show pm_r W 15 (iv_c S 31) = some (iv_l A (iv_c S 31))
        rw [wr, q6 15 _ (by omega), if_pos ⟨rfl, rfl⟩]
      · show pm_r W 5 3 = some (pm_n S)
        rw [wr, q6 5 3 (by omega), if_neg (by omega), if_pos ⟨rfl, rfl⟩]
      · rw [wt 5 1 (by omega) (by unfold sc_q; omega) (by omega) (by omega), q5 5 1 (by omega), if_neg (by omega), if_neg (by omega), if_neg (by omega), if_pos ⟨rfl, rfl⟩]
      · rw [wi, if_neg (by omega), if_neg (by omega), if_neg (by omega), if_neg (by omega), hF.2 59 26 (by omega), pm_i_wI, if_pos ⟨rfl, rfl⟩]
      · show pm_i W 59 31 = nI (iv_c S 31 + 1)
        rw [wi, if_pos ⟨rfl, rfl⟩]
      · show pm_i W 14 2 = nI (iv_c S 31 + 1)
        rw [wt 14 2 (by omega) (by unfold sc_q; omega) (by omega) (by omega), q5 14 2 (by omega), if_pos ⟨rfl, rfl⟩]
      · show pm_i W (iv_l A (iv_c S 31)) 0 = b
        rw [wD, q5 _ _ c2, if_neg (by omega), if_neg (by omega), if_pos ⟨rfl, rfl⟩]
      · show pm_i W (iv_l A (iv_c S 31)) 1 = k
        rw [wD, q5 _ _ c2, if_neg (by omega), if_pos ⟨rfl, rfl⟩]
      · show pm_i W 83 (iv_c S 31) = b
        rw [wi, if_neg (by omega), if_neg (by omega), if_pos ⟨rfl, rfl⟩]
      · show pm_i W 84 (iv_c S 31) = k
        rw [wi, if_neg (by omega), if_pos ⟨rfl, rfl⟩]
      · show pm_i W 82 (iv_c S 31) = nI (iv_c S 26)
        rw [wi, if_neg (by omega), if_neg (by omega), if_neg (by omega), if_pos ⟨rfl, rfl⟩]
      · show iv_in (iv_txt W (iv_c S 31) j) 0 255
        rw [wtx j hj]; exact t80 j
      · show gx_read (iv_txt W (iv_c S 31)) (iv_c S 26) = (x, some L)
        rw [gx_read_cong wtx, ← h80]; exact hrd
      · show iv_lrep W (iv_l A (iv_c S 31)) (iv_w A (iv_c S 31)) L
        obtain ⟨g1, g2, g3, g4, g5, g6, g7⟩ := srep
        refine ⟨by rw [wD2 2 (by omega)]; exact g1, by rw [wD2 18 (by omega)]; exact g2, g3, g4, fun f h8 h16 => by rw [wD2 f (by omega)]; exact g5 f h8 h16, fun j hj => ?_, fun j hj => ?_⟩
        · rw [wW 0 (by omega), wW 1 (by omega), wW 2 (by omega), wW 3 (by omega), wW 4 (by omega)]; exact g6 j hj
        · rw [wW 5 (by omega)]; exact g7 j hj
    · obtain ⟨⟨s1, s2, s3, s4, s5⟩, si, srd⟩ := hrq
      obtain ⟨c1, c2, c3, c4, c5⟩ := LC
      have xn : x ≤ 160 := Nat.le_trans srd.2.2.1 srd.2.2.2.1
      have hT : Sh (pm_wI S1 5 1 0) := hS.same s1 s2 s3 s4
      have tlow : ∀ y j, y < 114 → ¬ (7 ≤ y ∧ y ≤ 13) → y ≠ 5 → pm_i (pm_wI S1 5 1 0) y j = pm_i S y j := fun y j h1 h2 h3 => by
        rw [pm_i_wI, if_neg (by omega)]
        exact si y j (by omega) (by omega) (fun i hi => by have := (c5 i hi).2.1; omega)
      have t51 : pm_i (pm_wI S1 5 1 0) 5 1 = 0 := by rw [pm_i_wI, if_pos ⟨rfl, rfl⟩]
      have ti : ∀ y j, ¬ lv_y A (iv_c S 31) y j → pm_i (pm_wI S1 5 1 0) y j = pm_i S y j := fun y j hx => by
        unfold lv_y at hx
        have a1 : ¬ y = iv_l A (iv_c S 31) := fun z => hx (Or.inl z)
        have a2 : ∀ i, i < 6 → y ≠ iv_w A (iv_c S 31) i := fun i hi z => hx (Or.inr (Or.inl ⟨i, hi, z⟩))
        have a3 : ¬ (y = 5 ∧ (j = 1 ∨ j = 2)) := fun z => hx (Or.inr (Or.inr (Or.inl z)))
        rw [pm_i_wI, if_neg (by omega)]
        exact si y j (by omega) a1 a2
      have tn : pm_n (pm_wI S1 5 1 0) = pm_n S ∧ pm_k (pm_wI S1 5 1 0) = pm_k S ∧ pm_z (pm_wI S1 5 1 0) = pm_z S ∧ pm_r (pm_wI S1 5 1 0) = pm_r S ∧ pm_l (pm_wI S1 5 1 0) = pm_l S := ⟨s1, s2, s3, s4, s5⟩
      generalize pm_wI S1 5 1 0 = T at *
      have r80 : pm_i T 80 = pm_i S 80 := funext fun j => tlow 80 j (by omega) (by omega) (by omega)
      have T26 : pm_i T 59 26 = nI (iv_c S 26) := by rw [tlow 59 26 (by omega) (by omega) (by omega)]; exact hn26
      have T31 : pm_i T 59 31 = nI (iv_c S 31) := by rw [tlow 59 31 (by omega) (by omega) (by omega)]; exact hn31
      have T18 : iv_c T 18 = iv_c S 18 := by unfold iv_c; rw [tlow 59 18 (by omega) (by omega) (by omega)]
      have T24 : iv_c T 24 = iv_c S 24 := by unfold iv_c; rw [tlow 59 24 (by omega) (by omega) (by omega)]
      have hrd8 : gx_read (pm_i T 80) (iv_c S 26) = (x, none) := by rw [r80, ← h80]; exact hrd
      refine mo_222 hd hT T31 n12 (fun y => absurd z1 y) (fun _ y => absurd z2 y) (fun _ _ y => absurd z3 (by omega)) (fun _ _ _ => ?_)
      refine mo_222a (c := iv_c S 31) (n := iv_c S 26) (by omega) hT T26 n160 T31 z3 (fun j => by rw [r80]; exact t80 j) (by rw [T18]; exact (MI.c18 hMI).1) (by rw [T24, tlow 59 24 (by omega) (by omega) (by omega)]; exact (MI.c24 hMI).2) (by rw [T24]; exact (MI.c24 hMI).1) (fun x2 e => by rw [hrd8] at e; cases e; exact xn) (fun x2 L2 V U e hs hF hg => by rw [hrd8] at e; cases e) (fun x2 V e hs => ?_)
      rw [hrd8] at e
      cases e
      refine ⟨rfl, A, Inv.sc ?_ (hs.cI (p := 59) (j := 26) (v := 0))⟩
      refine iv_lawF hI tn.1 tn.2.1 tn.2.2.1 tn.2.2.2.1 tn.2.2.2.2 (fun y j hx => ?_) ?_ ?_
      · rw [pm_i_wI, if_neg (fun z => hx (Or.inr (Or.inr (Or.inr z))))]; exact ti y j hx
      · rw [pm_i_wI, if_neg (by omega)]; exact t51
      · rw [pm_i_wI, if_pos ⟨rfl, rfl⟩]
/-! week: the best order -/
def bo_n (s : Nat) : Nat → Nat
  | 0 => 0
  | p + 1 => bo_n s p + if s.testBit p = true then 0 else 1
def bo_w (f : Nat → Nat) (s : Nat) : Nat → Nat
  | 0 => 0
  | p + 1 => bo_w f s p + if s.testBit p = true then f p else 0
theorem bo_bit (s p i : Nat) : (s ||| 2 ^ p).testBit i = (s.testBit i || decide (p = i)) := by rw [Nat.testBit_or, Nat.testBit_two_pow]
theorem bo_n_set {s p : Nat} (h : s.testBit p = false) : ∀ N, bo_n (s ||| 2 ^ p) N + (if p < N then 1 else 0) = bo_n s N
  | 0 => by rw [if_neg (Nat.not_lt_zero p)]; rfl
  | N + 1 => by
    have ih := bo_n_set h N
    unfold bo_n
    rw [bo_bit]
    by_cases e : p = N
    · subst e
      rw [if_neg (Nat.lt_irrefl p)] at ih
      rw [h, decide_eq_true rfl, Bool.or_true, if_pos rfl, if_pos (Nat.lt_succ_self p), if_neg (show ¬ (false = true) by decide)]
      omega
    · rw [decide_eq_false e, Bool.or_false]
      by_cases l : p < N
      · rw [if_pos l] at ih
        rw [if_pos (show p < N + 1 by omega)]
        omega
      · rw [if_neg l] at ih
        rw [if_neg (show ¬ p < N + 1 by omega)]
        omega
theorem bo_n_in {s p N : Nat} (h : s.testBit p = false) (hp : p < N) : bo_n (s ||| 2 ^ p) N + 1 = bo_n s N := by
  have := bo_n_set h N
  rw [if_pos hp] at this; exact this
theorem bo_w_set {f : Nat → Nat} {s p : Nat} (h : s.testBit p = false) : ∀ N, bo_w f (s ||| 2 ^ p) N = bo_w f s N + (if p < N then f p else 0)
  | 0 => by rw [if_neg (Nat.not_lt_zero p)]; rfl
  | N + 1 => by
    have ih := bo_w_set (f := f) h N
    unfold bo_w
    rw [bo_bit]
    by_cases e : p = N
    · subst e
      rw [if_neg (Nat.lt_irrefl p)] at ih
      rw [h, decide_eq_true rfl, Bool.or_true, if_pos rfl, if_neg (show ¬ (false = true) by decide), if_pos (Nat.lt_succ_self p)]
      omega
    · rw [decide_eq_false e, Bool.or_false]
      by_cases l : p < N
      · rw [if_pos l] at ih
        rw [if_pos (show p < N + 1 by omega)]
        omega
      · rw [if_neg l] at ih
        rw [if_neg (show ¬ p < N + 1 by omega)]
        omega
theorem bo_w_in {f : Nat → Nat} {s p N : Nat} (h : s.testBit p = false) (hp : p < N) : bo_w f (s ||| 2 ^ p) N = bo_w f s N + f p := by
  have := bo_w_set (f := f) h N
  rw [if_pos hp] at this; exact this
theorem bo_w_le {f : Nat → Nat} {s : Nat} : ∀ N, (∀ k, k < N → f k ≤ 9) → bo_w f s N ≤ 9 * N
  | 0, _ => Nat.le_refl _
  | N + 1, h => by
    have ih := bo_w_le (f := f) (s := s) N (fun k hk => h k (by omega))
    have := h N (by omega)
    unfold bo_w
    split <;> omega
theorem bo_w_0 {f : Nat → Nat} : ∀ N, bo_w f 0 N = 0
  | 0 => rfl
  | N + 1 => by
    unfold bo_w
    rw [bo_w_0 N, Nat.zero_testBit, if_neg (by decide)]
theorem bo_n_0 : ∀ N, bo_n 0 N = N
  | 0 => rfl
  | N + 1 => by
    unfold bo_n
    rw [bo_n_0 N, Nat.zero_testBit, if_neg (by decide)]
theorem bo_n_pos {s : Nat} : ∀ N, 1 ≤ bo_n s N → ∃ p, p < N ∧ s.testBit p = false
  | 0, h => absurd h (by unfold bo_n; omega)
  | N + 1, h => by
    cases e : s.testBit N with
    | false => exact ⟨N, by omega, e⟩
    | true =>
      unfold bo_n at h
      rw [e, if_pos rfl] at h
      obtain ⟨p, h1, h2⟩ := bo_n_pos N (by omega)
      exact ⟨p, by omega, h2⟩
theorem bo_all : ∀ N, N < 8 → bo_n (2 ^ N - 1) N = 0 := by decide
theorem bo_some : ∀ N, N < 8 → ∀ s, s < 128 → s < 2 ^ N - 1 → 1 ≤ bo_n s N := by decide +kernel
def bo_c (t d : Nat) : Nat := if d < t then 4294967296 + (t - d) else 0
theorem bo_c_le {t d : Nat} (h : t < 2 ^ 16) : bo_c t d ≤ 4295032832 := by unfold bo_c; split <;> omega
def bo_b (s : Nat) (v : Nat → Nat) : Nat → Nat
  | 0 => 9223372036854775807
  | p + 1 => if s.testBit p = true then bo_b s v p else if v p < bo_b s v p then v p else bo_b s v p
def bo_o (C : Nat → Nat → Nat) (N : Nat) : Nat → Nat → Nat
  | 0, _ => 0
  | r + 1, s => bo_b s (fun p => bo_o C N r (s ||| 2 ^ p) + C (s ||| 2 ^ p) p) N
/-- the first open place with this value -/
def bo_i (s : Nat) (v : Nat → Nat) (x N p : Nat) : Prop := p < N ∧ s.testBit p = false ∧ v p = x ∧ ∀ u, u < p → s.testBit u = false → v u ≠ x
theorem bo_b_le {s p : Nat} {v : Nat → Nat} (h : s.testBit p = false) : ∀ N, p < N → bo_b s v N ≤ v p
  | 0, hp => absurd hp (Nat.not_lt_zero p)
  | N + 1, hp => by
    unfold bo_b
    by_cases e : p = N
    · subst e
      rw [h, if_neg (by decide)]
      split <;> omega
    · have ih := bo_b_le (v := v) h N (by omega)
      split
      · exact ih
      · split <;> omega
theorem bo_b_mx {s : Nat} {v : Nat → Nat} : ∀ N, bo_b s v N ≤ 9223372036854775807
  | 0 => Nat.le_refl _
  | N + 1 => by
    have ih := bo_b_mx (s := s) (v := v) N
    unfold bo_b
    split
    · exact ih
    · split <;> omega
theorem bo_b_gt {s x : Nat} {v : Nat → Nat} (hx : x < 9223372036854775807) : ∀ N, (∀ p, p < N → s.testBit p = false → x < v p) → x < bo_b s v N
  | 0, _ => hx
  | N + 1, h => by
    have ih := bo_b_gt (s := s) (v := v) hx N (fun p hp => h p (by omega))
    unfold bo_b
    split
    · exact ih
    · rename_i e
      have := h N (by omega) (by cases z : s.testBit N with
        | false => rfl
        | true => exact absurd z e)
      split <;> omega
theorem bo_b_at {s : Nat} {v : Nat → Nat} : ∀ N, bo_b s v N < 9223372036854775807 → ∃ p, bo_i s v (bo_b s v N) N p
  | 0, h => absurd h (by unfold bo_b; omega)
  | N + 1, h => by
    cases e : s.testBit N with
    | true =>
      have q : bo_b s v (N + 1) = bo_b s v N := by rw [bo_b, e, if_pos rfl]
      rw [q] at h ⊢
      obtain ⟨p, h1, h2, h3, h4⟩ := bo_b_at N h
      exact ⟨p, by omega, h2, h3, h4⟩
    | false =>
      have q : bo_b s v (N + 1) = if v N < bo_b s v N then v N else bo_b s v N := by rw [bo_b, e, if_neg (by decide)]
      rw [q] at h ⊢
      by_cases l : v N < bo_b s v N
      · rw [if_pos l] at h ⊢
        exact ⟨N, by omega, e, rfl, fun u hu hs => by have := bo_b_le (v := v) hs N hu; omega⟩
      · rw [if_neg l] at h ⊢
        obtain ⟨p, h1, h2, h3, h4⟩ := bo_b_at N h
        exact ⟨p, by omega, h2, h3, h4⟩
theorem bo_b_cg {s : Nat} {v u : Nat → Nat} : ∀ N, (∀ p, p < N → s.testBit p = false → v p = u p) → bo_b s v N = bo_b s u N
  | 0, _ => rfl
  | N + 1, h => by
    have ih := bo_b_cg (s := s) (v := v) (u := u) N (fun p hp => h p (by omega))
    cases e : s.testBit N with
    | true => rw [bo_b, bo_b, e, if_pos rfl, if_pos rfl]; exact ih
    | false => rw [bo_b, bo_b, e, if_neg (show ¬ (false = true) by decide), if_neg (show ¬ (false = true) by decide), ih, h N (by omega) e]
theorem bo_i_uq {s x N p u : Nat} {v : Nat → Nat} (h : bo_i s v x N p) (h' : bo_i s v x N u) : p = u := by
  obtain ⟨a1, a2, a3, a4⟩ := h
  obtain ⟨b1, b2, b3, b4⟩ := h'
  rcases Nat.lt_trichotomy p u with z | z | z
  · exact absurd a3 (b4 p z a2)
  · exact z
  · exact absurd b3 (a4 u z b2)
theorem bo_o_le {C : Nat → Nat → Nat} {N : Nat} (hC : ∀ s p, C s p ≤ 4295032832) : ∀ r s, bo_n s N = r → bo_o C N r s ≤ r * 4295032832
  | 0, _, _ => Nat.zero_le _
  | r + 1, s, h => by
    obtain ⟨p, h1, h2⟩ := bo_n_pos (s := s) N (by omega)
    have h3 := bo_n_in h2 h1
    have ih := bo_o_le (N := N) hC r (s ||| 2 ^ p) (by omega)
    have h4 := bo_b_le (v := fun p => bo_o C N r (s ||| 2 ^ p) + C (s ||| 2 ^ p) p) h2 N h1
    have h5 := hC (s ||| 2 ^ p) p
    have h6 : bo_o C N r (s ||| 2 ^ p) + C (s ||| 2 ^ p) p ≤ (r + 1) * 4295032832 := by omega
    exact Nat.le_trans h4 h6
def bo_P (C : Nat → Nat → Nat) (N : Nat) : Nat → Nat → (Nat → Nat) → Nat → Prop
  | 0, _, _, _ => True
  | r + 1, s, l, k => bo_i s (fun p => bo_o C N r (s ||| 2 ^ p) + C (s ||| 2 ^ p) p) (bo_o C N (r + 1) s) N (l k) ∧ bo_P C N r (s ||| 2 ^ l k) l (k + 1)
theorem bo_P_uq {C : Nat → Nat → Nat} {N : Nat} {l m : Nat → Nat} : ∀ r s k, bo_P C N r s l k → bo_P C N r s m k → ∀ i, i < r → l (k + i) = m (k + i)
  | 0, _, _, _, _, i, hi => absurd hi (Nat.not_lt_zero i)
  | r + 1, s, k, h, h', i, hi => by
    obtain ⟨a1, a2⟩ := h
    obtain ⟨b1, b2⟩ := h'
    have e := bo_i_uq a1 b1
    cases i with
    | zero => exact e
    | succ j =>
      rw [e] at a2
      have := bo_P_uq r _ (k + 1) a2 b2 j (by omega)
      rw [show k + (j + 1) = k + 1 + j by omega]; exact this
/-- the model's search, pure -/
abbrev bo_B : Type := Option (Nat × (Nat → Nat))
def bo_pr : bo_B → Nat → Bool
  | none, _ => false
  | some b, c => decide (b.1 ≤ c)
def bo_fo (f : Nat → bo_B → bo_B) : Nat → bo_B → bo_B
  | 0, B => B
  | p + 1, B => f p (bo_fo f p B)
def bo_go (C : Nat → Nat → Nat) (N : Nat) : Nat → Nat → Nat → Nat → (Nat → Nat) → bo_B → bo_B
  | 0, _, _, c, t, B => if bo_pr B c = true then B else some (c, t)
  | r + 1, k, s, c, t, B => if bo_pr B c = true then B else bo_fo (fun p B => if s.testBit p = true then B else bo_go C N r (k + 1) (s ||| 2 ^ p) (c + C (s ||| 2 ^ p) p) (fun i => if i = k then p else t i) B) N B
theorem bo_pr_up {B : bo_B} {c e : Nat} (h : bo_pr B c = true) (hl : c ≤ e) : bo_pr B e = true := by
  cases B with
  | none => cases h
  | some b => exact decide_eq_true (Nat.le_trans (of_decide_eq_true h) hl)
theorem bo_go_ok {C : Nat → Nat → Nat} {N : Nat} (hC : ∀ s p, C s p ≤ 4295032832) (hN : N ≤ 7) : ∀ r k s c t B, r + k = N → bo_n s N = r →
    (bo_go C N r k s c t B = B ∧ bo_pr B (c + bo_o C N r s) = true) ∨ (bo_pr B (c + bo_o C N r s) = false ∧ ∃ l, bo_go C N r k s c t B = some (c + bo_o C N r s, l) ∧ (∀ i, i < k → l i = t i) ∧ bo_P C N r s l k)
  | 0, k, s, c, t, B, hk, hs => by
    have e0 : bo_o C N 0 s = 0 := rfl
    rw [e0, Nat.add_zero]
    unfold bo_go
    cases e : bo_pr B c with
    | true => exact Or.inl ⟨if_pos rfl, rfl⟩
    | false => exact Or.inr ⟨rfl, t, if_neg (by decide), fun _ _ => rfl, trivial⟩
  | r + 1, k, s, c, t, B, hk, hs => by
    have bnd : ∀ p, p < N → s.testBit p = false → bo_o C N r (s ||| 2 ^ p) + C (s ||| 2 ^ p) p ≤ 8 * 4295032832 := fun p h1 h2 => by
      have h3 := bo_n_in h2 h1
      have h4 := bo_o_le (N := N) hC r (s ||| 2 ^ p) (by omega)
      have h5 := hC (s ||| 2 ^ p) p
      have h6 : r * 4295032832 ≤ 7 * 4295032832 := Nat.mul_le_mul_right _ (by omega)
      omega
    generalize hv : (fun p => bo_o C N r (s ||| 2 ^ p) + C (s ||| 2 ^ p) p) = v
    have hvp : ∀ p, bo_o C N r (s ||| 2 ^ p) + C (s ||| 2 ^ p) p = v p := fun p => by rw [← hv]
    have eo : bo_o C N (r + 1) s = bo_b s v N := by rw [← hv]; rfl
    have hP : ∀ l, bo_P C N (r + 1) s l k = (bo_i s v (bo_b s v N) N (l k) ∧ bo_P C N r (s ||| 2 ^ l k) l (k + 1)) := fun l => by rw [← eo, ← hv]; rfl
    have bnd2 : ∀ p, p < N → s.testBit p = false → v p ≤ 8 * 4295032832 := fun p h1 h2 => by rw [← hvp]; exact bnd p h1 h2
    obtain ⟨p0, h01, h02⟩ := bo_n_pos (s := s) N (by omega)
    have lmx : bo_b s v N < 9223372036854775807 := by
      have h1 := bo_b_le (v := v) h02 N h01
      have h2 := bnd2 p0 h01 h02
      omega
    rw [eo]
    cases e : bo_pr B c with
    | true =>
      refine Or.inl ⟨?_, bo_pr_up e (by omega)⟩
      unfold bo_go
      rw [e]; exact if_pos rfl
    | false =>
      have eg : bo_go C N (r + 1) k s c t B = bo_fo (fun p B => if s.testBit p = true then B else bo_go C N r (k + 1) (s ||| 2 ^ p) (c + C (s ||| 2 ^ p) p) (fun i => if i = k then p else t i) B) N B := by
        rw [bo_go, e]; exact if_neg (by decide)
      rw [eg]
      generalize hf : (fun (p : Nat) (B : bo_B) => if s.testBit p = true then B else bo_go C N r (k + 1) (s ||| 2 ^ p) (c + C (s ||| 2 ^ p) p) (fun i => if i = k then p else t i) B) = f
      have f1 : ∀ p X, s.testBit p = true → f p X = X := fun p X h => by rw [← hf]; exact if_pos h
      have f0 : ∀ p X, p < N → s.testBit p = false → (f p X = X ∧ bo_pr X (c + v p) = true) ∨ (bo_pr X (c + v p) = false ∧ ∃ l, f p X = some (c + v p, l) ∧ (∀ i, i < k → l i = t i) ∧ l k = p ∧ bo_P C N r (s ||| 2 ^ p) l (k + 1)) := fun p X h1 h2 => by
        have h3 := bo_n_in h2 h1
        have ih := bo_go_ok hC hN r (k + 1) (s ||| 2 ^ p) (c + C (s ||| 2 ^ p) p) (fun i => if i = k then p else t i) X (by omega) (by omega)
        have ec : c + C (s ||| 2 ^ p) p + bo_o C N r (s ||| 2 ^ p) = c + v p := by rw [← hvp]; omega
        rw [ec] at ih
        have ef : f p X = bo_go C N r (k + 1) (s ||| 2 ^ p) (c + C (s ||| 2 ^ p) p) (fun i => if i = k then p else t i) X := by rw [← hf]; exact if_neg (by rw [h2]; decide)
        rw [ef]
        rcases ih with ih | ⟨ih1, l, ih2, ih3, ih4⟩
        · exact Or.inl ih
        · refine Or.inr ⟨ih1, l, ih2, fun i hi => ?_, ?_, ih4⟩
          · have := ih3 i (by omega)
            rw [this]; exact if_neg (by omega)
          · have := ih3 k (by omega)
            rw [this]; exact if_pos rfl
      have inv : ∀ P, P ≤ N → (bo_fo f P B = B ∧ ∀ p, p < P → s.testBit p = false → bo_pr B (c + v p) = true) ∨ (∃ p l, bo_i s v (bo_b s v P) P p ∧ bo_pr B (c + v p) = false ∧ bo_fo f P B = some (c + v p, l) ∧ (∀ i, i < k → l i = t i) ∧ l k = p ∧ bo_P C N r (s ||| 2 ^ p) l (k + 1)) := by
        intro P
        induction P with
        | zero => intro _; exact Or.inl ⟨rfl, fun p hp => absurd hp (Nat.not_lt_zero p)⟩
        | succ P ih =>
          intro hP
          have ih := ih (by omega)
          have es : bo_fo f (P + 1) B = f P (bo_fo f P B) := rfl
          rw [es]
          cases hb : s.testBit P with
          | true =>
            rw [f1 P _ hb]
            have eb : bo_b s v (P + 1) = bo_b s v P := by rw [bo_b, hb, if_pos rfl]
            rcases ih with ⟨i1, i2⟩ | ⟨p, l, ⟨j1, j2, j3, j4⟩, i2⟩
            · refine Or.inl ⟨i1, fun p hp ho => ?_⟩
              by_cases z : p = P
              · rw [z, hb] at ho; cases ho
              · exact i2 p (by omega) ho
            · rw [eb]
              exact Or.inr ⟨p, l, ⟨by omega, j2, j3, j4⟩, i2⟩
          | false =>
            have eb : bo_b s v (P + 1) = if v P < bo_b s v P then v P else bo_b s v P := by rw [bo_b, hb, if_neg (by decide)]
            have vb := bnd2 P (by omega) hb
            rcases ih with ⟨i1, i2⟩ | ⟨p, l, ⟨j1, j2, j3, j4⟩, i2, i3, i4, i5, i6⟩
            · rw [i1]
              rcases f0 P B (by omega) hb with ⟨g1, g2⟩ | ⟨g1, l, g2, g3, g4, g5⟩
              · refine Or.inl ⟨g1, fun p hp ho => ?_⟩
                by_cases z : p = P
                · rw [z]; exact g2
                · exact i2 p (by omega) ho
              · have lt : ∀ p, p < P → s.testBit p = false → v P < v p := fun p hp ho => by
                  have a := i2 p hp ho
                  cases B with
                  | none => cases a
                  | some b =>
                    have a1 : b.1 ≤ c + v p := of_decide_eq_true a
                    have a2 : ¬ b.1 ≤ c + v P := of_decide_eq_false g1
                    omega
                have hlt : v P < bo_b s v P := bo_b_gt (by omega) P lt
                rw [eb, if_pos hlt]
                exact Or.inr ⟨P, l, ⟨by omega, hb, rfl, fun u hu ho => by have := lt u hu ho; omega⟩, g1, g2, g3, g4, g5⟩
            · rw [i3]
              rcases f0 P (some (c + v p, l)) (by omega) hb with ⟨g1, g2⟩ | ⟨g1, m, g2, g3, g4, g5⟩
              · have a : c + v p ≤ c + v P := of_decide_eq_true g2
                rw [eb, if_neg (by omega), g1]
                exact Or.inr ⟨p, l, ⟨by omega, j2, j3, j4⟩, i2, rfl, i4, i5, i6⟩
              · have a : ¬ c + v p ≤ c + v P := of_decide_eq_false g1
                rw [eb, if_pos (by omega)]
                refine Or.inr ⟨P, m, ⟨by omega, hb, rfl, fun u hu ho => by have := bo_b_le (v := v) ho P hu; omega⟩, ?_, g2, g3, g4, g5⟩
                cases hz : bo_pr B (c + v P) with
                | false => rfl
                | true => rw [bo_pr_up hz (by omega)] at i2; cases i2
      rcases inv N (Nat.le_refl _) with ⟨i1, i2⟩ | ⟨p, l, i1, i2, i3, i4, i5, i6⟩
      · obtain ⟨p, j1, j2, j3, j4⟩ := bo_b_at (v := v) N lmx
        refine Or.inl ⟨i1, ?_⟩
        have := i2 p j1 j2
        rw [j3] at this; exact this
      · have ev : v p = bo_b s v N := i1.2.2.1
        rw [ev] at i2 i3
        refine Or.inr ⟨i2, l, i3, i4, ?_⟩
        rw [hP, i5]; exact ⟨i1, i6⟩
/-- the search finds the best order -/
theorem bo_go_all {C : Nat → Nat → Nat} {N : Nat} (hC : ∀ s p, C s p ≤ 4295032832) (hN : N ≤ 7) (t : Nat → Nat) : ∃ l, bo_go C N N 0 0 0 t none = some (bo_o C N N 0, l) ∧ bo_P C N N 0 l 0 := by
  rcases bo_go_ok hC hN N 0 0 0 t none rfl (bo_n_0 N) with ⟨_, h⟩ | ⟨_, l, h1, _, h2⟩
  · cases h
  · rw [Nat.zero_add] at h1; exact ⟨l, h1, h2⟩
/-! week by the class: leaves -/
theorem nI_sub {a b : Nat} (h : b ≤ a) : nI a - nI b = nI (a - b) := by
  have e : nI a = nI (a - b) + nI b := by rw [nI_add, Nat.sub_add_cancel h]
  rw [e]; exact Int32.add_sub_cancel _ _
theorem nI_sub_le {a b : Nat} (h : a ≤ b) (hb : b < 2 ^ 30) : nI a - nI b ≤ 0 := by
  rw [Int32.le_iff_toInt_le, Int32.toInt_sub, nI_toInt (by omega), nI_toInt (by omega), Int.bmod_eq_of_le (by omega) (by omega), show (0 : Int32).toInt = 0 from rfl]
  omega
theorem bo_32 {u : Nat} (h : u < 2 ^ 31) : (4294967296 : Int64) + (nI u).toInt64 = nL (4294967296 + u) := by
  rw [nI64 h]; exact nL_add (a := 4294967296) (by omega)
theorem nL_I {a : Nat} (h : a < 2 ^ 31) : (nL a).toInt32 = nI a := by
  apply Int32.toInt_inj.mp
  rw [nI_toInt (by omega), Int64.toInt_toInt32, nL_toInt (by omega), Int.bmod_eq_of_le (by omega) (by omega)]
theorem bo_up : ∀ s, s < 128 → ∀ p, p < 7 → s.testBit p = false → s < s ||| 2 ^ p ∧ s ||| 2 ^ p < 128 := by decide +kernel
theorem bo_lt {s p N : Nat} (hs : s < 2 ^ N) (hp : p < N) : s ||| 2 ^ p < 2 ^ N := Nat.or_lt_two_pow hs (Nat.pow_lt_pow_right (by omega) hp)
theorem lf_88 {G : pm_G} {d : Nat} {S : pm_S} {s N : Nat} {f : Nat → Nat} {q : Int32 → pm_S → Prop} (hd : 1 ≤ d) (hS : Sh S) (h38 : pm_i S 38 0 = nI N) (hN : N ≤ 7) (hs : s < 2 ^ 31) (hW : ∀ k, k < N → pm_i S 40 k = nI (f k)) (h : q (nI (bo_w f s N)) S) : pm_CI G d 88 [.ref 38, .int (nI s)] S q := by
  have key : pm_W G d 88 (pm_QI q) 4 [.ref 38, .int (nI s), .int (nI 0), .int (nI 0)] [] S 0 0 := by
    refine pv_loopR (fun p => [.ref 38, .int (nI s), .int (nI (bo_w f s p)), .int (nI p)]) N (fun p hp hk => ?_) ?_
    · have hle : ¬ nI N ≤ nI p := nI_ge hp (by omega)
      have hc := nI_clamp (n := p) (by omega)
      have hv := vp_in_nI (n := p) (N := 7) (by omega) (by decide)
      have wp := hW p hp
      try refine pm_wb_ok pb_c88 1 4 0 _ _ _ _ _ ?_
      try simp only [pm_WI0, pm_WI1, pm_WI2, pm_WI3, pm_WI4, pm_WI5, pm_WV, pm_WW, pm_WX, pb_B88, pm_if, pm_QI_at, pm_QL_at, pm_QV_at, pm_QR_at, pm_QR_at0, pm_QR_at1, Nat.reduceSub, Nat.reduceAdd, List.replicate_zero, List.replicate_succ, true_and, and_true, true_or, or_true, and_self, reduceIte, Nat.reduceEqDiff, Nat.reduceLT, Nat.reduceLeDiff, Nat.reduceMul, false_and, and_false, reduceCtorEq, false_or, or_false, not_true_eq_false, not_false_eq_true, true_implies, false_implies, implies_true, lf_10, eq_self, Int32.reduceLT, Int32.reduceLE, Int32.reduceAdd, Int32.reduceSub, pm_same, pm_i_wI, pm_l_wL, pm_l_wM, pm_oR_rf, pm_oQ_rf, nI_1, LQ1, LQ2, LQ5, sh_r38_2 hS, sh_k40 hS, sh_z40 hS, sh_k38 hS, h38, hle, hc, wp, Int32.add_zero]
      refine ⟨by omega, lf_89 rfl rfl hs (by omega) (fun a3 => ?_) (fun a3 => ?_)⟩
      · have ew : bo_w f s (p + 1) = bo_w f s p := by rw [bo_w, a3, if_neg (by decide), Nat.add_zero]
        rw [ew] at hk
        try simp only [pm_WV, pm_WW, true_and, and_true, true_or, or_true, and_self, reduceIte, Nat.reduceEqDiff, Nat.reduceLT, Nat.reduceLeDiff, Nat.reduceMul, false_and, and_false, reduceCtorEq, false_or, or_false, not_true_eq_false, not_false_eq_true, true_implies, false_implies, implies_true, lf_10, eq_self, Int32.reduceLT, Int32.reduceLE, Int32.reduceAdd, Int32.reduceSub, pm_same, pm_i_wI, pm_l_wL, pm_l_wM, pm_oR_rf, pm_oQ_rf, nI_1, sw_e, LQ1, LQ2, pm_WI0, pm_WI1, pm_WI2, pm_WI3, pm_WI4, pm_WI5, pm_WV, pm_WW, pm_WX, pb_B88, pm_if, pm_QI_at, pm_QL_at, pm_QV_at, pm_QR_at, pm_QR_at0, pm_QR_at1, Nat.reduceSub, Nat.reduceAdd, List.replicate_zero, List.replicate_succ, true_and, and_true, true_or, or_true, and_self, reduceIte, Nat.reduceEqDiff, Nat.reduceLT, Nat.reduceLeDiff, Nat.reduceMul, false_and, and_false, reduceCtorEq, false_or, or_false, not_true_eq_false, not_false_eq_true, true_implies, false_implies, implies_true, lf_10, eq_self, Int32.reduceLT, Int32.reduceLE, Int32.reduceAdd, Int32.reduceSub, pm_same, pm_i_wI, pm_l_wL, pm_l_wM, pm_oR_rf, pm_oQ_rf, nI_1, LQ1, LQ2, LQ5, sh_r38_2 hS, sh_k40 hS, sh_z40 hS, sh_k38 hS, h38, hle, hc, wp, Int32.add_zero]
        repeat' (first | exact hk | exact pv_W hk (by simp [pv_le, pm_unk]) | exact hv | refine ⟨hv, ?_⟩ | (refine pm_wb_ok pb_c88 1 _ 0 _ _ _ _ _ ?_; simp only [pm_WI0, pm_WI1, pm_WI2, pm_WI3, pm_WI4, pm_WI5, pm_WV, pm_WW, pm_WX, pb_B88, pm_if, pm_QI_at, pm_QL_at, pm_QV_at, pm_QR_at, pm_QR_at0, pm_QR_at1, Nat.reduceSub, Nat.reduceAdd, List.replicate_zero, List.replicate_succ, true_and, and_true, true_or, or_true, and_self, reduceIte, Nat.reduceEqDiff, Nat.reduceLT, Nat.reduceLeDiff, Nat.reduceMul, false_and, and_false, reduceCtorEq, false_or, or_false, not_true_eq_false, not_false_eq_true, true_implies, false_implies, implies_true, lf_10, eq_self, Int32.reduceLT, Int32.reduceLE, Int32.reduceAdd, Int32.reduceSub, pm_same, pm_i_wI, pm_l_wL, pm_l_wM, pm_oR_rf, pm_oQ_rf, nI_1, LQ1, LQ2, LQ5, sh_r38_2 hS, sh_k40 hS, sh_z40 hS, sh_k38 hS, h38, hle, hc, wp, Int32.add_zero]) | fail)
      · have ew : bo_w f s (p + 1) = bo_w f s p + f p := by rw [bo_w, a3, if_pos rfl]
        rw [ew] at hk
        try simp only [pm_WV, pm_WW, true_and, and_true, true_or, or_true, and_self, reduceIte, Nat.reduceEqDiff, Nat.reduceLT, Nat.reduceLeDiff, Nat.reduceMul, false_and, and_false, reduceCtorEq, false_or, or_false, not_true_eq_false, not_false_eq_true, true_implies, false_implies, implies_true, lf_10, eq_self, Int32.reduceLT, Int32.reduceLE, Int32.reduceAdd, Int32.reduceSub, pm_same, pm_i_wI, pm_l_wL, pm_l_wM, pm_oR_rf, pm_oQ_rf, nI_1, sw_e, LQ1, LQ2, pm_WI0, pm_WI1, pm_WI2, pm_WI3, pm_WI4, pm_WI5, pm_WV, pm_WW, pm_WX, pb_B88, pm_if, pm_QI_at, pm_QL_at, pm_QV_at, pm_QR_at, pm_QR_at0, pm_QR_at1, Nat.reduceSub, Nat.reduceAdd, List.replicate_zero, List.replicate_succ, true_and, and_true, true_or, or_true, and_self, reduceIte, Nat.reduceEqDiff, Nat.reduceLT, Nat.reduceLeDiff, Nat.reduceMul, false_and, and_false, reduceCtorEq, false_or, or_false, not_true_eq_false, not_false_eq_true, true_implies, false_implies, implies_true, lf_10, eq_self, Int32.reduceLT, Int32.reduceLE, Int32.reduceAdd, Int32.reduceSub, pm_same, pm_i_wI, pm_l_wL, pm_l_wM, pm_oR_rf, pm_oQ_rf, nI_1, LQ1, LQ2, LQ5, sh_r38_2 hS, sh_k40 hS, sh_z40 hS, sh_k38 hS, h38, hle, hc, wp, Int32.add_zero, nI_add]
        repeat' (first | exact hk | exact pv_W hk (by simp [pv_le, pm_unk]) | exact hv | refine ⟨hv, ?_⟩ | (refine pm_wb_ok pb_c88 1 _ 0 _ _ _ _ _ ?_; simp only [pm_WI0, pm_WI1, pm_WI2, pm_WI3, pm_WI4, pm_WI5, pm_WV, pm_WW, pm_WX, pb_B88, pm_if, pm_QI_at, pm_QL_at, pm_QV_at, pm_QR_at, pm_QR_at0, pm_QR_at1, Nat.reduceSub, Nat.reduceAdd, List.replicate_zero, List.replicate_succ, true_and, and_true, true_or, or_true, and_self, reduceIte, Nat.reduceEqDiff, Nat.reduceLT, Nat.reduceLeDiff, Nat.reduceMul, false_and, and_false, reduceCtorEq, false_or, or_false, not_true_eq_false, not_false_eq_true, true_implies, false_implies, implies_true, lf_10, eq_self, Int32.reduceLT, Int32.reduceLE, Int32.reduceAdd, Int32.reduceSub, pm_same, pm_i_wI, pm_l_wL, pm_l_wM, pm_oR_rf, pm_oQ_rf, nI_1, LQ1, LQ2, LQ5, sh_r38_2 hS, sh_k40 hS, sh_z40 hS, sh_k38 hS, h38, hle, hc, wp, Int32.add_zero, nI_add]) | fail)
    · have hle : nI N ≤ nI N := Int32.le_refl _
      try refine pm_wb_ok pb_c88 1 4 0 _ _ _ _ _ ?_
      try simp only [pm_WI0, pm_WI1, pm_WI2, pm_WI3, pm_WI4, pm_WI5, pm_WV, pm_WW, pm_WX, pb_B88, pm_if, pm_QI_at, pm_QL_at, pm_QV_at, pm_QR_at, pm_QR_at0, pm_QR_at1, Nat.reduceSub, Nat.reduceAdd, List.replicate_zero, List.replicate_succ, true_and, and_true, true_or, or_true, and_self, reduceIte, Nat.reduceEqDiff, Nat.reduceLT, Nat.reduceLeDiff, Nat.reduceMul, false_and, and_false, reduceCtorEq, false_or, or_false, not_true_eq_false, not_false_eq_true, true_implies, false_implies, implies_true, lf_10, eq_self, Int32.reduceLT, Int32.reduceLE, Int32.reduceAdd, Int32.reduceSub, pm_same, pm_i_wI, pm_l_wL, pm_l_wM, pm_oR_rf, pm_oQ_rf, nI_1, LQ1, LQ2, LQ5, sh_r38_2 hS, sh_k40 hS, sh_z40 hS, sh_k38 hS, h38, hle]
      repeat' (first | exact h | (refine pm_wb_ok pb_c88 1 _ 0 _ _ _ _ _ ?_; simp only [pm_WI0, pm_WI1, pm_WI2, pm_WI3, pm_WI4, pm_WI5, pm_WV, pm_WW, pm_WX, pb_B88, pm_if, pm_QI_at, pm_QL_at, pm_QV_at, pm_QR_at, pm_QR_at0, pm_QR_at1, Nat.reduceSub, Nat.reduceAdd, List.replicate_zero, List.replicate_succ, true_and, and_true, true_or, or_true, and_self, reduceIte, Nat.reduceEqDiff, Nat.reduceLT, Nat.reduceLeDiff, Nat.reduceMul, false_and, and_false, reduceCtorEq, false_or, or_false, not_true_eq_false, not_false_eq_true, true_implies, false_implies, implies_true, lf_10, eq_self, Int32.reduceLT, Int32.reduceLE, Int32.reduceAdd, Int32.reduceSub, pm_same, pm_i_wI, pm_l_wL, pm_l_wM, pm_oR_rf, pm_oQ_rf, nI_1, LQ1, LQ2, LQ5, sh_r38_2 hS, sh_k40 hS, sh_z40 hS, sh_k38 hS, h38, hle]) | fail)
  refine pm_goI 88 1 pb_c88 (by decide) (Nat.le_of_ble_eq_true rfl) rfl ?_
  try simp only [show pm_mL 88 = 4 from rfl, pm_WI0, pm_WI1, pm_WI2, pm_WI3, pm_WI4, pm_WI5, pm_WV, pm_WW, pm_WX, pb_B88, pm_if, pm_QI_at, pm_QL_at, pm_QV_at, pm_QR_at, pm_QR_at0, pm_QR_at1, Nat.reduceSub, Nat.reduceAdd, List.replicate_zero, List.replicate_succ, true_and, and_true, true_or, or_true, and_self, reduceIte, Nat.reduceEqDiff, Nat.reduceLT, Nat.reduceLeDiff, Nat.reduceMul, false_and, and_false, reduceCtorEq, false_or, or_false, not_true_eq_false, not_false_eq_true, true_implies, false_implies, implies_true, lf_10, eq_self, Int32.reduceLT, Int32.reduceLE, Int32.reduceAdd, Int32.reduceSub, pm_same, pm_i_wI, pm_l_wL, pm_l_wM, pm_oR_rf, pm_oQ_rf, nI_1, LQ1, LQ2, LQ5, sh_r38_2 hS, sh_k40 hS, sh_z40 hS, sh_k38 hS, h38, hle]
  repeat' (first | exact key | exact pv_W key (by simp [pv_le, pm_unk, show nI 0 = 0 from rfl]) | (refine pm_wb_ok pb_c88 1 _ 0 _ _ _ _ _ ?_; simp only [pm_WI0, pm_WI1, pm_WI2, pm_WI3, pm_WI4, pm_WI5, pm_WV, pm_WW, pm_WX, pb_B88, pm_if, pm_QI_at, pm_QL_at, pm_QV_at, pm_QR_at, pm_QR_at0, pm_QR_at1, Nat.reduceSub, Nat.reduceAdd, List.replicate_zero, List.replicate_succ, true_and, and_true, true_or, or_true, and_self, reduceIte, Nat.reduceEqDiff, Nat.reduceLT, Nat.reduceLeDiff, Nat.reduceMul, false_and, and_false, reduceCtorEq, false_or, or_false, not_true_eq_false, not_false_eq_true, true_implies, false_implies, implies_true, lf_10, eq_self, Int32.reduceLT, Int32.reduceLE, Int32.reduceAdd, Int32.reduceSub, pm_same, pm_i_wI, pm_l_wL, pm_l_wM, pm_oR_rf, pm_oQ_rf, nI_1, LQ1, LQ2, LQ5, sh_r38_2 hS, sh_k40 hS, sh_z40 hS, sh_k38 hS, h38, hle]) | fail)
theorem lf_90 {G : pm_G} {d : Nat} {S : pm_S} {s p N t g b : Nat} {q : Int64 → pm_S → Prop} (hS : Sh S) (hp : p < N) (hN : N ≤ 7) (hs : s < 128) (h42 : pm_i S 42 (s ||| 2 ^ p) = nI t) (ht : t < 2 ^ 16) (h41 : pm_i S 41 p = nI g) (hg : g ≤ 9999) (h43 : pm_l S 43 (s ||| 2 ^ p) = nL b) (hb : b < 2 ^ 62) (h : q (nL (b + bo_c t g)) S) : pm_CL G d 90 [.ref 38, .int (nI s), .int (nI p)] S q := by
  have sp := wt_sh p (by omega)
  have s128 : s ||| 2 ^ p < 2 ^ 7 := bo_lt (N := 7) hs (by omega)
  have hc := nI_clamp (n := p) (by omega)
  have hv := vp_in_nI (n := p) (N := 7) (by omega) (by decide)
  have cs := nI_clamp (n := s ||| 2 ^ p) (by omega)
  have vs := vp_in_nI (n := s ||| 2 ^ p) (N := 128) (by omega) (by decide)
  by_cases c : g < t
  · have e : bo_c t g = 4294967296 + (t - g) := if_pos c
    have es := nI_sub (a := t) (b := g) (by omega)
    have nz : ¬ nI (t - g) ≤ 0 := by have := nI_ge (show 0 < t - g by omega) (show t - g < 2 ^ 31 by omega); exact this
    have el := bo_32 (u := t - g) (by omega)
    have ea := nL_add (a := b) (b := 4294967296 + (t - g)) (by omega)
    rw [e] at h
    refine pm_goL 90 1 pb_c90 (by decide) (Nat.le_of_ble_eq_true rfl) rfl ?_
    try simp only [show pm_mL 90 = 5 from rfl, pm_WI0, pm_WI1, pm_WI2, pm_WI3, pm_WI4, pm_WI5, pm_WV, pm_WW, pm_WX, pb_B90, pm_if, pm_QI_at, pm_QL_at, pm_QV_at, pm_QR_at, pm_QR_at0, pm_QR_at1, Nat.reduceSub, Nat.reduceAdd, List.replicate_zero, List.replicate_succ, true_and, and_true, true_or, or_true, and_self, reduceIte, Nat.reduceEqDiff, Nat.reduceLT, Nat.reduceLeDiff, Nat.reduceMul, false_and, and_false, reduceCtorEq, false_or, or_false, not_true_eq_false, not_false_eq_true, true_implies, false_implies, implies_true, lf_10, eq_self, Int32.reduceLT, Int32.reduceLE, Int32.reduceAdd, Int32.reduceSub, pm_same, pm_i_wI, pm_l_wL, pm_l_wM, pm_oR_rf, pm_oQ_rf, nI_1, LQ1, LQ2, LQ5, sh_r38_3 hS, sh_k41 hS, sh_z41 hS, sh_r38_4 hS, sh_k42 hS, sh_z42 hS, sh_r38_5 hS, sh_k43 hS, sh_z43 hS, sh_k38 hS, sp, or_1, hc, cs, h42, h41, h43, es, nz, el, ea]
    repeat' (first | exact h | exact hv | exact vs | refine ⟨hv, ?_⟩ | refine ⟨vs, ?_⟩ | (refine pm_wb_ok pb_c90 1 _ 0 _ _ _ _ _ ?_; simp only [pm_WI0, pm_WI1, pm_WI2, pm_WI3, pm_WI4, pm_WI5, pm_WV, pm_WW, pm_WX, pb_B90, pm_if, pm_QI_at, pm_QL_at, pm_QV_at, pm_QR_at, pm_QR_at0, pm_QR_at1, Nat.reduceSub, Nat.reduceAdd, List.replicate_zero, List.replicate_succ, true_and, and_true, true_or, or_true, and_self, reduceIte, Nat.reduceEqDiff, Nat.reduceLT, Nat.reduceLeDiff, Nat.reduceMul, false_and, and_false, reduceCtorEq, false_or, or_false, not_true_eq_false, not_false_eq_true, true_implies, false_implies, implies_true, lf_10, eq_self, Int32.reduceLT, Int32.reduceLE, Int32.reduceAdd, Int32.reduceSub, pm_same, pm_i_wI, pm_l_wL, pm_l_wM, pm_oR_rf, pm_oQ_rf, nI_1, LQ1, LQ2, LQ5, sh_r38_3 hS, sh_k41 hS, sh_z41 hS, sh_r38_4 hS, sh_k42 hS, sh_z42 hS, sh_r38_5 hS, sh_k43 hS, sh_z43 hS, sh_k38 hS, sp, or_1, hc, cs, h42, h41, h43, es, nz, el, ea]) | fail)
  · have e : bo_c t g = 0 := if_neg c
    have nz := nI_sub_le (a := t) (b := g) (by omega) (by omega)
    rw [e, Nat.add_zero] at h
    refine pm_goL 90 1 pb_c90 (by decide) (Nat.le_of_ble_eq_true rfl) rfl ?_
    try simp only [show pm_mL 90 = 5 from rfl, pm_WI0, pm_WI1, pm_WI2, pm_WI3, pm_WI4, pm_WI5, pm_WV, pm_WW, pm_WX, pb_B90, pm_if, pm_QI_at, pm_QL_at, pm_QV_at, pm_QR_at, pm_QR_at0, pm_QR_at1, Nat.reduceSub, Nat.reduceAdd, List.replicate_zero, List.replicate_succ, true_and, and_true, true_or, or_true, and_self, reduceIte, Nat.reduceEqDiff, Nat.reduceLT, Nat.reduceLeDiff, Nat.reduceMul, false_and, and_false, reduceCtorEq, false_or, or_false, not_true_eq_false, not_false_eq_true, true_implies, false_implies, implies_true, lf_10, eq_self, Int32.reduceLT, Int32.reduceLE, Int32.reduceAdd, Int32.reduceSub, pm_same, pm_i_wI, pm_l_wL, pm_l_wM, pm_oR_rf, pm_oQ_rf, nI_1, LQ1, LQ2, LQ5, sh_r38_3 hS, sh_k41 hS, sh_z41 hS, sh_r38_4 hS, sh_k42 hS, sh_z42 hS, sh_r38_5 hS, sh_k43 hS, sh_z43 hS, sh_k38 hS, sp, or_1, hc, cs, h42, h41, h43, nz, Int64.add_zero]
    repeat' (first | exact h | exact hv | exact vs | refine ⟨hv, ?_⟩ | refine ⟨vs, ?_⟩ | (refine pm_wb_ok pb_c90 1 _ 0 _ _ _ _ _ ?_; simp only [pm_WI0, pm_WI1, pm_WI2, pm_WI3, pm_WI4, pm_WI5, pm_WV, pm_WW, pm_WX, pb_B90, pm_if, pm_QI_at, pm_QL_at, pm_QV_at, pm_QR_at, pm_QR_at0, pm_QR_at1, Nat.reduceSub, Nat.reduceAdd, List.replicate_zero, List.replicate_succ, true_and, and_true, true_or, or_true, and_self, reduceIte, Nat.reduceEqDiff, Nat.reduceLT, Nat.reduceLeDiff, Nat.reduceMul, false_and, and_false, reduceCtorEq, false_or, or_false, not_true_eq_false, not_false_eq_true, true_implies, false_implies, implies_true, lf_10, eq_self, Int32.reduceLT, Int32.reduceLE, Int32.reduceAdd, Int32.reduceSub, pm_same, pm_i_wI, pm_l_wL, pm_l_wM, pm_oR_rf, pm_oQ_rf, nI_1, LQ1, LQ2, LQ5, sh_r38_3 hS, sh_k41 hS, sh_z41 hS, sh_r38_4 hS, sh_k42 hS, sh_z42 hS, sh_r38_5 hS, sh_k43 hS, sh_z43 hS, sh_k38 hS, sp, or_1, hc, cs, h42, h41, h43, nz, Int64.add_zero]) | fail)
theorem lf_91 {G : pm_G} {d : Nat} {S : pm_S} {b : Nat} {q : Int32 → pm_S → Prop} (hS : Sh S) (h43 : pm_l S 43 0 = nL b) (hb : b / 4294967296 < 2 ^ 16) (hb2 : b % 4294967296 < 2 ^ 31) (h : q (nI (b / 4294967296)) S) : pm_CI G d 91 [.ref 38] S q := by
  have ed : nL b / 4294967296 = nL (b / 4294967296) := nL_div (a := b) (b := 4294967296) (by omega) (by omega)
  have ei := nL_I (a := b / 4294967296) (by omega)
  have n0 : ¬ (4294967296 : Int64) = 0 := by decide
  have v0 : vp_in 0 128 := vp_in_nI (n := 0) (N := 128) (by omega) (by decide)
  have c0 : (0 : Int32).toNatClampNeg = 0 := nI_clamp (n := 0) (by omega)
  refine pm_goI 91 1 pb_c91 (by decide) (Nat.le_of_ble_eq_true rfl) rfl ?_
  try simp only [show pm_mL 91 = 1 from rfl, pm_WI0, pm_WI1, pm_WI2, pm_WI3, pm_WI4, pm_WI5, pm_WV, pm_WW, pm_WX, pb_B91, pm_if, pm_QI_at, pm_QL_at, pm_QV_at, pm_QR_at, pm_QR_at0, pm_QR_at1, Nat.reduceSub, Nat.reduceAdd, List.replicate_zero, List.replicate_succ, true_and, and_true, true_or, or_true, and_self, reduceIte, Nat.reduceEqDiff, Nat.reduceLT, Nat.reduceLeDiff, Nat.reduceMul, false_and, and_false, reduceCtorEq, false_or, or_false, not_true_eq_false, not_false_eq_true, true_implies, false_implies, implies_true, lf_10, eq_self, Int32.reduceLT, Int32.reduceLE, Int32.reduceAdd, Int32.reduceSub, pm_same, pm_i_wI, pm_l_wL, pm_l_wM, pm_oR_rf, pm_oQ_rf, nI_1, LQ1, LQ2, LQ5, sh_r38_5 hS, sh_k43 hS, sh_z43 hS, sh_k38 hS, h43, ed, ei, n0, c0]
  repeat' (first | exact h | exact v0 | refine ⟨v0, ?_⟩ | refine ⟨?_, ?_⟩ | fail)
theorem lf_92 {G : pm_G} {d : Nat} {S : pm_S} {b : Nat} {q : Int32 → pm_S → Prop} (hS : Sh S) (h43 : pm_l S 43 0 = nL b) (hb : b / 4294967296 < 2 ^ 16) (hb2 : b % 4294967296 < 2 ^ 31) (h : q (nI (b % 4294967296)) S) : pm_CI G d 92 [.ref 38] S q := by
  have ed : nL b - nL b / 4294967296 * 4294967296 = nL (b % 4294967296) := nL_rem (a := b) (b := 4294967296) (by omega) (by omega)
  have ei := nL_I (a := b % 4294967296) (by omega)
  have n0 : ¬ (4294967296 : Int64) = 0 := by decide
  have v0 : vp_in 0 128 := vp_in_nI (n := 0) (N := 128) (by omega) (by decide)
  have c0 : (0 : Int32).toNatClampNeg = 0 := nI_clamp (n := 0) (by omega)
  refine pm_goI 92 1 pb_c92 (by decide) (Nat.le_of_ble_eq_true rfl) rfl ?_
  try simp only [show pm_mL 92 = 1 from rfl, pm_WI0, pm_WI1, pm_WI2, pm_WI3, pm_WI4, pm_WI5, pm_WV, pm_WW, pm_WX, pb_B92, pm_if, pm_QI_at, pm_QL_at, pm_QV_at, pm_QR_at, pm_QR_at0, pm_QR_at1, Nat.reduceSub, Nat.reduceAdd, List.replicate_zero, List.replicate_succ, true_and, and_true, true_or, or_true, and_self, reduceIte, Nat.reduceEqDiff, Nat.reduceLT, Nat.reduceLeDiff, Nat.reduceMul, false_and, and_false, reduceCtorEq, false_or, or_false, not_true_eq_false, not_false_eq_true, true_implies, false_implies, implies_true, lf_10, eq_self, Int32.reduceLT, Int32.reduceLE, Int32.reduceAdd, Int32.reduceSub, pm_same, pm_i_wI, pm_l_wL, pm_l_wM, pm_oR_rf, pm_oQ_rf, nI_1, LQ1, LQ2, LQ5, sh_r38_5 hS, sh_k43 hS, sh_z43 hS, sh_k38 hS, h43, ed, ei, n0, c0]
  repeat' (first | exact h | exact v0 | refine ⟨v0, ?_⟩ | refine ⟨?_, ?_⟩ | fail)
/-! week by the class: the best of each set, the order -/
def bo_C (T g : Nat → Nat) (s p : Nat) : Nat := bo_c (T s) (g p)
def bo_O (C : Nat → Nat → Nat) (N u : Nat) : Nat := bo_o C N (bo_n u N) u
theorem bo_n_le {s : Nat} : ∀ N, bo_n s N ≤ N
  | 0 => Nat.le_refl _
  | N + 1 => by
    have ih := bo_n_le (s := s) N
    unfold bo_n
    split <;> omega
theorem bo_O_le {C : Nat → Nat → Nat} {N : Nat} (hC : ∀ s p, C s p ≤ 4295032832) (hN : N ≤ 7) (u : Nat) : bo_O C N u ≤ 7 * 4295032832 := by
  have h1 := bo_o_le (N := N) hC (bo_n u N) u rfl
  have h2 := bo_n_le (s := u) N
  exact Nat.le_trans h1 (Nat.mul_le_mul_right _ (by omega))
theorem bo_O_b {C : Nat → Nat → Nat} {N j : Nat} (h : 1 ≤ bo_n j N) : bo_O C N j = bo_b j (fun p => bo_O C N (j ||| 2 ^ p) + C (j ||| 2 ^ p) p) N := by
  obtain ⟨r, hr⟩ : ∃ r, bo_n j N = r + 1 := ⟨bo_n j N - 1, by omega⟩
  have e : bo_O C N j = bo_b j (fun p => bo_o C N r (j ||| 2 ^ p) + C (j ||| 2 ^ p) p) N := by unfold bo_O; rw [hr]; rfl
  rw [e]
  refine bo_b_cg N (fun p hp ho => ?_)
  have h3 := bo_n_in ho hp
  have e2 : bo_n (j ||| 2 ^ p) N = r := by omega
  show bo_o C N r (j ||| 2 ^ p) + C (j ||| 2 ^ p) p = bo_O C N (j ||| 2 ^ p) + C (j ||| 2 ^ p) p
  unfold bo_O; rw [e2]
theorem bo_i_cg {s x N p : Nat} {v u : Nat → Nat} (h : bo_i s v x N p) (e : ∀ k, k < N → s.testBit k = false → v k = u k) : bo_i s u x N p := by
  obtain ⟨h1, h2, h3, h4⟩ := h
  exact ⟨h1, h2, by rw [← e p h1 h2]; exact h3, fun k hk ho => by rw [← e k (by omega) ho]; exact h4 k hk ho⟩
def bo_s (l : Nat → Nat) : Nat → Nat
  | 0 => 0
  | i + 1 => bo_s l i ||| 2 ^ l i
theorem bo_P_i {C : Nat → Nat → Nat} {N : Nat} {l : Nat → Nat} (h : bo_P C N N 0 l 0) : ∀ i, i < N → bo_s l i < 2 ^ N ∧ bo_i (bo_s l i) (fun p => bo_O C N (bo_s l i ||| 2 ^ p) + C (bo_s l i ||| 2 ^ p) p) (bo_O C N (bo_s l i)) N (l i) := by
  have key : ∀ i, i ≤ N → bo_s l i < 2 ^ N ∧ bo_n (bo_s l i) N = N - i ∧ bo_P C N (N - i) (bo_s l i) l i := by
    intro i
    induction i with
    | zero => intro _; exact ⟨Nat.two_pow_pos N, bo_n_0 N, h⟩
    | succ i ih =>
      intro hi
      obtain ⟨a1, a2, a3⟩ := ih (by omega)
      obtain ⟨r, hr⟩ : ∃ r, N - i = r + 1 := ⟨N - i - 1, by omega⟩
      rw [hr] at a2 a3
      obtain ⟨b1, b2⟩ := a3
      have h3 := bo_n_in b1.2.1 b1.1
      rw [show N - (i + 1) = r by omega]
      exact ⟨bo_lt a1 b1.1, by show bo_n (bo_s l i ||| 2 ^ l i) N = r; omega, b2⟩
  intro i hi
  obtain ⟨a1, a2, a3⟩ := key i (by omega)
  refine ⟨a1, ?_⟩
  obtain ⟨r, hr⟩ : ∃ r, N - i = r + 1 := ⟨N - i - 1, by omega⟩
  rw [hr] at a2 a3
  obtain ⟨b1, b2⟩ := a3
  have e : bo_O C N (bo_s l i) = bo_o C N (r + 1) (bo_s l i) := by unfold bo_O; rw [a2]
  rw [e]
  refine bo_i_cg b1 (fun k hk ho => ?_)
  have h3 := bo_n_in ho hk
  have e2 : bo_n (bo_s l i ||| 2 ^ k) N = r := by omega
  show bo_o C N r (bo_s l i ||| 2 ^ k) + C (bo_s l i ||| 2 ^ k) k = bo_O C N (bo_s l i ||| 2 ^ k) + C (bo_s l i ||| 2 ^ k) k
  unfold bo_O; rw [e2]
theorem lf_94 {G : pm_G} {d : Nat} {S : pm_S} {s N p0 : Nat} {T g O : Nat → Nat} {q : Int32 → pm_S → Prop} (hd : 2 ≤ d) (hS : Sh S) (h38 : pm_i S 38 0 = nI N) (hN : N ≤ 7) (hs : s < 2 ^ N) (hT : ∀ u, u < 2 ^ N → pm_i S 42 u = nI (T u)) (hT2 : ∀ u, T u < 2 ^ 16) (hD : ∀ k, k < N → pm_i S 41 k = nI (g k)) (hD2 : ∀ k, k < N → g k ≤ 9999) (hO : ∀ u, u < 2 ^ N → pm_l S 43 u = nL (O u)) (hO2 : ∀ u, O u < 2 ^ 40)
    (hp : bo_i s (fun p => O (s ||| 2 ^ p) + bo_c (T (s ||| 2 ^ p)) (g p)) (O s) N p0) (h : q (nI p0) S) : pm_CI G d 94 [.ref 38, .int (nI s)] S q := by
  obtain ⟨p1, p2, p3, p4⟩ := hp
  have z7 : 2 ^ N ≤ 2 ^ 7 := Nat.pow_le_pow_right (by omega) hN
  have cs := nI_clamp (n := s) (by omega)
  have vs := vp_in_nI (n := s) (N := 128) (by omega) (by decide)
  have os := hO s hs
  have key : pm_W G d 94 (pm_QI q) 2 [.ref 38, .int (nI s), .int (nI 0)] [] S 0 0 := by
    refine pv_loopR (fun p => [.ref 38, .int (nI s), .int (nI p)]) p0 (fun p hp hk => ?_) ?_
    · have hle : ¬ nI N ≤ nI p := nI_ge (by omega) (by omega)
      try refine pm_wb_ok pb_c94 1 2 0 _ _ _ _ _ ?_
      try simp only [pm_WI0, pm_WI1, pm_WI2, pm_WI3, pm_WI4, pm_WI5, pm_WV, pm_WW, pm_WX, pb_B94, pm_if, pm_QI_at, pm_QL_at, pm_QV_at, pm_QR_at, pm_QR_at0, pm_QR_at1, Nat.reduceSub, Nat.reduceAdd, List.replicate_zero, List.replicate_succ, true_and, and_true, true_or, or_true, and_self, reduceIte, Nat.reduceEqDiff, Nat.reduceLT, Nat.reduceLeDiff, Nat.reduceMul, false_and, and_false, reduceCtorEq, false_or, or_false, not_true_eq_false, not_false_eq_true, true_implies, false_implies, implies_true, lf_10, eq_self, Int32.reduceLT, Int32.reduceLE, Int32.reduceAdd, Int32.reduceSub, pm_same, pm_i_wI, pm_l_wL, pm_l_wM, pm_oR_rf, pm_oQ_rf, nI_1, LQ1, LQ2, LQ5, sh_r38_5 hS, sh_k43 hS, sh_z43 hS, sh_k38 hS, h38, hle, cs, os]
      refine ⟨by omega, lf_89 rfl rfl (by omega) (by omega) (fun a3 => ?_) (fun a3 => ?_)⟩
      · have s2 := bo_lt (p := p) hs (by omega)
        have ne := p4 p hp a3
        have c1 := bo_c_le (d := g p) (hT2 (s ||| 2 ^ p))
        have o1 := hO2 (s ||| 2 ^ p)
        have o2 := hO2 s
        have nc : ¬ lg_cmp (nL (O (s ||| 2 ^ p) + bo_c (T (s ||| 2 ^ p)) (g p))) (nL (O s)) = 0 := by rw [lc_eq, nL_inj (by omega) (by omega)]; exact ne
        try simp only [pm_WV, pm_WW, true_and, and_true, true_or, or_true, and_self, reduceIte, Nat.reduceEqDiff, Nat.reduceLT, Nat.reduceLeDiff, Nat.reduceMul, false_and, and_false, reduceCtorEq, false_or, or_false, not_true_eq_false, not_false_eq_true, true_implies, false_implies, implies_true, lf_10, eq_self, Int32.reduceLT, Int32.reduceLE, Int32.reduceAdd, Int32.reduceSub, pm_same, pm_i_wI, pm_l_wL, pm_l_wM, pm_oR_rf, pm_oQ_rf, nI_1, sw_e, LQ1, LQ2, pm_WI0, pm_WI1, pm_WI2, pm_WI3, pm_WI4, pm_WI5, pm_WV, pm_WW, pm_WX, pb_B94, pm_if, pm_QI_at, pm_QL_at, pm_QV_at, pm_QR_at, pm_QR_at0, pm_QR_at1, Nat.reduceSub, Nat.reduceAdd, List.replicate_zero, List.replicate_succ, true_and, and_true, true_or, or_true, and_self, reduceIte, Nat.reduceEqDiff, Nat.reduceLT, Nat.reduceLeDiff, Nat.reduceMul, false_and, and_false, reduceCtorEq, false_or, or_false, not_true_eq_false, not_false_eq_true, true_implies, false_implies, implies_true, lf_10, eq_self, Int32.reduceLT, Int32.reduceLE, Int32.reduceAdd, Int32.reduceSub, pm_same, pm_i_wI, pm_l_wL, pm_l_wM, pm_oR_rf, pm_oQ_rf, nI_1, LQ1, LQ2, LQ5, sh_r38_5 hS, sh_k43 hS, sh_z43 hS, sh_k38 hS, h38, hle, cs, os]
        refine ⟨by omega, lf_90 hS (by omega) hN (by omega) (hT _ s2) (hT2 _) (hD p (by omega)) (hD2 p (by omega)) (hO _ s2) (by omega) ?_⟩
        try simp only [pm_WV, pm_WW, true_and, and_true, true_or, or_true, and_self, reduceIte, Nat.reduceEqDiff, Nat.reduceLT, Nat.reduceLeDiff, Nat.reduceMul, false_and, and_false, reduceCtorEq, false_or, or_false, not_true_eq_false, not_false_eq_true, true_implies, false_implies, implies_true, lf_10, eq_self, Int32.reduceLT, Int32.reduceLE, Int32.reduceAdd, Int32.reduceSub, pm_same, pm_i_wI, pm_l_wL, pm_l_wM, pm_oR_rf, pm_oQ_rf, nI_1, sw_e, LQ1, LQ2, pm_WI0, pm_WI1, pm_WI2, pm_WI3, pm_WI4, pm_WI5, pm_WV, pm_WW, pm_WX, pb_B94, pm_if, pm_QI_at, pm_QL_at, pm_QV_at, pm_QR_at, pm_QR_at0, pm_QR_at1, Nat.reduceSub, Nat.reduceAdd, List.replicate_zero, List.replicate_succ, true_and, and_true, true_or, or_true, and_self, reduceIte, Nat.reduceEqDiff, Nat.reduceLT, Nat.reduceLeDiff, Nat.reduceMul, false_and, and_false, reduceCtorEq, false_or, or_false, not_true_eq_false, not_false_eq_true, true_implies, false_implies, implies_true, lf_10, eq_self, Int32.reduceLT, Int32.reduceLE, Int32.reduceAdd, Int32.reduceSub, pm_same, pm_i_wI, pm_l_wL, pm_l_wM, pm_oR_rf, pm_oQ_rf, nI_1, LQ1, LQ2, LQ5, sh_r38_5 hS, sh_k43 hS, sh_z43 hS, sh_k38 hS, h38, hle, cs, os, nc]
        repeat' (first | exact hk | exact vs | refine ⟨vs, ?_⟩ | (refine pm_wb_ok pb_c94 1 _ 0 _ _ _ _ _ ?_; simp only [pm_WI0, pm_WI1, pm_WI2, pm_WI3, pm_WI4, pm_WI5, pm_WV, pm_WW, pm_WX, pb_B94, pm_if, pm_QI_at, pm_QL_at, pm_QV_at, pm_QR_at, pm_QR_at0, pm_QR_at1, Nat.reduceSub, Nat.reduceAdd, List.replicate_zero, List.replicate_succ, true_and, and_true, true_or, or_true, and_self, reduceIte, Nat.reduceEqDiff, Nat.reduceLT, Nat.reduceLeDiff, Nat.reduceMul, false_and, and_false, reduceCtorEq, false_or, or_false, not_true_eq_false, not_false_eq_true, true_implies, false_implies, implies_true, lf_10, eq_self, Int32.reduceLT, Int32.reduceLE, Int32.reduceAdd, Int32.reduceSub, pm_same, pm_i_wI, pm_l_wL, pm_l_wM, pm_oR_rf, pm_oQ_rf, nI_1, LQ1, LQ2, LQ5, sh_r38_5 hS, sh_k43 hS, sh_z43 hS, sh_k38 hS, h38, hle, cs, os, nc]) | fail)
      · skip
        try simp only [pm_WV, pm_WW, true_and, and_true, true_or, or_true, and_self, reduceIte, Nat.reduceEqDiff, Nat.reduceLT, Nat.reduceLeDiff, Nat.reduceMul, false_and, and_false, reduceCtorEq, false_or, or_false, not_true_eq_false, not_false_eq_true, true_implies, false_implies, implies_true, lf_10, eq_self, Int32.reduceLT, Int32.reduceLE, Int32.reduceAdd, Int32.reduceSub, pm_same, pm_i_wI, pm_l_wL, pm_l_wM, pm_oR_rf, pm_oQ_rf, nI_1, sw_e, LQ1, LQ2, pm_WI0, pm_WI1, pm_WI2, pm_WI3, pm_WI4, pm_WI5, pm_WV, pm_WW, pm_WX, pb_B94, pm_if, pm_QI_at, pm_QL_at, pm_QV_at, pm_QR_at, pm_QR_at0, pm_QR_at1, Nat.reduceSub, Nat.reduceAdd, List.replicate_zero, List.replicate_succ, true_and, and_true, true_or, or_true, and_self, reduceIte, Nat.reduceEqDiff, Nat.reduceLT, Nat.reduceLeDiff, Nat.reduceMul, false_and, and_false, reduceCtorEq, false_or, or_false, not_true_eq_false, not_false_eq_true, true_implies, false_implies, implies_true, lf_10, eq_self, Int32.reduceLT, Int32.reduceLE, Int32.reduceAdd, Int32.reduceSub, pm_same, pm_i_wI, pm_l_wL, pm_l_wM, pm_oR_rf, pm_oQ_rf, nI_1, LQ1, LQ2, LQ5, sh_r38_5 hS, sh_k43 hS, sh_z43 hS, sh_k38 hS, h38, hle, cs, os]
        repeat' (first | exact hk | (refine pm_wb_ok pb_c94 1 _ 0 _ _ _ _ _ ?_; simp only [pm_WI0, pm_WI1, pm_WI2, pm_WI3, pm_WI4, pm_WI5, pm_WV, pm_WW, pm_WX, pb_B94, pm_if, pm_QI_at, pm_QL_at, pm_QV_at, pm_QR_at, pm_QR_at0, pm_QR_at1, Nat.reduceSub, Nat.reduceAdd, List.replicate_zero, List.replicate_succ, true_and, and_true, true_or, or_true, and_self, reduceIte, Nat.reduceEqDiff, Nat.reduceLT, Nat.reduceLeDiff, Nat.reduceMul, false_and, and_false, reduceCtorEq, false_or, or_false, not_true_eq_false, not_false_eq_true, true_implies, false_implies, implies_true, lf_10, eq_self, Int32.reduceLT, Int32.reduceLE, Int32.reduceAdd, Int32.reduceSub, pm_same, pm_i_wI, pm_l_wL, pm_l_wM, pm_oR_rf, pm_oQ_rf, nI_1, LQ1, LQ2, LQ5, sh_r38_5 hS, sh_k43 hS, sh_z43 hS, sh_k38 hS, h38, hle, cs, os]) | fail)
    · have hle : ¬ nI N ≤ nI p0 := nI_ge (by omega) (by omega)
      try refine pm_wb_ok pb_c94 1 2 0 _ _ _ _ _ ?_
      try simp only [pm_WI0, pm_WI1, pm_WI2, pm_WI3, pm_WI4, pm_WI5, pm_WV, pm_WW, pm_WX, pb_B94, pm_if, pm_QI_at, pm_QL_at, pm_QV_at, pm_QR_at, pm_QR_at0, pm_QR_at1, Nat.reduceSub, Nat.reduceAdd, List.replicate_zero, List.replicate_succ, true_and, and_true, true_or, or_true, and_self, reduceIte, Nat.reduceEqDiff, Nat.reduceLT, Nat.reduceLeDiff, Nat.reduceMul, false_and, and_false, reduceCtorEq, false_or, or_false, not_true_eq_false, not_false_eq_true, true_implies, false_implies, implies_true, lf_10, eq_self, Int32.reduceLT, Int32.reduceLE, Int32.reduceAdd, Int32.reduceSub, pm_same, pm_i_wI, pm_l_wL, pm_l_wM, pm_oR_rf, pm_oQ_rf, nI_1, LQ1, LQ2, LQ5, sh_r38_5 hS, sh_k43 hS, sh_z43 hS, sh_k38 hS, h38, hle, cs, os]
      refine ⟨by omega, lf_89 rfl rfl (by omega) (by omega) (fun a3 => ?_) (fun a3 => by rw [p2] at a3; cases a3)⟩
      have s2 := bo_lt (p := p0) hs (by omega)
      have c1 := bo_c_le (d := g p0) (hT2 (s ||| 2 ^ p0))
      have o1 := hO2 (s ||| 2 ^ p0)
      have o2 := hO2 s
      have nc : lg_cmp (nL (O (s ||| 2 ^ p0) + bo_c (T (s ||| 2 ^ p0)) (g p0))) (nL (O s)) = 0 := by rw [lc_eq, nL_inj (by omega) (by omega)]; exact p3
      try simp only [pm_WV, pm_WW, true_and, and_true, true_or, or_true, and_self, reduceIte, Nat.reduceEqDiff, Nat.reduceLT, Nat.reduceLeDiff, Nat.reduceMul, false_and, and_false, reduceCtorEq, false_or, or_false, not_true_eq_false, not_false_eq_true, true_implies, false_implies, implies_true, lf_10, eq_self, Int32.reduceLT, Int32.reduceLE, Int32.reduceAdd, Int32.reduceSub, pm_same, pm_i_wI, pm_l_wL, pm_l_wM, pm_oR_rf, pm_oQ_rf, nI_1, sw_e, LQ1, LQ2, pm_WI0, pm_WI1, pm_WI2, pm_WI3, pm_WI4, pm_WI5, pm_WV, pm_WW, pm_WX, pb_B94, pm_if, pm_QI_at, pm_QL_at, pm_QV_at, pm_QR_at, pm_QR_at0, pm_QR_at1, Nat.reduceSub, Nat.reduceAdd, List.replicate_zero, List.replicate_succ, true_and, and_true, true_or, or_true, and_self, reduceIte, Nat.reduceEqDiff, Nat.reduceLT, Nat.reduceLeDiff, Nat.reduceMul, false_and, and_false, reduceCtorEq, false_or, or_false, not_true_eq_false, not_false_eq_true, true_implies, false_implies, implies_true, lf_10, eq_self, Int32.reduceLT, Int32.reduceLE, Int32.reduceAdd, Int32.reduceSub, pm_same, pm_i_wI, pm_l_wL, pm_l_wM, pm_oR_rf, pm_oQ_rf, nI_1, LQ1, LQ2, LQ5, sh_r38_5 hS, sh_k43 hS, sh_z43 hS, sh_k38 hS, h38, hle, cs, os]
      refine ⟨by omega, lf_90 hS (by omega) hN (by omega) (hT _ s2) (hT2 _) (hD p0 (by omega)) (hD2 p0 (by omega)) (hO _ s2) (by omega) ?_⟩
      try simp only [pm_WV, pm_WW, true_and, and_true, true_or, or_true, and_self, reduceIte, Nat.reduceEqDiff, Nat.reduceLT, Nat.reduceLeDiff, Nat.reduceMul, false_and, and_false, reduceCtorEq, false_or, or_false, not_true_eq_false, not_false_eq_true, true_implies, false_implies, implies_true, lf_10, eq_self, Int32.reduceLT, Int32.reduceLE, Int32.reduceAdd, Int32.reduceSub, pm_same, pm_i_wI, pm_l_wL, pm_l_wM, pm_oR_rf, pm_oQ_rf, nI_1, sw_e, LQ1, LQ2, pm_WI0, pm_WI1, pm_WI2, pm_WI3, pm_WI4, pm_WI5, pm_WV, pm_WW, pm_WX, pb_B94, pm_if, pm_QI_at, pm_QL_at, pm_QV_at, pm_QR_at, pm_QR_at0, pm_QR_at1, Nat.reduceSub, Nat.reduceAdd, List.replicate_zero, List.replicate_succ, true_and, and_true, true_or, or_true, and_self, reduceIte, Nat.reduceEqDiff, Nat.reduceLT, Nat.reduceLeDiff, Nat.reduceMul, false_and, and_false, reduceCtorEq, false_or, or_false, not_true_eq_false, not_false_eq_true, true_implies, false_implies, implies_true, lf_10, eq_self, Int32.reduceLT, Int32.reduceLE, Int32.reduceAdd, Int32.reduceSub, pm_same, pm_i_wI, pm_l_wL, pm_l_wM, pm_oR_rf, pm_oQ_rf, nI_1, LQ1, LQ2, LQ5, sh_r38_5 hS, sh_k43 hS, sh_z43 hS, sh_k38 hS, h38, hle, cs, os, nc]
      repeat' (first | exact h | exact vs | refine ⟨vs, ?_⟩ | (refine pm_wb_ok pb_c94 1 _ 0 _ _ _ _ _ ?_; simp only [pm_WI0, pm_WI1, pm_WI2, pm_WI3, pm_WI4, pm_WI5, pm_WV, pm_WW, pm_WX, pb_B94, pm_if, pm_QI_at, pm_QL_at, pm_QV_at, pm_QR_at, pm_QR_at0, pm_QR_at1, Nat.reduceSub, Nat.reduceAdd, List.replicate_zero, List.replicate_succ, true_and, and_true, true_or, or_true, and_self, reduceIte, Nat.reduceEqDiff, Nat.reduceLT, Nat.reduceLeDiff, Nat.reduceMul, false_and, and_false, reduceCtorEq, false_or, or_false, not_true_eq_false, not_false_eq_true, true_implies, false_implies, implies_true, lf_10, eq_self, Int32.reduceLT, Int32.reduceLE, Int32.reduceAdd, Int32.reduceSub, pm_same, pm_i_wI, pm_l_wL, pm_l_wM, pm_oR_rf, pm_oQ_rf, nI_1, LQ1, LQ2, LQ5, sh_r38_5 hS, sh_k43 hS, sh_z43 hS, sh_k38 hS, h38, hle, cs, os, nc]) | fail)
  refine pm_goI 94 1 pb_c94 (by decide) (Nat.le_of_ble_eq_true rfl) rfl ?_
  try simp only [show pm_mL 94 = 3 from rfl, pm_WI0, pm_WI1, pm_WI2, pm_WI3, pm_WI4, pm_WI5, pm_WV, pm_WW, pm_WX, pb_B94, pm_if, pm_QI_at, pm_QL_at, pm_QV_at, pm_QR_at, pm_QR_at0, pm_QR_at1, Nat.reduceSub, Nat.reduceAdd, List.replicate_zero, List.replicate_succ, true_and, and_true, true_or, or_true, and_self, reduceIte, Nat.reduceEqDiff, Nat.reduceLT, Nat.reduceLeDiff, Nat.reduceMul, false_and, and_false, reduceCtorEq, false_or, or_false, not_true_eq_false, not_false_eq_true, true_implies, false_implies, implies_true, lf_10, eq_self, Int32.reduceLT, Int32.reduceLE, Int32.reduceAdd, Int32.reduceSub, pm_same, pm_i_wI, pm_l_wL, pm_l_wM, pm_oR_rf, pm_oQ_rf, nI_1, LQ1, LQ2, LQ5, sh_r38_5 hS, sh_k43 hS, sh_z43 hS, sh_k38 hS, h38]
  repeat' (first | exact key | exact pv_W key (by simp [pv_le, pm_unk, show nI 0 = 0 from rfl]) | (refine pm_wb_ok pb_c94 1 _ 0 _ _ _ _ _ ?_; simp only [pm_WI0, pm_WI1, pm_WI2, pm_WI3, pm_WI4, pm_WI5, pm_WV, pm_WW, pm_WX, pb_B94, pm_if, pm_QI_at, pm_QL_at, pm_QV_at, pm_QR_at, pm_QR_at0, pm_QR_at1, Nat.reduceSub, Nat.reduceAdd, List.replicate_zero, List.replicate_succ, true_and, and_true, true_or, or_true, and_self, reduceIte, Nat.reduceEqDiff, Nat.reduceLT, Nat.reduceLeDiff, Nat.reduceMul, false_and, and_false, reduceCtorEq, false_or, or_false, not_true_eq_false, not_false_eq_true, true_implies, false_implies, implies_true, lf_10, eq_self, Int32.reduceLT, Int32.reduceLE, Int32.reduceAdd, Int32.reduceSub, pm_same, pm_i_wI, pm_l_wL, pm_l_wM, pm_oR_rf, pm_oQ_rf, nI_1, LQ1, LQ2, LQ5, sh_r38_5 hS, sh_k43 hS, sh_z43 hS, sh_k38 hS, h38]) | fail)
theorem lf_93 {G : pm_G} {d : Nat} {S : pm_S} {N m : Nat} {T g O l : Nat → Nat} {q : Int32 → pm_S → Prop} (hd : 3 ≤ d) (hS : Sh S) (h38 : pm_i S 38 0 = nI N) (hN : N ≤ 7) (hm : m < N) (hT : ∀ u, u < 2 ^ N → pm_i S 42 u = nI (T u)) (hT2 : ∀ u, T u < 2 ^ 16) (hD : ∀ k, k < N → pm_i S 41 k = nI (g k)) (hD2 : ∀ k, k < N → g k ≤ 9999) (hO : ∀ u, u < 2 ^ N → pm_l S 43 u = nL (O u)) (hO2 : ∀ u, O u < 2 ^ 40)
    (hl : ∀ i, i < N → bo_s l i < 2 ^ N ∧ bo_i (bo_s l i) (fun p => O (bo_s l i ||| 2 ^ p) + bo_c (T (bo_s l i ||| 2 ^ p)) (g p)) (O (bo_s l i)) N (l i)) (h : q (pm_i S 39 (l m)) S) : pm_CI G d 93 [.ref 38, .int (nI m)] S q := by
  have key : pm_W G d 93 (pm_QI q) 4 [.ref 38, .int (nI m), .int (nI (bo_s l 0)), .int (nI 0), .float 0] [] S 0 0 := by
    refine pv_loopR (fun i => [.ref 38, .int (nI m), .int (nI (bo_s l i)), .int (nI i), .float 0]) m (fun i hi hk => ?_) ?_
    · have hle : ¬ nI N ≤ nI i := nI_ge (by omega) (by omega)
      obtain ⟨l1, l2⟩ := hl i (by omega)
      have li := l2.1
      have sp := wt_sh (l i) (by omega)
      have ne : ¬ nI i = nI m := fun z => by have := (nI_eq (by omega) (by omega)).mp z; omega
      have es : bo_s l (i + 1) = bo_s l i ||| 2 ^ l i := rfl
      rw [es] at hk
      try refine pm_wb_ok pb_c93 1 4 0 _ _ _ _ _ ?_
      try simp only [pm_WI0, pm_WI1, pm_WI2, pm_WI3, pm_WI4, pm_WI5, pm_WV, pm_WW, pm_WX, pb_B93, pm_if, pm_QI_at, pm_QL_at, pm_QV_at, pm_QR_at, pm_QR_at0, pm_QR_at1, Nat.reduceSub, Nat.reduceAdd, List.replicate_zero, List.replicate_succ, true_and, and_true, true_or, or_true, and_self, reduceIte, Nat.reduceEqDiff, Nat.reduceLT, Nat.reduceLeDiff, Nat.reduceMul, false_and, and_false, reduceCtorEq, false_or, or_false, not_true_eq_false, not_false_eq_true, true_implies, false_implies, implies_true, lf_10, eq_self, Int32.reduceLT, Int32.reduceLE, Int32.reduceAdd, Int32.reduceSub, pm_same, pm_i_wI, pm_l_wL, pm_l_wM, pm_oR_rf, pm_oQ_rf, nI_1, LQ1, LQ2, LQ5, sh_r38_1 hS, sh_k39 hS, sh_z39 hS, sh_k38 hS, h38, hle, sp, ne, or_1]
      refine ⟨by omega, lf_94 (by omega) hS h38 hN l1 hT hT2 hD hD2 hO hO2 l2 ?_⟩
      try simp only [pm_WV, pm_WW, true_and, and_true, true_or, or_true, and_self, reduceIte, Nat.reduceEqDiff, Nat.reduceLT, Nat.reduceLeDiff, Nat.reduceMul, false_and, and_false, reduceCtorEq, false_or, or_false, not_true_eq_false, not_false_eq_true, true_implies, false_implies, implies_true, lf_10, eq_self, Int32.reduceLT, Int32.reduceLE, Int32.reduceAdd, Int32.reduceSub, pm_same, pm_i_wI, pm_l_wL, pm_l_wM, pm_oR_rf, pm_oQ_rf, nI_1, sw_e, LQ1, LQ2, pm_WI0, pm_WI1, pm_WI2, pm_WI3, pm_WI4, pm_WI5, pm_WV, pm_WW, pm_WX, pb_B93, pm_if, pm_QI_at, pm_QL_at, pm_QV_at, pm_QR_at, pm_QR_at0, pm_QR_at1, Nat.reduceSub, Nat.reduceAdd, List.replicate_zero, List.replicate_succ, true_and, and_true, true_or, or_true, and_self, reduceIte, Nat.reduceEqDiff, Nat.reduceLT, Nat.reduceLeDiff, Nat.reduceMul, false_and, and_false, reduceCtorEq, false_or, or_false, not_true_eq_false, not_false_eq_true, true_implies, false_implies, implies_true, lf_10, eq_self, Int32.reduceLT, Int32.reduceLE, Int32.reduceAdd, Int32.reduceSub, pm_same, pm_i_wI, pm_l_wL, pm_l_wM, pm_oR_rf, pm_oQ_rf, nI_1, LQ1, LQ2, LQ5, sh_r38_1 hS, sh_k39 hS, sh_z39 hS, sh_k38 hS, h38, hle, sp, ne, or_1]
      repeat' (first | exact hk | exact pv_W hk (by simp [pv_le, pm_unk]) | (refine pm_wb_ok pb_c93 1 _ 0 _ _ _ _ _ ?_; simp only [pm_WI0, pm_WI1, pm_WI2, pm_WI3, pm_WI4, pm_WI5, pm_WV, pm_WW, pm_WX, pb_B93, pm_if, pm_QI_at, pm_QL_at, pm_QV_at, pm_QR_at, pm_QR_at0, pm_QR_at1, Nat.reduceSub, Nat.reduceAdd, List.replicate_zero, List.replicate_succ, true_and, and_true, true_or, or_true, and_self, reduceIte, Nat.reduceEqDiff, Nat.reduceLT, Nat.reduceLeDiff, Nat.reduceMul, false_and, and_false, reduceCtorEq, false_or, or_false, not_true_eq_false, not_false_eq_true, true_implies, false_implies, implies_true, lf_10, eq_self, Int32.reduceLT, Int32.reduceLE, Int32.reduceAdd, Int32.reduceSub, pm_same, pm_i_wI, pm_l_wL, pm_l_wM, pm_oR_rf, pm_oQ_rf, nI_1, LQ1, LQ2, LQ5, sh_r38_1 hS, sh_k39 hS, sh_z39 hS, sh_k38 hS, h38, hle, sp, ne, or_1]) | fail)
    · have hle : ¬ nI N ≤ nI m := nI_ge (by omega) (by omega)
      obtain ⟨l1, l2⟩ := hl m hm
      have li := l2.1
      have cl := nI_clamp (n := l m) (by omega)
      have vl := vp_in_nI (n := l m) (N := 7) (by omega) (by decide)
      try refine pm_wb_ok pb_c93 1 4 0 _ _ _ _ _ ?_
      try simp only [pm_WI0, pm_WI1, pm_WI2, pm_WI3, pm_WI4, pm_WI5, pm_WV, pm_WW, pm_WX, pb_B93, pm_if, pm_QI_at, pm_QL_at, pm_QV_at, pm_QR_at, pm_QR_at0, pm_QR_at1, Nat.reduceSub, Nat.reduceAdd, List.replicate_zero, List.replicate_succ, true_and, and_true, true_or, or_true, and_self, reduceIte, Nat.reduceEqDiff, Nat.reduceLT, Nat.reduceLeDiff, Nat.reduceMul, false_and, and_false, reduceCtorEq, false_or, or_false, not_true_eq_false, not_false_eq_true, true_implies, false_implies, implies_true, lf_10, eq_self, Int32.reduceLT, Int32.reduceLE, Int32.reduceAdd, Int32.reduceSub, pm_same, pm_i_wI, pm_l_wL, pm_l_wM, pm_oR_rf, pm_oQ_rf, nI_1, LQ1, LQ2, LQ5, sh_r38_1 hS, sh_k39 hS, sh_z39 hS, sh_k38 hS, h38, hle, cl]
      refine ⟨by omega, lf_94 (by omega) hS h38 hN l1 hT hT2 hD hD2 hO hO2 l2 ?_⟩
      try simp only [pm_WV, pm_WW, true_and, and_true, true_or, or_true, and_self, reduceIte, Nat.reduceEqDiff, Nat.reduceLT, Nat.reduceLeDiff, Nat.reduceMul, false_and, and_false, reduceCtorEq, false_or, or_false, not_true_eq_false, not_false_eq_true, true_implies, false_implies, implies_true, lf_10, eq_self, Int32.reduceLT, Int32.reduceLE, Int32.reduceAdd, Int32.reduceSub, pm_same, pm_i_wI, pm_l_wL, pm_l_wM, pm_oR_rf, pm_oQ_rf, nI_1, sw_e, LQ1, LQ2, pm_WI0, pm_WI1, pm_WI2, pm_WI3, pm_WI4, pm_WI5, pm_WV, pm_WW, pm_WX, pb_B93, pm_if, pm_QI_at, pm_QL_at, pm_QV_at, pm_QR_at, pm_QR_at0, pm_QR_at1, Nat.reduceSub, Nat.reduceAdd, List.replicate_zero, List.replicate_succ, true_and, and_true, true_or, or_true, and_self, reduceIte, Nat.reduceEqDiff, Nat.reduceLT, Nat.reduceLeDiff, Nat.reduceMul, false_and, and_false, reduceCtorEq, false_or, or_false, not_true_eq_false, not_false_eq_true, true_implies, false_implies, implies_true, lf_10, eq_self, Int32.reduceLT, Int32.reduceLE, Int32.reduceAdd, Int32.reduceSub, pm_same, pm_i_wI, pm_l_wL, pm_l_wM, pm_oR_rf, pm_oQ_rf, nI_1, LQ1, LQ2, LQ5, sh_r38_1 hS, sh_k39 hS, sh_z39 hS, sh_k38 hS, h38, hle, cl]
      repeat' (first | exact h | exact vl | refine ⟨vl, ?_⟩ | (refine pm_wb_ok pb_c93 1 _ 0 _ _ _ _ _ ?_; simp only [pm_WI0, pm_WI1, pm_WI2, pm_WI3, pm_WI4, pm_WI5, pm_WV, pm_WW, pm_WX, pb_B93, pm_if, pm_QI_at, pm_QL_at, pm_QV_at, pm_QR_at, pm_QR_at0, pm_QR_at1, Nat.reduceSub, Nat.reduceAdd, List.replicate_zero, List.replicate_succ, true_and, and_true, true_or, or_true, and_self, reduceIte, Nat.reduceEqDiff, Nat.reduceLT, Nat.reduceLeDiff, Nat.reduceMul, false_and, and_false, reduceCtorEq, false_or, or_false, not_true_eq_false, not_false_eq_true, true_implies, false_implies, implies_true, lf_10, eq_self, Int32.reduceLT, Int32.reduceLE, Int32.reduceAdd, Int32.reduceSub, pm_same, pm_i_wI, pm_l_wL, pm_l_wM, pm_oR_rf, pm_oQ_rf, nI_1, LQ1, LQ2, LQ5, sh_r38_1 hS, sh_k39 hS, sh_z39 hS, sh_k38 hS, h38, hle, cl]) | fail)
  refine pm_goI 93 1 pb_c93 (by decide) (Nat.le_of_ble_eq_true rfl) rfl ?_
  try simp only [show pm_mL 93 = 5 from rfl, pm_WI0, pm_WI1, pm_WI2, pm_WI3, pm_WI4, pm_WI5, pm_WV, pm_WW, pm_WX, pb_B93, pm_if, pm_QI_at, pm_QL_at, pm_QV_at, pm_QR_at, pm_QR_at0, pm_QR_at1, Nat.reduceSub, Nat.reduceAdd, List.replicate_zero, List.replicate_succ, true_and, and_true, true_or, or_true, and_self, reduceIte, Nat.reduceEqDiff, Nat.reduceLT, Nat.reduceLeDiff, Nat.reduceMul, false_and, and_false, reduceCtorEq, false_or, or_false, not_true_eq_false, not_false_eq_true, true_implies, false_implies, implies_true, lf_10, eq_self, Int32.reduceLT, Int32.reduceLE, Int32.reduceAdd, Int32.reduceSub, pm_same, pm_i_wI, pm_l_wL, pm_l_wM, pm_oR_rf, pm_oQ_rf, nI_1, LQ1, LQ2, LQ5, sh_r38_1 hS, sh_k39 hS, sh_z39 hS, sh_k38 hS, h38]
  repeat' (first | exact key | exact pv_W key (by simp [pv_le, pm_unk, bo_s, show nI 0 = 0 from rfl]) | (refine pm_wb_ok pb_c93 1 _ 0 _ _ _ _ _ ?_; simp only [pm_WI0, pm_WI1, pm_WI2, pm_WI3, pm_WI4, pm_WI5, pm_WV, pm_WW, pm_WX, pb_B93, pm_if, pm_QI_at, pm_QL_at, pm_QV_at, pm_QR_at, pm_QR_at0, pm_QR_at1, Nat.reduceSub, Nat.reduceAdd, List.replicate_zero, List.replicate_succ, true_and, and_true, true_or, or_true, and_self, reduceIte, Nat.reduceEqDiff, Nat.reduceLT, Nat.reduceLeDiff, Nat.reduceMul, false_and, and_false, reduceCtorEq, false_or, or_false, not_true_eq_false, not_false_eq_true, true_implies, false_implies, implies_true, lf_10, eq_self, Int32.reduceLT, Int32.reduceLE, Int32.reduceAdd, Int32.reduceSub, pm_same, pm_i_wI, pm_l_wL, pm_l_wM, pm_oR_rf, pm_oQ_rf, nI_1, LQ1, LQ2, LQ5, sh_r38_1 hS, sh_k39 hS, sh_z39 hS, sh_k38 hS, h38]) | fail)
theorem lf_87 {G : pm_G} {d : Nat} {S : pm_S} {N n e : Nat} {f g T : Nat → Nat} {q : pm_S → Prop} (hd : 6 ≤ d) (hS : Sh S) (h38 : pm_i S 38 0 = nI N) (hN : N ≤ 7) (hn : pm_i S 1 2 = nI n) (hn2 : n ≤ 20) (he : pm_i S 1 0 = nI e) (he2 : e < 2 ^ 14) (hW : ∀ k, k < N → pm_i S 40 k = nI (f k)) (hW9 : ∀ k, k < N → f k ≤ 9) (hD : ∀ k, k < N → pm_i S 41 k = nI (g k)) (hD2 : ∀ k, k < N → g k ≤ 9999) (hT : ∀ u, T u = wd (pm_i S 2) n e (bo_w f u N))
    (h : ∀ U, sc S U → (∀ u, u < 2 ^ N → pm_i U 42 u = nI (T u)) → (∀ u, u < 2 ^ N → pm_l U 43 u = nL (bo_O (bo_C T g) N u)) → q U) : pm_CV G d 87 [.ref 38, .ref 1] S q := by
  have w63 : ∀ u, bo_w f u N ≤ 63 := fun u => Nat.le_trans (bo_w_le N hW9) (by omega)
  have hT2 : ∀ u, T u < 2 ^ 16 := fun u => by rw [hT]; exact wd_lt _ he2 (by have := w63 u; omega) hn2
  have hC : ∀ s p, bo_C T g s p ≤ 4295032832 := fun s p => bo_c_le (hT2 s)
  have O2 := bo_O_le hC hN
  obtain ⟨M, hM⟩ : ∃ M, 2 ^ N = M + 1 := ⟨2 ^ N - 1, by have := Nat.two_pow_pos N; omega⟩
  have z7 : 2 ^ N ≤ 2 ^ 7 := Nat.pow_le_pow_right (by omega) hN
  have M7 : M < 128 := by omega
  have sN := wt_sh N (by omega)
  have sM : nI (2 ^ N) - 1 = nI M := by rw [hM]; exact nI_pred M
  rw [hM] at h
  have cM := nI_clamp (n := M) (by omega)
  have vM := vp_in_nI (n := M) (N := 128) (by omega) (by decide)
  have key2 : ∀ U0, sc S U0 → (∀ u, u < M + 1 → pm_i U0 42 u = nI (T u)) → pm_l U0 43 M = nL 0 → pm_W G d 87 (pm_QV q) 52 [.ref 38, .ref 1, .int (nI M), .int (nI M - 1), .float 0] [] U0 0 0 := by
    intro U0 hs0 ht0 hb0
    refine pv_while (fun x : Nat × pm_S => [.ref 38, .ref 1, .int (nI M), .int (nI x.1 - 1), .float 0]) (fun x => x.2) (fun x => x.1 ≤ M ∧ sc S x.2 ∧ (∀ u, u < M + 1 → pm_i x.2 42 u = nI (T u)) ∧ ∀ u, x.1 ≤ u → u < M + 1 → pm_l x.2 43 u = nL (bo_O (bo_C T g) N u)) (fun x => x.1) (fun x hP ih => ?_) (M, U0) ⟨Nat.le_refl _, hs0, ht0, fun u h1 h2 => by
      have e1 : u = M := by omega
      have e2 : bo_O (bo_C T g) N M = 0 := by
        have a := bo_all N (by omega)
        rw [show 2 ^ N - 1 = M by omega] at a
        unfold bo_O; rw [a]; rfl
      show pm_l U0 43 u = _
      rw [e1, e2]; exact hb0⟩
    obtain ⟨m, U⟩ := x
    obtain ⟨hm, hs, ht, hb⟩ := hP
    replace hm : m ≤ M := hm
    replace hs : sc S U := hs
    replace ht : ∀ u, u < M + 1 → pm_i U 42 u = nI (T u) := ht
    replace hb : ∀ u, m ≤ u → u < M + 1 → pm_l U 43 u = nL (bo_O (bo_C T g) N u) := hb
    have hU := hs.sh hS
    show pm_W G d 87 (pm_QV q) 52 [.ref 38, .ref 1, .int (nI M), .int (nI m - 1), .float 0] [] U 0 0
    cases m with
    | zero =>
      have lt0 : nI 0 - 1 < 0 := by decide
      have fin := h U hs ht (fun u hu => hb u (Nat.zero_le _) hu)
      try refine pm_wb_ok pb_c87 1 52 0 _ _ _ _ _ ?_
      try simp only [pm_WI0, pm_WI1, pm_WI2, pm_WI3, pm_WI4, pm_WI5, pm_WV, pm_WW, pm_WX, pb_B87, pm_if, pm_QI_at, pm_QL_at, pm_QV_at, pm_QR_at, pm_QR_at0, pm_QR_at1, Nat.reduceSub, Nat.reduceAdd, List.replicate_zero, List.replicate_succ, true_and, and_true, true_or, or_true, and_self, reduceIte, Nat.reduceEqDiff, Nat.reduceLT, Nat.reduceLeDiff, Nat.reduceMul, false_and, and_false, reduceCtorEq, false_or, or_false, not_true_eq_false, not_false_eq_true, true_implies, false_implies, implies_true, lf_10, eq_self, Int32.reduceLT, Int32.reduceLE, Int32.reduceAdd, Int32.reduceSub, pm_same, pm_i_wI, pm_l_wL, pm_l_wM, pm_oR_rf, pm_oQ_rf, nI_1, LQ1, LQ2, LQ5, sh_r38_4 hU, sh_k42 hU, sh_z42 hU, sh_r38_5 hU, sh_k43 hU, sh_z43 hU, sh_k38 hU, lt0]
      repeat' (first | exact fin | (refine pm_wb_ok pb_c87 1 _ 0 _ _ _ _ _ ?_; simp only [pm_WI0, pm_WI1, pm_WI2, pm_WI3, pm_WI4, pm_WI5, pm_WV, pm_WW, pm_WX, pb_B87, pm_if, pm_QI_at, pm_QL_at, pm_QV_at, pm_QR_at, pm_QR_at0, pm_QR_at1, Nat.reduceSub, Nat.reduceAdd, List.replicate_zero, List.replicate_succ, true_and, and_true, true_or, or_true, and_self, reduceIte, Nat.reduceEqDiff, Nat.reduceLT, Nat.reduceLeDiff, Nat.reduceMul, false_and, and_false, reduceCtorEq, false_or, or_false, not_true_eq_false, not_false_eq_true, true_implies, false_implies, implies_true, lf_10, eq_self, Int32.reduceLT, Int32.reduceLE, Int32.reduceAdd, Int32.reduceSub, pm_same, pm_i_wI, pm_l_wL, pm_l_wM, pm_oR_rf, pm_oQ_rf, nI_1, LQ1, LQ2, LQ5, sh_r38_4 hU, sh_k42 hU, sh_z42 hU, sh_r38_5 hU, sh_k43 hU, sh_z43 hU, sh_k38 hU, lt0]) | fail)
    | succ j =>
      have pr : nI (j + 1) - 1 = nI j := nI_pred j
      have nn : ¬ nI j < 0 := nI_pos (by omega)
      have cj := nI_clamp (n := j) (by omega)
      have vj := vp_in_nI (n := j) (N := 128) (by omega) (by decide)
      have em : nI j + (-1) = nI j - 1 := (Int32.sub_eq_add_neg _ _).symm
      have jn := bo_some N (by omega) j (by omega) (by omega)
      have eO := bo_O_b (C := bo_C T g) jn
      generalize hv : (fun p => bo_O (bo_C T g) N (j ||| 2 ^ p) + bo_C T g (j ||| 2 ^ p) p) = v at eO
      have key3 : ∀ U1, sc S U1 → (∀ u, u < M + 1 → pm_i U1 42 u = nI (T u)) → (∀ u, j + 1 ≤ u → u < M + 1 → pm_l U1 43 u = nL (bo_O (bo_C T g) N u)) → pm_l U1 43 j = nL 9223372036854775807 → pm_W G d 87 (pm_QV q) 68 [.ref 38, .ref 1, .int (nI M), .int (nI j), .int (nI 0)] [] U1 0 0 := by
        intro U1 hs1 ht1 hb1 hj1
        refine pv_while (fun y : Nat × pm_S => [.ref 38, .ref 1, .int (nI M), .int (nI j), .int (nI y.1)]) (fun y => y.2) (fun y => y.1 ≤ N ∧ sc S y.2 ∧ (∀ u, u < M + 1 → pm_i y.2 42 u = nI (T u)) ∧ (∀ u, j + 1 ≤ u → u < M + 1 → pm_l y.2 43 u = nL (bo_O (bo_C T g) N u)) ∧ pm_l y.2 43 j = nL (bo_b j v y.1)) (fun y => N - y.1) (fun y hP2 ih2 => ?_) (0, U1) ⟨Nat.zero_le _, hs1, ht1, hb1, hj1⟩
        obtain ⟨p, V⟩ := y
        obtain ⟨hp, hsV, htV, hbV, hjV⟩ := hP2
        replace hp : p ≤ N := hp
        replace hsV : sc S V := hsV
        replace htV : ∀ u, u < M + 1 → pm_i V 42 u = nI (T u) := htV
        replace hbV : ∀ u, j + 1 ≤ u → u < M + 1 → pm_l V 43 u = nL (bo_O (bo_C T g) N u) := hbV
        replace hjV : pm_l V 43 j = nL (bo_b j v p) := hjV
        have hV := hsV.sh hS
        have v38 : pm_i V 38 0 = nI N := hsV.c38_0.trans h38
        show pm_W G d 87 (pm_QV q) 68 [.ref 38, .ref 1, .int (nI M), .int (nI j), .int (nI p)] [] V 0 0
        by_cases c : p < N
        · have hle : ¬ nI N ≤ nI p := nI_ge c (by omega)
          have mu : N - (p + 1) < N - p := by omega
          try refine pm_wb_ok pb_c87 1 68 0 _ _ _ _ _ ?_
          try simp only [pm_WI0, pm_WI1, pm_WI2, pm_WI3, pm_WI4, pm_WI5, pm_WV, pm_WW, pm_WX, pb_B87, pm_if, pm_QI_at, pm_QL_at, pm_QV_at, pm_QR_at, pm_QR_at0, pm_QR_at1, Nat.reduceSub, Nat.reduceAdd, List.replicate_zero, List.replicate_succ, true_and, and_true, true_or, or_true, and_self, reduceIte, Nat.reduceEqDiff, Nat.reduceLT, Nat.reduceLeDiff, Nat.reduceMul, false_and, and_false, reduceCtorEq, false_or, or_false, not_true_eq_false, not_false_eq_true, true_implies, false_implies, implies_true, lf_10, eq_self, Int32.reduceLT, Int32.reduceLE, Int32.reduceAdd, Int32.reduceSub, pm_same, pm_i_wI, pm_l_wL, pm_l_wM, pm_oR_rf, pm_oQ_rf, nI_1, LQ1, LQ2, LQ5, sh_r38_4 hV, sh_k42 hV, sh_z42 hV, sh_r38_5 hV, sh_k43 hV, sh_z43 hV, sh_k38 hV, v38, hle, cj, hjV]
          refine ⟨by omega, lf_89 rfl rfl (by omega) (by omega) (fun a3 => ?_) (fun a3 => ?_)⟩
          · have s2 : j ||| 2 ^ p < M + 1 := by rw [← hM]; exact bo_lt (by omega) c
            have s3 := (bo_up j (by omega) p (by omega) a3).1
            have ev : bo_O (bo_C T g) N (j ||| 2 ^ p) + bo_c (T (j ||| 2 ^ p)) (g p) = v p := by rw [← hv]; rfl
            have c1 := bo_c_le (d := g p) (hT2 (j ||| 2 ^ p))
            have o1 := O2 (j ||| 2 ^ p)
            have b1 := bo_b_mx (s := j) (v := v) p
            have eb : bo_b j v (p + 1) = if v p < bo_b j v p then v p else bo_b j v p := by rw [bo_b, a3, if_neg (by decide)]
            have nx := fun x (hx : x = bo_b j v (p + 1)) => ih2 (p + 1, pm_wL V 43 j (nL x)) ⟨c, hsV.wL (by unfold sc_l; omega), htV, fun u h1 h2 => by
              show pm_l (pm_wL V 43 j (nL x)) 43 u = _
              rw [pm_l_wL, if_neg (by omega)]; exact hbV u h1 h2, by
              show pm_l (pm_wL V 43 j (nL x)) 43 j = _
              rw [pm_l_wL, if_pos ⟨rfl, rfl⟩, hx]⟩ mu
            try simp only [pm_WV, pm_WW, true_and, and_true, true_or, or_true, and_self, reduceIte, Nat.reduceEqDiff, Nat.reduceLT, Nat.reduceLeDiff, Nat.reduceMul, false_and, and_false, reduceCtorEq, false_or, or_false, not_true_eq_false, not_false_eq_true, true_implies, false_implies, implies_true, lf_10, eq_self, Int32.reduceLT, Int32.reduceLE, Int32.reduceAdd, Int32.reduceSub, pm_same, pm_i_wI, pm_l_wL, pm_l_wM, pm_oR_rf, pm_oQ_rf, nI_1, sw_e, LQ1, LQ2, pm_WI0, pm_WI1, pm_WI2, pm_WI3, pm_WI4, pm_WI5, pm_WV, pm_WW, pm_WX, pb_B87, pm_if, pm_QI_at, pm_QL_at, pm_QV_at, pm_QR_at, pm_QR_at0, pm_QR_at1, Nat.reduceSub, Nat.reduceAdd, List.replicate_zero, List.replicate_succ, true_and, and_true, true_or, or_true, and_self, reduceIte, Nat.reduceEqDiff, Nat.reduceLT, Nat.reduceLeDiff, Nat.reduceMul, false_and, and_false, reduceCtorEq, false_or, or_false, not_true_eq_false, not_false_eq_true, true_implies, false_implies, implies_true, lf_10, eq_self, Int32.reduceLT, Int32.reduceLE, Int32.reduceAdd, Int32.reduceSub, pm_same, pm_i_wI, pm_l_wL, pm_l_wM, pm_oR_rf, pm_oQ_rf, nI_1, LQ1, LQ2, LQ5, sh_r38_4 hV, sh_k42 hV, sh_z42 hV, sh_r38_5 hV, sh_k43 hV, sh_z43 hV, sh_k38 hV, v38, hle, cj, hjV]
            refine ⟨vj, by omega, lf_90 hV c hN (by omega) (htV _ s2) (hT2 _) (by rw [hsV.r41]; exact hD p c) (hD2 p c) (hbV _ s3 s2) (by omega) ?_⟩
            rw [ev]
            by_cases lt : v p < bo_b j v p
            · have ltL : nL (v p) < nL (bo_b j v p) := (nL_lt (by omega) (by omega)).mpr lt
              have nx := nx (v p) (by rw [eb, if_pos lt])
              try simp only [pm_WV, pm_WW, true_and, and_true, true_or, or_true, and_self, reduceIte, Nat.reduceEqDiff, Nat.reduceLT, Nat.reduceLeDiff, Nat.reduceMul, false_and, and_false, reduceCtorEq, false_or, or_false, not_true_eq_false, not_false_eq_true, true_implies, false_implies, implies_true, lf_10, eq_self, Int32.reduceLT, Int32.reduceLE, Int32.reduceAdd, Int32.reduceSub, pm_same, pm_i_wI, pm_l_wL, pm_l_wM, pm_oR_rf, pm_oQ_rf, nI_1, sw_e, LQ1, LQ2, pm_WI0, pm_WI1, pm_WI2, pm_WI3, pm_WI4, pm_WI5, pm_WV, pm_WW, pm_WX, pb_B87, pm_if, pm_QI_at, pm_QL_at, pm_QV_at, pm_QR_at, pm_QR_at0, pm_QR_at1, Nat.reduceSub, Nat.reduceAdd, List.replicate_zero, List.replicate_succ, true_and, and_true, true_or, or_true, and_self, reduceIte, Nat.reduceEqDiff, Nat.reduceLT, Nat.reduceLeDiff, Nat.reduceMul, false_and, and_false, reduceCtorEq, false_or, or_false, not_true_eq_false, not_false_eq_true, true_implies, false_implies, implies_true, lf_10, eq_self, Int32.reduceLT, Int32.reduceLE, Int32.reduceAdd, Int32.reduceSub, pm_same, pm_i_wI, pm_l_wL, pm_l_wM, pm_oR_rf, pm_oQ_rf, nI_1, LQ1, LQ2, LQ5, sh_r38_4 hV, sh_k42 hV, sh_z42 hV, sh_r38_5 hV, sh_k43 hV, sh_z43 hV, sh_k38 hV, v38, hle, cj, hjV, ltL]
              repeat' (first | exact nx | exact vj | omega | refine ⟨vj, ?_⟩ | refine ⟨by omega, ?_⟩ | (refine pm_wb_ok pb_c87 1 _ 0 _ _ _ _ _ ?_; simp only [pm_WI0, pm_WI1, pm_WI2, pm_WI3, pm_WI4, pm_WI5, pm_WV, pm_WW, pm_WX, pb_B87, pm_if, pm_QI_at, pm_QL_at, pm_QV_at, pm_QR_at, pm_QR_at0, pm_QR_at1, Nat.reduceSub, Nat.reduceAdd, List.replicate_zero, List.replicate_succ, true_and, and_true, true_or, or_true, and_self, reduceIte, Nat.reduceEqDiff, Nat.reduceLT, Nat.reduceLeDiff, Nat.reduceMul, false_and, and_false, reduceCtorEq, false_or, or_false, not_true_eq_false, not_false_eq_true, true_implies, false_implies, implies_true, lf_10, eq_self, Int32.reduceLT, Int32.reduceLE, Int32.reduceAdd, Int32.reduceSub, pm_same, pm_i_wI, pm_l_wL, pm_l_wM, pm_oR_rf, pm_oQ_rf, nI_1, LQ1, LQ2, LQ5, sh_r38_4 hV, sh_k42 hV, sh_z42 hV, sh_r38_5 hV, sh_k43 hV, sh_z43 hV, sh_k38 hV, v38, hle, cj, hjV, ltL]) | fail)
            · have ltL : ¬ nL (v p) < nL (bo_b j v p) := fun z => lt ((nL_lt (by omega) (by omega)).mp z)
              have nx := nx (bo_b j v p) (by rw [eb, if_neg lt])
              try simp only [pm_WV, pm_WW, true_and, and_true, true_or, or_true, and_self, reduceIte, Nat.reduceEqDiff, Nat.reduceLT, Nat.reduceLeDiff, Nat.reduceMul, false_and, and_false, reduceCtorEq, false_or, or_false, not_true_eq_false, not_false_eq_true, true_implies, false_implies, implies_true, lf_10, eq_self, Int32.reduceLT, Int32.reduceLE, Int32.reduceAdd, Int32.reduceSub, pm_same, pm_i_wI, pm_l_wL, pm_l_wM, pm_oR_rf, pm_oQ_rf, nI_1, sw_e, LQ1, LQ2, pm_WI0, pm_WI1, pm_WI2, pm_WI3, pm_WI4, pm_WI5, pm_WV, pm_WW, pm_WX, pb_B87, pm_if, pm_QI_at, pm_QL_at, pm_QV_at, pm_QR_at, pm_QR_at0, pm_QR_at1, Nat.reduceSub, Nat.reduceAdd, List.replicate_zero, List.replicate_succ, true_and, and_true, true_or, or_true, and_self, reduceIte, Nat.reduceEqDiff, Nat.reduceLT, Nat.reduceLeDiff, Nat.reduceMul, false_and, and_false, reduceCtorEq, false_or, or_false, not_true_eq_false, not_false_eq_true, true_implies, false_implies, implies_true, lf_10, eq_self, Int32.reduceLT, Int32.reduceLE, Int32.reduceAdd, Int32.reduceSub, pm_same, pm_i_wI, pm_l_wL, pm_l_wM, pm_oR_rf, pm_oQ_rf, nI_1, LQ1, LQ2, LQ5, sh_r38_4 hV, sh_k42 hV, sh_z42 hV, sh_r38_5 hV, sh_k43 hV, sh_z43 hV, sh_k38 hV, v38, hle, cj, hjV, ltL]
              repeat' (first | exact nx | exact vj | omega | refine ⟨vj, ?_⟩ | refine ⟨by omega, ?_⟩ | (refine pm_wb_ok pb_c87 1 _ 0 _ _ _ _ _ ?_; simp only [pm_WI0, pm_WI1, pm_WI2, pm_WI3, pm_WI4, pm_WI5, pm_WV, pm_WW, pm_WX, pb_B87, pm_if, pm_QI_at, pm_QL_at, pm_QV_at, pm_QR_at, pm_QR_at0, pm_QR_at1, Nat.reduceSub, Nat.reduceAdd, List.replicate_zero, List.replicate_succ, true_and, and_true, true_or, or_true, and_self, reduceIte, Nat.reduceEqDiff, Nat.reduceLT, Nat.reduceLeDiff, Nat.reduceMul, false_and, and_false, reduceCtorEq, false_or, or_false, not_true_eq_false, not_false_eq_true, true_implies, false_implies, implies_true, lf_10, eq_self, Int32.reduceLT, Int32.reduceLE, Int32.reduceAdd, Int32.reduceSub, pm_same, pm_i_wI, pm_l_wL, pm_l_wM, pm_oR_rf, pm_oQ_rf, nI_1, LQ1, LQ2, LQ5, sh_r38_4 hV, sh_k42 hV, sh_z42 hV, sh_r38_5 hV, sh_k43 hV, sh_z43 hV, sh_k38 hV, v38, hle, cj, hjV, ltL]) | fail)
          · have eb : bo_b j v (p + 1) = bo_b j v p := by rw [bo_b, a3, if_pos rfl]
            have nx := ih2 (p + 1, V) ⟨c, hsV, htV, hbV, by show pm_l V 43 j = nL (bo_b j v (p + 1)); rw [eb]; exact hjV⟩ mu
            try simp only [pm_WV, pm_WW, true_and, and_true, true_or, or_true, and_self, reduceIte, Nat.reduceEqDiff, Nat.reduceLT, Nat.reduceLeDiff, Nat.reduceMul, false_and, and_false, reduceCtorEq, false_or, or_false, not_true_eq_false, not_false_eq_true, true_implies, false_implies, implies_true, lf_10, eq_self, Int32.reduceLT, Int32.reduceLE, Int32.reduceAdd, Int32.reduceSub, pm_same, pm_i_wI, pm_l_wL, pm_l_wM, pm_oR_rf, pm_oQ_rf, nI_1, sw_e, LQ1, LQ2, pm_WI0, pm_WI1, pm_WI2, pm_WI3, pm_WI4, pm_WI5, pm_WV, pm_WW, pm_WX, pb_B87, pm_if, pm_QI_at, pm_QL_at, pm_QV_at, pm_QR_at, pm_QR_at0, pm_QR_at1, Nat.reduceSub, Nat.reduceAdd, List.replicate_zero, List.replicate_succ, true_and, and_true, true_or, or_true, and_self, reduceIte, Nat.reduceEqDiff, Nat.reduceLT, Nat.reduceLeDiff, Nat.reduceMul, false_and, and_false, reduceCtorEq, false_or, or_false, not_true_eq_false, not_false_eq_true, true_implies, false_implies, implies_true, lf_10, eq_self, Int32.reduceLT, Int32.reduceLE, Int32.reduceAdd, Int32.reduceSub, pm_same, pm_i_wI, pm_l_wL, pm_l_wM, pm_oR_rf, pm_oQ_rf, nI_1, LQ1, LQ2, LQ5, sh_r38_4 hV, sh_k42 hV, sh_z42 hV, sh_r38_5 hV, sh_k43 hV, sh_z43 hV, sh_k38 hV, v38, hle, cj, hjV]
            repeat' (first | exact nx | (refine pm_wb_ok pb_c87 1 _ 0 _ _ _ _ _ ?_; simp only [pm_WI0, pm_WI1, pm_WI2, pm_WI3, pm_WI4, pm_WI5, pm_WV, pm_WW, pm_WX, pb_B87, pm_if, pm_QI_at, pm_QL_at, pm_QV_at, pm_QR_at, pm_QR_at0, pm_QR_at1, Nat.reduceSub, Nat.reduceAdd, List.replicate_zero, List.replicate_succ, true_and, and_true, true_or, or_true, and_self, reduceIte, Nat.reduceEqDiff, Nat.reduceLT, Nat.reduceLeDiff, Nat.reduceMul, false_and, and_false, reduceCtorEq, false_or, or_false, not_true_eq_false, not_false_eq_true, true_implies, false_implies, implies_true, lf_10, eq_self, Int32.reduceLT, Int32.reduceLE, Int32.reduceAdd, Int32.reduceSub, pm_same, pm_i_wI, pm_l_wL, pm_l_wM, pm_oR_rf, pm_oQ_rf, nI_1, LQ1, LQ2, LQ5, sh_r38_4 hV, sh_k42 hV, sh_z42 hV, sh_r38_5 hV, sh_k43 hV, sh_z43 hV, sh_k38 hV, v38, hle, cj, hjV]) | fail)
        · have ep : p = N := by omega
          subst ep
          have hle : nI p ≤ nI p := Int32.le_refl _
          have nx := ih (j, V) ⟨by show j ≤ M; omega, hsV, htV, fun u h1 h2 => by
            by_cases eu : u = j
            · rw [eu, eO]; exact hjV
            · have h1' : j ≤ u := h1
              exact hbV u (by omega) h2⟩ (by show j < j + 1; omega)
          replace nx : pm_W G d 87 (pm_QV q) 52 [.ref 38, .ref 1, .int (nI M), .int (nI j - 1), .float 0] [] V 0 0 := nx
          try refine pm_wb_ok pb_c87 1 68 0 _ _ _ _ _ ?_
          try simp only [pm_WI0, pm_WI1, pm_WI2, pm_WI3, pm_WI4, pm_WI5, pm_WV, pm_WW, pm_WX, pb_B87, pm_if, pm_QI_at, pm_QL_at, pm_QV_at, pm_QR_at, pm_QR_at0, pm_QR_at1, Nat.reduceSub, Nat.reduceAdd, List.replicate_zero, List.replicate_succ, true_and, and_true, true_or, or_true, and_self, reduceIte, Nat.reduceEqDiff, Nat.reduceLT, Nat.reduceLeDiff, Nat.reduceMul, false_and, and_false, reduceCtorEq, false_or, or_false, not_true_eq_false, not_false_eq_true, true_implies, false_implies, implies_true, lf_10, eq_self, Int32.reduceLT, Int32.reduceLE, Int32.reduceAdd, Int32.reduceSub, pm_same, pm_i_wI, pm_l_wL, pm_l_wM, pm_oR_rf, pm_oQ_rf, nI_1, LQ1, LQ2, LQ5, sh_r38_4 hV, sh_k42 hV, sh_z42 hV, sh_r38_5 hV, sh_k43 hV, sh_z43 hV, sh_k38 hV, v38, hle, em]
          repeat' (first | exact nx | exact pv_W nx (by simp [pv_le, pm_unk]) | (refine pm_wb_ok pb_c87 1 _ 0 _ _ _ _ _ ?_; simp only [pm_WI0, pm_WI1, pm_WI2, pm_WI3, pm_WI4, pm_WI5, pm_WV, pm_WW, pm_WX, pb_B87, pm_if, pm_QI_at, pm_QL_at, pm_QV_at, pm_QR_at, pm_QR_at0, pm_QR_at1, Nat.reduceSub, Nat.reduceAdd, List.replicate_zero, List.replicate_succ, true_and, and_true, true_or, or_true, and_self, reduceIte, Nat.reduceEqDiff, Nat.reduceLT, Nat.reduceLeDiff, Nat.reduceMul, false_and, and_false, reduceCtorEq, false_or, or_false, not_true_eq_false, not_false_eq_true, true_implies, false_implies, implies_true, lf_10, eq_self, Int32.reduceLT, Int32.reduceLE, Int32.reduceAdd, Int32.reduceSub, pm_same, pm_i_wI, pm_l_wL, pm_l_wM, pm_oR_rf, pm_oQ_rf, nI_1, LQ1, LQ2, LQ5, sh_r38_4 hV, sh_k42 hV, sh_z42 hV, sh_r38_5 hV, sh_k43 hV, sh_z43 hV, sh_k38 hV, v38, hle, em]) | fail)
      have k3 := key3 (pm_wL U 43 j 9223372036854775807) (hs.wL (by unfold sc_l; omega)) ht (fun u h1 h2 => by
        rw [pm_l_wL, if_neg (by omega)]; exact hb u h1 h2) (by rw [pm_l_wL, if_pos ⟨rfl, rfl⟩]; rfl)
      try refine pm_wb_ok pb_c87 1 52 0 _ _ _ _ _ ?_
      try simp only [pm_WI0, pm_WI1, pm_WI2, pm_WI3, pm_WI4, pm_WI5, pm_WV, pm_WW, pm_WX, pb_B87, pm_if, pm_QI_at, pm_QL_at, pm_QV_at, pm_QR_at, pm_QR_at0, pm_QR_at1, Nat.reduceSub, Nat.reduceAdd, List.replicate_zero, List.replicate_succ, true_and, and_true, true_or, or_true, and_self, reduceIte, Nat.reduceEqDiff, Nat.reduceLT, Nat.reduceLeDiff, Nat.reduceMul, false_and, and_false, reduceCtorEq, false_or, or_false, not_true_eq_false, not_false_eq_true, true_implies, false_implies, implies_true, lf_10, eq_self, Int32.reduceLT, Int32.reduceLE, Int32.reduceAdd, Int32.reduceSub, pm_same, pm_i_wI, pm_l_wL, pm_l_wM, pm_oR_rf, pm_oQ_rf, nI_1, LQ1, LQ2, LQ5, sh_r38_4 hU, sh_k42 hU, sh_z42 hU, sh_r38_5 hU, sh_k43 hU, sh_z43 hU, sh_k38 hU, pr, nn, cj]
      repeat' (first | exact k3 | exact vj | refine ⟨vj, ?_⟩ | exact pv_W k3 (by simp [pv_le, pm_unk, show nI 0 = 0 from rfl]) | (refine pm_wb_ok pb_c87 1 _ 0 _ _ _ _ _ ?_; simp only [pm_WI0, pm_WI1, pm_WI2, pm_WI3, pm_WI4, pm_WI5, pm_WV, pm_WW, pm_WX, pb_B87, pm_if, pm_QI_at, pm_QL_at, pm_QV_at, pm_QR_at, pm_QR_at0, pm_QR_at1, Nat.reduceSub, Nat.reduceAdd, List.replicate_zero, List.replicate_succ, true_and, and_true, true_or, or_true, and_self, reduceIte, Nat.reduceEqDiff, Nat.reduceLT, Nat.reduceLeDiff, Nat.reduceMul, false_and, and_false, reduceCtorEq, false_or, or_false, not_true_eq_false, not_false_eq_true, true_implies, false_implies, implies_true, lf_10, eq_self, Int32.reduceLT, Int32.reduceLE, Int32.reduceAdd, Int32.reduceSub, pm_same, pm_i_wI, pm_l_wL, pm_l_wM, pm_oR_rf, pm_oQ_rf, nI_1, LQ1, LQ2, LQ5, sh_r38_4 hU, sh_k42 hU, sh_z42 hU, sh_r38_5 hU, sh_k43 hU, sh_z43 hU, sh_k38 hU, pr, nn, cj]) | fail)
  have key : pm_W G d 87 (pm_QV q) 11 [.ref 38, .ref 1, .int (nI M), .int (nI 0), .float 0] [] S 0 0 := by
    refine pv_while (fun x : Nat × pm_S => [.ref 38, .ref 1, .int (nI M), .int (nI x.1), .float 0]) (fun x => x.2) (fun x => x.1 ≤ M + 1 ∧ sc S x.2 ∧ ∀ u, u < x.1 → pm_i x.2 42 u = nI (T u)) (fun x => M + 1 - x.1) (fun x hP ih => ?_) (0, S) ⟨Nat.zero_le _, sc.rf, fun u hu => absurd hu (Nat.not_lt_zero u)⟩
    obtain ⟨i, U⟩ := x
    obtain ⟨hi, hs, ht⟩ := hP
    replace hi : i ≤ M + 1 := hi
    replace hs : sc S U := hs
    replace ht : ∀ u, u < i → pm_i U 42 u = nI (T u) := ht
    have hU := hs.sh hS
    show pm_W G d 87 (pm_QV q) 11 [.ref 38, .ref 1, .int (nI M), .int (nI i), .float 0] [] U 0 0
    by_cases c : i < M + 1
    · have hle : ¬ nI M < nI i := nI_nlt (by omega) (by omega)
      have ci := nI_clamp (n := i) (by omega)
      have vi := vp_in_nI (n := i) (N := 128) (by omega) (by decide)
      have u10 : pm_i U 1 0 = nI e := hs.c1_0.trans he
      have nx := ih (i + 1, pm_wI U 42 i (nI (T i))) ⟨c, hs.wI (by unfold sc_q; omega), fun u hu => by
        show pm_i (pm_wI U 42 i (nI (T i))) 42 u = _
        replace hu : u < i + 1 := hu
        rw [pm_i_wI]
        by_cases eu : u = i
        · rw [if_pos ⟨rfl, eu⟩, eu]
        · rw [if_neg (fun z => eu z.2)]; exact ht u (by omega)⟩ (by show M + 1 - (i + 1) < M + 1 - i; omega)
      try refine pm_wb_ok pb_c87 1 11 0 _ _ _ _ _ ?_
      try simp only [pm_WI0, pm_WI1, pm_WI2, pm_WI3, pm_WI4, pm_WI5, pm_WV, pm_WW, pm_WX, pb_B87, pm_if, pm_QI_at, pm_QL_at, pm_QV_at, pm_QR_at, pm_QR_at0, pm_QR_at1, Nat.reduceSub, Nat.reduceAdd, List.replicate_zero, List.replicate_succ, true_and, and_true, true_or, or_true, and_self, reduceIte, Nat.reduceEqDiff, Nat.reduceLT, Nat.reduceLeDiff, Nat.reduceMul, false_and, and_false, reduceCtorEq, false_or, or_false, not_true_eq_false, not_false_eq_true, true_implies, false_implies, implies_true, lf_10, eq_self, Int32.reduceLT, Int32.reduceLE, Int32.reduceAdd, Int32.reduceSub, pm_same, pm_i_wI, pm_l_wL, pm_l_wM, pm_oR_rf, pm_oQ_rf, nI_1, LQ1, LQ2, LQ5, sh_r38_4 hU, sh_k42 hU, sh_z42 hU, sh_r38_5 hU, sh_k43 hU, sh_z43 hU, sh_k38 hU, sh_k1 hU, hle, ci, u10]
      refine ⟨by omega, lf_88 (by omega) hU (hs.c38_0.trans h38) hN (by omega) (fun k hk => by rw [hs.r40]; exact hW k hk) ?_⟩
      try simp only [pm_WV, pm_WW, true_and, and_true, true_or, or_true, and_self, reduceIte, Nat.reduceEqDiff, Nat.reduceLT, Nat.reduceLeDiff, Nat.reduceMul, false_and, and_false, reduceCtorEq, false_or, or_false, not_true_eq_false, not_false_eq_true, true_implies, false_implies, implies_true, lf_10, eq_self, Int32.reduceLT, Int32.reduceLE, Int32.reduceAdd, Int32.reduceSub, pm_same, pm_i_wI, pm_l_wL, pm_l_wM, pm_oR_rf, pm_oQ_rf, nI_1, sw_e, LQ1, LQ2, pm_WI0, pm_WI1, pm_WI2, pm_WI3, pm_WI4, pm_WI5, pm_WV, pm_WW, pm_WX, pb_B87, pm_if, pm_QI_at, pm_QL_at, pm_QV_at, pm_QR_at, pm_QR_at0, pm_QR_at1, Nat.reduceSub, Nat.reduceAdd, List.replicate_zero, List.replicate_succ, true_and, and_true, true_or, or_true, and_self, reduceIte, Nat.reduceEqDiff, Nat.reduceLT, Nat.reduceLeDiff, Nat.reduceMul, false_and, and_false, reduceCtorEq, false_or, or_false, not_true_eq_false, not_false_eq_true, true_implies, false_implies, implies_true, lf_10, eq_self, Int32.reduceLT, Int32.reduceLE, Int32.reduceAdd, Int32.reduceSub, pm_same, pm_i_wI, pm_l_wL, pm_l_wM, pm_oR_rf, pm_oQ_rf, nI_1, LQ1, LQ2, LQ5, sh_r38_4 hU, sh_k42 hU, sh_z42 hU, sh_r38_5 hU, sh_k43 hU, sh_z43 hU, sh_k38 hU, sh_k1 hU, hle, ci, u10]
      refine ⟨by omega, lf_24 (by omega) hU (hs.c1_2.trans hn) hn2 rfl rfl (by omega) (by have := w63 i; omega) ?_⟩
      rw [hs.r2, ← hT i]
      try simp only [pm_WV, pm_WW, true_and, and_true, true_or, or_true, and_self, reduceIte, Nat.reduceEqDiff, Nat.reduceLT, Nat.reduceLeDiff, Nat.reduceMul, false_and, and_false, reduceCtorEq, false_or, or_false, not_true_eq_false, not_false_eq_true, true_implies, false_implies, implies_true, lf_10, eq_self, Int32.reduceLT, Int32.reduceLE, Int32.reduceAdd, Int32.reduceSub, pm_same, pm_i_wI, pm_l_wL, pm_l_wM, pm_oR_rf, pm_oQ_rf, nI_1, sw_e, LQ1, LQ2, pm_WI0, pm_WI1, pm_WI2, pm_WI3, pm_WI4, pm_WI5, pm_WV, pm_WW, pm_WX, pb_B87, pm_if, pm_QI_at, pm_QL_at, pm_QV_at, pm_QR_at, pm_QR_at0, pm_QR_at1, Nat.reduceSub, Nat.reduceAdd, List.replicate_zero, List.replicate_succ, true_and, and_true, true_or, or_true, and_self, reduceIte, Nat.reduceEqDiff, Nat.reduceLT, Nat.reduceLeDiff, Nat.reduceMul, false_and, and_false, reduceCtorEq, false_or, or_false, not_true_eq_false, not_false_eq_true, true_implies, false_implies, implies_true, lf_10, eq_self, Int32.reduceLT, Int32.reduceLE, Int32.reduceAdd, Int32.reduceSub, pm_same, pm_i_wI, pm_l_wL, pm_l_wM, pm_oR_rf, pm_oQ_rf, nI_1, LQ1, LQ2, LQ5, sh_r38_4 hU, sh_k42 hU, sh_z42 hU, sh_r38_5 hU, sh_k43 hU, sh_z43 hU, sh_k38 hU, sh_k1 hU, hle, ci, u10]
      repeat' (first | exact nx | exact vi | refine ⟨vi, ?_⟩ | (refine pm_wb_ok pb_c87 1 _ 0 _ _ _ _ _ ?_; simp only [pm_WI0, pm_WI1, pm_WI2, pm_WI3, pm_WI4, pm_WI5, pm_WV, pm_WW, pm_WX, pb_B87, pm_if, pm_QI_at, pm_QL_at, pm_QV_at, pm_QR_at, pm_QR_at0, pm_QR_at1, Nat.reduceSub, Nat.reduceAdd, List.replicate_zero, List.replicate_succ, true_and, and_true, true_or, or_true, and_self, reduceIte, Nat.reduceEqDiff, Nat.reduceLT, Nat.reduceLeDiff, Nat.reduceMul, false_and, and_false, reduceCtorEq, false_or, or_false, not_true_eq_false, not_false_eq_true, true_implies, false_implies, implies_true, lf_10, eq_self, Int32.reduceLT, Int32.reduceLE, Int32.reduceAdd, Int32.reduceSub, pm_same, pm_i_wI, pm_l_wL, pm_l_wM, pm_oR_rf, pm_oQ_rf, nI_1, LQ1, LQ2, LQ5, sh_r38_4 hU, sh_k42 hU, sh_z42 hU, sh_r38_5 hU, sh_k43 hU, sh_z43 hU, sh_k38 hU, sh_k1 hU, hle, ci, u10]) | fail)
    · have hlt : nI M < nI i := nI_lt (by omega) (by omega)
      have k2 := key2 (pm_wL U 43 M 0) (hs.wL (by unfold sc_l; omega)) (fun u hu => ht u (by omega)) (by rw [pm_l_wL, if_pos ⟨rfl, rfl⟩]; rfl)
      try refine pm_wb_ok pb_c87 1 11 0 _ _ _ _ _ ?_
      try simp only [pm_WI0, pm_WI1, pm_WI2, pm_WI3, pm_WI4, pm_WI5, pm_WV, pm_WW, pm_WX, pb_B87, pm_if, pm_QI_at, pm_QL_at, pm_QV_at, pm_QR_at, pm_QR_at0, pm_QR_at1, Nat.reduceSub, Nat.reduceAdd, List.replicate_zero, List.replicate_succ, true_and, and_true, true_or, or_true, and_self, reduceIte, Nat.reduceEqDiff, Nat.reduceLT, Nat.reduceLeDiff, Nat.reduceMul, false_and, and_false, reduceCtorEq, false_or, or_false, not_true_eq_false, not_false_eq_true, true_implies, false_implies, implies_true, lf_10, eq_self, Int32.reduceLT, Int32.reduceLE, Int32.reduceAdd, Int32.reduceSub, pm_same, pm_i_wI, pm_l_wL, pm_l_wM, pm_oR_rf, pm_oQ_rf, nI_1, LQ1, LQ2, LQ5, sh_r38_4 hU, sh_k42 hU, sh_z42 hU, sh_r38_5 hU, sh_k43 hU, sh_z43 hU, sh_k38 hU, hlt, cM]
      repeat' (first | exact k2 | exact vM | refine ⟨vM, ?_⟩ | exact pv_W k2 (by simp [pv_le, pm_unk]) | (refine pm_wb_ok pb_c87 1 _ 0 _ _ _ _ _ ?_; simp only [pm_WI0, pm_WI1, pm_WI2, pm_WI3, pm_WI4, pm_WI5, pm_WV, pm_WW, pm_WX, pb_B87, pm_if, pm_QI_at, pm_QL_at, pm_QV_at, pm_QR_at, pm_QR_at0, pm_QR_at1, Nat.reduceSub, Nat.reduceAdd, List.replicate_zero, List.replicate_succ, true_and, and_true, true_or, or_true, and_self, reduceIte, Nat.reduceEqDiff, Nat.reduceLT, Nat.reduceLeDiff, Nat.reduceMul, false_and, and_false, reduceCtorEq, false_or, or_false, not_true_eq_false, not_false_eq_true, true_implies, false_implies, implies_true, lf_10, eq_self, Int32.reduceLT, Int32.reduceLE, Int32.reduceAdd, Int32.reduceSub, pm_same, pm_i_wI, pm_l_wL, pm_l_wM, pm_oR_rf, pm_oQ_rf, nI_1, LQ1, LQ2, LQ5, sh_r38_4 hU, sh_k42 hU, sh_z42 hU, sh_r38_5 hU, sh_k43 hU, sh_z43 hU, sh_k38 hU, hlt, cM]) | fail)
  refine pm_goV 87 1 pb_c87 (by decide) (Nat.le_of_ble_eq_true rfl) rfl ?_
  try simp only [show pm_mL 87 = 5 from rfl, pm_WI0, pm_WI1, pm_WI2, pm_WI3, pm_WI4, pm_WI5, pm_WV, pm_WW, pm_WX, pb_B87, pm_if, pm_QI_at, pm_QL_at, pm_QV_at, pm_QR_at, pm_QR_at0, pm_QR_at1, Nat.reduceSub, Nat.reduceAdd, List.replicate_zero, List.replicate_succ, true_and, and_true, true_or, or_true, and_self, reduceIte, Nat.reduceEqDiff, Nat.reduceLT, Nat.reduceLeDiff, Nat.reduceMul, false_and, and_false, reduceCtorEq, false_or, or_false, not_true_eq_false, not_false_eq_true, true_implies, false_implies, implies_true, lf_10, eq_self, Int32.reduceLT, Int32.reduceLE, Int32.reduceAdd, Int32.reduceSub, pm_same, pm_i_wI, pm_l_wL, pm_l_wM, pm_oR_rf, pm_oQ_rf, nI_1, LQ1, LQ2, LQ5, sh_r38_4 hS, sh_k42 hS, sh_z42 hS, sh_r38_5 hS, sh_k43 hS, sh_z43 hS, sh_k38 hS, h38, sN, sM]
  repeat' (first | exact key | exact pv_W key (by simp [pv_le, pm_unk, show nI 0 = 0 from rfl]) | (refine pm_wb_ok pb_c87 1 _ 0 _ _ _ _ _ ?_; simp only [pm_WI0, pm_WI1, pm_WI2, pm_WI3, pm_WI4, pm_WI5, pm_WV, pm_WW, pm_WX, pb_B87, pm_if, pm_QI_at, pm_QL_at, pm_QV_at, pm_QR_at, pm_QR_at0, pm_QR_at1, Nat.reduceSub, Nat.reduceAdd, List.replicate_zero, List.replicate_succ, true_and, and_true, true_or, or_true, and_self, reduceIte, Nat.reduceEqDiff, Nat.reduceLT, Nat.reduceLeDiff, Nat.reduceMul, false_and, and_false, reduceCtorEq, false_or, or_false, not_true_eq_false, not_false_eq_true, true_implies, false_implies, implies_true, lf_10, eq_self, Int32.reduceLT, Int32.reduceLE, Int32.reduceAdd, Int32.reduceSub, pm_same, pm_i_wI, pm_l_wL, pm_l_wM, pm_oR_rf, pm_oQ_rf, nI_1, LQ1, LQ2, LQ5, sh_r38_4 hS, sh_k42 hS, sh_z42 hS, sh_r38_5 hS, sh_k43 hS, sh_z43 hS, sh_k38 hS, h38, sN, sM]) | fail)
