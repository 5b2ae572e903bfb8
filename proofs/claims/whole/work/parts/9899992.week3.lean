/-! week by the model: the search -/
def bo_X (N : Nat) (S : pm_S) : bo_B → Prop
  | none => pm_i S 59 82 = -1
  | some b => b.1 / 4294967296 < 2 ^ 16 ∧ b.1 % 4294967296 < 2 ^ 31 ∧ pm_i S 59 82 = nI (b.1 / 4294967296) ∧ pm_i S 59 83 = nI (b.1 % 4294967296) ∧ ∀ i, i < N → pm_i S 111 i = nI (b.2 i)
def bo_e (t : Nat → Nat) (P : Nat) : Nat → Bool
  | 0 => false
  | i + 1 => bo_e t P i || decide (t i = P)
theorem bo_e_iff {t : Nat → Nat} {P : Nat} : ∀ k, bo_e t P k = true ↔ ∃ i, i < k ∧ t i = P
  | 0 => ⟨fun h => (by cases h), fun ⟨i, h, _⟩ => absurd h (Nat.not_lt_zero i)⟩
  | k + 1 => by
    have ih := bo_e_iff (t := t) (P := P) k
    unfold bo_e
    rw [Bool.or_eq_true, decide_eq_true_eq, ih]
    constructor
    · intro h
      rcases h with ⟨i, h1, h2⟩ | h
      · exact ⟨i, by omega, h2⟩
      · exact ⟨k, by omega, h⟩
    · intro ⟨i, h1, h2⟩
      by_cases e : i = k
      · exact Or.inr (by rw [← e]; exact h2)
      · exact Or.inl ⟨i, by omega, h2⟩
/-- what the search stands on -/
def bo_M (S : pm_S) (N n e : Nat) (f g T : Nat → Nat) : Prop :=
  (Sh S ∧ N ≤ 7 ∧ n ≤ 20 ∧ e < 2 ^ 14) ∧ (pm_i S 59 41 = nI N ∧ pm_i S 59 2 = nI n) ∧ (∀ k, k < N → pm_i S 90 k = nI (f k) ∧ 1 ≤ f k ∧ f k ≤ 9) ∧ (∀ k, k < N → pm_i S 91 k = nI (g k) ∧ g k ≤ 9999) ∧ ∀ u, T u = wd (pm_i S 60) n e (bo_w f u N)
/-- the checks at its start -/
theorem mo_249p {G : pm_G} {d k a mi ov N : Nat} {B : bo_B} {S : pm_S} {q : pm_S → Prop} (hS : Sh S) (hB : bo_X N S B) (hm : mi < 2 ^ 16) (ho : ov < 2 ^ 31) (h1 : bo_pr B (4294967296 * mi + ov) = true → q S)
    (h0 : bo_pr B (4294967296 * mi + ov) = false → pm_W G d 249 (pm_QV q) 33 [.ref 59, .int (nI k), .int (nI a), .int (nI mi), .int (nI ov), .float 0, .float 0, .float 0, .float 0] [] S 0 0) : pm_CV G d 249 [.ref 59, .int (nI k), .int (nI a), .int (nI mi), .int (nI ov)] S q := by
  cases B with
  | none =>
    have h82 : pm_i S 59 82 = -1 := hB
    have fin := h0 rfl
    have m1 : (-1 : Int32) < 0 := by decide
    refine pm_goV 249 1 pb_c249 (by decide) (Nat.le_of_ble_eq_true rfl) rfl ?_
    try simp only [show pm_mL 249 = 9 from rfl, pm_WI0, pm_WI1, pm_WI2, pm_WI3, pm_WI4, pm_WI5, pm_WV, pm_WW, pm_WX, pb_B249, pm_if, pm_QI_at, pm_QL_at, pm_QV_at, pm_QR_at, pm_QR_at0, pm_QR_at1, Nat.reduceSub, Nat.reduceAdd, List.replicate_zero, List.replicate_succ, true_and, and_true, true_or, or_true, and_self, reduceIte, Nat.reduceEqDiff, Nat.reduceLT, Nat.reduceLeDiff, Nat.reduceMul, false_and, and_false, reduceCtorEq, false_or, or_false, not_true_eq_false, not_false_eq_true, true_implies, false_implies, implies_true, lf_10, eq_self, Int32.reduceLT, Int32.reduceLE, Int32.reduceAdd, Int32.reduceSub, pm_same, pm_i_wI, pm_l_wL, pm_l_wM, pm_oR_rf, pm_oQ_rf, nI_1, LQ1, LQ2, LQ5, sh_k59 hS, sh_k90 hS, sh_k91 hS, sh_k110 hS, sh_k111 hS, sh_z90 hS, sh_z91 hS, sh_z110 hS, sh_z111 hS, sh_r59_39 hS, sh_r59_40 hS, sh_r59_80 hS, sh_r59_81 hS, h82, m1]
    repeat' (first | exact fin | (refine pm_wb_ok pb_c249 1 _ 0 _ _ _ _ _ ?_; simp only [pm_WI0, pm_WI1, pm_WI2, pm_WI3, pm_WI4, pm_WI5, pm_WV, pm_WW, pm_WX, pb_B249, pm_if, pm_QI_at, pm_QL_at, pm_QV_at, pm_QR_at, pm_QR_at0, pm_QR_at1, Nat.reduceSub, Nat.reduceAdd, List.replicate_zero, List.replicate_succ, true_and, and_true, true_or, or_true, and_self, reduceIte, Nat.reduceEqDiff, Nat.reduceLT, Nat.reduceLeDiff, Nat.reduceMul, false_and, and_false, reduceCtorEq, false_or, or_false, not_true_eq_false, not_false_eq_true, true_implies, false_implies, implies_true, lf_10, eq_self, Int32.reduceLT, Int32.reduceLE, Int32.reduceAdd, Int32.reduceSub, pm_same, pm_i_wI, pm_l_wL, pm_l_wM, pm_oR_rf, pm_oQ_rf, nI_1, LQ1, LQ2, LQ5, sh_k59 hS, sh_k90 hS, sh_k91 hS, sh_k110 hS, sh_k111 hS, sh_z90 hS, sh_z91 hS, sh_z110 hS, sh_z111 hS, sh_r59_39 hS, sh_r59_40 hS, sh_r59_80 hS, sh_r59_81 hS, h82, m1]) | fail)
  | some b =>
    obtain ⟨b1, b2, h82, h83, _⟩ := hB
    have n0 : ¬ nI (b.1 / 4294967296) < 0 := nI_pos (by omega)
    have hpr : bo_pr (some b) (4294967296 * mi + ov) = decide (b.1 ≤ 4294967296 * mi + ov) := rfl
    rw [hpr] at h1 h0
    have bd := Nat.div_add_mod b.1 4294967296
    generalize b.1 / 4294967296 = x at *
    generalize b.1 % 4294967296 = y at *
    by_cases c1 : x < mi
    · have g1 : nI x < nI mi := nI_lt c1 (by omega)
      have fin := h1 (decide_eq_true (by omega))
      refine pm_goV 249 1 pb_c249 (by decide) (Nat.le_of_ble_eq_true rfl) rfl ?_
      try simp only [show pm_mL 249 = 9 from rfl, pm_WI0, pm_WI1, pm_WI2, pm_WI3, pm_WI4, pm_WI5, pm_WV, pm_WW, pm_WX, pb_B249, pm_if, pm_QI_at, pm_QL_at, pm_QV_at, pm_QR_at, pm_QR_at0, pm_QR_at1, Nat.reduceSub, Nat.reduceAdd, List.replicate_zero, List.replicate_succ, true_and, and_true, true_or, or_true, and_self, reduceIte, Nat.reduceEqDiff, Nat.reduceLT, Nat.reduceLeDiff, Nat.reduceMul, false_and, and_false, reduceCtorEq, false_or, or_false, not_true_eq_false, not_false_eq_true, true_implies, false_implies, implies_true, lf_10, eq_self, Int32.reduceLT, Int32.reduceLE, Int32.reduceAdd, Int32.reduceSub, pm_same, pm_i_wI, pm_l_wL, pm_l_wM, pm_oR_rf, pm_oQ_rf, nI_1, LQ1, LQ2, LQ5, sh_k59 hS, sh_k90 hS, sh_k91 hS, sh_k110 hS, sh_k111 hS, sh_z90 hS, sh_z91 hS, sh_z110 hS, sh_z111 hS, sh_r59_39 hS, sh_r59_40 hS, sh_r59_80 hS, sh_r59_81 hS, h82, n0, g1]
      repeat' (first | exact fin | (refine pm_wb_ok pb_c249 1 _ 0 _ _ _ _ _ ?_; simp only [pm_WI0, pm_WI1, pm_WI2, pm_WI3, pm_WI4, pm_WI5, pm_WV, pm_WW, pm_WX, pb_B249, pm_if, pm_QI_at, pm_QL_at, pm_QV_at, pm_QR_at, pm_QR_at0, pm_QR_at1, Nat.reduceSub, Nat.reduceAdd, List.replicate_zero, List.replicate_succ, true_and, and_true, true_or, or_true, and_self, reduceIte, Nat.reduceEqDiff, Nat.reduceLT, Nat.reduceLeDiff, Nat.reduceMul, false_and, and_false, reduceCtorEq, false_or, or_false, not_true_eq_false, not_false_eq_true, true_implies, false_implies, implies_true, lf_10, eq_self, Int32.reduceLT, Int32.reduceLE, Int32.reduceAdd, Int32.reduceSub, pm_same, pm_i_wI, pm_l_wL, pm_l_wM, pm_oR_rf, pm_oQ_rf, nI_1, LQ1, LQ2, LQ5, sh_k59 hS, sh_k90 hS, sh_k91 hS, sh_k110 hS, sh_k111 hS, sh_z90 hS, sh_z91 hS, sh_z110 hS, sh_z111 hS, sh_r59_39 hS, sh_r59_40 hS, sh_r59_80 hS, sh_r59_81 hS, h82, n0, g1]) | fail)
    · have g1 : ¬ nI x < nI mi := nI_nlt (by omega) (by omega)
      by_cases c2 : mi = x
      · subst c2
        by_cases c3 : ov < y
        · have g3 : nI ov < nI y := nI_lt c3 (by omega)
          have fin := h0 (decide_eq_false (by omega))
          refine pm_goV 249 1 pb_c249 (by decide) (Nat.le_of_ble_eq_true rfl) rfl ?_
          try simp only [show pm_mL 249 = 9 from rfl, pm_WI0, pm_WI1, pm_WI2, pm_WI3, pm_WI4, pm_WI5, pm_WV, pm_WW, pm_WX, pb_B249, pm_if, pm_QI_at, pm_QL_at, pm_QV_at, pm_QR_at, pm_QR_at0, pm_QR_at1, Nat.reduceSub, Nat.reduceAdd, List.replicate_zero, List.replicate_succ, true_and, and_true, true_or, or_true, and_self, reduceIte, Nat.reduceEqDiff, Nat.reduceLT, Nat.reduceLeDiff, Nat.reduceMul, false_and, and_false, reduceCtorEq, false_or, or_false, not_true_eq_false, not_false_eq_true, true_implies, false_implies, implies_true, lf_10, eq_self, Int32.reduceLT, Int32.reduceLE, Int32.reduceAdd, Int32.reduceSub, pm_same, pm_i_wI, pm_l_wL, pm_l_wM, pm_oR_rf, pm_oQ_rf, nI_1, LQ1, LQ2, LQ5, sh_k59 hS, sh_k90 hS, sh_k91 hS, sh_k110 hS, sh_k111 hS, sh_z90 hS, sh_z91 hS, sh_z110 hS, sh_z111 hS, sh_r59_39 hS, sh_r59_40 hS, sh_r59_80 hS, sh_r59_81 hS, h82, h83, n0, g1, g3]
          repeat' (first | exact fin | (refine pm_wb_ok pb_c249 1 _ 0 _ _ _ _ _ ?_; simp only [pm_WI0, pm_WI1, pm_WI2, pm_WI3, pm_WI4, pm_WI5, pm_WV, pm_WW, pm_WX, pb_B249, pm_if, pm_QI_at, pm_QL_at, pm_QV_at, pm_QR_at, pm_QR_at0, pm_QR_at1, Nat.reduceSub, Nat.reduceAdd, List.replicate_zero, List.replicate_succ, true_and, and_true, true_or, or_true, and_self, reduceIte, Nat.reduceEqDiff, Nat.reduceLT, Nat.reduceLeDiff, Nat.reduceMul, false_and, and_false, reduceCtorEq, false_or, or_false, not_true_eq_false, not_false_eq_true, true_implies, false_implies, implies_true, lf_10, eq_self, Int32.reduceLT, Int32.reduceLE, Int32.reduceAdd, Int32.reduceSub, pm_same, pm_i_wI, pm_l_wL, pm_l_wM, pm_oR_rf, pm_oQ_rf, nI_1, LQ1, LQ2, LQ5, sh_k59 hS, sh_k90 hS, sh_k91 hS, sh_k110 hS, sh_k111 hS, sh_z90 hS, sh_z91 hS, sh_z110 hS, sh_z111 hS, sh_r59_39 hS, sh_r59_40 hS, sh_r59_80 hS, sh_r59_81 hS, h82, h83, n0, g1, g3]) | fail)
        · have g3 : ¬ nI ov < nI y := nI_nlt (by omega) (by omega)
          have fin := h1 (decide_eq_true (by omega))
          refine pm_goV 249 1 pb_c249 (by decide) (Nat.le_of_ble_eq_true rfl) rfl ?_
          try simp only [show pm_mL 249 = 9 from rfl, pm_WI0, pm_WI1, pm_WI2, pm_WI3, pm_WI4, pm_WI5, pm_WV, pm_WW, pm_WX, pb_B249, pm_if, pm_QI_at, pm_QL_at, pm_QV_at, pm_QR_at, pm_QR_at0, pm_QR_at1, Nat.reduceSub, Nat.reduceAdd, List.replicate_zero, List.replicate_succ, true_and, and_true, true_or, or_true, and_self, reduceIte, Nat.reduceEqDiff, Nat.reduceLT, Nat.reduceLeDiff, Nat.reduceMul, false_and, and_false, reduceCtorEq, false_or, or_false, not_true_eq_false, not_false_eq_true, true_implies, false_implies, implies_true, lf_10, eq_self, Int32.reduceLT, Int32.reduceLE, Int32.reduceAdd, Int32.reduceSub, pm_same, pm_i_wI, pm_l_wL, pm_l_wM, pm_oR_rf, pm_oQ_rf, nI_1, LQ1, LQ2, LQ5, sh_k59 hS, sh_k90 hS, sh_k91 hS, sh_k110 hS, sh_k111 hS, sh_z90 hS, sh_z91 hS, sh_z110 hS, sh_z111 hS, sh_r59_39 hS, sh_r59_40 hS, sh_r59_80 hS, sh_r59_81 hS, h82, h83, n0, g1, g3]
          repeat' (first | exact fin | (refine pm_wb_ok pb_c249 1 _ 0 _ _ _ _ _ ?_; simp only [pm_WI0, pm_WI1, pm_WI2, pm_WI3, pm_WI4, pm_WI5, pm_WV, pm_WW, pm_WX, pb_B249, pm_if, pm_QI_at, pm_QL_at, pm_QV_at, pm_QR_at, pm_QR_at0, pm_QR_at1, Nat.reduceSub, Nat.reduceAdd, List.replicate_zero, List.replicate_succ, true_and, and_true, true_or, or_true, and_self, reduceIte, Nat.reduceEqDiff, Nat.reduceLT, Nat.reduceLeDiff, Nat.reduceMul, false_and, and_false, reduceCtorEq, false_or, or_false, not_true_eq_false, not_false_eq_true, true_implies, false_implies, implies_true, lf_10, eq_self, Int32.reduceLT, Int32.reduceLE, Int32.reduceAdd, Int32.reduceSub, pm_same, pm_i_wI, pm_l_wL, pm_l_wM, pm_oR_rf, pm_oQ_rf, nI_1, LQ1, LQ2, LQ5, sh_k59 hS, sh_k90 hS, sh_k91 hS, sh_k110 hS, sh_k111 hS, sh_z90 hS, sh_z91 hS, sh_z110 hS, sh_z111 hS, sh_r59_39 hS, sh_r59_40 hS, sh_r59_80 hS, sh_r59_81 hS, h82, h83, n0, g1, g3]) | fail)
      · have g2 : ¬ nI mi = nI x := fun z => c2 ((nI_eq (by omega) (by omega)).mp z)
        have fin := h0 (decide_eq_false (by omega))
        refine pm_goV 249 1 pb_c249 (by decide) (Nat.le_of_ble_eq_true rfl) rfl ?_
        try simp only [show pm_mL 249 = 9 from rfl, pm_WI0, pm_WI1, pm_WI2, pm_WI3, pm_WI4, pm_WI5, pm_WV, pm_WW, pm_WX, pb_B249, pm_if, pm_QI_at, pm_QL_at, pm_QV_at, pm_QR_at, pm_QR_at0, pm_QR_at1, Nat.reduceSub, Nat.reduceAdd, List.replicate_zero, List.replicate_succ, true_and, and_true, true_or, or_true, and_self, reduceIte, Nat.reduceEqDiff, Nat.reduceLT, Nat.reduceLeDiff, Nat.reduceMul, false_and, and_false, reduceCtorEq, false_or, or_false, not_true_eq_false, not_false_eq_true, true_implies, false_implies, implies_true, lf_10, eq_self, Int32.reduceLT, Int32.reduceLE, Int32.reduceAdd, Int32.reduceSub, pm_same, pm_i_wI, pm_l_wL, pm_l_wM, pm_oR_rf, pm_oQ_rf, nI_1, LQ1, LQ2, LQ5, sh_k59 hS, sh_k90 hS, sh_k91 hS, sh_k110 hS, sh_k111 hS, sh_z90 hS, sh_z91 hS, sh_z110 hS, sh_z111 hS, sh_r59_39 hS, sh_r59_40 hS, sh_r59_80 hS, sh_r59_81 hS, h82, n0, g1, g2]
        repeat' (first | exact fin | (refine pm_wb_ok pb_c249 1 _ 0 _ _ _ _ _ ?_; simp only [pm_WI0, pm_WI1, pm_WI2, pm_WI3, pm_WI4, pm_WI5, pm_WV, pm_WW, pm_WX, pb_B249, pm_if, pm_QI_at, pm_QL_at, pm_QV_at, pm_QR_at, pm_QR_at0, pm_QR_at1, Nat.reduceSub, Nat.reduceAdd, List.replicate_zero, List.replicate_succ, true_and, and_true, true_or, or_true, and_self, reduceIte, Nat.reduceEqDiff, Nat.reduceLT, Nat.reduceLeDiff, Nat.reduceMul, false_and, and_false, reduceCtorEq, false_or, or_false, not_true_eq_false, not_false_eq_true, true_implies, false_implies, implies_true, lf_10, eq_self, Int32.reduceLT, Int32.reduceLE, Int32.reduceAdd, Int32.reduceSub, pm_same, pm_i_wI, pm_l_wL, pm_l_wM, pm_oR_rf, pm_oQ_rf, nI_1, LQ1, LQ2, LQ5, sh_k59 hS, sh_k90 hS, sh_k91 hS, sh_k110 hS, sh_k111 hS, sh_z90 hS, sh_z91 hS, sh_z110 hS, sh_z111 hS, sh_r59_39 hS, sh_r59_40 hS, sh_r59_80 hS, sh_r59_81 hS, h82, n0, g1, g2]) | fail)
/-- a whole order is kept -/
theorem mo_249b {G : pm_G} {d a mi ov N : Nat} {t : Nat → Nat} {S0 S : pm_S} {q : pm_S → Prop} (hS0 : Sh S0) (hs : sc S0 S) (hN : N ≤ 7) (h41 : pm_i S0 59 41 = nI N) (hm : mi < 2 ^ 16) (ho : ov < 2 ^ 31) (ht : ∀ i, i < N → pm_i S 110 i = nI (t i))
    (h : ∀ U, sc S0 U → (∀ i, i < N → pm_i U 110 i = nI (t i)) → bo_X N U (some (4294967296 * mi + ov, t)) → q U) : pm_W G d 249 (pm_QV q) 33 [.ref 59, .int (nI N), .int (nI a), .int (nI mi), .int (nI ov), .float 0, .float 0, .float 0, .float 0] [] S 0 0 := by
  have hS := hs.sh hS0
  have s41 := hs.m41.trans h41
  have sU : sc S0 (pm_wI (pm_wI S 59 82 (nI mi)) 59 83 (nI ov)) := (hs.wI (by unfold sc_q; omega)).wI (by unfold sc_q; omega)
  have key : pm_W G d 249 (pm_QV q) 55 [.ref 59, .int (nI N), .int (nI a), .int (nI mi), .int (nI ov), .int (nI 0), .float 0, .float 0, .float 0] [] (pm_wI (pm_wI S 59 82 (nI mi)) 59 83 (nI ov)) 0 0 := by
    refine pv_while (fun x : Nat × pm_S => [.ref 59, .int (nI N), .int (nI a), .int (nI mi), .int (nI ov), .int (nI x.1), .float 0, .float 0, .float 0]) (fun x => x.2) (fun x => x.1 ≤ N ∧ sc S0 x.2 ∧ (pm_i x.2 59 82 = nI mi ∧ pm_i x.2 59 83 = nI ov) ∧ (∀ i, i < N → pm_i x.2 110 i = nI (t i)) ∧ ∀ i, i < x.1 → pm_i x.2 111 i = nI (t i)) (fun x => N - x.1) (fun x hP ih => ?_) (0, _) ⟨Nat.zero_le _, sU, ⟨by
      show pm_i (pm_wI (pm_wI S 59 82 (nI mi)) 59 83 (nI ov)) 59 82 = _
      rw [pm_i_wI, if_neg (by omega), pm_i_wI, if_pos ⟨rfl, rfl⟩], by
      show pm_i (pm_wI (pm_wI S 59 82 (nI mi)) 59 83 (nI ov)) 59 83 = _
      rw [pm_i_wI, if_pos ⟨rfl, rfl⟩]⟩, fun i hi => by
      show pm_i (pm_wI (pm_wI S 59 82 (nI mi)) 59 83 (nI ov)) 110 i = _
      rw [pm_i_wI, if_neg (by omega), pm_i_wI, if_neg (by omega)]; exact ht i hi, fun i hi => absurd hi (Nat.not_lt_zero i)⟩
    obtain ⟨i, U⟩ := x
    obtain ⟨hi, hsU, ⟨m82, m83⟩, htU, hbU⟩ := hP
    replace hi : i ≤ N := hi
    replace hsU : sc S0 U := hsU
    replace m82 : pm_i U 59 82 = nI mi := m82
    replace m83 : pm_i U 59 83 = nI ov := m83
    replace htU : ∀ i, i < N → pm_i U 110 i = nI (t i) := htU
    replace hbU : ∀ j, j < i → pm_i U 111 j = nI (t j) := hbU
    have hU := hsU.sh hS0
    have u41 := hsU.m41.trans h41
    show pm_W G d 249 (pm_QV q) 55 [.ref 59, .int (nI N), .int (nI a), .int (nI mi), .int (nI ov), .int (nI i), .float 0, .float 0, .float 0] [] U 0 0
    by_cases c : i < N
    · have hle : ¬ nI N ≤ nI i := nI_ge c (by omega)
      have ci := nI_clamp (n := i) (by omega)
      have vi := vp_in_nI (n := i) (N := 7) (by omega) (by decide)
      have ui := htU i c
      have nx := ih (i + 1, pm_wI U 111 i (nI (t i))) ⟨c, hsU.wI (by unfold sc_q; omega), ⟨by
        show pm_i (pm_wI U 111 i (nI (t i))) 59 82 = _
        rw [pm_i_wI, if_neg (by omega)]; exact m82, by
        show pm_i (pm_wI U 111 i (nI (t i))) 59 83 = _
        rw [pm_i_wI, if_neg (by omega)]; exact m83⟩, fun j hj => by
        show pm_i (pm_wI U 111 i (nI (t i))) 110 j = _
        rw [pm_i_wI, if_neg (by omega)]; exact htU j hj, fun j hj => by
        replace hj : j < i + 1 := hj
        show pm_i (pm_wI U 111 i (nI (t i))) 111 j = _
        rw [pm_i_wI]
        by_cases e : j = i
        · rw [if_pos ⟨rfl, e⟩, e]
        · rw [if_neg (fun z => e z.2)]; exact hbU j (by omega)⟩ (by show N - (i + 1) < N - i; omega)
      try refine pm_wb_ok pb_c249 1 55 0 _ _ _ _ _ ?_
      try simp only [pm_WI0, pm_WI1, pm_WI2, pm_WI3, pm_WI4, pm_WI5, pm_WV, pm_WW, pm_WX, pb_B249, pm_if, pm_QI_at, pm_QL_at, pm_QV_at, pm_QR_at, pm_QR_at0, pm_QR_at1, Nat.reduceSub, Nat.reduceAdd, List.replicate_zero, List.replicate_succ, true_and, and_true, true_or, or_true, and_self, reduceIte, Nat.reduceEqDiff, Nat.reduceLT, Nat.reduceLeDiff, Nat.reduceMul, false_and, and_false, reduceCtorEq, false_or, or_false, not_true_eq_false, not_false_eq_true, true_implies, false_implies, implies_true, lf_10, eq_self, Int32.reduceLT, Int32.reduceLE, Int32.reduceAdd, Int32.reduceSub, pm_same, pm_i_wI, pm_l_wL, pm_l_wM, pm_oR_rf, pm_oQ_rf, nI_1, LQ1, LQ2, LQ5, sh_k59 hU, sh_k90 hU, sh_k91 hU, sh_k110 hU, sh_k111 hU, sh_z90 hU, sh_z91 hU, sh_z110 hU, sh_z111 hU, sh_r59_39 hU, sh_r59_40 hU, sh_r59_80 hU, sh_r59_81 hU, u41, hle, ci, ui]
      repeat' (first | exact nx | exact vi | refine ⟨vi, ?_⟩ | (refine pm_wb_ok pb_c249 1 _ 0 _ _ _ _ _ ?_; simp only [pm_WI0, pm_WI1, pm_WI2, pm_WI3, pm_WI4, pm_WI5, pm_WV, pm_WW, pm_WX, pb_B249, pm_if, pm_QI_at, pm_QL_at, pm_QV_at, pm_QR_at, pm_QR_at0, pm_QR_at1, Nat.reduceSub, Nat.reduceAdd, List.replicate_zero, List.replicate_succ, true_and, and_true, true_or, or_true, and_self, reduceIte, Nat.reduceEqDiff, Nat.reduceLT, Nat.reduceLeDiff, Nat.reduceMul, false_and, and_false, reduceCtorEq, false_or, or_false, not_true_eq_false, not_false_eq_true, true_implies, false_implies, implies_true, lf_10, eq_self, Int32.reduceLT, Int32.reduceLE, Int32.reduceAdd, Int32.reduceSub, pm_same, pm_i_wI, pm_l_wL, pm_l_wM, pm_oR_rf, pm_oQ_rf, nI_1, LQ1, LQ2, LQ5, sh_k59 hU, sh_k90 hU, sh_k91 hU, sh_k110 hU, sh_k111 hU, sh_z90 hU, sh_z91 hU, sh_z110 hU, sh_z111 hU, sh_r59_39 hU, sh_r59_40 hU, sh_r59_80 hU, sh_r59_81 hU, u41, hle, ci, ui]) | fail)
    · have e : i = N := by omega
      subst e
      have hle : nI i ≤ nI i := Int32.le_refl _
      have fin := h U hsU htU ⟨by show (4294967296 * mi + ov) / 4294967296 < 2 ^ 16; omega, by show (4294967296 * mi + ov) % 4294967296 < 2 ^ 31; omega, by
        show pm_i U 59 82 = nI ((4294967296 * mi + ov) / 4294967296)
        rw [m82, show (4294967296 * mi + ov) / 4294967296 = mi by omega], by
        show pm_i U 59 83 = nI ((4294967296 * mi + ov) % 4294967296)
        rw [m83, show (4294967296 * mi + ov) % 4294967296 = ov by omega], hbU⟩
      try refine pm_wb_ok pb_c249 1 55 0 _ _ _ _ _ ?_
      try simp only [pm_WI0, pm_WI1, pm_WI2, pm_WI3, pm_WI4, pm_WI5, pm_WV, pm_WW, pm_WX, pb_B249, pm_if, pm_QI_at, pm_QL_at, pm_QV_at, pm_QR_at, pm_QR_at0, pm_QR_at1, Nat.reduceSub, Nat.reduceAdd, List.replicate_zero, List.replicate_succ, true_and, and_true, true_or, or_true, and_self, reduceIte, Nat.reduceEqDiff, Nat.reduceLT, Nat.reduceLeDiff, Nat.reduceMul, false_and, and_false, reduceCtorEq, false_or, or_false, not_true_eq_false, not_false_eq_true, true_implies, false_implies, implies_true, lf_10, eq_self, Int32.reduceLT, Int32.reduceLE, Int32.reduceAdd, Int32.reduceSub, pm_same, pm_i_wI, pm_l_wL, pm_l_wM, pm_oR_rf, pm_oQ_rf, nI_1, LQ1, LQ2, LQ5, sh_k59 hU, sh_k90 hU, sh_k91 hU, sh_k110 hU, sh_k111 hU, sh_z90 hU, sh_z91 hU, sh_z110 hU, sh_z111 hU, sh_r59_39 hU, sh_r59_40 hU, sh_r59_80 hU, sh_r59_81 hU, u41, hle]
      repeat' (first | exact fin | (refine pm_wb_ok pb_c249 1 _ 0 _ _ _ _ _ ?_; simp only [pm_WI0, pm_WI1, pm_WI2, pm_WI3, pm_WI4, pm_WI5, pm_WV, pm_WW, pm_WX, pb_B249, pm_if, pm_QI_at, pm_QL_at, pm_QV_at, pm_QR_at, pm_QR_at0, pm_QR_at1, Nat.reduceSub, Nat.reduceAdd, List.replicate_zero, List.replicate_succ, true_and, and_true, true_or, or_true, and_self, reduceIte, Nat.reduceEqDiff, Nat.reduceLT, Nat.reduceLeDiff, Nat.reduceMul, false_and, and_false, reduceCtorEq, false_or, or_false, not_true_eq_false, not_false_eq_true, true_implies, false_implies, implies_true, lf_10, eq_self, Int32.reduceLT, Int32.reduceLE, Int32.reduceAdd, Int32.reduceSub, pm_same, pm_i_wI, pm_l_wL, pm_l_wM, pm_oR_rf, pm_oQ_rf, nI_1, LQ1, LQ2, LQ5, sh_k59 hU, sh_k90 hU, sh_k91 hU, sh_k110 hU, sh_k111 hU, sh_z90 hU, sh_z91 hU, sh_z110 hU, sh_z111 hU, sh_r59_39 hU, sh_r59_40 hU, sh_r59_80 hU, sh_r59_81 hU, u41, hle]) | fail)
  try refine pm_wb_ok pb_c249 1 33 0 _ _ _ _ _ ?_
  try simp only [pm_WI0, pm_WI1, pm_WI2, pm_WI3, pm_WI4, pm_WI5, pm_WV, pm_WW, pm_WX, pb_B249, pm_if, pm_QI_at, pm_QL_at, pm_QV_at, pm_QR_at, pm_QR_at0, pm_QR_at1, Nat.reduceSub, Nat.reduceAdd, List.replicate_zero, List.replicate_succ, true_and, and_true, true_or, or_true, and_self, reduceIte, Nat.reduceEqDiff, Nat.reduceLT, Nat.reduceLeDiff, Nat.reduceMul, false_and, and_false, reduceCtorEq, false_or, or_false, not_true_eq_false, not_false_eq_true, true_implies, false_implies, implies_true, lf_10, eq_self, Int32.reduceLT, Int32.reduceLE, Int32.reduceAdd, Int32.reduceSub, pm_same, pm_i_wI, pm_l_wL, pm_l_wM, pm_oR_rf, pm_oQ_rf, nI_1, LQ1, LQ2, LQ5, sh_k59 hS, sh_k90 hS, sh_k91 hS, sh_k110 hS, sh_k111 hS, sh_z90 hS, sh_z91 hS, sh_z110 hS, sh_z111 hS, sh_r59_39 hS, sh_r59_40 hS, sh_r59_80 hS, sh_r59_81 hS, s41]
  repeat' (first | exact key | exact pv_W key (by simp [pv_le, pm_unk, show nI 0 = 0 from rfl]) | (refine pm_wb_ok pb_c249 1 _ 0 _ _ _ _ _ ?_; simp only [pm_WI0, pm_WI1, pm_WI2, pm_WI3, pm_WI4, pm_WI5, pm_WV, pm_WW, pm_WX, pb_B249, pm_if, pm_QI_at, pm_QL_at, pm_QV_at, pm_QR_at, pm_QR_at0, pm_QR_at1, Nat.reduceSub, Nat.reduceAdd, List.replicate_zero, List.replicate_succ, true_and, and_true, true_or, or_true, and_self, reduceIte, Nat.reduceEqDiff, Nat.reduceLT, Nat.reduceLeDiff, Nat.reduceMul, false_and, and_false, reduceCtorEq, false_or, or_false, not_true_eq_false, not_false_eq_true, true_implies, false_implies, implies_true, lf_10, eq_self, Int32.reduceLT, Int32.reduceLE, Int32.reduceAdd, Int32.reduceSub, pm_same, pm_i_wI, pm_l_wL, pm_l_wM, pm_oR_rf, pm_oQ_rf, nI_1, LQ1, LQ2, LQ5, sh_k59 hS, sh_k90 hS, sh_k91 hS, sh_k110 hS, sh_k111 hS, sh_z90 hS, sh_z91 hS, sh_z110 hS, sh_z111 hS, sh_r59_39 hS, sh_r59_40 hS, sh_r59_80 hS, sh_r59_81 hS, s41]) | fail)
/-- is this place taken -/
theorem mo_249i {G : pm_G} {d k a mi ov P N : Nat} {t : Nat → Nat} {S : pm_S} {Q : pm_Q} (hS : Sh S) (hN : N ≤ 7) (hP : P < N) (hk : k < N) (ht : ∀ i, i < k → pm_i S 110 i = nI (t i)) (ht2 : ∀ i, i < k → t i < N)
    (h : pm_W G d 249 Q 139 [.ref 59, .int (nI k), .int (nI a), .int (nI mi), .int (nI ov), .int (nI P), .int (bI (bo_e t P k)), .int (nI k), .float 0] [] S 0 0) : pm_W G d 249 Q 103 [.ref 59, .int (nI k), .int (nI a), .int (nI mi), .int (nI ov), .int (nI P), .int (nI 0), .int (nI 0), .float 0] [] S 0 0 := by
  have key : pm_W G d 249 Q 103 [.ref 59, .int (nI k), .int (nI a), .int (nI mi), .int (nI ov), .int (nI P), .int (bI (bo_e t P 0)), .int (nI 0), .float 0] [] S 0 0 := by
    refine pv_loopR (fun i => [.ref 59, .int (nI k), .int (nI a), .int (nI mi), .int (nI ov), .int (nI P), .int (bI (bo_e t P i)), .int (nI i), .float 0]) k (fun i hi hk2 => ?_) ?_
    · have hle : ¬ nI k ≤ nI i := nI_ge hi (by omega)
      have ci := nI_clamp (n := i) (by omega)
      have vi := vp_in_nI (n := i) (N := 7) (by omega) (by decide)
      have ui := ht i hi
      have e1 : bo_e t P (i + 1) = (bo_e t P i || decide (t i = P)) := rfl
      cases b : bo_e t P i with
      | true =>
        rw [b, Bool.true_or] at e1
        rw [e1] at hk2
        have b1 : bI true = 1 := rfl
        rw [b1] at hk2
        try refine pm_wb_ok pb_c249 1 103 0 _ _ _ _ _ ?_
        try simp only [pm_WI0, pm_WI1, pm_WI2, pm_WI3, pm_WI4, pm_WI5, pm_WV, pm_WW, pm_WX, pb_B249, pm_if, pm_QI_at, pm_QL_at, pm_QV_at, pm_QR_at, pm_QR_at0, pm_QR_at1, Nat.reduceSub, Nat.reduceAdd, List.replicate_zero, List.replicate_succ, true_and, and_true, true_or, or_true, and_self, reduceIte, Nat.reduceEqDiff, Nat.reduceLT, Nat.reduceLeDiff, Nat.reduceMul, false_and, and_false, reduceCtorEq, false_or, or_false, not_true_eq_false, not_false_eq_true, true_implies, false_implies, implies_true, lf_10, eq_self, Int32.reduceLT, Int32.reduceLE, Int32.reduceAdd, Int32.reduceSub, pm_same, pm_i_wI, pm_l_wL, pm_l_wM, pm_oR_rf, pm_oQ_rf, nI_1, LQ1, LQ2, LQ5, sh_k59 hS, sh_k90 hS, sh_k91 hS, sh_k110 hS, sh_k111 hS, sh_z90 hS, sh_z91 hS, sh_z110 hS, sh_z111 hS, sh_r59_39 hS, sh_r59_40 hS, sh_r59_80 hS, sh_r59_81 hS, hle, ci, ui, b1]
        repeat' (first | exact hk2 | exact vi | refine ⟨vi, ?_⟩ | (refine pm_wb_ok pb_c249 1 _ 0 _ _ _ _ _ ?_; simp only [pm_WI0, pm_WI1, pm_WI2, pm_WI3, pm_WI4, pm_WI5, pm_WV, pm_WW, pm_WX, pb_B249, pm_if, pm_QI_at, pm_QL_at, pm_QV_at, pm_QR_at, pm_QR_at0, pm_QR_at1, Nat.reduceSub, Nat.reduceAdd, List.replicate_zero, List.replicate_succ, true_and, and_true, true_or, or_true, and_self, reduceIte, Nat.reduceEqDiff, Nat.reduceLT, Nat.reduceLeDiff, Nat.reduceMul, false_and, and_false, reduceCtorEq, false_or, or_false, not_true_eq_false, not_false_eq_true, true_implies, false_implies, implies_true, lf_10, eq_self, Int32.reduceLT, Int32.reduceLE, Int32.reduceAdd, Int32.reduceSub, pm_same, pm_i_wI, pm_l_wL, pm_l_wM, pm_oR_rf, pm_oQ_rf, nI_1, LQ1, LQ2, LQ5, sh_k59 hS, sh_k90 hS, sh_k91 hS, sh_k110 hS, sh_k111 hS, sh_z90 hS, sh_z91 hS, sh_z110 hS, sh_z111 hS, sh_r59_39 hS, sh_r59_40 hS, sh_r59_80 hS, sh_r59_81 hS, hle, ci, ui, b1]) | fail)
      | false =>
        rw [b, Bool.false_or] at e1
        have b1 : bI false = 0 := rfl
        by_cases c : t i = P
        · rw [e1, decide_eq_true c] at hk2
          have b2 : bI true = 1 := rfl
          rw [b2] at hk2
          rw [c] at ui
          try refine pm_wb_ok pb_c249 1 103 0 _ _ _ _ _ ?_
          try simp only [pm_WI0, pm_WI1, pm_WI2, pm_WI3, pm_WI4, pm_WI5, pm_WV, pm_WW, pm_WX, pb_B249, pm_if, pm_QI_at, pm_QL_at, pm_QV_at, pm_QR_at, pm_QR_at0, pm_QR_at1, Nat.reduceSub, Nat.reduceAdd, List.replicate_zero, List.replicate_succ, true_and, and_true, true_or, or_true, and_self, reduceIte, Nat.reduceEqDiff, Nat.reduceLT, Nat.reduceLeDiff, Nat.reduceMul, false_and, and_false, reduceCtorEq, false_or, or_false, not_true_eq_false, not_false_eq_true, true_implies, false_implies, implies_true, lf_10, eq_self, Int32.reduceLT, Int32.reduceLE, Int32.reduceAdd, Int32.reduceSub, pm_same, pm_i_wI, pm_l_wL, pm_l_wM, pm_oR_rf, pm_oQ_rf, nI_1, LQ1, LQ2, LQ5, sh_k59 hS, sh_k90 hS, sh_k91 hS, sh_k110 hS, sh_k111 hS, sh_z90 hS, sh_z91 hS, sh_z110 hS, sh_z111 hS, sh_r59_39 hS, sh_r59_40 hS, sh_r59_80 hS, sh_r59_81 hS, hle, ci, ui, b1]
          repeat' (first | exact hk2 | exact vi | refine ⟨vi, ?_⟩ | (refine pm_wb_ok pb_c249 1 _ 0 _ _ _ _ _ ?_; simp only [pm_WI0, pm_WI1, pm_WI2, pm_WI3, pm_WI4, pm_WI5, pm_WV, pm_WW, pm_WX, pb_B249, pm_if, pm_QI_at, pm_QL_at, pm_QV_at, pm_QR_at, pm_QR_at0, pm_QR_at1, Nat.reduceSub, Nat.reduceAdd, List.replicate_zero, List.replicate_succ, true_and, and_true, true_or, or_true, and_self, reduceIte, Nat.reduceEqDiff, Nat.reduceLT, Nat.reduceLeDiff, Nat.reduceMul, false_and, and_false, reduceCtorEq, false_or, or_false, not_true_eq_false, not_false_eq_true, true_implies, false_implies, implies_true, lf_10, eq_self, Int32.reduceLT, Int32.reduceLE, Int32.reduceAdd, Int32.reduceSub, pm_same, pm_i_wI, pm_l_wL, pm_l_wM, pm_oR_rf, pm_oQ_rf, nI_1, LQ1, LQ2, LQ5, sh_k59 hS, sh_k90 hS, sh_k91 hS, sh_k110 hS, sh_k111 hS, sh_z90 hS, sh_z91 hS, sh_z110 hS, sh_z111 hS, sh_r59_39 hS, sh_r59_40 hS, sh_r59_80 hS, sh_r59_81 hS, hle, ci, ui, b1]) | fail)
        · rw [e1, decide_eq_false c] at hk2
          rw [b1] at hk2
          have ti := ht2 i hi
          have ne : ¬ nI (t i) = nI P := fun z => c ((nI_eq (by omega) (by omega)).mp z)
          try refine pm_wb_ok pb_c249 1 103 0 _ _ _ _ _ ?_
          try simp only [pm_WI0, pm_WI1, pm_WI2, pm_WI3, pm_WI4, pm_WI5, pm_WV, pm_WW, pm_WX, pb_B249, pm_if, pm_QI_at, pm_QL_at, pm_QV_at, pm_QR_at, pm_QR_at0, pm_QR_at1, Nat.reduceSub, Nat.reduceAdd, List.replicate_zero, List.replicate_succ, true_and, and_true, true_or, or_true, and_self, reduceIte, Nat.reduceEqDiff, Nat.reduceLT, Nat.reduceLeDiff, Nat.reduceMul, false_and, and_false, reduceCtorEq, false_or, or_false, not_true_eq_false, not_false_eq_true, true_implies, false_implies, implies_true, lf_10, eq_self, Int32.reduceLT, Int32.reduceLE, Int32.reduceAdd, Int32.reduceSub, pm_same, pm_i_wI, pm_l_wL, pm_l_wM, pm_oR_rf, pm_oQ_rf, nI_1, LQ1, LQ2, LQ5, sh_k59 hS, sh_k90 hS, sh_k91 hS, sh_k110 hS, sh_k111 hS, sh_z90 hS, sh_z91 hS, sh_z110 hS, sh_z111 hS, sh_r59_39 hS, sh_r59_40 hS, sh_r59_80 hS, sh_r59_81 hS, hle, ci, ui, b1, ne]
          repeat' (first | exact hk2 | exact vi | refine ⟨vi, ?_⟩ | (refine pm_wb_ok pb_c249 1 _ 0 _ _ _ _ _ ?_; simp only [pm_WI0, pm_WI1, pm_WI2, pm_WI3, pm_WI4, pm_WI5, pm_WV, pm_WW, pm_WX, pb_B249, pm_if, pm_QI_at, pm_QL_at, pm_QV_at, pm_QR_at, pm_QR_at0, pm_QR_at1, Nat.reduceSub, Nat.reduceAdd, List.replicate_zero, List.replicate_succ, true_and, and_true, true_or, or_true, and_self, reduceIte, Nat.reduceEqDiff, Nat.reduceLT, Nat.reduceLeDiff, Nat.reduceMul, false_and, and_false, reduceCtorEq, false_or, or_false, not_true_eq_false, not_false_eq_true, true_implies, false_implies, implies_true, lf_10, eq_self, Int32.reduceLT, Int32.reduceLE, Int32.reduceAdd, Int32.reduceSub, pm_same, pm_i_wI, pm_l_wL, pm_l_wM, pm_oR_rf, pm_oQ_rf, nI_1, LQ1, LQ2, LQ5, sh_k59 hS, sh_k90 hS, sh_k91 hS, sh_k110 hS, sh_k111 hS, sh_z90 hS, sh_z91 hS, sh_z110 hS, sh_z111 hS, sh_r59_39 hS, sh_r59_40 hS, sh_r59_80 hS, sh_r59_81 hS, hle, ci, ui, b1, ne]) | fail)
    · have hle : nI k ≤ nI k := Int32.le_refl _
      try refine pm_wb_ok pb_c249 1 103 0 _ _ _ _ _ ?_
      try simp only [pm_WI0, pm_WI1, pm_WI2, pm_WI3, pm_WI4, pm_WI5, pm_WV, pm_WW, pm_WX, pb_B249, pm_if, pm_QI_at, pm_QL_at, pm_QV_at, pm_QR_at, pm_QR_at0, pm_QR_at1, Nat.reduceSub, Nat.reduceAdd, List.replicate_zero, List.replicate_succ, true_and, and_true, true_or, or_true, and_self, reduceIte, Nat.reduceEqDiff, Nat.reduceLT, Nat.reduceLeDiff, Nat.reduceMul, false_and, and_false, reduceCtorEq, false_or, or_false, not_true_eq_false, not_false_eq_true, true_implies, false_implies, implies_true, lf_10, eq_self, Int32.reduceLT, Int32.reduceLE, Int32.reduceAdd, Int32.reduceSub, pm_same, pm_i_wI, pm_l_wL, pm_l_wM, pm_oR_rf, pm_oQ_rf, nI_1, LQ1, LQ2, LQ5, sh_k59 hS, sh_k90 hS, sh_k91 hS, sh_k110 hS, sh_k111 hS, sh_z90 hS, sh_z91 hS, sh_z110 hS, sh_z111 hS, sh_r59_39 hS, sh_r59_40 hS, sh_r59_80 hS, sh_r59_81 hS, hle]
      repeat' (first | exact h | (refine pm_wb_ok pb_c249 1 _ 0 _ _ _ _ _ ?_; simp only [pm_WI0, pm_WI1, pm_WI2, pm_WI3, pm_WI4, pm_WI5, pm_WV, pm_WW, pm_WX, pb_B249, pm_if, pm_QI_at, pm_QL_at, pm_QV_at, pm_QR_at, pm_QR_at0, pm_QR_at1, Nat.reduceSub, Nat.reduceAdd, List.replicate_zero, List.replicate_succ, true_and, and_true, true_or, or_true, and_self, reduceIte, Nat.reduceEqDiff, Nat.reduceLT, Nat.reduceLeDiff, Nat.reduceMul, false_and, and_false, reduceCtorEq, false_or, or_false, not_true_eq_false, not_false_eq_true, true_implies, false_implies, implies_true, lf_10, eq_self, Int32.reduceLT, Int32.reduceLE, Int32.reduceAdd, Int32.reduceSub, pm_same, pm_i_wI, pm_l_wL, pm_l_wM, pm_oR_rf, pm_oQ_rf, nI_1, LQ1, LQ2, LQ5, sh_k59 hS, sh_k90 hS, sh_k91 hS, sh_k110 hS, sh_k111 hS, sh_z90 hS, sh_z91 hS, sh_z110 hS, sh_z111 hS, sh_r59_39 hS, sh_r59_40 hS, sh_r59_80 hS, sh_r59_81 hS, hle]) | fail)
  exact key
theorem bo_go0 {C : Nat → Nat → Nat} {N k s c : Nat} {t : Nat → Nat} {B : bo_B} (h : bo_pr B c = false) : bo_go C N 0 k s c t B = some (c, t) := by
  rw [bo_go, h]; exact if_neg (by decide)
theorem bo_go1 {C : Nat → Nat → Nat} {N r k s c : Nat} {t : Nat → Nat} {B : bo_B} (h : bo_pr B c = true) : bo_go C N r k s c t B = B := by
  cases r with
  | zero => rw [bo_go, h]; exact if_pos rfl
  | succ r => rw [bo_go, h]; exact if_pos rfl
def bo_st (C : Nat → Nat → Nat) (N r k s c : Nat) (t : Nat → Nat) (p : Nat) (B : bo_B) : bo_B := if s.testBit p = true then B else bo_go C N r (k + 1) (s ||| 2 ^ p) (c + C (s ||| 2 ^ p) p) (fun i => if i = k then p else t i) B
theorem bo_go2 {C : Nat → Nat → Nat} {N r k s c : Nat} {t : Nat → Nat} {B : bo_B} (h : bo_pr B c = false) : bo_go C N (r + 1) k s c t B = bo_fo (bo_st C N r k s c t) N B := by
  rw [bo_go, h]; exact if_neg (by decide)
theorem mo_249 {G : pm_G} {S0 : pm_S} {N n e : Nat} {f g T : Nat → Nat} (hM : bo_M S0 N n e f g T) : ∀ (r d k s a mi ov : Nat) (t : Nat → Nat) (B : bo_B) (S : pm_S) (q : pm_S → Prop), r + 5 ≤ d → r + k = N → s < 2 ^ N → bo_n s N = r → sc S0 S → (∀ i, i < k → pm_i S 110 i = nI (t i) ∧ t i < N) → (∀ p, s.testBit p = true ↔ ∃ i, i < k ∧ t i = p) → bo_X N S B → mi ≤ k → ov ≤ k * 65536 → (a < 2 ^ 16 ∧ ∀ c, 1 ≤ c → c ≤ 9 → wd (pm_i S0 60) n a c = wd (pm_i S0 60) n e (bo_w f s N + c)) →
    (∀ U, sc S0 U → (∀ i, i < k → pm_i U 110 i = nI (t i)) → bo_X N U (bo_go (bo_C T g) N r k s (4294967296 * mi + ov) t B) → q U) → pm_CV G d 249 [.ref 59, .int (nI k), .int (nI a), .int (nI mi), .int (nI ov)] S q := by
  obtain ⟨⟨hS0, hN, hn2, he⟩, ⟨h41, hn⟩, hW, hD, hT⟩ := hM
  have w63 : ∀ u, bo_w f u N ≤ 63 := fun u => Nat.le_trans (bo_w_le N (fun k hk => (hW k hk).2.2)) (by omega)
  have hT2 : ∀ u, T u < 2 ^ 16 := fun u => by rw [hT]; exact wd_lt _ he (by have := w63 u; omega) hn2
  intro r
  induction r with
  | zero =>
    intro d k s a mi ov t B S q hd hk hs2 hs hsc ht hb hB hmi hov ha h
    have k7 : k ≤ 7 := by omega
    have o19 : ov ≤ 7 * 65536 := Nat.le_trans hov (Nat.mul_le_mul_right _ k7)
    have ek : k = N := by omega
    subst ek
    refine mo_249p (hsc.sh hS0) hB (by omega) (by omega) (fun e1 => ?_) (fun e1 => ?_)
    · exact h S hsc (fun i hi => (ht i hi).1) (by rw [bo_go1 e1]; exact hB)
    · refine mo_249b hS0 hsc hN h41 (by omega) (by omega) (fun i hi => (ht i hi).1) (fun U hU htU hX => h U hU htU (by rw [bo_go0 e1]; exact hX))
  | succ r ih =>
    intro d k s a mi ov t B S q hd hk hs2 hs hsc ht hb hB hmi hov ha h
    have k7 : k < 7 := by omega
    have ha1 := ha.1
    have o19 : ov ≤ 7 * 65536 := Nat.le_trans hov (Nat.mul_le_mul_right _ (Nat.le_of_lt k7))
    refine mo_249p (hsc.sh hS0) hB (by omega) (by omega) (fun e1 => ?_) (fun e1 => ?_)
    · exact h S hsc (fun i hi => (ht i hi).1) (by rw [bo_go1 e1]; exact hB)
    · rw [bo_go2 e1] at h
      have hS := hsc.sh hS0
      have s41 := hsc.m41.trans h41
      have nkN : ¬ nI k = nI N := fun z => by have := (nI_eq (by omega) (by omega)).mp z; omega
      have key : pm_W G d 249 (pm_QV q) 88 [.ref 59, .int (nI k), .int (nI a), .int (nI mi), .int (nI ov), .int (nI 0), .float 0, .float 0, .float 0] [] S 0 0 := by
        refine pv_while (fun x : Nat × pm_S => [.ref 59, .int (nI k), .int (nI a), .int (nI mi), .int (nI ov), .int (nI x.1), .float 0, .float 0, .float 0]) (fun x => x.2) (fun x => x.1 ≤ N ∧ sc S0 x.2 ∧ (∀ i, i < k → pm_i x.2 110 i = nI (t i)) ∧ bo_X N x.2 (bo_fo (bo_st (bo_C T g) N r k s (4294967296 * mi + ov) t) x.1 B)) (fun x => N - x.1) (fun x hP ih2 => ?_) (0, S) ⟨Nat.zero_le _, hsc, fun i hi => (ht i hi).1, hB⟩
        obtain ⟨P, U⟩ := x
        obtain ⟨hPN, hsU, htU, hBU⟩ := hP
        replace hPN : P ≤ N := hPN
        replace hsU : sc S0 U := hsU
        replace htU : ∀ i, i < k → pm_i U 110 i = nI (t i) := htU
        replace hBU : bo_X N U (bo_fo (bo_st (bo_C T g) N r k s (4294967296 * mi + ov) t) P B) := hBU
        have hU := hsU.sh hS0
        have u41 := hsU.m41.trans h41
        show pm_W G d 249 (pm_QV q) 88 [.ref 59, .int (nI k), .int (nI a), .int (nI mi), .int (nI ov), .int (nI P), .float 0, .float 0, .float 0] [] U 0 0
        by_cases c : P < N
        · have hle : ¬ nI N ≤ nI P := nI_ge c (by omega)
          have mu : N - (P + 1) < N - P := by omega
          have eB : bo_fo (bo_st (bo_C T g) N r k s (4294967296 * mi + ov) t) (P + 1) B = bo_st (bo_C T g) N r k s (4294967296 * mi + ov) t P (bo_fo (bo_st (bo_C T g) N r k s (4294967296 * mi + ov) t) P B) := rfl
          generalize bo_fo (bo_st (bo_C T g) N r k s (4294967296 * mi + ov) t) P B = B1 at *
          have cp := nI_clamp (n := P) (by omega)
          have vp := vp_in_nI (n := P) (N := 7) (by omega) (by decide)
          have ck := nI_clamp (n := k) (by omega)
          have vk := vp_in_nI (n := k) (N := 7) (by omega) (by decide)
          have seen : pm_W G d 249 (pm_QV q) 139 [.ref 59, .int (nI k), .int (nI a), .int (nI mi), .int (nI ov), .int (nI P), .int (bI (bo_e t P k)), .int (nI k), .float 0] [] U 0 0 := by
            cases b : bo_e t P k with
            | true =>
              have sb : s.testBit P = true := (hb P).mpr ((bo_e_iff k).mp b)
              have eS : bo_st (bo_C T g) N r k s (4294967296 * mi + ov) t P B1 = B1 := if_pos sb
              have b1 : bI true = 1 := rfl
              have nx := ih2 (P + 1, U) ⟨c, hsU, htU, by show bo_X N U (bo_fo (bo_st (bo_C T g) N r k s (4294967296 * mi + ov) t) (P + 1) B); rw [eB, eS]; exact hBU⟩ mu
              replace nx : pm_W G d 249 (pm_QV q) 88 [.ref 59, .int (nI k), .int (nI a), .int (nI mi), .int (nI ov), .int (nI (P + 1)), .float 0, .float 0, .float 0] [] U 0 0 := nx
              try refine pm_wb_ok pb_c249 1 139 0 _ _ _ _ _ ?_
              try simp only [pm_WI0, pm_WI1, pm_WI2, pm_WI3, pm_WI4, pm_WI5, pm_WV, pm_WW, pm_WX, pb_B249, pm_if, pm_QI_at, pm_QL_at, pm_QV_at, pm_QR_at, pm_QR_at0, pm_QR_at1, Nat.reduceSub, Nat.reduceAdd, List.replicate_zero, List.replicate_succ, true_and, and_true, true_or, or_true, and_self, reduceIte, Nat.reduceEqDiff, Nat.reduceLT, Nat.reduceLeDiff, Nat.reduceMul, false_and, and_false, reduceCtorEq, false_or, or_false, not_true_eq_false, not_false_eq_true, true_implies, false_implies, implies_true, lf_10, eq_self, Int32.reduceLT, Int32.reduceLE, Int32.reduceAdd, Int32.reduceSub, pm_same, pm_i_wI, pm_l_wL, pm_l_wM, pm_oR_rf, pm_oQ_rf, nI_1, LQ1, LQ2, LQ5, sh_k59 hU, sh_k90 hU, sh_k91 hU, sh_k110 hU, sh_k111 hU, sh_z90 hU, sh_z91 hU, sh_z110 hU, sh_z111 hU, sh_r59_39 hU, sh_r59_40 hU, sh_r59_80 hU, sh_r59_81 hU, b1]
              repeat' (first | exact nx | exact pv_W nx (by simp [pv_le, pm_unk]) | (refine pm_wb_ok pb_c249 1 _ 0 _ _ _ _ _ ?_; simp only [pm_WI0, pm_WI1, pm_WI2, pm_WI3, pm_WI4, pm_WI5, pm_WV, pm_WW, pm_WX, pb_B249, pm_if, pm_QI_at, pm_QL_at, pm_QV_at, pm_QR_at, pm_QR_at0, pm_QR_at1, Nat.reduceSub, Nat.reduceAdd, List.replicate_zero, List.replicate_succ, true_and, and_true, true_or, or_true, and_self, reduceIte, Nat.reduceEqDiff, Nat.reduceLT, Nat.reduceLeDiff, Nat.reduceMul, false_and, and_false, reduceCtorEq, false_or, or_false, not_true_eq_false, not_false_eq_true, true_implies, false_implies, implies_true, lf_10, eq_self, Int32.reduceLT, Int32.reduceLE, Int32.reduceAdd, Int32.reduceSub, pm_same, pm_i_wI, pm_l_wL, pm_l_wM, pm_oR_rf, pm_oQ_rf, nI_1, LQ1, LQ2, LQ5, sh_k59 hU, sh_k90 hU, sh_k91 hU, sh_k110 hU, sh_k111 hU, sh_z90 hU, sh_z91 hU, sh_z110 hU, sh_z111 hU, sh_r59_39 hU, sh_r59_40 hU, sh_r59_80 hU, sh_r59_81 hU, b1]) | fail)
            | false =>
              have sb : s.testBit P = false := by
                cases z : s.testBit P with
                | false => rfl
                | true => have := (bo_e_iff (t := t) (P := P) k).mpr ((hb P).mp z); rw [b] at this; cases this
              have eS : bo_st (bo_C T g) N r k s (4294967296 * mi + ov) t P B1 = bo_go (bo_C T g) N r (k + 1) (s ||| 2 ^ P) (4294967296 * mi + ov + bo_C T g (s ||| 2 ^ P) P) (fun i => if i = k then P else t i) B1 := if_neg (by rw [sb]; decide)
              have b1 : bI false = 0 := rfl
              obtain ⟨w1, w2, w3⟩ := hW P c
              obtain ⟨d1, d2⟩ := hD P c
              have u90 : pm_i U 90 P = nI (f P) := by rw [hsU.r90]; exact w1
              have u91 : pm_i U 91 P = nI (g P) := by rw [hsU.r91]; exact d1
              have sn := bo_n_in sb c
              have sl := bo_lt hs2 c
              have eT : wd (pm_i S0 60) n a (f P) = T (s ||| 2 ^ P) := by rw [ha.2 _ w2 w3, hT, bo_w_in sb c]
              have hT3 := hT2 (s ||| 2 ^ P)
              have hcmp : ∀ c, 1 ≤ c → c ≤ 9 → wd (pm_i S0 60) n (T (s ||| 2 ^ P)) c = wd (pm_i S0 60) n e (bo_w f (s ||| 2 ^ P) N + c) := fun c h1 h2 => by
                rw [hT]; exact wd_comp _ he (by have := w63 (s ||| 2 ^ P); omega) (by omega) hn2
              have hC : bo_C T g (s ||| 2 ^ P) P = bo_c (T (s ||| 2 ^ P)) (g P) := rfl
              rw [hC] at eS
              generalize T (s ||| 2 ^ P) = x at *
              have recc : ∀ m2 o2, m2 ≤ k + 1 → o2 ≤ (k + 1) * 65536 → 4294967296 * m2 + o2 = 4294967296 * mi + ov + bo_c x (g P) → pm_CV G (d - 1) 249 [.ref 59, .int (nI (k + 1)), .int (nI x), .int (nI m2), .int (nI o2)] (pm_wI U 110 k (nI P)) (fun S' => pm_W G d 249 (pm_QV q) 88 [.ref 59, .int (nI k), .int (nI a), .int (nI mi), .int (nI ov), .int (nI (P + 1)), .float 0, .float 0, .float 0] [] S' 0 0) := by
                intro m2 o2 hm2 ho2 ec
                refine ih (d - 1) (k + 1) (s ||| 2 ^ P) x m2 o2 (fun i => if i = k then P else t i) B1 (pm_wI U 110 k (nI P)) _ (by omega) (by omega) sl (by omega) (hsU.wI (by unfold sc_q; omega)) (fun i hi => ?_) (fun p => ?_) ?_ hm2 ho2 ⟨by omega, hcmp⟩ (fun V hV htV hXV => ?_)
                · rw [pm_i_wI]
                  by_cases ei : i = k
                  · subst ei
                    rw [if_pos ⟨rfl, rfl⟩]
                    exact ⟨by rw [if_pos rfl], by show (if i = i then P else t i) < N; rw [if_pos rfl]; exact c⟩
                  · rw [if_neg (fun z => ei z.2)]
                    exact ⟨by show _ = nI (if i = k then P else t i); rw [if_neg ei]; exact htU i (by omega), by show (if i = k then P else t i) < N; rw [if_neg ei]; exact (ht i (by omega)).2⟩
                · rw [bo_bit, Bool.or_eq_true, decide_eq_true_eq, hb p]
                  constructor
                  · intro z
                    rcases z with ⟨i, z1, z2⟩ | z
                    · exact ⟨i, by omega, by show (if i = k then P else t i) = p; rw [if_neg (by omega)]; exact z2⟩
                    · exact ⟨k, by omega, by show (if k = k then P else t k) = p; rw [if_pos rfl]; exact z⟩
                  · intro ⟨i, z1, z2⟩
                    replace z2 : (if i = k then P else t i) = p := z2
                    by_cases ei : i = k
                    · rw [if_pos ei] at z2; exact Or.inr z2
                    · rw [if_neg ei] at z2; exact Or.inl ⟨i, by omega, z2⟩
                · cases B1 with
                  | none => show pm_i (pm_wI U 110 k (nI P)) 59 82 = -1; rw [pm_i_wI, if_neg (by omega)]; exact hBU
                  | some y =>
                    obtain ⟨y1, y2, y3, y4, y5⟩ := hBU
                    exact ⟨y1, y2, by rw [pm_i_wI, if_neg (by omega)]; exact y3, by rw [pm_i_wI, if_neg (by omega)]; exact y4, fun i hi => by rw [pm_i_wI, if_neg (by omega)]; exact y5 i hi⟩
                · refine ih2 (P + 1, V) ⟨c, hV, fun i hi => ?_, ?_⟩ mu
                  · have := htV i (by omega)
                    rw [if_neg (show ¬ i = k by omega)] at this
                    exact this
                  · show bo_X N V (bo_fo (bo_st (bo_C T g) N r k s (4294967296 * mi + ov) t) (P + 1) B)
                    rw [eB, eS, ← ec]; exact hXV
              try refine pm_wb_ok pb_c249 1 139 0 _ _ _ _ _ ?_
              try simp only [pm_WI0, pm_WI1, pm_WI2, pm_WI3, pm_WI4, pm_WI5, pm_WV, pm_WW, pm_WX, pb_B249, pm_if, pm_QI_at, pm_QL_at, pm_QV_at, pm_QR_at, pm_QR_at0, pm_QR_at1, Nat.reduceSub, Nat.reduceAdd, List.replicate_zero, List.replicate_succ, true_and, and_true, true_or, or_true, and_self, reduceIte, Nat.reduceEqDiff, Nat.reduceLT, Nat.reduceLeDiff, Nat.reduceMul, false_and, and_false, reduceCtorEq, false_or, or_false, not_true_eq_false, not_false_eq_true, true_implies, false_implies, implies_true, lf_10, eq_self, Int32.reduceLT, Int32.reduceLE, Int32.reduceAdd, Int32.reduceSub, pm_same, pm_i_wI, pm_l_wL, pm_l_wM, pm_oR_rf, pm_oQ_rf, nI_1, LQ1, LQ2, LQ5, sh_k59 hU, sh_k90 hU, sh_k91 hU, sh_k110 hU, sh_k111 hU, sh_z90 hU, sh_z91 hU, sh_z110 hU, sh_z111 hU, sh_r59_39 hU, sh_r59_40 hU, sh_r59_80 hU, sh_r59_81 hU, b1, cp, ck, u90, u91]
              refine ⟨vp, by omega, lf_164 (by omega) hU (hsU.m2.trans hn) hn2 rfl rfl (by omega) (by omega) ?_⟩
              rw [hsU.r60, eT]
              by_cases cx : g P < x
              · have hle2 : ¬ nI x ≤ nI (g P) := nI_ge cx (by omega)
                have es := nI_sub (a := x) (b := g P) (by omega)
                have nz : ¬ nI (x - g P) ≤ 0 := by have := nI_ge (show 0 < x - g P by omega) (show x - g P < 2 ^ 31 by omega); exact this
                have ec : bo_c x (g P) = 4294967296 + (x - g P) := if_pos cx
                have go := recc (mi + 1) (ov + (x - g P)) (by omega) (by omega) (by omega)
                try simp only [pm_WV, pm_WW, true_and, and_true, true_or, or_true, and_self, reduceIte, Nat.reduceEqDiff, Nat.reduceLT, Nat.reduceLeDiff, Nat.reduceMul, false_and, and_false, reduceCtorEq, false_or, or_false, not_true_eq_false, not_false_eq_true, true_implies, false_implies, implies_true, lf_10, eq_self, Int32.reduceLT, Int32.reduceLE, Int32.reduceAdd, Int32.reduceSub, pm_same, pm_i_wI, pm_l_wL, pm_l_wM, pm_oR_rf, pm_oQ_rf, nI_1, sw_e, LQ1, LQ2, pm_WI0, pm_WI1, pm_WI2, pm_WI3, pm_WI4, pm_WI5, pm_WV, pm_WW, pm_WX, pb_B249, pm_if, pm_QI_at, pm_QL_at, pm_QV_at, pm_QR_at, pm_QR_at0, pm_QR_at1, Nat.reduceSub, Nat.reduceAdd, List.replicate_zero, List.replicate_succ, true_and, and_true, true_or, or_true, and_self, reduceIte, Nat.reduceEqDiff, Nat.reduceLT, Nat.reduceLeDiff, Nat.reduceMul, false_and, and_false, reduceCtorEq, false_or, or_false, not_true_eq_false, not_false_eq_true, true_implies, false_implies, implies_true, lf_10, eq_self, Int32.reduceLT, Int32.reduceLE, Int32.reduceAdd, Int32.reduceSub, pm_same, pm_i_wI, pm_l_wL, pm_l_wM, pm_oR_rf, pm_oQ_rf, nI_1, LQ1, LQ2, LQ5, sh_k59 hU, sh_k90 hU, sh_k91 hU, sh_k110 hU, sh_k111 hU, sh_z90 hU, sh_z91 hU, sh_z110 hU, sh_z111 hU, sh_r59_39 hU, sh_r59_40 hU, sh_r59_80 hU, sh_r59_81 hU, b1, cp, ck, u90, u91, hle2, es, nz, nI_add]
                repeat' (first | exact pv_W hw (by simp [pv_le, pm_unk]) | refine pm_CV.mono go (fun S' hw => ?_) | exact vp | exact vk | omega | refine ⟨vp, ?_⟩ | refine ⟨vk, ?_⟩ | refine ⟨by omega, ?_⟩ | (refine pm_wb_ok pb_c249 1 _ 0 _ _ _ _ _ ?_; simp only [pm_WI0, pm_WI1, pm_WI2, pm_WI3, pm_WI4, pm_WI5, pm_WV, pm_WW, pm_WX, pb_B249, pm_if, pm_QI_at, pm_QL_at, pm_QV_at, pm_QR_at, pm_QR_at0, pm_QR_at1, Nat.reduceSub, Nat.reduceAdd, List.replicate_zero, List.replicate_succ, true_and, and_true, true_or, or_true, and_self, reduceIte, Nat.reduceEqDiff, Nat.reduceLT, Nat.reduceLeDiff, Nat.reduceMul, false_and, and_false, reduceCtorEq, false_or, or_false, not_true_eq_false, not_false_eq_true, true_implies, false_implies, implies_true, lf_10, eq_self, Int32.reduceLT, Int32.reduceLE, Int32.reduceAdd, Int32.reduceSub, pm_same, pm_i_wI, pm_l_wL, pm_l_wM, pm_oR_rf, pm_oQ_rf, nI_1, LQ1, LQ2, LQ5, sh_k59 hU, sh_k90 hU, sh_k91 hU, sh_k110 hU, sh_k111 hU, sh_z90 hU, sh_z91 hU, sh_z110 hU, sh_z111 hU, sh_r59_39 hU, sh_r59_40 hU, sh_r59_80 hU, sh_r59_81 hU, b1, cp, ck, u90, u91, hle2, es, nz, nI_add]) | fail)
              · have hle2 : nI x ≤ nI (g P) := nI_le (by omega) (by omega)
                have z0 : (0 : Int32) ≤ 0 := Int32.le_refl _
                have ec : bo_c x (g P) = 0 := if_neg cx
                have go := recc mi ov (Nat.le_succ_of_le hmi) (Nat.le_trans hov (Nat.mul_le_mul_right _ (Nat.le_succ k))) (by rw [ec]; rfl)
                try simp only [pm_WV, pm_WW, true_and, and_true, true_or, or_true, and_self, reduceIte, Nat.reduceEqDiff, Nat.reduceLT, Nat.reduceLeDiff, Nat.reduceMul, false_and, and_false, reduceCtorEq, false_or, or_false, not_true_eq_false, not_false_eq_true, true_implies, false_implies, implies_true, lf_10, eq_self, Int32.reduceLT, Int32.reduceLE, Int32.reduceAdd, Int32.reduceSub, pm_same, pm_i_wI, pm_l_wL, pm_l_wM, pm_oR_rf, pm_oQ_rf, nI_1, sw_e, LQ1, LQ2, pm_WI0, pm_WI1, pm_WI2, pm_WI3, pm_WI4, pm_WI5, pm_WV, pm_WW, pm_WX, pb_B249, pm_if, pm_QI_at, pm_QL_at, pm_QV_at, pm_QR_at, pm_QR_at0, pm_QR_at1, Nat.reduceSub, Nat.reduceAdd, List.replicate_zero, List.replicate_succ, true_and, and_true, true_or, or_true, and_self, reduceIte, Nat.reduceEqDiff, Nat.reduceLT, Nat.reduceLeDiff, Nat.reduceMul, false_and, and_false, reduceCtorEq, false_or, or_false, not_true_eq_false, not_false_eq_true, true_implies, false_implies, implies_true, lf_10, eq_self, Int32.reduceLT, Int32.reduceLE, Int32.reduceAdd, Int32.reduceSub, pm_same, pm_i_wI, pm_l_wL, pm_l_wM, pm_oR_rf, pm_oQ_rf, nI_1, LQ1, LQ2, LQ5, sh_k59 hU, sh_k90 hU, sh_k91 hU, sh_k110 hU, sh_k111 hU, sh_z90 hU, sh_z91 hU, sh_z110 hU, sh_z111 hU, sh_r59_39 hU, sh_r59_40 hU, sh_r59_80 hU, sh_r59_81 hU, b1, cp, ck, u90, u91, hle2, z0, Int32.add_zero]
                repeat' (first | exact pv_W hw (by simp [pv_le, pm_unk]) | refine pm_CV.mono go (fun S' hw => ?_) | exact vp | exact vk | omega | refine ⟨vp, ?_⟩ | refine ⟨vk, ?_⟩ | refine ⟨by omega, ?_⟩ | (refine pm_wb_ok pb_c249 1 _ 0 _ _ _ _ _ ?_; simp only [pm_WI0, pm_WI1, pm_WI2, pm_WI3, pm_WI4, pm_WI5, pm_WV, pm_WW, pm_WX, pb_B249, pm_if, pm_QI_at, pm_QL_at, pm_QV_at, pm_QR_at, pm_QR_at0, pm_QR_at1, Nat.reduceSub, Nat.reduceAdd, List.replicate_zero, List.replicate_succ, true_and, and_true, true_or, or_true, and_self, reduceIte, Nat.reduceEqDiff, Nat.reduceLT, Nat.reduceLeDiff, Nat.reduceMul, false_and, and_false, reduceCtorEq, false_or, or_false, not_true_eq_false, not_false_eq_true, true_implies, false_implies, implies_true, lf_10, eq_self, Int32.reduceLT, Int32.reduceLE, Int32.reduceAdd, Int32.reduceSub, pm_same, pm_i_wI, pm_l_wL, pm_l_wM, pm_oR_rf, pm_oQ_rf, nI_1, LQ1, LQ2, LQ5, sh_k59 hU, sh_k90 hU, sh_k91 hU, sh_k110 hU, sh_k111 hU, sh_z90 hU, sh_z91 hU, sh_z110 hU, sh_z111 hU, sh_r59_39 hU, sh_r59_40 hU, sh_r59_80 hU, sh_r59_81 hU, b1, cp, ck, u90, u91, hle2, z0, Int32.add_zero]) | fail)
          have inn := mo_249i (G := G) (d := d) (a := a) (mi := mi) (ov := ov) hU hN c (by omega) htU (fun i hi => (ht i hi).2) seen
          try refine pm_wb_ok pb_c249 1 88 0 _ _ _ _ _ ?_
          try simp only [pm_WI0, pm_WI1, pm_WI2, pm_WI3, pm_WI4, pm_WI5, pm_WV, pm_WW, pm_WX, pb_B249, pm_if, pm_QI_at, pm_QL_at, pm_QV_at, pm_QR_at, pm_QR_at0, pm_QR_at1, Nat.reduceSub, Nat.reduceAdd, List.replicate_zero, List.replicate_succ, true_and, and_true, true_or, or_true, and_self, reduceIte, Nat.reduceEqDiff, Nat.reduceLT, Nat.reduceLeDiff, Nat.reduceMul, false_and, and_false, reduceCtorEq, false_or, or_false, not_true_eq_false, not_false_eq_true, true_implies, false_implies, implies_true, lf_10, eq_self, Int32.reduceLT, Int32.reduceLE, Int32.reduceAdd, Int32.reduceSub, pm_same, pm_i_wI, pm_l_wL, pm_l_wM, pm_oR_rf, pm_oQ_rf, nI_1, LQ1, LQ2, LQ5, sh_k59 hU, sh_k90 hU, sh_k91 hU, sh_k110 hU, sh_k111 hU, sh_z90 hU, sh_z91 hU, sh_z110 hU, sh_z111 hU, sh_r59_39 hU, sh_r59_40 hU, sh_r59_80 hU, sh_r59_81 hU, u41, hle]
          repeat' (first | exact inn | exact pv_W inn (by simp [pv_le, pm_unk, show nI 0 = 0 from rfl]) | (refine pm_wb_ok pb_c249 1 _ 0 _ _ _ _ _ ?_; simp only [pm_WI0, pm_WI1, pm_WI2, pm_WI3, pm_WI4, pm_WI5, pm_WV, pm_WW, pm_WX, pb_B249, pm_if, pm_QI_at, pm_QL_at, pm_QV_at, pm_QR_at, pm_QR_at0, pm_QR_at1, Nat.reduceSub, Nat.reduceAdd, List.replicate_zero, List.replicate_succ, true_and, and_true, true_or, or_true, and_self, reduceIte, Nat.reduceEqDiff, Nat.reduceLT, Nat.reduceLeDiff, Nat.reduceMul, false_and, and_false, reduceCtorEq, false_or, or_false, not_true_eq_false, not_false_eq_true, true_implies, false_implies, implies_true, lf_10, eq_self, Int32.reduceLT, Int32.reduceLE, Int32.reduceAdd, Int32.reduceSub, pm_same, pm_i_wI, pm_l_wL, pm_l_wM, pm_oR_rf, pm_oQ_rf, nI_1, LQ1, LQ2, LQ5, sh_k59 hU, sh_k90 hU, sh_k91 hU, sh_k110 hU, sh_k111 hU, sh_z90 hU, sh_z91 hU, sh_z110 hU, sh_z111 hU, sh_r59_39 hU, sh_r59_40 hU, sh_r59_80 hU, sh_r59_81 hU, u41, hle]) | fail)
        · have eP : P = N := by omega
          subst eP
          have hle : nI P ≤ nI P := Int32.le_refl _
          have fin := h U hsU htU hBU
          try refine pm_wb_ok pb_c249 1 88 0 _ _ _ _ _ ?_
          try simp only [pm_WI0, pm_WI1, pm_WI2, pm_WI3, pm_WI4, pm_WI5, pm_WV, pm_WW, pm_WX, pb_B249, pm_if, pm_QI_at, pm_QL_at, pm_QV_at, pm_QR_at, pm_QR_at0, pm_QR_at1, Nat.reduceSub, Nat.reduceAdd, List.replicate_zero, List.replicate_succ, true_and, and_true, true_or, or_true, and_self, reduceIte, Nat.reduceEqDiff, Nat.reduceLT, Nat.reduceLeDiff, Nat.reduceMul, false_and, and_false, reduceCtorEq, false_or, or_false, not_true_eq_false, not_false_eq_true, true_implies, false_implies, implies_true, lf_10, eq_self, Int32.reduceLT, Int32.reduceLE, Int32.reduceAdd, Int32.reduceSub, pm_same, pm_i_wI, pm_l_wL, pm_l_wM, pm_oR_rf, pm_oQ_rf, nI_1, LQ1, LQ2, LQ5, sh_k59 hU, sh_k90 hU, sh_k91 hU, sh_k110 hU, sh_k111 hU, sh_z90 hU, sh_z91 hU, sh_z110 hU, sh_z111 hU, sh_r59_39 hU, sh_r59_40 hU, sh_r59_80 hU, sh_r59_81 hU, u41, hle]
          repeat' (first | exact fin | (refine pm_wb_ok pb_c249 1 _ 0 _ _ _ _ _ ?_; simp only [pm_WI0, pm_WI1, pm_WI2, pm_WI3, pm_WI4, pm_WI5, pm_WV, pm_WW, pm_WX, pb_B249, pm_if, pm_QI_at, pm_QL_at, pm_QV_at, pm_QR_at, pm_QR_at0, pm_QR_at1, Nat.reduceSub, Nat.reduceAdd, List.replicate_zero, List.replicate_succ, true_and, and_true, true_or, or_true, and_self, reduceIte, Nat.reduceEqDiff, Nat.reduceLT, Nat.reduceLeDiff, Nat.reduceMul, false_and, and_false, reduceCtorEq, false_or, or_false, not_true_eq_false, not_false_eq_true, true_implies, false_implies, implies_true, lf_10, eq_self, Int32.reduceLT, Int32.reduceLE, Int32.reduceAdd, Int32.reduceSub, pm_same, pm_i_wI, pm_l_wL, pm_l_wM, pm_oR_rf, pm_oQ_rf, nI_1, LQ1, LQ2, LQ5, sh_k59 hU, sh_k90 hU, sh_k91 hU, sh_k110 hU, sh_k111 hU, sh_z90 hU, sh_z91 hU, sh_z110 hU, sh_z111 hU, sh_r59_39 hU, sh_r59_40 hU, sh_r59_80 hU, sh_r59_81 hU, u41, hle]) | fail)
      try refine pm_wb_ok pb_c249 1 33 0 _ _ _ _ _ ?_
      try simp only [pm_WI0, pm_WI1, pm_WI2, pm_WI3, pm_WI4, pm_WI5, pm_WV, pm_WW, pm_WX, pb_B249, pm_if, pm_QI_at, pm_QL_at, pm_QV_at, pm_QR_at, pm_QR_at0, pm_QR_at1, Nat.reduceSub, Nat.reduceAdd, List.replicate_zero, List.replicate_succ, true_and, and_true, true_or, or_true, and_self, reduceIte, Nat.reduceEqDiff, Nat.reduceLT, Nat.reduceLeDiff, Nat.reduceMul, false_and, and_false, reduceCtorEq, false_or, or_false, not_true_eq_false, not_false_eq_true, true_implies, false_implies, implies_true, lf_10, eq_self, Int32.reduceLT, Int32.reduceLE, Int32.reduceAdd, Int32.reduceSub, pm_same, pm_i_wI, pm_l_wL, pm_l_wM, pm_oR_rf, pm_oQ_rf, nI_1, LQ1, LQ2, LQ5, sh_k59 hS, sh_k90 hS, sh_k91 hS, sh_k110 hS, sh_k111 hS, sh_z90 hS, sh_z91 hS, sh_z110 hS, sh_z111 hS, sh_r59_39 hS, sh_r59_40 hS, sh_r59_80 hS, sh_r59_81 hS, s41, nkN]
      repeat' (first | exact key | exact pv_W key (by simp [pv_le, pm_unk, show nI 0 = 0 from rfl]) | (refine pm_wb_ok pb_c249 1 _ 0 _ _ _ _ _ ?_; simp only [pm_WI0, pm_WI1, pm_WI2, pm_WI3, pm_WI4, pm_WI5, pm_WV, pm_WW, pm_WX, pb_B249, pm_if, pm_QI_at, pm_QL_at, pm_QV_at, pm_QR_at, pm_QR_at0, pm_QR_at1, Nat.reduceSub, Nat.reduceAdd, List.replicate_zero, List.replicate_succ, true_and, and_true, true_or, or_true, and_self, reduceIte, Nat.reduceEqDiff, Nat.reduceLT, Nat.reduceLeDiff, Nat.reduceMul, false_and, and_false, reduceCtorEq, false_or, or_false, not_true_eq_false, not_false_eq_true, true_implies, false_implies, implies_true, lf_10, eq_self, Int32.reduceLT, Int32.reduceLE, Int32.reduceAdd, Int32.reduceSub, pm_same, pm_i_wI, pm_l_wL, pm_l_wM, pm_oR_rf, pm_oQ_rf, nI_1, LQ1, LQ2, LQ5, sh_k59 hS, sh_k90 hS, sh_k91 hS, sh_k110 hS, sh_k111 hS, sh_z90 hS, sh_z91 hS, sh_z110 hS, sh_z111 hS, sh_r59_39 hS, sh_r59_40 hS, sh_r59_80 hS, sh_r59_81 hS, s41, nkN]) | fail)
