/-! fewest by both -/
def fwR (S : pm_S) (c : Nat) : Nat → Nat := fw_r (fwP S) c
def fwO (S : pm_S) (n N : Nat) (x : Nat) : Bool := decide (cv (fun c => fwR S c n) x N = cv (fun c => fwR S c n) (2 ^ N - 1) N)
theorem cl_137 {G : pm_G} {d : Nat} {A : iv_A} {S : pm_S} {n N : Nat} {q : Int32 → pm_S → Prop} (hd : 12 ≤ d) (hI : Inv A S) (hn : iv_c S 18 = n) (hN : pm_i S 59 35 = nI N) (hN12 : N ≤ 12) (h : ∀ U, sc S U → q (nI (fw_c (fwO S n N) (2 ^ N - 1) (2 ^ N - 1))) U) : pm_CI G d 137 [.ref 0] S q := by
  have hS := hI.sh
  obtain ⟨n40, hnn⟩ := MI.c18 hI.mi
  rw [hn] at n40 hnn
  have e28 : pm_i S 28 0 = nI N := hI.e28_0.trans hN
  have e04 : pm_i S 0 4 = nI n := hI.e0_4.trans hnn
  have key : ∀ V, sc S V → (∀ c, c < 12 → pm_l V 32 c = 0) → pm_W G d 137 (pm_QI q) 9 [.ref 0, .int (nI 0)] [] V 0 0 := fun V hV hz => by
    refine pv_while (fun x : Nat × pm_S => [.ref 0, .int (nI x.1)]) (fun x => x.2) (fun x => x.1 ≤ n ∧ sc S x.2 ∧ ∀ c, c < N → pm_l x.2 32 c = nL (fwR S c x.1)) (fun x => n - x.1) (fun x hP ih => ?_) (0, V) ⟨Nat.zero_le _, hV, fun c hc => hz c (by omega)⟩
    obtain ⟨i, U⟩ := x
    obtain ⟨hi, hs, hg⟩ := hP
    replace hi : i ≤ n := hi
    replace hs : sc S U := hs
    replace hg : ∀ c, c < N → pm_l U 32 c = nL (fwR S c i) := hg
    have hU := hs.sh hS
    have hIU := hI.sc hs
    have u04 : pm_i U 0 4 = nI n := by rw [hs.r0]; exact e04
    have u10 : pm_i U 1 0 = pm_i S 59 0 := hs.c1_0.trans hI.e1_0
    show pm_W G d 137 (pm_QI q) 9 [.ref 0, .int (nI i)] [] U 0 0
    by_cases e : i < n
    · have hle : ¬ nI n ≤ nI i := nI_ge e (by omega)
      have hcc := nI_clamp (n := i) (by omega)
      have hv := vp_in_nI (n := i) (N := 40) (by omega) (by decide)
      have hw := hIU.row (a := i) (by rw [hs.c (by omega)]; omega)
      try refine pm_wb_ok pb_c137 1 9 0 _ _ _ _ _ ?_
      try simp only [pm_WI0, pm_WI1, pm_WI2, pm_WI3, pm_WI4, pm_WI5, pm_WV, pm_WW, pm_WX, pb_B137, pm_if, pm_QI_at, pm_QL_at, pm_QV_at, pm_QR_at, pm_QR_at0, pm_QR_at1, Nat.reduceSub, Nat.reduceAdd, List.replicate_zero, List.replicate_succ, true_and, and_true, true_or, or_true, and_self, reduceIte, Nat.reduceEqDiff, Nat.reduceLT, Nat.reduceLeDiff, Nat.reduceMul, false_and, and_false, reduceCtorEq, false_or, or_false, not_true_eq_false, not_false_eq_true, true_implies, false_implies, implies_true, lf_10, eq_self, Int32.reduceLT, Int32.reduceLE, Int32.reduceAdd, Int32.reduceSub, pm_same, pm_i_wI, pm_l_wL, pm_l_wM, pm_oR_rf, pm_oQ_rf, sh_k0 hU, sh_r0_0 hU, sh_k1 hU, sh_r0_3 hU, sh_k4 hU, sh_z4 hU, sh_r0_7 hU, sh_k14 hU, sh_r0_8 hU, sh_k28 hU, nI_1, LQ1, LQ2, LQ5, sh_k0 hU, sh_k1 hU, u04, u10, hle, hcc, hw.r, va_rf]
      try refine ⟨hv, ?_⟩
      refine ⟨by omega, hw.k, lf_68 hw.k (fun hf => ?_) (fun hf => ?_)⟩
      · have hfd : fdd S i := by rw [hw.f6, hs.r62] at hf; exact hf
        try simp only [pm_WV, pm_WW, true_and, and_true, true_or, or_true, and_self, reduceIte, Nat.reduceEqDiff, Nat.reduceLT, Nat.reduceLeDiff, Nat.reduceMul, false_and, and_false, reduceCtorEq, false_or, or_false, not_true_eq_false, not_false_eq_true, true_implies, false_implies, implies_true, lf_10, eq_self, Int32.reduceLT, Int32.reduceLE, Int32.reduceAdd, Int32.reduceSub, pm_same, pm_i_wI, pm_l_wL, pm_l_wM, pm_oR_rf, pm_oQ_rf, nI_1, sw_e, LQ1, LQ2, pm_WI0, pm_WI1, pm_WI2, pm_WI3, pm_WI4, pm_WI5, pm_WV, pm_WW, pm_WX, pb_B137, pm_if, pm_QI_at, pm_QL_at, pm_QV_at, pm_QR_at, pm_QR_at0, pm_QR_at1, Nat.reduceSub, Nat.reduceAdd, List.replicate_zero, List.replicate_succ, true_and, and_true, true_or, or_true, and_self, reduceIte, Nat.reduceEqDiff, Nat.reduceLT, Nat.reduceLeDiff, Nat.reduceMul, false_and, and_false, reduceCtorEq, false_or, or_false, not_true_eq_false, not_false_eq_true, true_implies, false_implies, implies_true, lf_10, eq_self, Int32.reduceLT, Int32.reduceLE, Int32.reduceAdd, Int32.reduceSub, pm_same, pm_i_wI, pm_l_wL, pm_l_wM, pm_oR_rf, pm_oQ_rf, sh_k0 hU, sh_r0_0 hU, sh_k1 hU, sh_r0_3 hU, sh_k4 hU, sh_z4 hU, sh_r0_7 hU, sh_k14 hU, sh_r0_8 hU, sh_k28 hU, nI_1, LQ1, LQ2, LQ5, sh_k0 hU, sh_k1 hU, u04, u10, hle, hcc, hw.r, va_rf]
        try refine ⟨hv, ?_⟩
        refine ⟨by omega, lf_7F (by omega) hIU (by rw [hs.c (by omega)]; omega) (fun T hT hcF hcw => ?_)⟩
        have hST := hs.tr hT
        have hTS := hST.sh hS
        have hwT := (hI.sc hST).row (a := i) (by rw [hST.c (by omega)]; omega)
        try simp only [pm_WV, pm_WW, true_and, and_true, true_or, or_true, and_self, reduceIte, Nat.reduceEqDiff, Nat.reduceLT, Nat.reduceLeDiff, Nat.reduceMul, false_and, and_false, reduceCtorEq, false_or, or_false, not_true_eq_false, not_false_eq_true, true_implies, false_implies, implies_true, lf_10, eq_self, Int32.reduceLT, Int32.reduceLE, Int32.reduceAdd, Int32.reduceSub, pm_same, pm_i_wI, pm_l_wL, pm_l_wM, pm_oR_rf, pm_oQ_rf, nI_1, sw_e, LQ1, LQ2, pm_WI0, pm_WI1, pm_WI2, pm_WI3, pm_WI4, pm_WI5, pm_WV, pm_WW, pm_WX, pb_B137, pm_if, pm_QI_at, pm_QL_at, pm_QV_at, pm_QR_at, pm_QR_at0, pm_QR_at1, Nat.reduceSub, Nat.reduceAdd, List.replicate_zero, List.replicate_succ, true_and, and_true, true_or, or_true, and_self, reduceIte, Nat.reduceEqDiff, Nat.reduceLT, Nat.reduceLeDiff, Nat.reduceMul, false_and, and_false, reduceCtorEq, false_or, or_false, not_true_eq_false, not_false_eq_true, true_implies, false_implies, implies_true, lf_10, eq_self, Int32.reduceLT, Int32.reduceLE, Int32.reduceAdd, Int32.reduceSub, pm_same, pm_i_wI, pm_l_wL, pm_l_wM, pm_oR_rf, pm_oQ_rf, sh_k0 hTS, sh_r0_0 hTS, sh_k1 hTS, sh_r0_3 hTS, sh_k4 hTS, sh_z4 hTS, sh_r0_7 hTS, sh_k14 hTS, sh_r0_8 hTS, sh_k28 hTS, nI_1, LQ1, LQ2, LQ5, sh_k0 hTS, sh_k1 hTS, hle, hcc, hwT.r, va_rf]
        try refine ⟨hv, ?_⟩
        refine ⟨by omega, lf_17 (by omega) hIU hT (by rw [hs.c (by omega)]; omega) (by omega) hcw (hs.r28 ▸ e28) hN12 (g := fun c => fwR S c i) (fun c hc => by rw [hcF.2]; exact hg c hc) (fun X hX hgX => ?_)⟩
        have nx := ih (i + 1, X) ⟨by show i + 1 ≤ n; omega, hs.tr hX, fun c hc => by
          show pm_l X 32 c = nL (fwR S c (i + 1))
          rw [hgX c hc, rc_me hs.me]
          have e2 : fwR S c (i + 1) = if fwP S c i = true then fwR S c i ||| 2 ^ i else fwR S c i := rfl
          rw [e2]
          have e3 : fwP S c i = rc S c i (pm_i S 59 0) := by unfold fwP; rw [decide_eq_true hfd, Bool.true_and]
          rw [e3]⟩ (by show n - (i + 1) < n - i; omega)
        try simp only [pm_WV, pm_WW, true_and, and_true, true_or, or_true, and_self, reduceIte, Nat.reduceEqDiff, Nat.reduceLT, Nat.reduceLeDiff, Nat.reduceMul, false_and, and_false, reduceCtorEq, false_or, or_false, not_true_eq_false, not_false_eq_true, true_implies, false_implies, implies_true, lf_10, eq_self, Int32.reduceLT, Int32.reduceLE, Int32.reduceAdd, Int32.reduceSub, pm_same, pm_i_wI, pm_l_wL, pm_l_wM, pm_oR_rf, pm_oQ_rf, nI_1, sw_e, LQ1, LQ2, pm_WI0, pm_WI1, pm_WI2, pm_WI3, pm_WI4, pm_WI5, pm_WV, pm_WW, pm_WX, pb_B137, pm_if, pm_QI_at, pm_QL_at, pm_QV_at, pm_QR_at, pm_QR_at0, pm_QR_at1, Nat.reduceSub, Nat.reduceAdd, List.replicate_zero, List.replicate_succ, true_and, and_true, true_or, or_true, and_self, reduceIte, Nat.reduceEqDiff, Nat.reduceLT, Nat.reduceLeDiff, Nat.reduceMul, false_and, and_false, reduceCtorEq, false_or, or_false, not_true_eq_false, not_false_eq_true, true_implies, false_implies, implies_true, lf_10, eq_self, Int32.reduceLT, Int32.reduceLE, Int32.reduceAdd, Int32.reduceSub, pm_same, pm_i_wI, pm_l_wL, pm_l_wM, pm_oR_rf, pm_oQ_rf, sh_k0 hU, sh_r0_0 hU, sh_k1 hU, sh_r0_3 hU, sh_k4 hU, sh_z4 hU, sh_r0_7 hU, sh_k14 hU, sh_r0_8 hU, sh_k28 hU, nI_1, LQ1, LQ2, LQ5, sh_k0 hU, sh_k1 hU, nI_1]
        repeat' (first | exact nx | (refine pm_wb_ok pb_c137 1 _ 0 _ _ _ _ _ ?_; simp only [pm_WI0, pm_WI1, pm_WI2, pm_WI3, pm_WI4, pm_WI5, pm_WV, pm_WW, pm_WX, pb_B137, pm_if, pm_QI_at, pm_QL_at, pm_QV_at, pm_QR_at, pm_QR_at0, pm_QR_at1, Nat.reduceSub, Nat.reduceAdd, List.replicate_zero, List.replicate_succ, true_and, and_true, true_or, or_true, and_self, reduceIte, Nat.reduceEqDiff, Nat.reduceLT, Nat.reduceLeDiff, Nat.reduceMul, false_and, and_false, reduceCtorEq, false_or, or_false, not_true_eq_false, not_false_eq_true, true_implies, false_implies, implies_true, lf_10, eq_self, Int32.reduceLT, Int32.reduceLE, Int32.reduceAdd, Int32.reduceSub, pm_same, pm_i_wI, pm_l_wL, pm_l_wM, pm_oR_rf, pm_oQ_rf, sh_k0 hU, sh_r0_0 hU, sh_k1 hU, sh_r0_3 hU, sh_k4 hU, sh_z4 hU, sh_r0_7 hU, sh_k14 hU, sh_r0_8 hU, sh_k28 hU, nI_1, LQ1, LQ2, LQ5, sh_k0 hU, sh_k1 hU, nI_1]))
      · have hfd : ¬ fdd S i := by rw [hw.f6, hs.r62] at hf; exact hf
        have nx := ih (i + 1, U) ⟨by show i + 1 ≤ n; omega, hs, fun c hc => by
          show pm_l U 32 c = nL (fwR S c (i + 1))
          have e2 : fwR S c (i + 1) = if fwP S c i = true then fwR S c i ||| 2 ^ i else fwR S c i := rfl
          have e3 : fwP S c i = false := by unfold fwP; rw [decide_eq_false hfd, Bool.false_and]
          rw [e2, e3, if_neg (by decide)]; exact hg c hc⟩ (by show n - (i + 1) < n - i; omega)
        try simp only [pm_WV, pm_WW, true_and, and_true, true_or, or_true, and_self, reduceIte, Nat.reduceEqDiff, Nat.reduceLT, Nat.reduceLeDiff, Nat.reduceMul, false_and, and_false, reduceCtorEq, false_or, or_false, not_true_eq_false, not_false_eq_true, true_implies, false_implies, implies_true, lf_10, eq_self, Int32.reduceLT, Int32.reduceLE, Int32.reduceAdd, Int32.reduceSub, pm_same, pm_i_wI, pm_l_wL, pm_l_wM, pm_oR_rf, pm_oQ_rf, nI_1, sw_e, LQ1, LQ2, pm_WI0, pm_WI1, pm_WI2, pm_WI3, pm_WI4, pm_WI5, pm_WV, pm_WW, pm_WX, pb_B137, pm_if, pm_QI_at, pm_QL_at, pm_QV_at, pm_QR_at, pm_QR_at0, pm_QR_at1, Nat.reduceSub, Nat.reduceAdd, List.replicate_zero, List.replicate_succ, true_and, and_true, true_or, or_true, and_self, reduceIte, Nat.reduceEqDiff, Nat.reduceLT, Nat.reduceLeDiff, Nat.reduceMul, false_and, and_false, reduceCtorEq, false_or, or_false, not_true_eq_false, not_false_eq_true, true_implies, false_implies, implies_true, lf_10, eq_self, Int32.reduceLT, Int32.reduceLE, Int32.reduceAdd, Int32.reduceSub, pm_same, pm_i_wI, pm_l_wL, pm_l_wM, pm_oR_rf, pm_oQ_rf, sh_k0 hU, sh_r0_0 hU, sh_k1 hU, sh_r0_3 hU, sh_k4 hU, sh_z4 hU, sh_r0_7 hU, sh_k14 hU, sh_r0_8 hU, sh_k28 hU, nI_1, LQ1, LQ2, LQ5, sh_k0 hU, sh_k1 hU, u04, u10, hle, hcc, hw.r, va_rf]
        repeat' (first | exact nx | (refine pm_wb_ok pb_c137 1 _ 0 _ _ _ _ _ ?_; simp only [pm_WI0, pm_WI1, pm_WI2, pm_WI3, pm_WI4, pm_WI5, pm_WV, pm_WW, pm_WX, pb_B137, pm_if, pm_QI_at, pm_QL_at, pm_QV_at, pm_QR_at, pm_QR_at0, pm_QR_at1, Nat.reduceSub, Nat.reduceAdd, List.replicate_zero, List.replicate_succ, true_and, and_true, true_or, or_true, and_self, reduceIte, Nat.reduceEqDiff, Nat.reduceLT, Nat.reduceLeDiff, Nat.reduceMul, false_and, and_false, reduceCtorEq, false_or, or_false, not_true_eq_false, not_false_eq_true, true_implies, false_implies, implies_true, lf_10, eq_self, Int32.reduceLT, Int32.reduceLE, Int32.reduceAdd, Int32.reduceSub, pm_same, pm_i_wI, pm_l_wL, pm_l_wM, pm_oR_rf, pm_oQ_rf, sh_k0 hU, sh_r0_0 hU, sh_k1 hU, sh_r0_3 hU, sh_k4 hU, sh_z4 hU, sh_r0_7 hU, sh_k14 hU, sh_r0_8 hU, sh_k28 hU, nI_1, LQ1, LQ2, LQ5, sh_k0 hU, sh_k1 hU, u04, u10, hle, hcc, hw.r, va_rf]))
    · have ei : i = n := by omega
      subst ei
      have hle : nI i ≤ nI i := Int32.le_refl _
      try refine pm_wb_ok pb_c137 1 9 0 _ _ _ _ _ ?_
      try simp only [pm_WI0, pm_WI1, pm_WI2, pm_WI3, pm_WI4, pm_WI5, pm_WV, pm_WW, pm_WX, pb_B137, pm_if, pm_QI_at, pm_QL_at, pm_QV_at, pm_QR_at, pm_QR_at0, pm_QR_at1, Nat.reduceSub, Nat.reduceAdd, List.replicate_zero, List.replicate_succ, true_and, and_true, true_or, or_true, and_self, reduceIte, Nat.reduceEqDiff, Nat.reduceLT, Nat.reduceLeDiff, Nat.reduceMul, false_and, and_false, reduceCtorEq, false_or, or_false, not_true_eq_false, not_false_eq_true, true_implies, false_implies, implies_true, lf_10, eq_self, Int32.reduceLT, Int32.reduceLE, Int32.reduceAdd, Int32.reduceSub, pm_same, pm_i_wI, pm_l_wL, pm_l_wM, pm_oR_rf, pm_oQ_rf, sh_k0 hU, sh_r0_0 hU, sh_k1 hU, sh_r0_3 hU, sh_k4 hU, sh_z4 hU, sh_r0_7 hU, sh_k14 hU, sh_r0_8 hU, sh_k28 hU, nI_1, LQ1, LQ2, LQ5, sh_k0 hU, sh_k1 hU, u04, hle]
      try (refine pm_wb_ok pb_c137 1 _ 0 _ _ _ _ _ ?_; simp only [pm_WI0, pm_WI1, pm_WI2, pm_WI3, pm_WI4, pm_WI5, pm_WV, pm_WW, pm_WX, pb_B137, pm_if, pm_QI_at, pm_QL_at, pm_QV_at, pm_QR_at, pm_QR_at0, pm_QR_at1, Nat.reduceSub, Nat.reduceAdd, List.replicate_zero, List.replicate_succ, true_and, and_true, true_or, or_true, and_self, reduceIte, Nat.reduceEqDiff, Nat.reduceLT, Nat.reduceLeDiff, Nat.reduceMul, false_and, and_false, reduceCtorEq, false_or, or_false, not_true_eq_false, not_false_eq_true, true_implies, false_implies, implies_true, lf_10, eq_self, Int32.reduceLT, Int32.reduceLE, Int32.reduceAdd, Int32.reduceSub, pm_same, pm_i_wI, pm_l_wL, pm_l_wM, pm_oR_rf, pm_oQ_rf, sh_k0 hU, sh_r0_0 hU, sh_k1 hU, sh_r0_3 hU, sh_k4 hU, sh_z4 hU, sh_r0_7 hU, sh_k14 hU, sh_r0_8 hU, sh_k28 hU, nI_1, LQ1, LQ2, LQ5, sh_k0 hU, sh_k1 hU, u04, hle])
      refine ⟨by omega, lf_18 (by omega) hU (hs.r28 ▸ e28) hN12 rfl hg (fun c _ => Nat.lt_of_lt_of_le (fw_r_lt i) (Nat.pow_le_pow_right (by omega) n40)) (ok := fwO S i N) (fun x => rfl) ?_⟩
      exact h U hs
  refine pm_goI 137 1 pb_c137 (by decide) (Nat.le_of_ble_eq_true rfl) rfl ?_
  try simp only [show pm_mL 137 = 2 from rfl, pm_WI0, pm_WI1, pm_WI2, pm_WI3, pm_WI4, pm_WI5, pm_WV, pm_WW, pm_WX, pb_B137, pm_if, pm_QI_at, pm_QL_at, pm_QV_at, pm_QR_at, pm_QR_at0, pm_QR_at1, Nat.reduceSub, Nat.reduceAdd, List.replicate_zero, List.replicate_succ, true_and, and_true, true_or, or_true, and_self, reduceIte, Nat.reduceEqDiff, Nat.reduceLT, Nat.reduceLeDiff, Nat.reduceMul, false_and, and_false, reduceCtorEq, false_or, or_false, not_true_eq_false, not_false_eq_true, true_implies, false_implies, implies_true, lf_10, eq_self, Int32.reduceLT, Int32.reduceLE, Int32.reduceAdd, Int32.reduceSub, pm_same, pm_i_wI, pm_l_wL, pm_l_wM, pm_oR_rf, pm_oQ_rf, sh_k0 hS, sh_r0_0 hS, sh_k1 hS, sh_r0_3 hS, sh_k4 hS, sh_z4 hS, sh_r0_7 hS, sh_k14 hS, sh_r0_8 hS, sh_k28 hS, nI_1, LQ1, LQ2, LQ5, sh_k0 hS, sh_k1 hS]
  refine ⟨by omega, lf_16 hS (fun V hV _ hz => ?_)⟩
  try simp only [pm_WV, pm_WW, true_and, and_true, true_or, or_true, and_self, reduceIte, Nat.reduceEqDiff, Nat.reduceLT, Nat.reduceLeDiff, Nat.reduceMul, false_and, and_false, reduceCtorEq, false_or, or_false, not_true_eq_false, not_false_eq_true, true_implies, false_implies, implies_true, lf_10, eq_self, Int32.reduceLT, Int32.reduceLE, Int32.reduceAdd, Int32.reduceSub, pm_same, pm_i_wI, pm_l_wL, pm_l_wM, pm_oR_rf, pm_oQ_rf, nI_1, sw_e, LQ1, LQ2, pm_WI0, pm_WI1, pm_WI2, pm_WI3, pm_WI4, pm_WI5, pm_WV, pm_WW, pm_WX, pb_B137, pm_if, pm_QI_at, pm_QL_at, pm_QV_at, pm_QR_at, pm_QR_at0, pm_QR_at1, Nat.reduceSub, Nat.reduceAdd, List.replicate_zero, List.replicate_succ, true_and, and_true, true_or, or_true, and_self, reduceIte, Nat.reduceEqDiff, Nat.reduceLT, Nat.reduceLeDiff, Nat.reduceMul, false_and, and_false, reduceCtorEq, false_or, or_false, not_true_eq_false, not_false_eq_true, true_implies, false_implies, implies_true, lf_10, eq_self, Int32.reduceLT, Int32.reduceLE, Int32.reduceAdd, Int32.reduceSub, pm_same, pm_i_wI, pm_l_wL, pm_l_wM, pm_oR_rf, pm_oQ_rf, sh_k0 hS, sh_r0_0 hS, sh_k1 hS, sh_r0_3 hS, sh_k4 hS, sh_z4 hS, sh_r0_7 hS, sh_k14 hS, sh_r0_8 hS, sh_k28 hS, nI_1, LQ1, LQ2, LQ5, sh_k0 hS, sh_k1 hS]
  repeat' (first | exact key V hV hz | (refine pm_wb_ok pb_c137 1 _ 0 _ _ _ _ _ ?_; simp only [pm_WI0, pm_WI1, pm_WI2, pm_WI3, pm_WI4, pm_WI5, pm_WV, pm_WW, pm_WX, pb_B137, pm_if, pm_QI_at, pm_QL_at, pm_QV_at, pm_QR_at, pm_QR_at0, pm_QR_at1, Nat.reduceSub, Nat.reduceAdd, List.replicate_zero, List.replicate_succ, true_and, and_true, true_or, or_true, and_self, reduceIte, Nat.reduceEqDiff, Nat.reduceLT, Nat.reduceLeDiff, Nat.reduceMul, false_and, and_false, reduceCtorEq, false_or, or_false, not_true_eq_false, not_false_eq_true, true_implies, false_implies, implies_true, lf_10, eq_self, Int32.reduceLT, Int32.reduceLE, Int32.reduceAdd, Int32.reduceSub, pm_same, pm_i_wI, pm_l_wL, pm_l_wM, pm_oR_rf, pm_oQ_rf, sh_k0 hS, sh_r0_0 hS, sh_k1 hS, sh_r0_3 hS, sh_k4 hS, sh_z4 hS, sh_r0_7 hS, sh_k14 hS, sh_r0_8 hS, sh_k28 hS, nI_1, LQ1, LQ2, LQ5, sh_k0 hS, sh_k1 hS]))
theorem lf_236 {G : pm_G} {d : Nat} {S : pm_S} {x : Nat} {q : Int32 → pm_S → Prop} (hx : x < 4096) (h : q (nI (bt x)) S) : pm_CI G d 236 [.int (nI x)] S q := by
  have key : pm_W G d 236 (pm_QI q) 4 [.int (nI x), .int (nI (bt_ x 0)), .int (nI 0)] [] S 0 0 := by
    refine pv_loopR (fun i => [.int (nI x), .int (nI (bt_ x i)), .int (nI i)]) 12 (fun i hi hk => ?_) ?_
    · have hle : ¬ (12 : Int32) ≤ nI i := by have := nI_ge hi (show 12 < 2 ^ 31 by omega); exact this
      have b := bit_c (x := x) (c := i) (by omega) (by omega)
      have ec : nI (bt_ x i) + (nI x >>> (nI i &&& 31) &&& 1) = nI (bt_ x (i + 1)) := by
        rw [b, show bt_ x (i + 1) = bt_ x i + if x.testBit i then 1 else 0 from rfl]
        cases x.testBit i with
        | true => rw [if_pos rfl, if_pos rfl, show (1 : Int32) = nI 1 from rfl, nI_add]
        | false => rw [if_neg (by decide), if_neg (by decide), show (0 : Int32) = nI 0 from rfl, nI_add]
      try refine pm_wb_ok pb_c236 1 4 0 _ _ _ _ _ ?_
      try simp only [pm_WI0, pm_WI1, pm_WI2, pm_WI3, pm_WI4, pm_WI5, pm_WV, pm_WW, pm_WX, pb_B236, pm_if, pm_QI_at, pm_QL_at, pm_QV_at, pm_QR_at, pm_QR_at0, pm_QR_at1, Nat.reduceSub, Nat.reduceAdd, List.replicate_zero, List.replicate_succ, true_and, and_true, true_or, or_true, and_self, reduceIte, Nat.reduceEqDiff, Nat.reduceLT, Nat.reduceLeDiff, Nat.reduceMul, false_and, and_false, reduceCtorEq, false_or, or_false, not_true_eq_false, not_false_eq_true, true_implies, false_implies, implies_true, lf_10, eq_self, Int32.reduceLT, Int32.reduceLE, Int32.reduceAdd, Int32.reduceSub, pm_same, pm_i_wI, pm_l_wL, pm_l_wM, pm_oR_rf, pm_oQ_rf, nI_1, LQ1, LQ2, LQ5, hle, ec]
      repeat' (first | exact hk | (refine pm_wb_ok pb_c236 1 _ 0 _ _ _ _ _ ?_; simp only [pm_WI0, pm_WI1, pm_WI2, pm_WI3, pm_WI4, pm_WI5, pm_WV, pm_WW, pm_WX, pb_B236, pm_if, pm_QI_at, pm_QL_at, pm_QV_at, pm_QR_at, pm_QR_at0, pm_QR_at1, Nat.reduceSub, Nat.reduceAdd, List.replicate_zero, List.replicate_succ, true_and, and_true, true_or, or_true, and_self, reduceIte, Nat.reduceEqDiff, Nat.reduceLT, Nat.reduceLeDiff, Nat.reduceMul, false_and, and_false, reduceCtorEq, false_or, or_false, not_true_eq_false, not_false_eq_true, true_implies, false_implies, implies_true, lf_10, eq_self, Int32.reduceLT, Int32.reduceLE, Int32.reduceAdd, Int32.reduceSub, pm_same, pm_i_wI, pm_l_wL, pm_l_wM, pm_oR_rf, pm_oQ_rf, nI_1, LQ1, LQ2, LQ5, hle, ec]))
    · have hle : (12 : Int32) ≤ nI 12 := Int32.le_refl _
      try refine pm_wb_ok pb_c236 1 4 0 _ _ _ _ _ ?_
      try simp only [pm_WI0, pm_WI1, pm_WI2, pm_WI3, pm_WI4, pm_WI5, pm_WV, pm_WW, pm_WX, pb_B236, pm_if, pm_QI_at, pm_QL_at, pm_QV_at, pm_QR_at, pm_QR_at0, pm_QR_at1, Nat.reduceSub, Nat.reduceAdd, List.replicate_zero, List.replicate_succ, true_and, and_true, true_or, or_true, and_self, reduceIte, Nat.reduceEqDiff, Nat.reduceLT, Nat.reduceLeDiff, Nat.reduceMul, false_and, and_false, reduceCtorEq, false_or, or_false, not_true_eq_false, not_false_eq_true, true_implies, false_implies, implies_true, lf_10, eq_self, Int32.reduceLT, Int32.reduceLE, Int32.reduceAdd, Int32.reduceSub, pm_same, pm_i_wI, pm_l_wL, pm_l_wM, pm_oR_rf, pm_oQ_rf, nI_1, LQ1, LQ2, LQ5, hle]
      repeat' (first | exact h | (refine pm_wb_ok pb_c236 1 _ 0 _ _ _ _ _ ?_; simp only [pm_WI0, pm_WI1, pm_WI2, pm_WI3, pm_WI4, pm_WI5, pm_WV, pm_WW, pm_WX, pb_B236, pm_if, pm_QI_at, pm_QL_at, pm_QV_at, pm_QR_at, pm_QR_at0, pm_QR_at1, Nat.reduceSub, Nat.reduceAdd, List.replicate_zero, List.replicate_succ, true_and, and_true, true_or, or_true, and_self, reduceIte, Nat.reduceEqDiff, Nat.reduceLT, Nat.reduceLeDiff, Nat.reduceMul, false_and, and_false, reduceCtorEq, false_or, or_false, not_true_eq_false, not_false_eq_true, true_implies, false_implies, implies_true, lf_10, eq_self, Int32.reduceLT, Int32.reduceLE, Int32.reduceAdd, Int32.reduceSub, pm_same, pm_i_wI, pm_l_wL, pm_l_wM, pm_oR_rf, pm_oQ_rf, nI_1, LQ1, LQ2, LQ5, hle]))
  refine pm_goI 236 1 pb_c236 (by decide) (Nat.le_of_ble_eq_true rfl) rfl ?_
  try simp only [show pm_mL 236 = 3 from rfl, pm_WI0, pm_WI1, pm_WI2, pm_WI3, pm_WI4, pm_WI5, pm_WV, pm_WW, pm_WX, pb_B236, pm_if, pm_QI_at, pm_QL_at, pm_QV_at, pm_QR_at, pm_QR_at0, pm_QR_at1, Nat.reduceSub, Nat.reduceAdd, List.replicate_zero, List.replicate_succ, true_and, and_true, true_or, or_true, and_self, reduceIte, Nat.reduceEqDiff, Nat.reduceLT, Nat.reduceLeDiff, Nat.reduceMul, false_and, and_false, reduceCtorEq, false_or, or_false, not_true_eq_false, not_false_eq_true, true_implies, false_implies, implies_true, lf_10, eq_self, Int32.reduceLT, Int32.reduceLE, Int32.reduceAdd, Int32.reduceSub, pm_same, pm_i_wI, pm_l_wL, pm_l_wM, pm_oR_rf, pm_oQ_rf, nI_1, LQ1, LQ2, LQ5]
  repeat' (first | exact key | (refine pm_wb_ok pb_c236 1 _ 0 _ _ _ _ _ ?_; simp only [pm_WI0, pm_WI1, pm_WI2, pm_WI3, pm_WI4, pm_WI5, pm_WV, pm_WW, pm_WX, pb_B236, pm_if, pm_QI_at, pm_QL_at, pm_QV_at, pm_QR_at, pm_QR_at0, pm_QR_at1, Nat.reduceSub, Nat.reduceAdd, List.replicate_zero, List.replicate_succ, true_and, and_true, true_or, or_true, and_self, reduceIte, Nat.reduceEqDiff, Nat.reduceLT, Nat.reduceLeDiff, Nat.reduceMul, false_and, and_false, reduceCtorEq, false_or, or_false, not_true_eq_false, not_false_eq_true, true_implies, false_implies, implies_true, lf_10, eq_self, Int32.reduceLT, Int32.reduceLE, Int32.reduceAdd, Int32.reduceSub, pm_same, pm_i_wI, pm_l_wL, pm_l_wM, pm_oR_rf, pm_oQ_rf, nI_1, LQ1, LQ2, LQ5]))
def fwM (S : pm_S) (N m : Nat) : Nat := if fdd S m then rb S m (pm_i S 59 0) N else 0
theorem fwM_lt {S : pm_S} {N m : Nat} (h : N ≤ 12) : fwM S N m < 4096 := by
  unfold fwM
  have := rb_lt (S := S) (m := m) (k := pm_i S 59 0) N
  have : 2 ^ N ≤ 2 ^ 12 := Nat.pow_le_pow_right (by omega) h
  split <;> omega
theorem fwM_bit {S : pm_S} {N m : Nat} (c : Nat) : (fwM S N m).testBit c = true ↔ c < N ∧ fwP S c m = true := by
  unfold fwM fwP
  by_cases f : fdd S m
  · rw [if_pos f, rb_bit, decide_eq_true f, Bool.true_and, Bool.and_eq_true, decide_eq_true_eq]
  · rw [if_neg f, Nat.zero_testBit, decide_eq_false f, Bool.false_and]
    exact ⟨fun z => absurd z (by decide), fun z => absurd z.2 (by decide)⟩
def fwA (r : Nat → Nat) (x : Nat) : Nat → Bool
  | 0 => true
  | i + 1 => fwA r x i && (decide (r i = 0) || !decide (r i &&& x = 0))
theorem fwA_iff {r : Nat → Nat} {x : Nat} : ∀ n, fwA r x n = true ↔ ∀ m, m < n → r m = 0 ∨ ¬ (r m &&& x = 0)
  | 0 => ⟨fun _ m hm => absurd hm (Nat.not_lt_zero m), fun _ => rfl⟩
  | n + 1 => by
    unfold fwA
    rw [Bool.and_eq_true, fwA_iff n, Bool.or_eq_true, decide_eq_true_eq, Bool.not_eq_true', decide_eq_false_iff_not]
    constructor
    · rintro ⟨h1, h2⟩ m hm
      by_cases e : m = n
      · subst e; exact h2
      · exact h1 m (by omega)
    · intro h; exact ⟨fun m hm => h m (by omega), h n (by omega)⟩
theorem fwA_stop {r : Nat → Nat} {x i : Nat} (h : fwA r x i = false) : ∀ k, fwA r x (i + k) = false
  | 0 => h
  | k + 1 => by rw [show fwA r x (i + (k + 1)) = (fwA r x (i + k) && (decide (r (i + k) = 0) || !decide (r (i + k) &&& x = 0))) from rfl, fwA_stop h k, Bool.false_and]
theorem fw_ok {S : pm_S} {n N x : Nat} (hx : x < 2 ^ N) : fwA (fwM S N) x n = fwO S n N x := by
  rw [Bool.eq_iff_iff, fwA_iff]
  unfold fwO
  rw [decide_eq_true_eq]
  exact (fw_cov (P := fwP S) (r := fwM S N) hx (fun m _ c => fwM_bit c)).symm
theorem fw_m_cong {o1 o2 : Nat → Bool} {M : Nat} (h : ∀ x, x ≤ M → o1 x = o2 x) : ∀ i, fw_m o1 M i = fw_m o2 M i
  | 0 => rfl
  | i + 1 => by unfold fw_m; rw [fw_m_cong h i, h (M - i) (by omega)]
theorem fw_end {S : pm_S} {n N : Nat} (hN : N ≤ 12) : fw_m (fwA (fwM S N) · n) (2 ^ N - 1) (2 ^ N) = fw_c (fwO S n N) (2 ^ N - 1) (2 ^ N - 1) := by
  have p0 : 1 ≤ 2 ^ N := Nat.one_le_two_pow
  rw [fw_m_cong (o2 := fwO S n N) (fun x hx => fw_ok (by omega)), fw_same (ok := fwO S n N) (by unfold fwO; rw [decide_eq_true rfl]) (fun x hx => by rw [bt_all N (by omega)]; exact bt_max hN hx), show 2 ^ N - 1 + 1 = 2 ^ N by omega]
theorem wt_and (a b : Nat) : nI a &&& nI b = nI (a &&& b) := by
  apply Int32.toBitVec_inj.mp
  show BitVec.ofNat 32 a &&& BitVec.ofNat 32 b = BitVec.ofNat 32 (a &&& b)
  apply BitVec.eq_of_getLsbD_eq
  intro i hi
  rw [BitVec.getLsbD_and, BitVec.getLsbD_ofNat, BitVec.getLsbD_ofNat, BitVec.getLsbD_ofNat, Nat.testBit_and]
  cases decide (i < 32) <;> rfl
theorem nI_z {a : Nat} (h : a < 2 ^ 31) : nI a = 0 ↔ a = 0 := by
  have := nI_eq (a := a) (b := 0) h (by decide)
  exact this
def fwS (M i : Nat) : Int32 := if i ≤ M then nI (M - i) else -1
theorem fwS_next {M i : Nat} (h : i ≤ M) : nI (M - i) + -1 = fwS M (i + 1) := by
  unfold fwS
  by_cases e : i + 1 ≤ M
  · have e2 : M - i = (M - (i + 1)) + 1 := by omega
    have e3 := nI_pred (M - (i + 1))
    rw [Int32.sub_eq_add_neg] at e3
    rw [if_pos e, e2]; exact e3
  · rw [if_neg e, show M - i = 0 by omega]; rfl
theorem fw_m_le {ok : Nat → Bool} {M : Nat} : ∀ i, fw_m ok M i ≤ M
  | 0 => Nat.le_refl _
  | i + 1 => by
    have ih := fw_m_le (ok := ok) (M := M) i
    unfold fw_m
    split <;> omega
theorem mo_235 {G : pm_G} {d : Nat} {S : pm_S} {n N : Nat} {q : Int32 → pm_S → Prop} (hd : 36 ≤ d) (hMI : iv_MI S) (hn : iv_c S 18 = n) (hN : pm_i S 59 35 = nI N) (hN12 : N ≤ 12) (h : ∀ U, sc S U → q (nI (fw_m (fwA (fwM S N) · n) (2 ^ N - 1) (2 ^ N))) U) : pm_CI G d 235 [.ref 59] S q := by
  have hS := hMI.1
  obtain ⟨n40, hnn⟩ := MI.c18 hMI
  rw [hn] at n40 hnn
  have p12 : 2 ^ N ≤ 2 ^ 12 := Nat.pow_le_pow_right (by omega) hN12
  have p0 : 1 ≤ 2 ^ N := Nat.one_le_two_pow
  have sN := wt_sh N (by omega)
  generalize hM : 2 ^ N - 1 = M at *
  have sM : nI (2 ^ N) - 1 = nI M := by rw [← hM]; exact nI_sub1 p0
  have pM : 2 ^ N = M + 1 := by omega
  rw [pM] at h
  have key2 : ∀ U, sc S U → (∀ m, m < n → pm_i U 102 m = nI (fwM S N m)) → pm_W G d 235 (pm_QI q) 57 [.ref 59, .int (nI M), .int (nI M), .float 0, .float 0] [] U 0 0 := fun U hs hr => by
    have hU := hs.sh hS
    have u18 : pm_i U 59 18 = nI n := hs.m18.trans hnn
    have kk : pm_W G d 235 (pm_QI q) 57 [.ref 59, .int (nI (fw_m (fwA (fwM S N) · n) M 0)), .int (fwS M 0), .float 0, .float 0] [] U 0 0 := by
      refine pv_loopR (fun i => [.ref 59, .int (nI (fw_m (fwA (fwM S N) · n) M i)), .int (fwS M i), .float 0, .float 0]) (M + 1) (fun i hi hk => ?_) ?_
      · have e1 : fwS M i = nI (M - i) := by unfold fwS; rw [if_pos (by omega)]
        have e2 := fwS_next (M := M) (i := i) (by omega)
        have bl := fw_m_le (ok := (fwA (fwM S N) · n)) (M := M) i
        have ec : fw_m (fwA (fwM S N) · n) M (i + 1) = if fwA (fwM S N) (M - i) n = true ∧ bt (M - i) ≤ bt (fw_m (fwA (fwM S N) · n) M i) then M - i else fw_m (fwA (fwM S N) · n) M i := rfl
        show pm_W G d 235 (pm_QI q) 57 [.ref 59, .int (nI (fw_m (fwA (fwM S N) · n) M i)), .int (fwS M i), .float 0, .float 0] [] U 0 0
        rw [e1]
        rw [← e2] at hk
        rw [ec] at hk
        clear ec
        generalize fw_m (fwA (fwM S N) · n) M i = B at *
        have hxM : M - i ≤ M := Nat.sub_le _ _
        generalize M - i = x at *
        have bB := bt_le B
        have bx := bt_le x
        have n0 : ¬ nI x < 0 := by have := nI_nlt (a := x) (b := 0) (by omega) (by omega); exact this
        have ex : ∀ j : Value, pm_W G d 235 (pm_QI q) 113 [.ref 59, .int (nI B), .int (nI x), .int (bI (fwA (fwM S N) x n)), j] [] U 0 0 := fun j => by
          cases hA : fwA (fwM S N) x n with
          | false =>
            rw [hA, if_neg (fun z => absurd z.1 (by decide))] at hk
            try refine pm_wb_ok pb_c235 1 113 0 _ _ _ _ _ ?_
            try simp only [pm_WI0, pm_WI1, pm_WI2, pm_WI3, pm_WI4, pm_WI5, pm_WV, pm_WW, pm_WX, pb_B235, pm_if, pm_QI_at, pm_QL_at, pm_QV_at, pm_QR_at, pm_QR_at0, pm_QR_at1, Nat.reduceSub, Nat.reduceAdd, List.replicate_zero, List.replicate_succ, true_and, and_true, true_or, or_true, and_self, reduceIte, Nat.reduceEqDiff, Nat.reduceLT, Nat.reduceLeDiff, Nat.reduceMul, false_and, and_false, reduceCtorEq, false_or, or_false, not_true_eq_false, not_false_eq_true, true_implies, false_implies, implies_true, lf_10, eq_self, Int32.reduceLT, Int32.reduceLE, Int32.reduceAdd, Int32.reduceSub, pm_same, pm_i_wI, pm_l_wL, pm_l_wM, pm_oR_rf, pm_oQ_rf, sh_k59 hU, sh_r59_71 hU, sh_k102 hU, sh_z102 hU, nI_1, LQ1, LQ2, LQ5, sh_k59 hU, bI, Bool.false_eq_true, n0]
            repeat' (first | exact pv_W hk (by simp [pv_le, pm_unk]) | (refine pm_wb_ok pb_c235 1 _ 0 _ _ _ _ _ ?_; simp only [pm_WI0, pm_WI1, pm_WI2, pm_WI3, pm_WI4, pm_WI5, pm_WV, pm_WW, pm_WX, pb_B235, pm_if, pm_QI_at, pm_QL_at, pm_QV_at, pm_QR_at, pm_QR_at0, pm_QR_at1, Nat.reduceSub, Nat.reduceAdd, List.replicate_zero, List.replicate_succ, true_and, and_true, true_or, or_true, and_self, reduceIte, Nat.reduceEqDiff, Nat.reduceLT, Nat.reduceLeDiff, Nat.reduceMul, false_and, and_false, reduceCtorEq, false_or, or_false, not_true_eq_false, not_false_eq_true, true_implies, false_implies, implies_true, lf_10, eq_self, Int32.reduceLT, Int32.reduceLE, Int32.reduceAdd, Int32.reduceSub, pm_same, pm_i_wI, pm_l_wL, pm_l_wM, pm_oR_rf, pm_oQ_rf, sh_k59 hU, sh_r59_71 hU, sh_k102 hU, sh_z102 hU, nI_1, LQ1, LQ2, LQ5, sh_k59 hU, bI, Bool.false_eq_true, n0]))
          | true =>
            rw [hA] at hk
            try refine pm_wb_ok pb_c235 1 113 0 _ _ _ _ _ ?_
            try simp only [pm_WI0, pm_WI1, pm_WI2, pm_WI3, pm_WI4, pm_WI5, pm_WV, pm_WW, pm_WX, pb_B235, pm_if, pm_QI_at, pm_QL_at, pm_QV_at, pm_QR_at, pm_QR_at0, pm_QR_at1, Nat.reduceSub, Nat.reduceAdd, List.replicate_zero, List.replicate_succ, true_and, and_true, true_or, or_true, and_self, reduceIte, Nat.reduceEqDiff, Nat.reduceLT, Nat.reduceLeDiff, Nat.reduceMul, false_and, and_false, reduceCtorEq, false_or, or_false, not_true_eq_false, not_false_eq_true, true_implies, false_implies, implies_true, lf_10, eq_self, Int32.reduceLT, Int32.reduceLE, Int32.reduceAdd, Int32.reduceSub, pm_same, pm_i_wI, pm_l_wL, pm_l_wM, pm_oR_rf, pm_oQ_rf, sh_k59 hU, sh_r59_71 hU, sh_k102 hU, sh_z102 hU, nI_1, LQ1, LQ2, LQ5, sh_k59 hU, bI, Bool.false_eq_true, n0]
            refine ⟨by omega, lf_236 (by omega) ?_⟩
            try simp only [pm_WV, pm_WW, true_and, and_true, true_or, or_true, and_self, reduceIte, Nat.reduceEqDiff, Nat.reduceLT, Nat.reduceLeDiff, Nat.reduceMul, false_and, and_false, reduceCtorEq, false_or, or_false, not_true_eq_false, not_false_eq_true, true_implies, false_implies, implies_true, lf_10, eq_self, Int32.reduceLT, Int32.reduceLE, Int32.reduceAdd, Int32.reduceSub, pm_same, pm_i_wI, pm_l_wL, pm_l_wM, pm_oR_rf, pm_oQ_rf, nI_1, sw_e, LQ1, LQ2, pm_WI0, pm_WI1, pm_WI2, pm_WI3, pm_WI4, pm_WI5, pm_WV, pm_WW, pm_WX, pb_B235, pm_if, pm_QI_at, pm_QL_at, pm_QV_at, pm_QR_at, pm_QR_at0, pm_QR_at1, Nat.reduceSub, Nat.reduceAdd, List.replicate_zero, List.replicate_succ, true_and, and_true, true_or, or_true, and_self, reduceIte, Nat.reduceEqDiff, Nat.reduceLT, Nat.reduceLeDiff, Nat.reduceMul, false_and, and_false, reduceCtorEq, false_or, or_false, not_true_eq_false, not_false_eq_true, true_implies, false_implies, implies_true, lf_10, eq_self, Int32.reduceLT, Int32.reduceLE, Int32.reduceAdd, Int32.reduceSub, pm_same, pm_i_wI, pm_l_wL, pm_l_wM, pm_oR_rf, pm_oQ_rf, sh_k59 hU, sh_r59_71 hU, sh_k102 hU, sh_z102 hU, nI_1, LQ1, LQ2, LQ5, sh_k59 hU, bI, Bool.false_eq_true, n0]
            refine ⟨by omega, lf_236 (by omega) ?_⟩
            by_cases c : bt x ≤ bt B
            · rw [if_pos ⟨rfl, c⟩] at hk
              have g1 : ¬ nI (bt B) < nI (bt x) := nI_nlt c (by omega)
              try simp only [pm_WV, pm_WW, true_and, and_true, true_or, or_true, and_self, reduceIte, Nat.reduceEqDiff, Nat.reduceLT, Nat.reduceLeDiff, Nat.reduceMul, false_and, and_false, reduceCtorEq, false_or, or_false, not_true_eq_false, not_false_eq_true, true_implies, false_implies, implies_true, lf_10, eq_self, Int32.reduceLT, Int32.reduceLE, Int32.reduceAdd, Int32.reduceSub, pm_same, pm_i_wI, pm_l_wL, pm_l_wM, pm_oR_rf, pm_oQ_rf, nI_1, sw_e, LQ1, LQ2, pm_WI0, pm_WI1, pm_WI2, pm_WI3, pm_WI4, pm_WI5, pm_WV, pm_WW, pm_WX, pb_B235, pm_if, pm_QI_at, pm_QL_at, pm_QV_at, pm_QR_at, pm_QR_at0, pm_QR_at1, Nat.reduceSub, Nat.reduceAdd, List.replicate_zero, List.replicate_succ, true_and, and_true, true_or, or_true, and_self, reduceIte, Nat.reduceEqDiff, Nat.reduceLT, Nat.reduceLeDiff, Nat.reduceMul, false_and, and_false, reduceCtorEq, false_or, or_false, not_true_eq_false, not_false_eq_true, true_implies, false_implies, implies_true, lf_10, eq_self, Int32.reduceLT, Int32.reduceLE, Int32.reduceAdd, Int32.reduceSub, pm_same, pm_i_wI, pm_l_wL, pm_l_wM, pm_oR_rf, pm_oQ_rf, sh_k59 hU, sh_r59_71 hU, sh_k102 hU, sh_z102 hU, nI_1, LQ1, LQ2, LQ5, sh_k59 hU, bI, Bool.false_eq_true, n0, g1]
              repeat' (first | exact pv_W hk (by simp [pv_le, pm_unk]) | (refine pm_wb_ok pb_c235 1 _ 0 _ _ _ _ _ ?_; simp only [pm_WI0, pm_WI1, pm_WI2, pm_WI3, pm_WI4, pm_WI5, pm_WV, pm_WW, pm_WX, pb_B235, pm_if, pm_QI_at, pm_QL_at, pm_QV_at, pm_QR_at, pm_QR_at0, pm_QR_at1, Nat.reduceSub, Nat.reduceAdd, List.replicate_zero, List.replicate_succ, true_and, and_true, true_or, or_true, and_self, reduceIte, Nat.reduceEqDiff, Nat.reduceLT, Nat.reduceLeDiff, Nat.reduceMul, false_and, and_false, reduceCtorEq, false_or, or_false, not_true_eq_false, not_false_eq_true, true_implies, false_implies, implies_true, lf_10, eq_self, Int32.reduceLT, Int32.reduceLE, Int32.reduceAdd, Int32.reduceSub, pm_same, pm_i_wI, pm_l_wL, pm_l_wM, pm_oR_rf, pm_oQ_rf, sh_k59 hU, sh_r59_71 hU, sh_k102 hU, sh_z102 hU, nI_1, LQ1, LQ2, LQ5, sh_k59 hU, bI, Bool.false_eq_true, n0, g1]))
            · rw [if_neg (fun z => c z.2)] at hk
              have g1 : nI (bt B) < nI (bt x) := nI_lt (by omega) (by omega)
              try simp only [pm_WV, pm_WW, true_and, and_true, true_or, or_true, and_self, reduceIte, Nat.reduceEqDiff, Nat.reduceLT, Nat.reduceLeDiff, Nat.reduceMul, false_and, and_false, reduceCtorEq, false_or, or_false, not_true_eq_false, not_false_eq_true, true_implies, false_implies, implies_true, lf_10, eq_self, Int32.reduceLT, Int32.reduceLE, Int32.reduceAdd, Int32.reduceSub, pm_same, pm_i_wI, pm_l_wL, pm_l_wM, pm_oR_rf, pm_oQ_rf, nI_1, sw_e, LQ1, LQ2, pm_WI0, pm_WI1, pm_WI2, pm_WI3, pm_WI4, pm_WI5, pm_WV, pm_WW, pm_WX, pb_B235, pm_if, pm_QI_at, pm_QL_at, pm_QV_at, pm_QR_at, pm_QR_at0, pm_QR_at1, Nat.reduceSub, Nat.reduceAdd, List.replicate_zero, List.replicate_succ, true_and, and_true, true_or, or_true, and_self, reduceIte, Nat.reduceEqDiff, Nat.reduceLT, Nat.reduceLeDiff, Nat.reduceMul, false_and, and_false, reduceCtorEq, false_or, or_false, not_true_eq_false, not_false_eq_true, true_implies, false_implies, implies_true, lf_10, eq_self, Int32.reduceLT, Int32.reduceLE, Int32.reduceAdd, Int32.reduceSub, pm_same, pm_i_wI, pm_l_wL, pm_l_wM, pm_oR_rf, pm_oQ_rf, sh_k59 hU, sh_r59_71 hU, sh_k102 hU, sh_z102 hU, nI_1, LQ1, LQ2, LQ5, sh_k59 hU, bI, Bool.false_eq_true, n0, g1]
              repeat' (first | exact pv_W hk (by simp [pv_le, pm_unk]) | (refine pm_wb_ok pb_c235 1 _ 0 _ _ _ _ _ ?_; simp only [pm_WI0, pm_WI1, pm_WI2, pm_WI3, pm_WI4, pm_WI5, pm_WV, pm_WW, pm_WX, pb_B235, pm_if, pm_QI_at, pm_QL_at, pm_QV_at, pm_QR_at, pm_QR_at0, pm_QR_at1, Nat.reduceSub, Nat.reduceAdd, List.replicate_zero, List.replicate_succ, true_and, and_true, true_or, or_true, and_self, reduceIte, Nat.reduceEqDiff, Nat.reduceLT, Nat.reduceLeDiff, Nat.reduceMul, false_and, and_false, reduceCtorEq, false_or, or_false, not_true_eq_false, not_false_eq_true, true_implies, false_implies, implies_true, lf_10, eq_self, Int32.reduceLT, Int32.reduceLE, Int32.reduceAdd, Int32.reduceSub, pm_same, pm_i_wI, pm_l_wL, pm_l_wM, pm_oR_rf, pm_oQ_rf, sh_k59 hU, sh_r59_71 hU, sh_k102 hU, sh_z102 hU, nI_1, LQ1, LQ2, LQ5, sh_k59 hU, bI, Bool.false_eq_true, n0, g1]))
        have inner : pm_W G d 235 (pm_QI q) 66 [.ref 59, .int (nI B), .int (nI x), .int (bI (fwA (fwM S N) x 0)), .int (nI 0)] [] U 0 0 := by
          refine pv_loopR (fun m => [.ref 59, .int (nI B), .int (nI x), .int (bI (fwA (fwM S N) x m)), .int (nI m)]) n (fun m hm hk2 => ?_) ?_
          · have hle : ¬ nI n ≤ nI m := nI_ge hm (by omega)
            have hcc := nI_clamp (n := m) (by omega)
            have hv := vp_in_nI (n := m) (N := 40) (by omega) (by decide)
            have hrm := hr m hm
            have rl := fwM_lt (S := S) (N := N) (m := m) hN12
            have ea : fwA (fwM S N) x (m + 1) = (fwA (fwM S N) x m && (decide (fwM S N m = 0) || !decide (fwM S N m &&& x = 0))) := rfl
            cases hA : fwA (fwM S N) x m with
            | false =>
              have f := fwA_stop hA (n - m)
              rw [show m + (n - m) = n by omega] at f
              rw [f] at ex
              have ex0 := ex (.int (nI m))
              try refine pm_wb_ok pb_c235 1 66 0 _ _ _ _ _ ?_
              try simp only [pm_WI0, pm_WI1, pm_WI2, pm_WI3, pm_WI4, pm_WI5, pm_WV, pm_WW, pm_WX, pb_B235, pm_if, pm_QI_at, pm_QL_at, pm_QV_at, pm_QR_at, pm_QR_at0, pm_QR_at1, Nat.reduceSub, Nat.reduceAdd, List.replicate_zero, List.replicate_succ, true_and, and_true, true_or, or_true, and_self, reduceIte, Nat.reduceEqDiff, Nat.reduceLT, Nat.reduceLeDiff, Nat.reduceMul, false_and, and_false, reduceCtorEq, false_or, or_false, not_true_eq_false, not_false_eq_true, true_implies, false_implies, implies_true, lf_10, eq_self, Int32.reduceLT, Int32.reduceLE, Int32.reduceAdd, Int32.reduceSub, pm_same, pm_i_wI, pm_l_wL, pm_l_wM, pm_oR_rf, pm_oQ_rf, sh_k59 hU, sh_r59_71 hU, sh_k102 hU, sh_z102 hU, nI_1, LQ1, LQ2, LQ5, sh_k59 hU, bI, Bool.false_eq_true, u18, hle, hcc, hrm, wt_and]
              repeat' (first | exact ex0 | (refine pm_wb_ok pb_c235 1 _ 0 _ _ _ _ _ ?_; simp only [pm_WI0, pm_WI1, pm_WI2, pm_WI3, pm_WI4, pm_WI5, pm_WV, pm_WW, pm_WX, pb_B235, pm_if, pm_QI_at, pm_QL_at, pm_QV_at, pm_QR_at, pm_QR_at0, pm_QR_at1, Nat.reduceSub, Nat.reduceAdd, List.replicate_zero, List.replicate_succ, true_and, and_true, true_or, or_true, and_self, reduceIte, Nat.reduceEqDiff, Nat.reduceLT, Nat.reduceLeDiff, Nat.reduceMul, false_and, and_false, reduceCtorEq, false_or, or_false, not_true_eq_false, not_false_eq_true, true_implies, false_implies, implies_true, lf_10, eq_self, Int32.reduceLT, Int32.reduceLE, Int32.reduceAdd, Int32.reduceSub, pm_same, pm_i_wI, pm_l_wL, pm_l_wM, pm_oR_rf, pm_oQ_rf, sh_k59 hU, sh_r59_71 hU, sh_k102 hU, sh_z102 hU, nI_1, LQ1, LQ2, LQ5, sh_k59 hU, bI, Bool.false_eq_true, u18, hle, hcc, hrm, wt_and]))
            | true =>
              rw [ea, hA, Bool.true_and] at hk2
              by_cases c1 : fwM S N m = 0
              · have r0 : nI (fwM S N m) = 0 := by rw [c1]; rfl
                rw [decide_eq_true c1, Bool.true_or] at hk2
                try refine pm_wb_ok pb_c235 1 66 0 _ _ _ _ _ ?_
                try simp only [pm_WI0, pm_WI1, pm_WI2, pm_WI3, pm_WI4, pm_WI5, pm_WV, pm_WW, pm_WX, pb_B235, pm_if, pm_QI_at, pm_QL_at, pm_QV_at, pm_QR_at, pm_QR_at0, pm_QR_at1, Nat.reduceSub, Nat.reduceAdd, List.replicate_zero, List.replicate_succ, true_and, and_true, true_or, or_true, and_self, reduceIte, Nat.reduceEqDiff, Nat.reduceLT, Nat.reduceLeDiff, Nat.reduceMul, false_and, and_false, reduceCtorEq, false_or, or_false, not_true_eq_false, not_false_eq_true, true_implies, false_implies, implies_true, lf_10, eq_self, Int32.reduceLT, Int32.reduceLE, Int32.reduceAdd, Int32.reduceSub, pm_same, pm_i_wI, pm_l_wL, pm_l_wM, pm_oR_rf, pm_oQ_rf, sh_k59 hU, sh_r59_71 hU, sh_k102 hU, sh_z102 hU, nI_1, LQ1, LQ2, LQ5, sh_k59 hU, bI, Bool.false_eq_true, u18, hle, hcc, hrm, wt_and, r0]
                repeat' (first | exact hv | exact pv_W hk2 (by simp [pv_le, pm_unk, bI]) | refine ⟨hv, ?_⟩ | (refine pm_wb_ok pb_c235 1 _ 0 _ _ _ _ _ ?_; simp only [pm_WI0, pm_WI1, pm_WI2, pm_WI3, pm_WI4, pm_WI5, pm_WV, pm_WW, pm_WX, pb_B235, pm_if, pm_QI_at, pm_QL_at, pm_QV_at, pm_QR_at, pm_QR_at0, pm_QR_at1, Nat.reduceSub, Nat.reduceAdd, List.replicate_zero, List.replicate_succ, true_and, and_true, true_or, or_true, and_self, reduceIte, Nat.reduceEqDiff, Nat.reduceLT, Nat.reduceLeDiff, Nat.reduceMul, false_and, and_false, reduceCtorEq, false_or, or_false, not_true_eq_false, not_false_eq_true, true_implies, false_implies, implies_true, lf_10, eq_self, Int32.reduceLT, Int32.reduceLE, Int32.reduceAdd, Int32.reduceSub, pm_same, pm_i_wI, pm_l_wL, pm_l_wM, pm_oR_rf, pm_oQ_rf, sh_k59 hU, sh_r59_71 hU, sh_k102 hU, sh_z102 hU, nI_1, LQ1, LQ2, LQ5, sh_k59 hU, bI, Bool.false_eq_true, u18, hle, hcc, hrm, wt_and, r0]))
              · have r0 : ¬ nI (fwM S N m) = 0 := fun z => c1 ((nI_z (by omega)).mp z)
                have al : fwM S N m &&& x < 2 ^ 31 := Nat.lt_of_le_of_lt Nat.and_le_left (by omega)
                rw [decide_eq_false c1, Bool.false_or] at hk2
                by_cases c2 : fwM S N m &&& x = 0
                · have r2 : nI (fwM S N m &&& x) = 0 := by rw [c2]; rfl
                  rw [decide_eq_true c2] at hk2
                  try refine pm_wb_ok pb_c235 1 66 0 _ _ _ _ _ ?_
                  try simp only [pm_WI0, pm_WI1, pm_WI2, pm_WI3, pm_WI4, pm_WI5, pm_WV, pm_WW, pm_WX, pb_B235, pm_if, pm_QI_at, pm_QL_at, pm_QV_at, pm_QR_at, pm_QR_at0, pm_QR_at1, Nat.reduceSub, Nat.reduceAdd, List.replicate_zero, List.replicate_succ, true_and, and_true, true_or, or_true, and_self, reduceIte, Nat.reduceEqDiff, Nat.reduceLT, Nat.reduceLeDiff, Nat.reduceMul, false_and, and_false, reduceCtorEq, false_or, or_false, not_true_eq_false, not_false_eq_true, true_implies, false_implies, implies_true, lf_10, eq_self, Int32.reduceLT, Int32.reduceLE, Int32.reduceAdd, Int32.reduceSub, pm_same, pm_i_wI, pm_l_wL, pm_l_wM, pm_oR_rf, pm_oQ_rf, sh_k59 hU, sh_r59_71 hU, sh_k102 hU, sh_z102 hU, nI_1, LQ1, LQ2, LQ5, sh_k59 hU, bI, Bool.false_eq_true, u18, hle, hcc, hrm, wt_and, r0, r2]
                  repeat' (first | exact hv | exact pv_W hk2 (by simp [pv_le, pm_unk, bI]) | refine ⟨hv, ?_⟩ | (refine pm_wb_ok pb_c235 1 _ 0 _ _ _ _ _ ?_; simp only [pm_WI0, pm_WI1, pm_WI2, pm_WI3, pm_WI4, pm_WI5, pm_WV, pm_WW, pm_WX, pb_B235, pm_if, pm_QI_at, pm_QL_at, pm_QV_at, pm_QR_at, pm_QR_at0, pm_QR_at1, Nat.reduceSub, Nat.reduceAdd, List.replicate_zero, List.replicate_succ, true_and, and_true, true_or, or_true, and_self, reduceIte, Nat.reduceEqDiff, Nat.reduceLT, Nat.reduceLeDiff, Nat.reduceMul, false_and, and_false, reduceCtorEq, false_or, or_false, not_true_eq_false, not_false_eq_true, true_implies, false_implies, implies_true, lf_10, eq_self, Int32.reduceLT, Int32.reduceLE, Int32.reduceAdd, Int32.reduceSub, pm_same, pm_i_wI, pm_l_wL, pm_l_wM, pm_oR_rf, pm_oQ_rf, sh_k59 hU, sh_r59_71 hU, sh_k102 hU, sh_z102 hU, nI_1, LQ1, LQ2, LQ5, sh_k59 hU, bI, Bool.false_eq_true, u18, hle, hcc, hrm, wt_and, r0, r2]))
                · have r2 : ¬ nI (fwM S N m &&& x) = 0 := fun z => c2 ((nI_z al).mp z)
                  rw [decide_eq_false c2] at hk2
                  try refine pm_wb_ok pb_c235 1 66 0 _ _ _ _ _ ?_
                  try simp only [pm_WI0, pm_WI1, pm_WI2, pm_WI3, pm_WI4, pm_WI5, pm_WV, pm_WW, pm_WX, pb_B235, pm_if, pm_QI_at, pm_QL_at, pm_QV_at, pm_QR_at, pm_QR_at0, pm_QR_at1, Nat.reduceSub, Nat.reduceAdd, List.replicate_zero, List.replicate_succ, true_and, and_true, true_or, or_true, and_self, reduceIte, Nat.reduceEqDiff, Nat.reduceLT, Nat.reduceLeDiff, Nat.reduceMul, false_and, and_false, reduceCtorEq, false_or, or_false, not_true_eq_false, not_false_eq_true, true_implies, false_implies, implies_true, lf_10, eq_self, Int32.reduceLT, Int32.reduceLE, Int32.reduceAdd, Int32.reduceSub, pm_same, pm_i_wI, pm_l_wL, pm_l_wM, pm_oR_rf, pm_oQ_rf, sh_k59 hU, sh_r59_71 hU, sh_k102 hU, sh_z102 hU, nI_1, LQ1, LQ2, LQ5, sh_k59 hU, bI, Bool.false_eq_true, u18, hle, hcc, hrm, wt_and, r0, r2]
                  repeat' (first | exact hv | exact pv_W hk2 (by simp [pv_le, pm_unk, bI]) | refine ⟨hv, ?_⟩ | (refine pm_wb_ok pb_c235 1 _ 0 _ _ _ _ _ ?_; simp only [pm_WI0, pm_WI1, pm_WI2, pm_WI3, pm_WI4, pm_WI5, pm_WV, pm_WW, pm_WX, pb_B235, pm_if, pm_QI_at, pm_QL_at, pm_QV_at, pm_QR_at, pm_QR_at0, pm_QR_at1, Nat.reduceSub, Nat.reduceAdd, List.replicate_zero, List.replicate_succ, true_and, and_true, true_or, or_true, and_self, reduceIte, Nat.reduceEqDiff, Nat.reduceLT, Nat.reduceLeDiff, Nat.reduceMul, false_and, and_false, reduceCtorEq, false_or, or_false, not_true_eq_false, not_false_eq_true, true_implies, false_implies, implies_true, lf_10, eq_self, Int32.reduceLT, Int32.reduceLE, Int32.reduceAdd, Int32.reduceSub, pm_same, pm_i_wI, pm_l_wL, pm_l_wM, pm_oR_rf, pm_oQ_rf, sh_k59 hU, sh_r59_71 hU, sh_k102 hU, sh_z102 hU, nI_1, LQ1, LQ2, LQ5, sh_k59 hU, bI, Bool.false_eq_true, u18, hle, hcc, hrm, wt_and, r0, r2]))
          · have hle : nI n ≤ nI n := Int32.le_refl _
            have ex0 := ex (.int (nI n))
            try refine pm_wb_ok pb_c235 1 66 0 _ _ _ _ _ ?_
            try simp only [pm_WI0, pm_WI1, pm_WI2, pm_WI3, pm_WI4, pm_WI5, pm_WV, pm_WW, pm_WX, pb_B235, pm_if, pm_QI_at, pm_QL_at, pm_QV_at, pm_QR_at, pm_QR_at0, pm_QR_at1, Nat.reduceSub, Nat.reduceAdd, List.replicate_zero, List.replicate_succ, true_and, and_true, true_or, or_true, and_self, reduceIte, Nat.reduceEqDiff, Nat.reduceLT, Nat.reduceLeDiff, Nat.reduceMul, false_and, and_false, reduceCtorEq, false_or, or_false, not_true_eq_false, not_false_eq_true, true_implies, false_implies, implies_true, lf_10, eq_self, Int32.reduceLT, Int32.reduceLE, Int32.reduceAdd, Int32.reduceSub, pm_same, pm_i_wI, pm_l_wL, pm_l_wM, pm_oR_rf, pm_oQ_rf, sh_k59 hU, sh_r59_71 hU, sh_k102 hU, sh_z102 hU, nI_1, LQ1, LQ2, LQ5, sh_k59 hU, u18, hle]
            repeat' (first | exact ex0 | (refine pm_wb_ok pb_c235 1 _ 0 _ _ _ _ _ ?_; simp only [pm_WI0, pm_WI1, pm_WI2, pm_WI3, pm_WI4, pm_WI5, pm_WV, pm_WW, pm_WX, pb_B235, pm_if, pm_QI_at, pm_QL_at, pm_QV_at, pm_QR_at, pm_QR_at0, pm_QR_at1, Nat.reduceSub, Nat.reduceAdd, List.replicate_zero, List.replicate_succ, true_and, and_true, true_or, or_true, and_self, reduceIte, Nat.reduceEqDiff, Nat.reduceLT, Nat.reduceLeDiff, Nat.reduceMul, false_and, and_false, reduceCtorEq, false_or, or_false, not_true_eq_false, not_false_eq_true, true_implies, false_implies, implies_true, lf_10, eq_self, Int32.reduceLT, Int32.reduceLE, Int32.reduceAdd, Int32.reduceSub, pm_same, pm_i_wI, pm_l_wL, pm_l_wM, pm_oR_rf, pm_oQ_rf, sh_k59 hU, sh_r59_71 hU, sh_k102 hU, sh_z102 hU, nI_1, LQ1, LQ2, LQ5, sh_k59 hU, u18, hle]))
        try refine pm_wb_ok pb_c235 1 57 0 _ _ _ _ _ ?_
        try simp only [pm_WI0, pm_WI1, pm_WI2, pm_WI3, pm_WI4, pm_WI5, pm_WV, pm_WW, pm_WX, pb_B235, pm_if, pm_QI_at, pm_QL_at, pm_QV_at, pm_QR_at, pm_QR_at0, pm_QR_at1, Nat.reduceSub, Nat.reduceAdd, List.replicate_zero, List.replicate_succ, true_and, and_true, true_or, or_true, and_self, reduceIte, Nat.reduceEqDiff, Nat.reduceLT, Nat.reduceLeDiff, Nat.reduceMul, false_and, and_false, reduceCtorEq, false_or, or_false, not_true_eq_false, not_false_eq_true, true_implies, false_implies, implies_true, lf_10, eq_self, Int32.reduceLT, Int32.reduceLE, Int32.reduceAdd, Int32.reduceSub, pm_same, pm_i_wI, pm_l_wL, pm_l_wM, pm_oR_rf, pm_oQ_rf, sh_k59 hU, sh_r59_71 hU, sh_k102 hU, sh_z102 hU, nI_1, LQ1, LQ2, LQ5, sh_k59 hU, n0]
        repeat' (first | exact pv_W inner (by simp [pv_le, pm_unk, bI, fwA, show nI 0 = 0 from rfl]) | (refine pm_wb_ok pb_c235 1 _ 0 _ _ _ _ _ ?_; simp only [pm_WI0, pm_WI1, pm_WI2, pm_WI3, pm_WI4, pm_WI5, pm_WV, pm_WW, pm_WX, pb_B235, pm_if, pm_QI_at, pm_QL_at, pm_QV_at, pm_QR_at, pm_QR_at0, pm_QR_at1, Nat.reduceSub, Nat.reduceAdd, List.replicate_zero, List.replicate_succ, true_and, and_true, true_or, or_true, and_self, reduceIte, Nat.reduceEqDiff, Nat.reduceLT, Nat.reduceLeDiff, Nat.reduceMul, false_and, and_false, reduceCtorEq, false_or, or_false, not_true_eq_false, not_false_eq_true, true_implies, false_implies, implies_true, lf_10, eq_self, Int32.reduceLT, Int32.reduceLE, Int32.reduceAdd, Int32.reduceSub, pm_same, pm_i_wI, pm_l_wL, pm_l_wM, pm_oR_rf, pm_oQ_rf, sh_k59 hU, sh_r59_71 hU, sh_k102 hU, sh_z102 hU, nI_1, LQ1, LQ2, LQ5, sh_k59 hU, n0]))
      · have e1 : fwS M (M + 1) = -1 := by unfold fwS; rw [if_neg (by omega)]
        show pm_W G d 235 (pm_QI q) 57 [.ref 59, .int (nI (fw_m (fwA (fwM S N) · n) M (M + 1))), .int (fwS M (M + 1)), .float 0, .float 0] [] U 0 0
        rw [e1]
        have fin := h U hs
        try refine pm_wb_ok pb_c235 1 57 0 _ _ _ _ _ ?_
        try simp only [pm_WI0, pm_WI1, pm_WI2, pm_WI3, pm_WI4, pm_WI5, pm_WV, pm_WW, pm_WX, pb_B235, pm_if, pm_QI_at, pm_QL_at, pm_QV_at, pm_QR_at, pm_QR_at0, pm_QR_at1, Nat.reduceSub, Nat.reduceAdd, List.replicate_zero, List.replicate_succ, true_and, and_true, true_or, or_true, and_self, reduceIte, Nat.reduceEqDiff, Nat.reduceLT, Nat.reduceLeDiff, Nat.reduceMul, false_and, and_false, reduceCtorEq, false_or, or_false, not_true_eq_false, not_false_eq_true, true_implies, false_implies, implies_true, lf_10, eq_self, Int32.reduceLT, Int32.reduceLE, Int32.reduceAdd, Int32.reduceSub, pm_same, pm_i_wI, pm_l_wL, pm_l_wM, pm_oR_rf, pm_oQ_rf, sh_k59 hU, sh_r59_71 hU, sh_k102 hU, sh_z102 hU, nI_1, LQ1, LQ2, LQ5, sh_k59 hU]
        repeat' (first | exact fin | (refine pm_wb_ok pb_c235 1 _ 0 _ _ _ _ _ ?_; simp only [pm_WI0, pm_WI1, pm_WI2, pm_WI3, pm_WI4, pm_WI5, pm_WV, pm_WW, pm_WX, pb_B235, pm_if, pm_QI_at, pm_QL_at, pm_QV_at, pm_QR_at, pm_QR_at0, pm_QR_at1, Nat.reduceSub, Nat.reduceAdd, List.replicate_zero, List.replicate_succ, true_and, and_true, true_or, or_true, and_self, reduceIte, Nat.reduceEqDiff, Nat.reduceLT, Nat.reduceLeDiff, Nat.reduceMul, false_and, and_false, reduceCtorEq, false_or, or_false, not_true_eq_false, not_false_eq_true, true_implies, false_implies, implies_true, lf_10, eq_self, Int32.reduceLT, Int32.reduceLE, Int32.reduceAdd, Int32.reduceSub, pm_same, pm_i_wI, pm_l_wL, pm_l_wM, pm_oR_rf, pm_oQ_rf, sh_k59 hU, sh_r59_71 hU, sh_k102 hU, sh_z102 hU, nI_1, LQ1, LQ2, LQ5, sh_k59 hU]))
    have e1 : fwS M 0 = nI M := by unfold fwS; rw [if_pos (by omega)]; rfl
    rw [e1] at kk
    exact kk
  have key : pm_W G d 235 (pm_QI q) 2 [.ref 59, .int (nI 0), .float 0, .float 0, .float 0] [] S 0 0 := by
    refine pv_while (fun x : Nat × pm_S => [.ref 59, .int (nI x.1), .float 0, .float 0, .float 0]) (fun x => x.2) (fun x => x.1 ≤ n ∧ sc S x.2 ∧ ∀ m, m < x.1 → pm_i x.2 102 m = nI (fwM S N m)) (fun x => n - x.1) (fun x hP ih => ?_) (0, S) ⟨Nat.zero_le _, sc.rf, fun m hm => absurd hm (Nat.not_lt_zero m)⟩
    obtain ⟨i, U⟩ := x
    obtain ⟨hi, hs, hr⟩ := hP
    replace hi : i ≤ n := hi
    replace hs : sc S U := hs
    replace hr : ∀ m, m < i → pm_i U 102 m = nI (fwM S N m) := hr
    have hU := hs.sh hS
    have u18 : pm_i U 59 18 = nI n := hs.m18.trans hnn
    have u35 : pm_i U 59 35 = nI N := hs.m35.trans hN
    show pm_W G d 235 (pm_QI q) 2 [.ref 59, .int (nI i), .float 0, .float 0, .float 0] [] U 0 0
    by_cases e : i < n
    · have hle : ¬ nI n ≤ nI i := nI_ge e (by omega)
      have hcc := nI_clamp (n := i) (by omega)
      have hv := vp_in_nI (n := i) (N := 40) (by omega) (by decide)
      have nxt : ∀ T, sc S T → (∀ m, m < i → pm_i T 102 m = nI (fwM S N m)) → pm_W G d 235 (pm_QI q) 2 [.ref 59, .int (nI (i + 1)), .float 0, .float 0, .float 0] [] (pm_wI T 102 i (nI (fwM S N i))) 0 0 := fun T hT hrT =>
        ih (i + 1, pm_wI T 102 i (nI (fwM S N i))) ⟨by show i + 1 ≤ n; omega, hT.wI (by unfold sc_q; omega), fun m hm => by
          replace hm : m < i + 1 := hm
          show pm_i (pm_wI T 102 i (nI (fwM S N i))) 102 m = _
          rw [pm_i_wI]
          by_cases em : m = i
          · subst em; rw [if_pos ⟨rfl, rfl⟩]
          · rw [if_neg (fun z => em z.2)]; exact hrT m (by omega)⟩ (by show n - (i + 1) < n - i; omega)
      try refine pm_wb_ok pb_c235 1 2 0 _ _ _ _ _ ?_
      try simp only [pm_WI0, pm_WI1, pm_WI2, pm_WI3, pm_WI4, pm_WI5, pm_WV, pm_WW, pm_WX, pb_B235, pm_if, pm_QI_at, pm_QL_at, pm_QV_at, pm_QR_at, pm_QR_at0, pm_QR_at1, Nat.reduceSub, Nat.reduceAdd, List.replicate_zero, List.replicate_succ, true_and, and_true, true_or, or_true, and_self, reduceIte, Nat.reduceEqDiff, Nat.reduceLT, Nat.reduceLeDiff, Nat.reduceMul, false_and, and_false, reduceCtorEq, false_or, or_false, not_true_eq_false, not_false_eq_true, true_implies, false_implies, implies_true, lf_10, eq_self, Int32.reduceLT, Int32.reduceLE, Int32.reduceAdd, Int32.reduceSub, pm_same, pm_i_wI, pm_l_wL, pm_l_wM, pm_oR_rf, pm_oQ_rf, sh_k59 hU, sh_r59_71 hU, sh_k102 hU, sh_z102 hU, nI_1, LQ1, LQ2, LQ5, sh_k59 hU, u18, hle, hcc]
      refine ⟨by omega, lf_228 hU hv (fun hf => ?_) (fun hf => ?_)⟩
      · have hfd : fdd S i := by rw [hcc, hs.r62] at hf; exact hf
        try simp only [pm_WV, pm_WW, true_and, and_true, true_or, or_true, and_self, reduceIte, Nat.reduceEqDiff, Nat.reduceLT, Nat.reduceLeDiff, Nat.reduceMul, false_and, and_false, reduceCtorEq, false_or, or_false, not_true_eq_false, not_false_eq_true, true_implies, false_implies, implies_true, lf_10, eq_self, Int32.reduceLT, Int32.reduceLE, Int32.reduceAdd, Int32.reduceSub, pm_same, pm_i_wI, pm_l_wL, pm_l_wM, pm_oR_rf, pm_oQ_rf, nI_1, sw_e, LQ1, LQ2, pm_WI0, pm_WI1, pm_WI2, pm_WI3, pm_WI4, pm_WI5, pm_WV, pm_WW, pm_WX, pb_B235, pm_if, pm_QI_at, pm_QL_at, pm_QV_at, pm_QR_at, pm_QR_at0, pm_QR_at1, Nat.reduceSub, Nat.reduceAdd, List.replicate_zero, List.replicate_succ, true_and, and_true, true_or, or_true, and_self, reduceIte, Nat.reduceEqDiff, Nat.reduceLT, Nat.reduceLeDiff, Nat.reduceMul, false_and, and_false, reduceCtorEq, false_or, or_false, not_true_eq_false, not_false_eq_true, true_implies, false_implies, implies_true, lf_10, eq_self, Int32.reduceLT, Int32.reduceLE, Int32.reduceAdd, Int32.reduceSub, pm_same, pm_i_wI, pm_l_wL, pm_l_wM, pm_oR_rf, pm_oQ_rf, sh_k59 hU, sh_r59_71 hU, sh_k102 hU, sh_z102 hU, nI_1, LQ1, LQ2, LQ5, sh_k59 hU, u18, hle, hcc]
        refine ⟨by omega, mm_234 (by omega) (hMI.cg hU hs.me) (by rw [hs.c (by omega)]; omega) u35 hN12 (fun T hT hF => ?_)⟩
        have hTS := (hs.tr hT).sh hS
        have ev : rb U i (pm_i U 59 0) N = fwM S N i := by rw [rb_me hs.me, hs.m0]; unfold fwM; rw [if_pos hfd]
        rw [ev]
        have nx := nxt T (hs.tr hT) (fun m hm => by rw [hF 102 m (by omega) (by omega)]; exact hr m hm)
        try simp only [pm_WV, pm_WW, true_and, and_true, true_or, or_true, and_self, reduceIte, Nat.reduceEqDiff, Nat.reduceLT, Nat.reduceLeDiff, Nat.reduceMul, false_and, and_false, reduceCtorEq, false_or, or_false, not_true_eq_false, not_false_eq_true, true_implies, false_implies, implies_true, lf_10, eq_self, Int32.reduceLT, Int32.reduceLE, Int32.reduceAdd, Int32.reduceSub, pm_same, pm_i_wI, pm_l_wL, pm_l_wM, pm_oR_rf, pm_oQ_rf, nI_1, sw_e, LQ1, LQ2, pm_WI0, pm_WI1, pm_WI2, pm_WI3, pm_WI4, pm_WI5, pm_WV, pm_WW, pm_WX, pb_B235, pm_if, pm_QI_at, pm_QL_at, pm_QV_at, pm_QR_at, pm_QR_at0, pm_QR_at1, Nat.reduceSub, Nat.reduceAdd, List.replicate_zero, List.replicate_succ, true_and, and_true, true_or, or_true, and_self, reduceIte, Nat.reduceEqDiff, Nat.reduceLT, Nat.reduceLeDiff, Nat.reduceMul, false_and, and_false, reduceCtorEq, false_or, or_false, not_true_eq_false, not_false_eq_true, true_implies, false_implies, implies_true, lf_10, eq_self, Int32.reduceLT, Int32.reduceLE, Int32.reduceAdd, Int32.reduceSub, pm_same, pm_i_wI, pm_l_wL, pm_l_wM, pm_oR_rf, pm_oQ_rf, sh_k59 hTS, sh_r59_71 hTS, sh_k102 hTS, sh_z102 hTS, nI_1, LQ1, LQ2, LQ5, sh_k59 hTS, hcc]
        repeat' (first | exact hv | exact nx | exact pv_W nx (by simp [pv_le, pm_unk]) | refine ⟨hv, ?_⟩ | (refine pm_wb_ok pb_c235 1 _ 0 _ _ _ _ _ ?_; simp only [pm_WI0, pm_WI1, pm_WI2, pm_WI3, pm_WI4, pm_WI5, pm_WV, pm_WW, pm_WX, pb_B235, pm_if, pm_QI_at, pm_QL_at, pm_QV_at, pm_QR_at, pm_QR_at0, pm_QR_at1, Nat.reduceSub, Nat.reduceAdd, List.replicate_zero, List.replicate_succ, true_and, and_true, true_or, or_true, and_self, reduceIte, Nat.reduceEqDiff, Nat.reduceLT, Nat.reduceLeDiff, Nat.reduceMul, false_and, and_false, reduceCtorEq, false_or, or_false, not_true_eq_false, not_false_eq_true, true_implies, false_implies, implies_true, lf_10, eq_self, Int32.reduceLT, Int32.reduceLE, Int32.reduceAdd, Int32.reduceSub, pm_same, pm_i_wI, pm_l_wL, pm_l_wM, pm_oR_rf, pm_oQ_rf, sh_k59 hTS, sh_r59_71 hTS, sh_k102 hTS, sh_z102 hTS, nI_1, LQ1, LQ2, LQ5, sh_k59 hTS, hcc]))
      · have hfd : ¬ fdd S i := by rw [hcc, hs.r62] at hf; exact hf
        have nx := nxt U hs hr
        have ev : nI (fwM S N i) = 0 := by unfold fwM; rw [if_neg hfd]; rfl
        rw [ev] at nx
        try simp only [pm_WV, pm_WW, true_and, and_true, true_or, or_true, and_self, reduceIte, Nat.reduceEqDiff, Nat.reduceLT, Nat.reduceLeDiff, Nat.reduceMul, false_and, and_false, reduceCtorEq, false_or, or_false, not_true_eq_false, not_false_eq_true, true_implies, false_implies, implies_true, lf_10, eq_self, Int32.reduceLT, Int32.reduceLE, Int32.reduceAdd, Int32.reduceSub, pm_same, pm_i_wI, pm_l_wL, pm_l_wM, pm_oR_rf, pm_oQ_rf, nI_1, sw_e, LQ1, LQ2, pm_WI0, pm_WI1, pm_WI2, pm_WI3, pm_WI4, pm_WI5, pm_WV, pm_WW, pm_WX, pb_B235, pm_if, pm_QI_at, pm_QL_at, pm_QV_at, pm_QR_at, pm_QR_at0, pm_QR_at1, Nat.reduceSub, Nat.reduceAdd, List.replicate_zero, List.replicate_succ, true_and, and_true, true_or, or_true, and_self, reduceIte, Nat.reduceEqDiff, Nat.reduceLT, Nat.reduceLeDiff, Nat.reduceMul, false_and, and_false, reduceCtorEq, false_or, or_false, not_true_eq_false, not_false_eq_true, true_implies, false_implies, implies_true, lf_10, eq_self, Int32.reduceLT, Int32.reduceLE, Int32.reduceAdd, Int32.reduceSub, pm_same, pm_i_wI, pm_l_wL, pm_l_wM, pm_oR_rf, pm_oQ_rf, sh_k59 hU, sh_r59_71 hU, sh_k102 hU, sh_z102 hU, nI_1, LQ1, LQ2, LQ5, sh_k59 hU, u18, hle, hcc]
        repeat' (first | exact hv | exact nx | exact pv_W nx (by simp [pv_le, pm_unk]) | refine ⟨hv, ?_⟩ | (refine pm_wb_ok pb_c235 1 _ 0 _ _ _ _ _ ?_; simp only [pm_WI0, pm_WI1, pm_WI2, pm_WI3, pm_WI4, pm_WI5, pm_WV, pm_WW, pm_WX, pb_B235, pm_if, pm_QI_at, pm_QL_at, pm_QV_at, pm_QR_at, pm_QR_at0, pm_QR_at1, Nat.reduceSub, Nat.reduceAdd, List.replicate_zero, List.replicate_succ, true_and, and_true, true_or, or_true, and_self, reduceIte, Nat.reduceEqDiff, Nat.reduceLT, Nat.reduceLeDiff, Nat.reduceMul, false_and, and_false, reduceCtorEq, false_or, or_false, not_true_eq_false, not_false_eq_true, true_implies, false_implies, implies_true, lf_10, eq_self, Int32.reduceLT, Int32.reduceLE, Int32.reduceAdd, Int32.reduceSub, pm_same, pm_i_wI, pm_l_wL, pm_l_wM, pm_oR_rf, pm_oQ_rf, sh_k59 hU, sh_r59_71 hU, sh_k102 hU, sh_z102 hU, nI_1, LQ1, LQ2, LQ5, sh_k59 hU, u18, hle, hcc]))
    · have ei : i = n := by omega
      subst ei
      have hle : nI i ≤ nI i := Int32.le_refl _
      have k2 := key2 U hs hr
      try refine pm_wb_ok pb_c235 1 2 0 _ _ _ _ _ ?_
      try simp only [pm_WI0, pm_WI1, pm_WI2, pm_WI3, pm_WI4, pm_WI5, pm_WV, pm_WW, pm_WX, pb_B235, pm_if, pm_QI_at, pm_QL_at, pm_QV_at, pm_QR_at, pm_QR_at0, pm_QR_at1, Nat.reduceSub, Nat.reduceAdd, List.replicate_zero, List.replicate_succ, true_and, and_true, true_or, or_true, and_self, reduceIte, Nat.reduceEqDiff, Nat.reduceLT, Nat.reduceLeDiff, Nat.reduceMul, false_and, and_false, reduceCtorEq, false_or, or_false, not_true_eq_false, not_false_eq_true, true_implies, false_implies, implies_true, lf_10, eq_self, Int32.reduceLT, Int32.reduceLE, Int32.reduceAdd, Int32.reduceSub, pm_same, pm_i_wI, pm_l_wL, pm_l_wM, pm_oR_rf, pm_oQ_rf, sh_k59 hU, sh_r59_71 hU, sh_k102 hU, sh_z102 hU, nI_1, LQ1, LQ2, LQ5, sh_k59 hU, u18, u35, hle, sN, sM]
      repeat' (first | exact k2 | exact pv_W k2 (by simp [pv_le, pm_unk]) | (refine pm_wb_ok pb_c235 1 _ 0 _ _ _ _ _ ?_; simp only [pm_WI0, pm_WI1, pm_WI2, pm_WI3, pm_WI4, pm_WI5, pm_WV, pm_WW, pm_WX, pb_B235, pm_if, pm_QI_at, pm_QL_at, pm_QV_at, pm_QR_at, pm_QR_at0, pm_QR_at1, Nat.reduceSub, Nat.reduceAdd, List.replicate_zero, List.replicate_succ, true_and, and_true, true_or, or_true, and_self, reduceIte, Nat.reduceEqDiff, Nat.reduceLT, Nat.reduceLeDiff, Nat.reduceMul, false_and, and_false, reduceCtorEq, false_or, or_false, not_true_eq_false, not_false_eq_true, true_implies, false_implies, implies_true, lf_10, eq_self, Int32.reduceLT, Int32.reduceLE, Int32.reduceAdd, Int32.reduceSub, pm_same, pm_i_wI, pm_l_wL, pm_l_wM, pm_oR_rf, pm_oQ_rf, sh_k59 hU, sh_r59_71 hU, sh_k102 hU, sh_z102 hU, nI_1, LQ1, LQ2, LQ5, sh_k59 hU, u18, u35, hle, sN, sM]))
  refine pm_goI 235 1 pb_c235 (by decide) (Nat.le_of_ble_eq_true rfl) rfl ?_
  try simp only [show pm_mL 235 = 5 from rfl, pm_WI0, pm_WI1, pm_WI2, pm_WI3, pm_WI4, pm_WI5, pm_WV, pm_WW, pm_WX, pb_B235, pm_if, pm_QI_at, pm_QL_at, pm_QV_at, pm_QR_at, pm_QR_at0, pm_QR_at1, Nat.reduceSub, Nat.reduceAdd, List.replicate_zero, List.replicate_succ, true_and, and_true, true_or, or_true, and_self, reduceIte, Nat.reduceEqDiff, Nat.reduceLT, Nat.reduceLeDiff, Nat.reduceMul, false_and, and_false, reduceCtorEq, false_or, or_false, not_true_eq_false, not_false_eq_true, true_implies, false_implies, implies_true, lf_10, eq_self, Int32.reduceLT, Int32.reduceLE, Int32.reduceAdd, Int32.reduceSub, pm_same, pm_i_wI, pm_l_wL, pm_l_wM, pm_oR_rf, pm_oQ_rf, sh_k59 hS, sh_r59_71 hS, sh_k102 hS, sh_z102 hS, nI_1, LQ1, LQ2, LQ5, sh_k59 hS]
  repeat' (first | exact key | exact pv_W key (by simp [pv_le, pm_unk, show nI 0 = 0 from rfl]) | (refine pm_wb_ok pb_c235 1 _ 0 _ _ _ _ _ ?_; simp only [pm_WI0, pm_WI1, pm_WI2, pm_WI3, pm_WI4, pm_WI5, pm_WV, pm_WW, pm_WX, pb_B235, pm_if, pm_QI_at, pm_QL_at, pm_QV_at, pm_QR_at, pm_QR_at0, pm_QR_at1, Nat.reduceSub, Nat.reduceAdd, List.replicate_zero, List.replicate_succ, true_and, and_true, true_or, or_true, and_self, reduceIte, Nat.reduceEqDiff, Nat.reduceLT, Nat.reduceLeDiff, Nat.reduceMul, false_and, and_false, reduceCtorEq, false_or, or_false, not_true_eq_false, not_false_eq_true, true_implies, false_implies, implies_true, lf_10, eq_self, Int32.reduceLT, Int32.reduceLE, Int32.reduceAdd, Int32.reduceSub, pm_same, pm_i_wI, pm_l_wL, pm_l_wM, pm_oR_rf, pm_oQ_rf, sh_k59 hS, sh_r59_71 hS, sh_k102 hS, sh_z102 hS, nI_1, LQ1, LQ2, LQ5, sh_k59 hS]))
theorem pp_fewest {G : pm_G} {d : Nat} {A : iv_A} {S : pm_S} (hd : 40 ≤ d) (hI : Inv A S) : pm_CI G d 137 [.ref 0] S (fun r S1 => pm_CI G d 235 [.ref 59] S1 (fun r' S2 => pv_end A r r' S2)) := by
  have n12 : iv_c S 35 ≤ 12 := iv_le (n := 12) 12 hI.cau.2.1.2 (by decide)
  have hN : pm_i S 59 35 = nI (iv_c S 35) := iv_nn hI.cau.2.1.1
  refine cl_137 (by omega) hI rfl hN n12 (fun T hs => ?_)
  have hIT := hI.sc hs
  refine mo_235 (by omega) hIT.mi rfl (hs.m35.trans hN) n12 (fun U hsU => ?_)
  have e1 : fwM T (iv_c S 35) = fwM S (iv_c S 35) := by
    funext m
    have ef : fdd T m ↔ fdd S m := by unfold fdd; rw [hs.r62]
    unfold fwM
    rw [rb_me hs.me, hs.m0]
    by_cases f : fdd S m
    · rw [if_pos f, if_pos (ef.mpr f)]
    · rw [if_neg f, if_neg (fun z => f (ef.mp z))]
  rw [e1, hs.c (by omega), fw_end n12]
  exact pv_same (hIT.sc hsU)
