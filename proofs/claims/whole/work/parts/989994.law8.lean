/-! law by the class -/
theorem dl_of {A : iv_A} {S : pm_S} (hL : iv_Law A S) : dl S (iv_l A (iv_c S 31)) (iv_w A (iv_c S 31)) := by
  obtain ⟨_, _, l3, _, l5, _⟩ := hL
  obtain ⟨c1, c2, c3, c4, c5⟩ := l3 _ (Nat.le_refl _)
  refine ⟨l5, c3, by omega, fun q hq => ?_, fun q r hq hr e => ?_⟩
  · obtain ⟨y1, y2, y3, y4, y5, y6⟩ := c5 q hq
    exact ⟨y1, y4, y5, by omega⟩
  · have a := (c5 q hq).2.2.2.2.2
    have b := (c5 r hr).2.2.2.2.2
    rw [e] at a; omega
def lv_D (T : pm_S) (D c : Nat) (b k : Int32) : pm_S := pm_wI (pm_wR (pm_wI (pm_wI T D 0 b) D 1 k) 15 c (some D)) 14 2 (nI (c + 1))
theorem lf_10b {G : pm_G} {d D c : Nat} {T : pm_S} {b k : Int32} {q : Int32 → pm_S → Prop} (k14 : pm_k T 14 = 1) (k15 : pm_k T 15 = 24) (z15 : pm_z T 15 = 12) (r14 : pm_r T 14 1 = some 15) (kD : pm_k T D = 5) (D14 : D ≠ 14) (h14 : pm_i T 14 2 = nI c) (hc : c < 12) (h : q (nI c) (lv_D T D c b k)) : pm_CI G d 10 [.ref 14, .ref D, .int b, .int k] T q := by
  have l12 : nI c < 12 := nI_lt (b := 12) hc (by decide)
  have cc := nI_clamp (n := c) (by omega)
  have vc := vp_in_nI (n := c) (N := 12) hc (by decide)
  have e14 : (14 = D) = False := eq_false (fun z => D14 z.symm)
  have eD : (D = 14) = False := eq_false D14
  have pr : nI (c + 1) - 1 = nI c := nI_pred c
  unfold lv_D at h
  refine pm_goI 10 1 pb_c10 (by decide) (Nat.le_of_ble_eq_true rfl) rfl ?_
  try simp only [show pm_mL 10 = 4 from rfl, pm_WI0, pm_WI1, pm_WI2, pm_WI3, pm_WI4, pm_WI5, pm_WV, pm_WW, pm_WX, pb_B10, pm_if, pm_QI_at, pm_QL_at, pm_QV_at, pm_QR_at, pm_QR_at0, pm_QR_at1, Nat.reduceSub, Nat.reduceAdd, List.replicate_zero, List.replicate_succ, true_and, and_true, true_or, or_true, and_self, reduceIte, Nat.reduceEqDiff, Nat.reduceLT, Nat.reduceLeDiff, Nat.reduceMul, false_and, and_false, reduceCtorEq, false_or, or_false, not_true_eq_false, not_false_eq_true, true_implies, false_implies, implies_true, lf_10, eq_self, Int32.reduceLT, Int32.reduceLE, Int32.reduceAdd, Int32.reduceSub, pm_same, pm_i_wI, pm_l_wL, pm_l_wM, pm_oR_rf, pm_oQ_rf, nI_1, LQ1, LQ2, LQ5, k14, k15, z15, r14, kD, h14, l12, cc, e14, eD, pr, va_rf]
  repeat' (first | exact h | exact vc | refine ⟨vc, ?_⟩ | (refine pm_wb_ok pb_c10 1 _ 0 _ _ _ _ _ ?_; simp only [pm_WI0, pm_WI1, pm_WI2, pm_WI3, pm_WI4, pm_WI5, pm_WV, pm_WW, pm_WX, pb_B10, pm_if, pm_QI_at, pm_QL_at, pm_QV_at, pm_QR_at, pm_QR_at0, pm_QR_at1, Nat.reduceSub, Nat.reduceAdd, List.replicate_zero, List.replicate_succ, true_and, and_true, true_or, or_true, and_self, reduceIte, Nat.reduceEqDiff, Nat.reduceLT, Nat.reduceLeDiff, Nat.reduceMul, false_and, and_false, reduceCtorEq, false_or, or_false, not_true_eq_false, not_false_eq_true, true_implies, false_implies, implies_true, lf_10, eq_self, Int32.reduceLT, Int32.reduceLE, Int32.reduceAdd, Int32.reduceSub, pm_same, pm_i_wI, pm_l_wL, pm_l_wM, pm_oR_rf, pm_oQ_rf, nI_1, LQ1, LQ2, LQ5, k14, k15, z15, r14, kD, h14, l12, cc, e14, eD, pr, va_rf]) | fail)
theorem cl_126a {G : pm_G} {d n : Nat} {A : iv_A} {S : pm_S} {b k : Int32} {v : Value} {q : Int32 → pm_S → Prop} (hd : 30 ≤ d) (hI : Inv A S) (hc : iv_c S 31 < 12) (hn : pm_i S 5 1 = nI n) (hn2 : n ≤ 160)
    (h1 : ∀ x L S1, gx_read (pm_i S 6) n = (x, some L) → rs S (iv_l A (iv_c S 31)) (iv_w A (iv_c S 31)) n S1 x L → q (nI (iv_c S 31)) (lv_D (lw_H (pm_wI S1 5 1 0)) (iv_l A (iv_c S 31)) (iv_c S 31) b k))
    (h0 : ∀ x S1, gx_read (pm_i S 6) n = (x, none) → rq S (iv_l A (iv_c S 31)) (iv_w A (iv_c S 31)) n S1 x → q (-10 - nI x) (pm_wI S1 5 1 0)) : pm_W G d 126 (pm_QI q) 39 [.ref 0, .int b, .int k, v] [] S 0 0 := by
  have hS := hI.sh
  have h114 := hS.1
  have hdl := dl_of hI.law
  have c2 := (hI.law.2.2.1 _ (Nat.le_refl _)).2.1
  obtain ⟨h14, _, _⟩ := hI.law
  rw [(MI.c31 hI.mi).2] at h14
  obtain ⟨_, _, t3, t4⟩ := hI.txt
  have h6 : ∀ j, iv_in (pm_i S 6 j) 0 255 := fun j => by rw [t3]; exact t4 j
  generalize iv_c S 31 = c at *
  generalize iv_w A c = W at *
  generalize iv_l A c = D at *
  try refine pm_wb_ok pb_c126 1 39 0 _ _ _ _ _ ?_
  try simp only [pm_WI0, pm_WI1, pm_WI2, pm_WI3, pm_WI4, pm_WI5, pm_WV, pm_WW, pm_WX, pb_B126, pm_if, pm_QI_at, pm_QL_at, pm_QV_at, pm_QR_at, pm_QR_at0, pm_QR_at1, Nat.reduceSub, Nat.reduceAdd, List.replicate_zero, List.replicate_succ, true_and, and_true, true_or, or_true, and_self, reduceIte, Nat.reduceEqDiff, Nat.reduceLT, Nat.reduceLeDiff, Nat.reduceMul, false_and, and_false, reduceCtorEq, false_or, or_false, not_true_eq_false, not_false_eq_true, true_implies, false_implies, implies_true, lf_10, eq_self, Int32.reduceLT, Int32.reduceLE, Int32.reduceAdd, Int32.reduceSub, pm_same, pm_i_wI, pm_l_wL, pm_l_wM, pm_oR_rf, pm_oQ_rf, nI_1, LQ1, LQ2, LQ5, sh_k0 hS, sh_r0_6 hS, sh_r0_7 hS, sh_k5 hS, sh_k14 hS]
  refine ⟨by omega, lf_42 (by omega) hS hdl hn hn2 h6 (fun x L S1 e hr => ?_) (fun x S1 e hr => ?_)⟩
  · have fin := h1 x L S1 e hr
    obtain ⟨⟨s1, s2, s3, s4, s5⟩, so, _⟩ := hr
    have hS1 : Sh S1 := hS.same s1 s2 s3 s4
    generalize hX : pm_wI S1 5 1 0 = X at *
    have hSX : Sh X := by rw [← hX]; exact hS1.same rfl rfl rfl rfl
    have nX : pm_n X = pm_n S := by rw [← hX]; exact s1
    have kX : pm_k X = pm_k S := by rw [← hX]; exact s2
    have rX : pm_r X = pm_r S := by rw [← hX]; exact s4
    have r53 : pm_r X 5 3 = some D := by rw [rX]; exact hdl.1
    have D14 : D ≠ 14 := by rcases hdl.2.2.1 with z | z <;> omega
    have x14 : pm_i X 14 2 = nI c := by rw [← hX, pm_i_wI, if_neg (by omega), so 14 2 (by omega) (fun z => D14 z.symm) (fun i hi z => by have := (hdl.2.2.2.1 i hi).2.2.2; omega)]; exact h14
    obtain ⟨q1, q2, q3⟩ := lw_N_ok (S := pm_nw X 5 0) (p := pm_n X) (by rw [pm_n_nw]; omega)
    have ke : ∀ y, y < pm_n S → pm_k (lw_H X) y = pm_k S y ∧ pm_z (lw_H X) y = pm_z X y ∧ ∀ j, pm_i (lw_H X) y j = pm_i X y j := fun y hy => by
      have a := q2 y (by rw [pm_n_nw]; omega)
      refine ⟨?_, ?_, fun j => ?_⟩
      · show pm_k (lw_N (pm_nw X 5 0) (pm_n X)) y = _
        rw [a.1, pm_k_nw_ne (by omega), kX]
      · show pm_z (lw_N (pm_nw X 5 0) (pm_n X)) y = _
        rw [a.2.1, pm_z_nw_ne (by omega)]
      · show pm_i (lw_N (pm_nw X 5 0) (pm_n X)) y j = _
        rw [(a.2.2.2 (by omega)).1, pm_i_nw_ne (by omega)]
    have r14 : pm_r (lw_H X) 14 1 = some 15 := by
      unfold lw_H
      rw [pm_r_wRi, if_neg (by omega), ((q2 14 (by rw [pm_n_nw]; omega)).2.2.2 (by omega)).2, pm_r_nw_ne (by omega)]
      exact sh_r14_1 hSX
    have H0 : pm_k (lw_H X) 0 = 11 := by rw [(ke 0 (by omega)).1]; exact sh_k0 hS
    have rH : ∀ j, pm_r (lw_H X) 0 j = pm_r X 0 j := fun j => by
      unfold lw_H
      rw [pm_r_wRi, if_neg (by omega), ((q2 0 (by rw [pm_n_nw]; omega)).2.2.2 (by omega)).2, pm_r_nw_ne (by omega)]
    try simp only [pm_WV, pm_WW, true_and, and_true, true_or, or_true, and_self, reduceIte, Nat.reduceEqDiff, Nat.reduceLT, Nat.reduceLeDiff, Nat.reduceMul, false_and, and_false, reduceCtorEq, false_or, or_false, not_true_eq_false, not_false_eq_true, true_implies, false_implies, implies_true, lf_10, eq_self, Int32.reduceLT, Int32.reduceLE, Int32.reduceAdd, Int32.reduceSub, pm_same, pm_i_wI, pm_l_wL, pm_l_wM, pm_oR_rf, pm_oQ_rf, nI_1, sw_e, LQ1, LQ2, pm_WI0, pm_WI1, pm_WI2, pm_WI3, pm_WI4, pm_WI5, pm_WV, pm_WW, pm_WX, pb_B126, pm_if, pm_QI_at, pm_QL_at, pm_QV_at, pm_QR_at, pm_QR_at0, pm_QR_at1, Nat.reduceSub, Nat.reduceAdd, List.replicate_zero, List.replicate_succ, true_and, and_true, true_or, or_true, and_self, reduceIte, Nat.reduceEqDiff, Nat.reduceLT, Nat.reduceLeDiff, Nat.reduceMul, false_and, and_false, reduceCtorEq, false_or, or_false, not_true_eq_false, not_false_eq_true, true_implies, false_implies, implies_true, lf_10, eq_self, Int32.reduceLT, Int32.reduceLE, Int32.reduceAdd, Int32.reduceSub, pm_same, pm_i_wI, pm_l_wL, pm_l_wM, pm_oR_rf, pm_oQ_rf, nI_1, LQ1, LQ2, LQ5, sh_k0 hS1, sh_r0_6 hS1, sh_r0_7 hS1, sh_k5 hS1, sh_k14 hS1, hX]
    repeat' (first | (refine pm_wb_ok pb_c126 1 _ 0 _ _ _ _ _ ?_; simp only [pm_WI0, pm_WI1, pm_WI2, pm_WI3, pm_WI4, pm_WI5, pm_WV, pm_WW, pm_WX, pb_B126, pm_if, pm_QI_at, pm_QL_at, pm_QV_at, pm_QR_at, pm_QR_at0, pm_QR_at1, Nat.reduceSub, Nat.reduceAdd, List.replicate_zero, List.replicate_succ, true_and, and_true, true_or, or_true, and_self, reduceIte, Nat.reduceEqDiff, Nat.reduceLT, Nat.reduceLeDiff, Nat.reduceMul, false_and, and_false, reduceCtorEq, false_or, or_false, not_true_eq_false, not_false_eq_true, true_implies, false_implies, implies_true, lf_10, eq_self, Int32.reduceLT, Int32.reduceLE, Int32.reduceAdd, Int32.reduceSub, pm_same, pm_i_wI, pm_l_wL, pm_l_wM, pm_oR_rf, pm_oQ_rf, nI_1, LQ1, LQ2, LQ5, sh_k0 hS1, sh_r0_6 hS1, sh_r0_7 hS1, sh_k5 hS1, sh_k14 hS1, hX]) | fail)
    refine ⟨by omega, lf_57 (by omega) hSX r53 ?_⟩
    have kDH : pm_k (lw_H X) D = 5 := by rw [(ke D c2).1]; exact hdl.2.1
    try simp only [pm_WV, pm_WW, true_and, and_true, true_or, or_true, and_self, reduceIte, Nat.reduceEqDiff, Nat.reduceLT, Nat.reduceLeDiff, Nat.reduceMul, false_and, and_false, reduceCtorEq, false_or, or_false, not_true_eq_false, not_false_eq_true, true_implies, false_implies, implies_true, lf_10, eq_self, Int32.reduceLT, Int32.reduceLE, Int32.reduceAdd, Int32.reduceSub, pm_same, pm_i_wI, pm_l_wL, pm_l_wM, pm_oR_rf, pm_oQ_rf, nI_1, sw_e, LQ1, LQ2, pm_WI0, pm_WI1, pm_WI2, pm_WI3, pm_WI4, pm_WI5, pm_WV, pm_WW, pm_WX, pb_B126, pm_if, pm_QI_at, pm_QL_at, pm_QV_at, pm_QR_at, pm_QR_at0, pm_QR_at1, Nat.reduceSub, Nat.reduceAdd, List.replicate_zero, List.replicate_succ, true_and, and_true, true_or, or_true, and_self, reduceIte, Nat.reduceEqDiff, Nat.reduceLT, Nat.reduceLeDiff, Nat.reduceMul, false_and, and_false, reduceCtorEq, false_or, or_false, not_true_eq_false, not_false_eq_true, true_implies, false_implies, implies_true, lf_10, eq_self, Int32.reduceLT, Int32.reduceLE, Int32.reduceAdd, Int32.reduceSub, pm_same, pm_i_wI, pm_l_wL, pm_l_wM, pm_oR_rf, pm_oQ_rf, nI_1, LQ1, LQ2, LQ5, H0, rH, sh_r0_7 hSX, kDH]
    have k14H : pm_k (lw_H X) 14 = 1 := by rw [(ke 14 (by omega)).1]; exact sh_k14 hS
    refine ⟨by omega, k14H, lf_10b k14H (by rw [(ke 15 (by omega)).1]; exact sh_k15 hS) (by rw [(ke 15 (by omega)).2.1]; exact sh_z15 hSX) r14 kDH D14 (by rw [(ke 14 (by omega)).2.2]; exact x14) hc ?_⟩
    try simp only [pm_WV, pm_WW, true_and, and_true, true_or, or_true, and_self, reduceIte, Nat.reduceEqDiff, Nat.reduceLT, Nat.reduceLeDiff, Nat.reduceMul, false_and, and_false, reduceCtorEq, false_or, or_false, not_true_eq_false, not_false_eq_true, true_implies, false_implies, implies_true, lf_10, eq_self, Int32.reduceLT, Int32.reduceLE, Int32.reduceAdd, Int32.reduceSub, pm_same, pm_i_wI, pm_l_wL, pm_l_wM, pm_oR_rf, pm_oQ_rf, nI_1, sw_e, LQ1, LQ2, pm_WI0, pm_WI1, pm_WI2, pm_WI3, pm_WI4, pm_WI5, pm_WV, pm_WW, pm_WX, pb_B126, pm_if, pm_QI_at, pm_QL_at, pm_QV_at, pm_QR_at, pm_QR_at0, pm_QR_at1, Nat.reduceSub, Nat.reduceAdd, List.replicate_zero, List.replicate_succ, true_and, and_true, true_or, or_true, and_self, reduceIte, Nat.reduceEqDiff, Nat.reduceLT, Nat.reduceLeDiff, Nat.reduceMul, false_and, and_false, reduceCtorEq, false_or, or_false, not_true_eq_false, not_false_eq_true, true_implies, false_implies, implies_true, lf_10, eq_self, Int32.reduceLT, Int32.reduceLE, Int32.reduceAdd, Int32.reduceSub, pm_same, pm_i_wI, pm_l_wL, pm_l_wM, pm_oR_rf, pm_oQ_rf, nI_1, LQ1, LQ2, LQ5, H0, rH, sh_r0_7 hSX]
    repeat' (first | exact fin | (refine pm_wb_ok pb_c126 1 _ 0 _ _ _ _ _ ?_; simp only [pm_WI0, pm_WI1, pm_WI2, pm_WI3, pm_WI4, pm_WI5, pm_WV, pm_WW, pm_WX, pb_B126, pm_if, pm_QI_at, pm_QL_at, pm_QV_at, pm_QR_at, pm_QR_at0, pm_QR_at1, Nat.reduceSub, Nat.reduceAdd, List.replicate_zero, List.replicate_succ, true_and, and_true, true_or, or_true, and_self, reduceIte, Nat.reduceEqDiff, Nat.reduceLT, Nat.reduceLeDiff, Nat.reduceMul, false_and, and_false, reduceCtorEq, false_or, or_false, not_true_eq_false, not_false_eq_true, true_implies, false_implies, implies_true, lf_10, eq_self, Int32.reduceLT, Int32.reduceLE, Int32.reduceAdd, Int32.reduceSub, pm_same, pm_i_wI, pm_l_wL, pm_l_wM, pm_oR_rf, pm_oQ_rf, nI_1, LQ1, LQ2, LQ5, H0, rH, sh_r0_7 hSX]) | fail)
  · have fin := h0 x S1 e hr
    obtain ⟨⟨s1, s2, s3, s4, s5⟩, so, rdx⟩ := hr
    have hS1 : Sh S1 := hS.same s1 s2 s3 s4
    have x5 : pm_i S1 5 2 = nI x := rdx.1
    try simp only [pm_WV, pm_WW, true_and, and_true, true_or, or_true, and_self, reduceIte, Nat.reduceEqDiff, Nat.reduceLT, Nat.reduceLeDiff, Nat.reduceMul, false_and, and_false, reduceCtorEq, false_or, or_false, not_true_eq_false, not_false_eq_true, true_implies, false_implies, implies_true, lf_10, eq_self, Int32.reduceLT, Int32.reduceLE, Int32.reduceAdd, Int32.reduceSub, pm_same, pm_i_wI, pm_l_wL, pm_l_wM, pm_oR_rf, pm_oQ_rf, nI_1, sw_e, LQ1, LQ2, pm_WI0, pm_WI1, pm_WI2, pm_WI3, pm_WI4, pm_WI5, pm_WV, pm_WW, pm_WX, pb_B126, pm_if, pm_QI_at, pm_QL_at, pm_QV_at, pm_QR_at, pm_QR_at0, pm_QR_at1, Nat.reduceSub, Nat.reduceAdd, List.replicate_zero, List.replicate_succ, true_and, and_true, true_or, or_true, and_self, reduceIte, Nat.reduceEqDiff, Nat.reduceLT, Nat.reduceLeDiff, Nat.reduceMul, false_and, and_false, reduceCtorEq, false_or, or_false, not_true_eq_false, not_false_eq_true, true_implies, false_implies, implies_true, lf_10, eq_self, Int32.reduceLT, Int32.reduceLE, Int32.reduceAdd, Int32.reduceSub, pm_same, pm_i_wI, pm_l_wL, pm_l_wM, pm_oR_rf, pm_oQ_rf, nI_1, LQ1, LQ2, LQ5, sh_k0 hS1, sh_r0_6 hS1, sh_r0_7 hS1, sh_k5 hS1, sh_k14 hS1, x5]
    repeat' (first | exact fin | (refine pm_wb_ok pb_c126 1 _ 0 _ _ _ _ _ ?_; simp only [pm_WI0, pm_WI1, pm_WI2, pm_WI3, pm_WI4, pm_WI5, pm_WV, pm_WW, pm_WX, pb_B126, pm_if, pm_QI_at, pm_QL_at, pm_QV_at, pm_QR_at, pm_QR_at0, pm_QR_at1, Nat.reduceSub, Nat.reduceAdd, List.replicate_zero, List.replicate_succ, true_and, and_true, true_or, or_true, and_self, reduceIte, Nat.reduceEqDiff, Nat.reduceLT, Nat.reduceLeDiff, Nat.reduceMul, false_and, and_false, reduceCtorEq, false_or, or_false, not_true_eq_false, not_false_eq_true, true_implies, false_implies, implies_true, lf_10, eq_self, Int32.reduceLT, Int32.reduceLE, Int32.reduceAdd, Int32.reduceSub, pm_same, pm_i_wI, pm_l_wL, pm_l_wM, pm_oR_rf, pm_oQ_rf, nI_1, LQ1, LQ2, LQ5, sh_k0 hS1, sh_r0_6 hS1, sh_r0_7 hS1, sh_k5 hS1, sh_k14 hS1, x5]) | fail)
