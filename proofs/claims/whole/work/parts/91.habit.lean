/-! habit -/
def hb_c (S : pm_S) (h i o : Nat) : Bool := decide (¬ o = h ∧ 0 ≤ pm_i S 88 (40 * o + i))
def hb_o (S : pm_S) (h i : Nat) : Nat := pv_cnt (hb_c S h i) 6
def hb_s (S : pm_S) (h i : Nat) : Nat → Nat
  | 0 => 0
  | n + 1 => if hb_c S h i n then hb_s S h i n + (pm_i S 88 (40 * n + i)).toNatClampNeg else hb_s S h i n
def hb_l (S : pm_S) (h i : Nat) : Int32 := 60 * pm_i S 88 (40 * h + i) - 60 / nI (hb_o S h i) * nI (hb_s S h i 6)
def hb_y (S : pm_S) (h i : Nat) : Bool := decide (0 ≤ pm_i S 88 (40 * h + i) ∧ 0 < hb_o S h i)
def hb_A (S : pm_S) (h : Nat) : Nat → Int64
  | 0 => 0
  | n + 1 => if hb_y S h n then hb_A S h n + (hb_l S h n).toInt64 else hb_A S h n
theorem hb_s_le {S : pm_S} {h i : Nat} (hok : ∀ g, g < 6 → iv_in (pm_i S 88 (40 * g + i)) (-1) 9) : ∀ n, n ≤ 6 → hb_s S h i n ≤ 9 * n
  | 0, _ => Nat.le_refl _
  | n + 1, hn => by
    have := hb_s_le (h := h) hok n (by omega)
    have h9 : (pm_i S 88 (40 * n + i)).toNatClampNeg ≤ 9 := iv_le (n := 9) 9 (hok n (by omega)).2 (by decide)
    unfold hb_s
    split <;> omega
theorem hb_o_le {S : pm_S} {h i : Nat} (hh : h < 6) : hb_o S h i ≤ 5 := by
  unfold hb_o
  have hf : hb_c S h i h = false := decide_eq_false (fun z => z.1 rfl)
  have : h = 0 ∨ h = 1 ∨ h = 2 ∨ h = 3 ∨ h = 4 ∨ h = 5 := by omega
  try simp only [pv_cnt]
  rcases this with rfl | rfl | rfl | rfl | rfl | rfl <;> simp only [hf, Bool.false_eq_true, reduceIte] <;> (repeat' split) <;> omega
theorem hb_l_eq {S : pm_S} {h i : Nat} (hh : h < 6) (hok : ∀ g, g < 6 → iv_in (pm_i S 88 (40 * g + i)) (-1) 9) (hy : hb_y S h i = true) : ∃ z : Int, -4000 ≤ z ∧ z ≤ 4000 ∧ (hb_l S h i).toInt64.toInt = z ∧ 60 * (pm_i S 88 (40 * h + i)).toInt64 - 60 * (nI (hb_s S h i 6)).toInt64 / (nI (hb_o S h i)).toInt64 = (hb_l S h i).toInt64 := by
  obtain ⟨y1, y2⟩ := of_decide_eq_true hy
  have o5 := hb_o_le (S := S) (i := i) hh
  have s54 := hb_s_le hok (h := h) 6 (by omega)
  have x9 : (pm_i S 88 (40 * h + i)).toNatClampNeg ≤ 9 := iv_le (n := 9) 9 (hok h hh).2 (by decide)
  have ex := iv_nn y1
  unfold hb_l
  generalize hb_o S h i = o at y2 o5 ⊢
  generalize hb_s S h i 6 = s at s54 ⊢
  rw [ex]
  generalize (pm_i S 88 (40 * h + i)).toNatClampNeg = x at x9 ⊢
  have hn := hb_num o (by omega) s (by omega) y2
  have l60 : 60 / o ≤ 60 := Nat.div_le_self 60 o
  have ls : 60 / o * s ≤ 60 * 54 := Nat.mul_le_mul l60 (by omega)
  have e1 : (60 : Int32) * nI x = nI (60 * x) := pk_mul 60 x
  have e2 : (60 : Int32) / nI o = nI (60 / o) := pk_div (a := 60) (d := o) (by decide) y2 (by omega)
  have e3 : nI (60 / o) * nI s = nI (60 / o * s) := pk_mul _ _
  rw [e1, e2, e3]
  generalize hp : 60 / o * s = p at hn ls
  have et : (nI (60 * x) - nI p).toInt = 60 * (x : Int) - p := by
    rw [Int32.toInt_sub, nI_toInt (by omega), nI_toInt (by omega)]
    rw [Int.bmod_eq_of_le (by omega) (by omega)]
    omega
  refine ⟨60 * (x : Int) - p, by omega, by omega, by rw [Int32.toInt_toInt64, et], ?_⟩
  rw [nI64 (n := x) (by omega), nI64 (n := s) (by omega), nI64 (n := o) (by omega)]
  rw [show (60 : Int64) * nL x = nL (60 * x) from nL_mul (a := 60) (by omega) (by omega) (by omega), show (60 : Int64) * nL s = nL (60 * s) from nL_mul (a := 60) (by omega) (by omega) (by omega), nL_div (by omega) (by omega), hn]
  apply Int64.toInt_inj.mp
  rw [Int64.toInt_sub, nL_toInt (by omega), nL_toInt (by omega), Int32.toInt_toInt64, et]
  rw [Int.bmod_eq_of_le (by omega) (by omega)]
  omega
theorem hb_A_le {A : iv_A} {S : pm_S} {h : Nat} (hI : Inv A S) (hh : h < 6) : ∀ n, n ≤ iv_c S 18 → -4000 * (n : Int) ≤ (hb_A S h n).toInt ∧ (hb_A S h n).toInt ≤ 4000 * (n : Int)
  | 0, _ => by rw [show (hb_A S h 0).toInt = 0 from rfl]; omega
  | n + 1, hn => by
    have n40 := (MI.c18 hI.mi).1
    obtain ⟨l1, l2⟩ := hb_A_le hI hh n (by omega)
    unfold hb_A
    split
    · rename_i hy
      obtain ⟨z, z1, z2, z3, _⟩ := hb_l_eq hh (fun g hg => (hI.ok (by omega : n < iv_c S 18)).2.2.2.2.2 g hg) hy
      rw [Int64.toInt_add, z3, Int.bmod_eq_of_le (by omega) (by omega)]
      omega
    · omega
theorem hb_lit : ∀ c : Nat, c < 40 → 60 * (nI c).toInt64 + 60 = 60 * (nI (c + 1)).toInt64 := fun c hc => by
  rw [nI64 (n := c) (by omega), nI64 (n := c + 1) (by omega), show (60 : Int64) * nL c = nL (60 * c) from nL_mul (a := 60) (by omega) (by omega) (by omega), show (60 : Int64) * nL (c + 1) = nL (60 * (c + 1)) from nL_mul (a := 60) (by omega) (by omega) (by omega), show nL (60 * c) + 60 = nL (60 * c + 60) from nL_add (b := 60) (by omega)]
  congr 1
theorem lf_70 {G : pm_G} {d : Nat} {A : iv_A} {S : pm_S} {i h : Nat} {q : Int32 → pm_S → Prop} (hI : Inv A S) (hi : i < iv_c S 18) (hh : h < 6) (hq : q (nI (hb_o S h i)) S) : pm_CI G d 70 [.ref (iv_m A i), .int (nI h)] S q := by
  have hw := hI.row hi
  refine pm_goI 70 1 pb_c70 (by decide) (Nat.le_of_ble_eq_true rfl) rfl ?_
  try simp only [show pm_mL 70 = 4 from rfl, pm_WI0, pm_WI1, pm_WI2, pm_WI3, pm_WI4, pm_WI5, pm_WV, pm_WW, pm_WX, pb_B70, pm_if, pm_QI_at, pm_QL_at, pm_QV_at, pm_QR_at, pm_QR_at0, pm_QR_at1, Nat.reduceSub, Nat.reduceAdd, List.replicate_zero, List.replicate_succ, true_and, and_true, true_or, or_true, and_self, reduceIte, Nat.reduceEqDiff, Nat.reduceLT, Nat.reduceLeDiff, Nat.reduceMul, false_and, and_false, reduceCtorEq, false_or, or_false, not_true_eq_false, not_false_eq_true, true_implies, false_implies, implies_true, lf_10, eq_self, Int32.reduceLT, Int32.reduceLE, Int32.reduceAdd, Int32.reduceSub, pm_same, pm_i_wI, pm_l_wL, pm_l_wM, pm_oR_rf, pm_oQ_rf, nI_1, sw_e, LQ1, LQ2]
  have key : pm_W G d 70 (pm_QI q) 4 [.ref (iv_m A i), .int (nI h), .int (nI (pv_cnt (hb_c S h i) 0)), .int (nI 0)] [] S 0 0 := by
    refine pv_loopR (fun o => [.ref (iv_m A i), .int (nI h), .int (nI (pv_cnt (hb_c S h i) o)), .int (nI o)]) 6 (fun o ho hk => ?_) ?_
    · have hc := nI_clamp (n := o) (by omega)
      have hle : ¬ 6 ≤ nI o := nI_ge (b := 6) ho (by decide)
      have hv := vp_in_nI (n := o) (N := 6) ho (by decide)
      have g := hw.gr ho
      have ecs : pv_cnt (hb_c S h i) (o + 1) = pv_cnt (hb_c S h i) o + (if hb_c S h i o then 1 else 0) := rfl
      by_cases eo : o = h
      · have e2 : nI o = nI h := by rw [eo]
        have ef : hb_c S h i o = false := decide_eq_false (fun z => z.1 eo)
        rw [ecs, ef] at hk
        subst eo
        refine pm_wb_ok pb_c70 2 4 0 _ _ _ _ _ ?_
        try simp only [pm_WI0, pm_WI1, pm_WI2, pm_WI3, pm_WI4, pm_WI5, pm_WV, pm_WW, pm_WX, pb_B70, pm_if, pm_QI_at, pm_QL_at, pm_QV_at, pm_QR_at, pm_QR_at0, pm_QR_at1, Nat.reduceSub, Nat.reduceAdd, List.replicate_zero, List.replicate_succ, true_and, and_true, true_or, or_true, and_self, reduceIte, Nat.reduceEqDiff, Nat.reduceLT, Nat.reduceLeDiff, Nat.reduceMul, false_and, and_false, reduceCtorEq, false_or, or_false, not_true_eq_false, not_false_eq_true, true_implies, false_implies, implies_true, lf_10, eq_self, Int32.reduceLT, Int32.reduceLE, Int32.reduceAdd, Int32.reduceSub, pm_same, pm_i_wI, pm_l_wL, pm_l_wM, pm_oR_rf, pm_oQ_rf, nI_1, sw_e, LQ1, LQ2, hle]
        exact pv_W hk (by simp [pv_le, pm_unk])
      · have e2 : ¬ nI o = nI h := fun z => eo ((nI_eq (by omega) (by omega)).mp z)
        by_cases g0 : pm_i S 88 (40 * o + i) < 0
        · have ef : hb_c S h i o = false := decide_eq_false (fun z => by have := z.2; lia)
          rw [ecs, ef] at hk
          refine pm_wb_ok pb_c70 2 4 0 _ _ _ _ _ ?_
          try simp only [pm_WI0, pm_WI1, pm_WI2, pm_WI3, pm_WI4, pm_WI5, pm_WV, pm_WW, pm_WX, pb_B70, pm_if, pm_QI_at, pm_QL_at, pm_QV_at, pm_QR_at, pm_QR_at0, pm_QR_at1, Nat.reduceSub, Nat.reduceAdd, List.replicate_zero, List.replicate_succ, true_and, and_true, true_or, or_true, and_self, reduceIte, Nat.reduceEqDiff, Nat.reduceLT, Nat.reduceLeDiff, Nat.reduceMul, false_and, and_false, reduceCtorEq, false_or, or_false, not_true_eq_false, not_false_eq_true, true_implies, false_implies, implies_true, lf_10, eq_self, Int32.reduceLT, Int32.reduceLE, Int32.reduceAdd, Int32.reduceSub, pm_same, pm_i_wI, pm_l_wL, pm_l_wM, pm_oR_rf, pm_oQ_rf, nI_1, sw_e, LQ1, LQ2, hle, e2, hw.k, hw.rg, hw.kg, hw.zg, hc, g, g0]
          first | exact ⟨hv, pv_W hk (by simp [pv_le, pm_unk])⟩ | skip
        · have ef : hb_c S h i o = true := decide_eq_true ⟨eo, by lia⟩
          rw [ecs, ef] at hk
          refine pm_wb_ok pb_c70 2 4 0 _ _ _ _ _ ?_
          try simp only [pm_WI0, pm_WI1, pm_WI2, pm_WI3, pm_WI4, pm_WI5, pm_WV, pm_WW, pm_WX, pb_B70, pm_if, pm_QI_at, pm_QL_at, pm_QV_at, pm_QR_at, pm_QR_at0, pm_QR_at1, Nat.reduceSub, Nat.reduceAdd, List.replicate_zero, List.replicate_succ, true_and, and_true, true_or, or_true, and_self, reduceIte, Nat.reduceEqDiff, Nat.reduceLT, Nat.reduceLeDiff, Nat.reduceMul, false_and, and_false, reduceCtorEq, false_or, or_false, not_true_eq_false, not_false_eq_true, true_implies, false_implies, implies_true, lf_10, eq_self, Int32.reduceLT, Int32.reduceLE, Int32.reduceAdd, Int32.reduceSub, pm_same, pm_i_wI, pm_l_wL, pm_l_wM, pm_oR_rf, pm_oQ_rf, nI_1, sw_e, LQ1, LQ2, hle, e2, hw.k, hw.rg, hw.kg, hw.zg, hc, g, g0]
          first | exact ⟨hv, pv_W hk (by simp [pv_le, pm_unk])⟩ | skip
    · refine pm_wb_ok pb_c70 2 4 0 _ _ _ _ _ ?_
      try simp only [pm_WI0, pm_WI1, pm_WI2, pm_WI3, pm_WI4, pm_WI5, pm_WV, pm_WW, pm_WX, pb_B70, pm_if, pm_QI_at, pm_QL_at, pm_QV_at, pm_QR_at, pm_QR_at0, pm_QR_at1, Nat.reduceSub, Nat.reduceAdd, List.replicate_zero, List.replicate_succ, true_and, and_true, true_or, or_true, and_self, reduceIte, Nat.reduceEqDiff, Nat.reduceLT, Nat.reduceLeDiff, Nat.reduceMul, false_and, and_false, reduceCtorEq, false_or, or_false, not_true_eq_false, not_false_eq_true, true_implies, false_implies, implies_true, lf_10, eq_self, Int32.reduceLT, Int32.reduceLE, Int32.reduceAdd, Int32.reduceSub, pm_same, pm_i_wI, pm_l_wL, pm_l_wM, pm_oR_rf, pm_oQ_rf, nI_1, sw_e, LQ1, LQ2, show (6 : Int32) ≤ nI 6 from by decide]
      exact hq
  exact pv_W key (by simp [pv_le, pm_unk, pv_cnt, show nI 0 = 0 from rfl])
theorem lf_69 {G : pm_G} {d : Nat} {A : iv_A} {S : pm_S} {i h : Nat} {q : Int32 → pm_S → Prop} (hd : 1 ≤ d) (hI : Inv A S) (hi : i < iv_c S 18) (hh : h < 6) (h1 : hb_y S h i = true → q 1 S) (h0 : hb_y S h i = false → q 0 S) : pm_CI G d 69 [.ref (iv_m A i), .int (nI h)] S q := by
  have hw := hI.row hi
  have hc := nI_clamp (n := h) (by omega)
  have hv := vp_in_nI (n := h) (N := 6) hh (by decide)
  have g := hw.gr hh
  have o5 := hb_o_le (S := S) (i := i) hh
  by_cases g0 : pm_i S 88 (40 * h + i) < 0
  · have := h0 (decide_eq_false (fun z => by have := z.1; lia))
    refine pm_goI 69 3 pb_c69 (by decide) (Nat.le_of_ble_eq_true rfl) rfl ?_
    try simp only [show pm_mL 69 = 2 from rfl, pm_WI0, pm_WI1, pm_WI2, pm_WI3, pm_WI4, pm_WI5, pm_WV, pm_WW, pm_WX, pb_B69, pm_if, pm_QI_at, pm_QL_at, pm_QV_at, pm_QR_at, pm_QR_at0, pm_QR_at1, Nat.reduceSub, Nat.reduceAdd, List.replicate_zero, List.replicate_succ, true_and, and_true, true_or, or_true, and_self, reduceIte, Nat.reduceEqDiff, Nat.reduceLT, Nat.reduceLeDiff, Nat.reduceMul, false_and, and_false, reduceCtorEq, false_or, or_false, not_true_eq_false, not_false_eq_true, true_implies, false_implies, implies_true, lf_10, eq_self, Int32.reduceLT, Int32.reduceLE, Int32.reduceAdd, Int32.reduceSub, pm_same, pm_i_wI, pm_l_wL, pm_l_wM, pm_oR_rf, pm_oQ_rf, nI_1, sw_e, LQ1, LQ2, hw.k, hw.rg, hw.kg, hw.zg, hc, g, g0]
    exact ⟨hv, this⟩
  · have g1 : 0 ≤ pm_i S 88 (40 * h + i) := by lia
    refine pm_goI 69 3 pb_c69 (by decide) (Nat.le_of_ble_eq_true rfl) rfl ?_
    try simp only [show pm_mL 69 = 2 from rfl, pm_WI0, pm_WI1, pm_WI2, pm_WI3, pm_WI4, pm_WI5, pm_WV, pm_WW, pm_WX, pb_B69, pm_if, pm_QI_at, pm_QL_at, pm_QV_at, pm_QR_at, pm_QR_at0, pm_QR_at1, Nat.reduceSub, Nat.reduceAdd, List.replicate_zero, List.replicate_succ, true_and, and_true, true_or, or_true, and_self, reduceIte, Nat.reduceEqDiff, Nat.reduceLT, Nat.reduceLeDiff, Nat.reduceMul, false_and, and_false, reduceCtorEq, false_or, or_false, not_true_eq_false, not_false_eq_true, true_implies, false_implies, implies_true, lf_10, eq_self, Int32.reduceLT, Int32.reduceLE, Int32.reduceAdd, Int32.reduceSub, pm_same, pm_i_wI, pm_l_wL, pm_l_wM, pm_oR_rf, pm_oQ_rf, nI_1, sw_e, LQ1, LQ2, hw.k, hw.rg, hw.kg, hw.zg, hc, g, g0]
    refine ⟨hv, by omega, lf_70 hI hi hh ?_⟩
    by_cases o0 : hb_o S h i = 0
    · have := h0 (decide_eq_false (fun z => by have := z.2; omega))
      have ol : nI (hb_o S h i) ≤ 0 := by rw [o0]; decide
      try simp only [pm_WV, pm_WW, true_and, and_true, true_or, or_true, and_self, reduceIte, Nat.reduceEqDiff, Nat.reduceLT, Nat.reduceLeDiff, Nat.reduceMul, false_and, and_false, reduceCtorEq, false_or, or_false, not_true_eq_false, not_false_eq_true, true_implies, false_implies, implies_true, lf_10, eq_self, Int32.reduceLT, Int32.reduceLE, Int32.reduceAdd, Int32.reduceSub, pm_same, pm_i_wI, pm_l_wL, pm_l_wM, pm_oR_rf, pm_oQ_rf, nI_1, sw_e, LQ1, LQ2, pm_WI0, pm_WI1, pm_WI2, pm_WI3, pm_WI4, pm_WI5, pm_WV, pm_WW, pm_WX, pb_B69, pm_if, pm_QI_at, pm_QL_at, pm_QV_at, pm_QR_at, pm_QR_at0, pm_QR_at1, Nat.reduceSub, Nat.reduceAdd, List.replicate_zero, List.replicate_succ, ol]
      first | exact this | (rw [o0]; exact this) | skip
    · have := h1 (decide_eq_true ⟨g1, by omega⟩)
      have ol : ¬ nI (hb_o S h i) ≤ 0 := nI_ge (a := 0) (by omega) (by omega)
      try simp only [pm_WV, pm_WW, true_and, and_true, true_or, or_true, and_self, reduceIte, Nat.reduceEqDiff, Nat.reduceLT, Nat.reduceLeDiff, Nat.reduceMul, false_and, and_false, reduceCtorEq, false_or, or_false, not_true_eq_false, not_false_eq_true, true_implies, false_implies, implies_true, lf_10, eq_self, Int32.reduceLT, Int32.reduceLE, Int32.reduceAdd, Int32.reduceSub, pm_same, pm_i_wI, pm_l_wL, pm_l_wM, pm_oR_rf, pm_oQ_rf, nI_1, sw_e, LQ1, LQ2, pm_WI0, pm_WI1, pm_WI2, pm_WI3, pm_WI4, pm_WI5, pm_WV, pm_WW, pm_WX, pb_B69, pm_if, pm_QI_at, pm_QL_at, pm_QV_at, pm_QR_at, pm_QR_at0, pm_QR_at1, Nat.reduceSub, Nat.reduceAdd, List.replicate_zero, List.replicate_succ, ol]
      first | exact this | skip
theorem lf_71 {G : pm_G} {d : Nat} {A : iv_A} {S : pm_S} {i h : Nat} {q : Int32 → pm_S → Prop} (hd : 1 ≤ d) (hI : Inv A S) (hi : i < iv_c S 18) (hh : h < 6) (hy : hb_y S h i = true) (hq : q (hb_l S h i) S) : pm_CI G d 71 [.ref (iv_m A i), .int (nI h)] S q := by
  have hw := hI.row hi
  have hok := (hI.ok hi).2.2.2.2.2
  obtain ⟨y1, y2⟩ := of_decide_eq_true hy
  have o5 := hb_o_le (S := S) (i := i) hh
  have hch := nI_clamp (n := h) (by omega)
  have hvh := vp_in_nI (n := h) (N := 6) hh (by decide)
  have gh := hw.gr hh
  have ol : ¬ nI (hb_o S h i) < 1 := nI_ge (a := 0) (by omega) (by omega) |> fun _ => fun z => by
    have := (nI_ltI (a := hb_o S h i) (b := 1) (by omega) (by decide)).mp z
    omega
  have on : ¬ nI (hb_o S h i) = 0 := nI_ne0 y2 (by omega)
  have ol1 : 1 ≤ nI (hb_o S h i) := by lia
  refine pm_goI 71 1 pb_c71 (by decide) (Nat.le_of_ble_eq_true rfl) rfl ?_
  try simp only [show pm_mL 71 = 5 from rfl, pm_WI0, pm_WI1, pm_WI2, pm_WI3, pm_WI4, pm_WI5, pm_WV, pm_WW, pm_WX, pb_B71, pm_if, pm_QI_at, pm_QL_at, pm_QV_at, pm_QR_at, pm_QR_at0, pm_QR_at1, Nat.reduceSub, Nat.reduceAdd, List.replicate_zero, List.replicate_succ, true_and, and_true, true_or, or_true, and_self, reduceIte, Nat.reduceEqDiff, Nat.reduceLT, Nat.reduceLeDiff, Nat.reduceMul, false_and, and_false, reduceCtorEq, false_or, or_false, not_true_eq_false, not_false_eq_true, true_implies, false_implies, implies_true, lf_10, eq_self, Int32.reduceLT, Int32.reduceLE, Int32.reduceAdd, Int32.reduceSub, pm_same, pm_i_wI, pm_l_wL, pm_l_wM, pm_oR_rf, pm_oQ_rf, nI_1, sw_e, LQ1, LQ2, hw.k]
  refine ⟨by omega, lf_70 hI hi hh ?_⟩
  try simp only [pm_WV, pm_WW, true_and, and_true, true_or, or_true, and_self, reduceIte, Nat.reduceEqDiff, Nat.reduceLT, Nat.reduceLeDiff, Nat.reduceMul, false_and, and_false, reduceCtorEq, false_or, or_false, not_true_eq_false, not_false_eq_true, true_implies, false_implies, implies_true, lf_10, eq_self, Int32.reduceLT, Int32.reduceLE, Int32.reduceAdd, Int32.reduceSub, pm_same, pm_i_wI, pm_l_wL, pm_l_wM, pm_oR_rf, pm_oQ_rf, nI_1, sw_e, LQ1, LQ2, pm_WI0, pm_WI1, pm_WI2, pm_WI3, pm_WI4, pm_WI5, pm_WV, pm_WW, pm_WX, pb_B71, pm_if, pm_QI_at, pm_QL_at, pm_QV_at, pm_QR_at, pm_QR_at0, pm_QR_at1, Nat.reduceSub, Nat.reduceAdd, List.replicate_zero, List.replicate_succ, ol, ol1, hw.k]
  have key : pm_W G d 71 (pm_QI q) 18 [.ref (iv_m A i), .int (nI h), .int (nI (hb_o S h i)), .int (nI (hb_s S h i 0)), .int (nI 0)] [] S 0 0 := by
    refine pv_loopR (fun o => [.ref (iv_m A i), .int (nI h), .int (nI (hb_o S h i)), .int (nI (hb_s S h i o)), .int (nI o)]) 6 (fun o ho hk => ?_) ?_
    · have hc := nI_clamp (n := o) (by omega)
      have hle : ¬ 6 ≤ nI o := nI_ge (b := 6) ho (by decide)
      have hv := vp_in_nI (n := o) (N := 6) ho (by decide)
      have g := hw.gr ho
      have ecs : hb_s S h i (o + 1) = if hb_c S h i o then hb_s S h i o + (pm_i S 88 (40 * o + i)).toNatClampNeg else hb_s S h i o := rfl
      by_cases eo : o = h
      · have e2 : nI o = nI h := by rw [eo]
        have ef : hb_c S h i o = false := decide_eq_false (fun z => z.1 eo)
        rw [ecs, ef] at hk
        subst eo
        refine pm_wb_ok pb_c71 2 18 0 _ _ _ _ _ ?_
        try simp only [pm_WI0, pm_WI1, pm_WI2, pm_WI3, pm_WI4, pm_WI5, pm_WV, pm_WW, pm_WX, pb_B71, pm_if, pm_QI_at, pm_QL_at, pm_QV_at, pm_QR_at, pm_QR_at0, pm_QR_at1, Nat.reduceSub, Nat.reduceAdd, List.replicate_zero, List.replicate_succ, true_and, and_true, true_or, or_true, and_self, reduceIte, Nat.reduceEqDiff, Nat.reduceLT, Nat.reduceLeDiff, Nat.reduceMul, false_and, and_false, reduceCtorEq, false_or, or_false, not_true_eq_false, not_false_eq_true, true_implies, false_implies, implies_true, lf_10, eq_self, Int32.reduceLT, Int32.reduceLE, Int32.reduceAdd, Int32.reduceSub, pm_same, pm_i_wI, pm_l_wL, pm_l_wM, pm_oR_rf, pm_oQ_rf, nI_1, sw_e, LQ1, LQ2, hle]
        exact pv_W hk (by simp [pv_le, pm_unk])
      · have e2 : ¬ nI o = nI h := fun z => eo ((nI_eq (by omega) (by omega)).mp z)
        by_cases g0 : pm_i S 88 (40 * o + i) < 0
        · have ef : hb_c S h i o = false := decide_eq_false (fun z => by have := z.2; lia)
          rw [ecs, ef] at hk
          refine pm_wb_ok pb_c71 2 18 0 _ _ _ _ _ ?_
          try simp only [pm_WI0, pm_WI1, pm_WI2, pm_WI3, pm_WI4, pm_WI5, pm_WV, pm_WW, pm_WX, pb_B71, pm_if, pm_QI_at, pm_QL_at, pm_QV_at, pm_QR_at, pm_QR_at0, pm_QR_at1, Nat.reduceSub, Nat.reduceAdd, List.replicate_zero, List.replicate_succ, true_and, and_true, true_or, or_true, and_self, reduceIte, Nat.reduceEqDiff, Nat.reduceLT, Nat.reduceLeDiff, Nat.reduceMul, false_and, and_false, reduceCtorEq, false_or, or_false, not_true_eq_false, not_false_eq_true, true_implies, false_implies, implies_true, lf_10, eq_self, Int32.reduceLT, Int32.reduceLE, Int32.reduceAdd, Int32.reduceSub, pm_same, pm_i_wI, pm_l_wL, pm_l_wM, pm_oR_rf, pm_oQ_rf, nI_1, sw_e, LQ1, LQ2, hle, e2, hw.k, hw.rg, hw.kg, hw.zg, hc, g, g0]
          first | exact ⟨hv, pv_W hk (by simp [pv_le, pm_unk])⟩ | skip
        · have g1 : 0 ≤ pm_i S 88 (40 * o + i) := by lia
          have ef : hb_c S h i o = true := decide_eq_true ⟨eo, g1⟩
          have eg : nI (hb_s S h i o) + pm_i S 88 (40 * o + i) = nI (hb_s S h i o + (pm_i S 88 (40 * o + i)).toNatClampNeg) := by rw [← nI_add, ← iv_nn g1]
          rw [ecs, ef] at hk
          refine pm_wb_ok pb_c71 2 18 0 _ _ _ _ _ ?_
          try simp only [pm_WI0, pm_WI1, pm_WI2, pm_WI3, pm_WI4, pm_WI5, pm_WV, pm_WW, pm_WX, pb_B71, pm_if, pm_QI_at, pm_QL_at, pm_QV_at, pm_QR_at, pm_QR_at0, pm_QR_at1, Nat.reduceSub, Nat.reduceAdd, List.replicate_zero, List.replicate_succ, true_and, and_true, true_or, or_true, and_self, reduceIte, Nat.reduceEqDiff, Nat.reduceLT, Nat.reduceLeDiff, Nat.reduceMul, false_and, and_false, reduceCtorEq, false_or, or_false, not_true_eq_false, not_false_eq_true, true_implies, false_implies, implies_true, lf_10, eq_self, Int32.reduceLT, Int32.reduceLE, Int32.reduceAdd, Int32.reduceSub, pm_same, pm_i_wI, pm_l_wL, pm_l_wM, pm_oR_rf, pm_oQ_rf, nI_1, sw_e, LQ1, LQ2, hle, e2, hw.k, hw.rg, hw.kg, hw.zg, hc, g, g0, eg]
          first | exact ⟨hv, hv, pv_W hk (by simp [pv_le, pm_unk])⟩ | exact ⟨hv, pv_W hk (by simp [pv_le, pm_unk])⟩ | skip
    · refine pm_wb_ok pb_c71 2 18 0 _ _ _ _ _ ?_
      try simp only [pm_WI0, pm_WI1, pm_WI2, pm_WI3, pm_WI4, pm_WI5, pm_WV, pm_WW, pm_WX, pb_B71, pm_if, pm_QI_at, pm_QL_at, pm_QV_at, pm_QR_at, pm_QR_at0, pm_QR_at1, Nat.reduceSub, Nat.reduceAdd, List.replicate_zero, List.replicate_succ, true_and, and_true, true_or, or_true, and_self, reduceIte, Nat.reduceEqDiff, Nat.reduceLT, Nat.reduceLeDiff, Nat.reduceMul, false_and, and_false, reduceCtorEq, false_or, or_false, not_true_eq_false, not_false_eq_true, true_implies, false_implies, implies_true, lf_10, eq_self, Int32.reduceLT, Int32.reduceLE, Int32.reduceAdd, Int32.reduceSub, pm_same, pm_i_wI, pm_l_wL, pm_l_wM, pm_oR_rf, pm_oQ_rf, nI_1, sw_e, LQ1, LQ2, show (6 : Int32) ≤ nI 6 from by decide, hw.k, hw.rg, hw.kg, hw.zg, hch, gh, on]
      first | exact ⟨hvh, hq⟩ | exact ⟨hvh, on, hq⟩ | skip
  first | exact pv_W key (by simp [pv_le, pm_unk, hb_s, show nI 0 = 0 from rfl]) | (refine pm_wb_ok pb_c71 1 13 0 _ _ _ _ _ ?_; simp only [pm_WI0, pm_WI1, pm_WI2, pm_WI3, pm_WI4, pm_WI5, pm_WV, pm_WW, pm_WX, pb_B71, pm_if, pm_QI_at, pm_QL_at, pm_QV_at, pm_QR_at, pm_QR_at0, pm_QR_at1, Nat.reduceSub, Nat.reduceAdd, List.replicate_zero, List.replicate_succ, true_and, and_true, true_or, or_true, and_self, reduceIte, Nat.reduceEqDiff, Nat.reduceLT, Nat.reduceLeDiff, Nat.reduceMul, false_and, and_false, reduceCtorEq, false_or, or_false, not_true_eq_false, not_false_eq_true, true_implies, false_implies, implies_true, lf_10, eq_self, Int32.reduceLT, Int32.reduceLE, Int32.reduceAdd, Int32.reduceSub, pm_same, pm_i_wI, pm_l_wL, pm_l_wM, pm_oR_rf, pm_oQ_rf, nI_1, sw_e, LQ1, LQ2]; exact pv_W key (by simp [pv_le, pm_unk, hb_s, show nI 0 = 0 from rfl])) | skip
theorem lc_eq {x y : Int64} : lg_cmp x y = 0 ↔ x = y := by
  unfold lg_cmp
  by_cases h : x > y
  · rw [if_pos h]; exact ⟨fun z => absurd z (by decide), fun z => by exfalso; subst z; lia⟩
  · rw [if_neg h]
    by_cases h2 : x = y
    · rw [if_pos h2]; exact ⟨fun _ => h2, fun _ => rfl⟩
    · rw [if_neg h2]; exact ⟨fun z => absurd z (by decide), fun z => absurd z h2⟩
theorem eu_0 {f x g : Nat} (h : eu f x 0 = some g) : x = g := by
  cases f <;> (simp only [eu, reduceIte] at h; exact Option.some.inj h)
theorem eu_s {f x y g : Nat} (h : eu f x y = some g) (hy : ¬ y = 0) : ∃ f', f = f' + 1 ∧ eu f' y (x % y) = some g := by
  cases f with
  | zero => simp only [eu, if_neg hy] at h; cases h
  | succ f => exact ⟨f, rfl, by simpa only [eu, if_neg hy] using h⟩
theorem lf_143 {G : pm_G} {d : Nat} {S : pm_S} {x y f g : Nat} {q : Int64 → pm_S → Prop} (hx : x < 2 ^ 40) (hy : y < 2 ^ 40) (hf : f ≤ 100) (h : eu f x y = some g) (hq : q (nL g) S) : pm_CL G d 143 [.long (nL x), .long (nL y)] S q := by
  have key : ∀ f i a b, a < 2 ^ 40 → b < 2 ^ 40 → i + f ≤ 100 → eu f a b = some g → pm_W G d 143 (pm_QL q) 9 [.long (nL x), .float 0, .long (nL y), .float 0, .long (nL a), .float 0, .long (nL b), .float 0, .int (nI i), .float 0, .float 0] [] S 0 0 := by
    intro f
    induction f with
    | zero =>
      intro i a b ha hb hi e
      by_cases b0 : b = 0
      · subst b0
        obtain rfl := eu_0 e
        by_cases hi2 : i = 100
        · have hle : 100 ≤ nI i := by rw [hi2]; decide
          refine pm_wb_ok pb_c143 2 9 0 _ _ _ _ _ ?_
          try simp only [pm_WI0, pm_WI1, pm_WI2, pm_WI3, pm_WI4, pm_WI5, pm_WV, pm_WW, pm_WX, pb_B143, pm_if, pm_QI_at, pm_QL_at, pm_QV_at, pm_QR_at, pm_QR_at0, pm_QR_at1, Nat.reduceSub, Nat.reduceAdd, List.replicate_zero, List.replicate_succ, true_and, and_true, true_or, or_true, and_self, reduceIte, Nat.reduceEqDiff, Nat.reduceLT, Nat.reduceLeDiff, Nat.reduceMul, false_and, and_false, reduceCtorEq, false_or, or_false, not_true_eq_false, not_false_eq_true, true_implies, false_implies, implies_true, lf_10, eq_self, Int32.reduceLT, Int32.reduceLE, Int32.reduceAdd, Int32.reduceSub, pm_same, pm_i_wI, pm_l_wL, pm_l_wM, pm_oR_rf, pm_oQ_rf, nI_1, sw_e, LQ1, LQ2, hle]
          exact hq
        · have hle : ¬ 100 ≤ nI i := nI_ge (b := 100) (by omega) (by decide)
          refine pm_wb_ok pb_c143 2 9 0 _ _ _ _ _ ?_
          try simp only [pm_WI0, pm_WI1, pm_WI2, pm_WI3, pm_WI4, pm_WI5, pm_WV, pm_WW, pm_WX, pb_B143, pm_if, pm_QI_at, pm_QL_at, pm_QV_at, pm_QR_at, pm_QR_at0, pm_QR_at1, Nat.reduceSub, Nat.reduceAdd, List.replicate_zero, List.replicate_succ, true_and, and_true, true_or, or_true, and_self, reduceIte, Nat.reduceEqDiff, Nat.reduceLT, Nat.reduceLeDiff, Nat.reduceMul, false_and, and_false, reduceCtorEq, false_or, or_false, not_true_eq_false, not_false_eq_true, true_implies, false_implies, implies_true, lf_10, eq_self, Int32.reduceLT, Int32.reduceLE, Int32.reduceAdd, Int32.reduceSub, pm_same, pm_i_wI, pm_l_wL, pm_l_wM, pm_oR_rf, pm_oQ_rf, nI_1, sw_e, LQ1, LQ2, hle, lc_eq, nL_0]
          exact hq
      · obtain ⟨f', hf', _⟩ := eu_s e b0
        omega
    | succ f ih =>
      intro i a b ha hb hi e
      have hle : ¬ 100 ≤ nI i := nI_ge (b := 100) (by omega) (by decide)
      by_cases b0 : b = 0
      · subst b0
        obtain rfl := eu_0 e
        refine pm_wb_ok pb_c143 2 9 0 _ _ _ _ _ ?_
        try simp only [pm_WI0, pm_WI1, pm_WI2, pm_WI3, pm_WI4, pm_WI5, pm_WV, pm_WW, pm_WX, pb_B143, pm_if, pm_QI_at, pm_QL_at, pm_QV_at, pm_QR_at, pm_QR_at0, pm_QR_at1, Nat.reduceSub, Nat.reduceAdd, List.replicate_zero, List.replicate_succ, true_and, and_true, true_or, or_true, and_self, reduceIte, Nat.reduceEqDiff, Nat.reduceLT, Nat.reduceLeDiff, Nat.reduceMul, false_and, and_false, reduceCtorEq, false_or, or_false, not_true_eq_false, not_false_eq_true, true_implies, false_implies, implies_true, lf_10, eq_self, Int32.reduceLT, Int32.reduceLE, Int32.reduceAdd, Int32.reduceSub, pm_same, pm_i_wI, pm_l_wL, pm_l_wM, pm_oR_rf, pm_oQ_rf, nI_1, sw_e, LQ1, LQ2, hle, lc_eq, nL_0]
        exact hq
      · obtain ⟨f', hf', e3⟩ := eu_s e b0
        have ef : f' = f := by omega
        subst ef
        have n0 : ¬ nL b = 0 := fun z => b0 ((nL_eq0 (by omega)).mp z)
        have hm : a % b < b := Nat.mod_lt _ (by omega)
        have er := nL_rem (a := a) (b := b) (by omega) (by omega)
        have hk := ih (i + 1) b (a % b) hb (by omega) (by omega) e3
        refine pm_wb_ok pb_c143 1 9 0 _ _ _ _ _ ?_
        try simp only [pm_WI0, pm_WI1, pm_WI2, pm_WI3, pm_WI4, pm_WI5, pm_WV, pm_WW, pm_WX, pb_B143, pm_if, pm_QI_at, pm_QL_at, pm_QV_at, pm_QR_at, pm_QR_at0, pm_QR_at1, Nat.reduceSub, Nat.reduceAdd, List.replicate_zero, List.replicate_succ, true_and, and_true, true_or, or_true, and_self, reduceIte, Nat.reduceEqDiff, Nat.reduceLT, Nat.reduceLeDiff, Nat.reduceMul, false_and, and_false, reduceCtorEq, false_or, or_false, not_true_eq_false, not_false_eq_true, true_implies, false_implies, implies_true, lf_10, eq_self, Int32.reduceLT, Int32.reduceLE, Int32.reduceAdd, Int32.reduceSub, pm_same, pm_i_wI, pm_l_wL, pm_l_wM, pm_oR_rf, pm_oQ_rf, nI_1, sw_e, LQ1, LQ2, hle, lc_eq, n0, er]
        first | exact pv_W hk (by simp [pv_le, pm_unk]) | exact ⟨n0, pv_W hk (by simp [pv_le, pm_unk])⟩ | skip
  have hk := key f 0 x y hx hy (by omega) h
  refine pm_goL 143 1 pb_c143 (by decide) (Nat.le_of_ble_eq_true rfl) rfl ?_
  try simp only [show pm_mL 143 = 11 from rfl, pm_WI0, pm_WI1, pm_WI2, pm_WI3, pm_WI4, pm_WI5, pm_WV, pm_WW, pm_WX, pb_B143, pm_if, pm_QI_at, pm_QL_at, pm_QV_at, pm_QR_at, pm_QR_at0, pm_QR_at1, Nat.reduceSub, Nat.reduceAdd, List.replicate_zero, List.replicate_succ, true_and, and_true, true_or, or_true, and_self, reduceIte, Nat.reduceEqDiff, Nat.reduceLT, Nat.reduceLeDiff, Nat.reduceMul, false_and, and_false, reduceCtorEq, false_or, or_false, not_true_eq_false, not_false_eq_true, true_implies, false_implies, implies_true, lf_10, eq_self, Int32.reduceLT, Int32.reduceLE, Int32.reduceAdd, Int32.reduceSub, pm_same, pm_i_wI, pm_l_wL, pm_l_wM, pm_oR_rf, pm_oQ_rf, nI_1, sw_e, LQ1, LQ2]
  exact pv_W hk (by simp [pv_le, pm_unk, show nI 0 = 0 from rfl])
theorem lf_244 {G : pm_G} {d : Nat} {S : pm_S} {x y f g : Nat} {q : Int64 → pm_S → Prop} (hx : x < 2 ^ 40) (hy : y < 2 ^ 40) (h : eu f x y = some g) (hq : q (nL g) S) : pm_CL G d 244 [.long (nL x), .long (nL y)] S q := by
  have key : ∀ f a b, a < 2 ^ 40 → b < 2 ^ 40 → eu f a b = some g → pm_W G d 244 (pm_QL q) 6 [.long (nL x), .float 0, .long (nL y), .float 0, .long (nL a), .float 0, .long (nL b), .float 0, .float 0, .float 0] [] S 0 0 := by
    intro f
    induction f with
    | zero =>
      intro a b ha hb e
      by_cases b0 : b = 0
      · subst b0
        obtain rfl := eu_0 e
        refine pm_wb_ok pb_c244 2 6 0 _ _ _ _ _ ?_
        try simp only [pm_WI0, pm_WI1, pm_WI2, pm_WI3, pm_WI4, pm_WI5, pm_WV, pm_WW, pm_WX, pb_B244, pm_if, pm_QI_at, pm_QL_at, pm_QV_at, pm_QR_at, pm_QR_at0, pm_QR_at1, Nat.reduceSub, Nat.reduceAdd, List.replicate_zero, List.replicate_succ, true_and, and_true, true_or, or_true, and_self, reduceIte, Nat.reduceEqDiff, Nat.reduceLT, Nat.reduceLeDiff, Nat.reduceMul, false_and, and_false, reduceCtorEq, false_or, or_false, not_true_eq_false, not_false_eq_true, true_implies, false_implies, implies_true, lf_10, eq_self, Int32.reduceLT, Int32.reduceLE, Int32.reduceAdd, Int32.reduceSub, pm_same, pm_i_wI, pm_l_wL, pm_l_wM, pm_oR_rf, pm_oQ_rf, nI_1, sw_e, LQ1, LQ2, lc_eq, nL_0]
        exact hq
      · obtain ⟨f', hf', _⟩ := eu_s e b0
        omega
    | succ f ih =>
      intro a b ha hb e
      by_cases b0 : b = 0
      · subst b0
        obtain rfl := eu_0 e
        refine pm_wb_ok pb_c244 2 6 0 _ _ _ _ _ ?_
        try simp only [pm_WI0, pm_WI1, pm_WI2, pm_WI3, pm_WI4, pm_WI5, pm_WV, pm_WW, pm_WX, pb_B244, pm_if, pm_QI_at, pm_QL_at, pm_QV_at, pm_QR_at, pm_QR_at0, pm_QR_at1, Nat.reduceSub, Nat.reduceAdd, List.replicate_zero, List.replicate_succ, true_and, and_true, true_or, or_true, and_self, reduceIte, Nat.reduceEqDiff, Nat.reduceLT, Nat.reduceLeDiff, Nat.reduceMul, false_and, and_false, reduceCtorEq, false_or, or_false, not_true_eq_false, not_false_eq_true, true_implies, false_implies, implies_true, lf_10, eq_self, Int32.reduceLT, Int32.reduceLE, Int32.reduceAdd, Int32.reduceSub, pm_same, pm_i_wI, pm_l_wL, pm_l_wM, pm_oR_rf, pm_oQ_rf, nI_1, sw_e, LQ1, LQ2, lc_eq, nL_0]
        exact hq
      · obtain ⟨f', hf', e3⟩ := eu_s e b0
        have ef : f' = f := by omega
        subst ef
        have n0 : ¬ nL b = 0 := fun z => b0 ((nL_eq0 (by omega)).mp z)
        have hm : a % b < b := Nat.mod_lt _ (by omega)
        have er := nL_rem (a := a) (b := b) (by omega) (by omega)
        have hk := ih b (a % b) hb (by omega) e3
        refine pm_wb_ok pb_c244 1 6 0 _ _ _ _ _ ?_
        try simp only [pm_WI0, pm_WI1, pm_WI2, pm_WI3, pm_WI4, pm_WI5, pm_WV, pm_WW, pm_WX, pb_B244, pm_if, pm_QI_at, pm_QL_at, pm_QV_at, pm_QR_at, pm_QR_at0, pm_QR_at1, Nat.reduceSub, Nat.reduceAdd, List.replicate_zero, List.replicate_succ, true_and, and_true, true_or, or_true, and_self, reduceIte, Nat.reduceEqDiff, Nat.reduceLT, Nat.reduceLeDiff, Nat.reduceMul, false_and, and_false, reduceCtorEq, false_or, or_false, not_true_eq_false, not_false_eq_true, true_implies, false_implies, implies_true, lf_10, eq_self, Int32.reduceLT, Int32.reduceLE, Int32.reduceAdd, Int32.reduceSub, pm_same, pm_i_wI, pm_l_wL, pm_l_wM, pm_oR_rf, pm_oQ_rf, nI_1, sw_e, LQ1, LQ2, lc_eq, n0, er]
        first | exact pv_W hk (by simp [pv_le, pm_unk]) | exact ⟨n0, pv_W hk (by simp [pv_le, pm_unk])⟩ | skip
  have hk := key f x y hx hy h
  refine pm_goL 244 1 pb_c244 (by decide) (Nat.le_of_ble_eq_true rfl) rfl ?_
  try simp only [show pm_mL 244 = 10 from rfl, pm_WI0, pm_WI1, pm_WI2, pm_WI3, pm_WI4, pm_WI5, pm_WV, pm_WW, pm_WX, pb_B244, pm_if, pm_QI_at, pm_QL_at, pm_QV_at, pm_QR_at, pm_QR_at0, pm_QR_at1, Nat.reduceSub, Nat.reduceAdd, List.replicate_zero, List.replicate_succ, true_and, and_true, true_or, or_true, and_self, reduceIte, Nat.reduceEqDiff, Nat.reduceLT, Nat.reduceLeDiff, Nat.reduceMul, false_and, and_false, reduceCtorEq, false_or, or_false, not_true_eq_false, not_false_eq_true, true_implies, false_implies, implies_true, lf_10, eq_self, Int32.reduceLT, Int32.reduceLE, Int32.reduceAdd, Int32.reduceSub, pm_same, pm_i_wI, pm_l_wL, pm_l_wM, pm_oR_rf, pm_oQ_rf, nI_1, sw_e, LQ1, LQ2]
  exact pv_W hk (by simp [pv_le, pm_unk])
theorem hb_abs {x : Int64} (h1 : -160000 ≤ x.toInt) (h2 : x.toInt ≤ 160000) : (if 0 < x then x else -x) = nL x.toInt.natAbs ∧ (¬ x < 0 → x = nL x.toInt.natAbs) ∧ (x < 0 → -x = nL x.toInt.natAbs) := by
  have en : (-x).toInt = -x.toInt := by
    rw [Int64.toInt_neg, Int.bmod_eq_of_le (by omega) (by omega)]
  have e0 : (0 : Int64).toInt = 0 := rfl
  refine ⟨?_, fun h => ?_, fun h => ?_⟩
  · by_cases h : 0 < x
    · rw [if_pos h]
      rw [Int64.lt_iff_toInt_lt, e0] at h
      exact nL_of (by omega) (by omega)
    · rw [if_neg h]
      rw [Int64.lt_iff_toInt_lt, e0] at h
      exact nL_of (by omega) (by rw [en]; omega)
  · rw [Int64.lt_iff_toInt_lt, e0] at h
    exact nL_of (by omega) (by omega)
  · rw [Int64.lt_iff_toInt_lt, e0] at h
    exact nL_of (by omega) (by rw [en]; omega)
def hb_n (S : pm_S) (h : Nat) : Nat := pv_cnt (hb_y S h) (iv_c S 18)
def hb_R (S : pm_S) (h : Nat) (part : Int32) (g : Nat) : Int64 := if hb_n S h = 0 then -9223372036854775808 else if part = 0 then hb_A S h (iv_c S 18) / nL g else nL (60 * hb_n S h) / nL g
/-- the greatest common divisor -/
theorem hb_g {A : iv_A} {S : pm_S} {h : Nat} (hI : Inv A S) (hh : h < 6) : (-160000 ≤ (hb_A S h (iv_c S 18)).toInt ∧ (hb_A S h (iv_c S 18)).toInt ≤ 160000) ∧ hb_n S h ≤ 40 ∧ ∃ g, (¬ hb_n S h = 0 → eu 24 (hb_A S h (iv_c S 18)).toInt.natAbs (60 * hb_n S h) = some g) ∧ 0 < g ∧ g ≤ 160000 := by
  have n40 := (MI.c18 hI.mi).1
  obtain ⟨l1, l2⟩ := hb_A_le hI hh (iv_c S 18) (Nat.le_refl _)
  have hc : hb_n S h ≤ iv_c S 18 := pv_cnt_le _ _
  refine ⟨⟨by omega, by omega⟩, by omega, ?_⟩
  by_cases h0 : hb_n S h = 0
  · exact ⟨1, fun z => absurd h0 z, by omega, by omega⟩
  · obtain ⟨g, g1, g2, g3⟩ := eu_ok 12 (hb_A S h (iv_c S 18)).toInt.natAbs (60 * hb_n S h) 160000 (by omega) (by omega) (by omega) (by omega)
    exact ⟨g, fun _ => g1, g2, g3⟩
theorem cl_142 {G : pm_G} {d : Nat} {A : iv_A} {S : pm_S} {h g : Nat} {part : Int32} {q : Int64 → pm_S → Prop} (hd : 3 ≤ d) (hI : Inv A S) (hh : h < 6) (hp : part = 0 ∨ part = 1) (hA : -160000 ≤ (hb_A S h (iv_c S 18)).toInt ∧ (hb_A S h (iv_c S 18)).toInt ≤ 160000) (hn40 : hb_n S h ≤ 40) (hg : ¬ hb_n S h = 0 → eu 24 (hb_A S h (iv_c S 18)).toInt.natAbs (60 * hb_n S h) = some g) (g0 : 0 < g) (gB : g ≤ 160000) (hq : q (hb_R S h part g) S) : pm_CL G d 142 [.ref 0, .int (nI h), .int part] S q := by
  have hS := hI.sh
  have e4 := hI.e0_4
  obtain ⟨n40, hn⟩ := MI.c18 hI.mi
  rw [hn] at e4
  have tail : pm_W G d 142 (pm_QL q) 78 [.ref 0, .int (nI h), .int part, .long (hb_A S h (iv_c S 18)), .float 0, .long (60 * (nI (hb_n S h)).toInt64), .float 0, .float 0, .float 0] [] S 0 0 := by
    unfold hb_R at hq
    rw [nI64 (n := hb_n S h) (by omega), show (60 : Int64) * nL (hb_n S h) = nL (60 * hb_n S h) from nL_mul (a := 60) (by omega) (by omega) (by omega)]
    by_cases h0 : hb_n S h = 0
    · rw [if_pos h0] at hq
      have e0 : nL (60 * hb_n S h) = 0 := by rw [h0]; rfl
      refine pm_wb_ok pb_c142 1 78 0 _ _ _ _ _ ?_
      try simp only [pm_WI0, pm_WI1, pm_WI2, pm_WI3, pm_WI4, pm_WI5, pm_WV, pm_WW, pm_WX, pb_B142, pm_if, pm_QI_at, pm_QL_at, pm_QV_at, pm_QR_at, pm_QR_at0, pm_QR_at1, Nat.reduceSub, Nat.reduceAdd, List.replicate_zero, List.replicate_succ, true_and, and_true, true_or, or_true, and_self, reduceIte, Nat.reduceEqDiff, Nat.reduceLT, Nat.reduceLeDiff, Nat.reduceMul, false_and, and_false, reduceCtorEq, false_or, or_false, not_true_eq_false, not_false_eq_true, true_implies, false_implies, implies_true, lf_10, eq_self, Int32.reduceLT, Int32.reduceLE, Int32.reduceAdd, Int32.reduceSub, pm_same, pm_i_wI, pm_l_wL, pm_l_wM, pm_oR_rf, pm_oQ_rf, sh_k0 hS, sh_r0_3 hS, sh_k4 hS, sh_z4 hS, nI_1, LQ1, LQ2, lc_eq, e0]
      exact hq
    · rw [if_neg h0] at hq
      have e0 : ¬ nL (60 * hb_n S h) = 0 := fun z => by have := (nL_eq0 (by omega)).mp z; omega
      have eg := hg h0
      have ga : ¬ lg_cmp (nL g) 1 < 0 := fun z => by
        have := lc_lt.mp z
        rw [show (1 : Int64) = nL 1 from rfl] at this
        have := (nL_lt (by omega) (by omega)).mp this
        omega
      have gb : 0 ≤ lg_cmp (nL g) 1 := by lia
      have gn : ¬ nL g = 0 := fun z => by have := (nL_eq0 (by omega)).mp z; omega
      have eab := (hb_abs hA.1 hA.2).1
      refine pm_wb_ok pb_c142 2 78 0 _ _ _ _ _ ?_
      try simp only [pm_WI0, pm_WI1, pm_WI2, pm_WI3, pm_WI4, pm_WI5, pm_WV, pm_WW, pm_WX, pb_B142, pm_if, pm_QI_at, pm_QL_at, pm_QV_at, pm_QR_at, pm_QR_at0, pm_QR_at1, Nat.reduceSub, Nat.reduceAdd, List.replicate_zero, List.replicate_succ, true_and, and_true, true_or, or_true, and_self, reduceIte, Nat.reduceEqDiff, Nat.reduceLT, Nat.reduceLeDiff, Nat.reduceMul, false_and, and_false, reduceCtorEq, false_or, or_false, not_true_eq_false, not_false_eq_true, true_implies, false_implies, implies_true, lf_10, eq_self, Int32.reduceLT, Int32.reduceLE, Int32.reduceAdd, Int32.reduceSub, pm_same, pm_i_wI, pm_l_wL, pm_l_wM, pm_oR_rf, pm_oQ_rf, sh_k0 hS, sh_r0_3 hS, sh_k4 hS, sh_z4 hS, nI_1, LQ1, LQ2, lc_eq, e0, eab]
      refine ⟨by omega, by omega, lf_143 (f := 24) (by omega) (by omega) (by omega) eg ?_⟩
      try simp only [pm_WV, pm_WW, true_and, and_true, true_or, or_true, and_self, reduceIte, Nat.reduceEqDiff, Nat.reduceLT, Nat.reduceLeDiff, Nat.reduceMul, false_and, and_false, reduceCtorEq, false_or, or_false, not_true_eq_false, not_false_eq_true, true_implies, false_implies, implies_true, lf_10, eq_self, Int32.reduceLT, Int32.reduceLE, Int32.reduceAdd, Int32.reduceSub, pm_same, pm_i_wI, pm_l_wL, pm_l_wM, pm_oR_rf, pm_oQ_rf, nI_1, sw_e, LQ1, LQ2, pm_WI0, pm_WI1, pm_WI2, pm_WI3, pm_WI4, pm_WI5, pm_WV, pm_WW, pm_WX, pb_B142, pm_if, pm_QI_at, pm_QL_at, pm_QV_at, pm_QR_at, pm_QR_at0, pm_QR_at1, Nat.reduceSub, Nat.reduceAdd, List.replicate_zero, List.replicate_succ, true_and, and_true, true_or, or_true, and_self, reduceIte, Nat.reduceEqDiff, Nat.reduceLT, Nat.reduceLeDiff, Nat.reduceMul, false_and, and_false, reduceCtorEq, false_or, or_false, not_true_eq_false, not_false_eq_true, true_implies, false_implies, implies_true, lf_10, eq_self, Int32.reduceLT, Int32.reduceLE, Int32.reduceAdd, Int32.reduceSub, pm_same, pm_i_wI, pm_l_wL, pm_l_wM, pm_oR_rf, pm_oQ_rf, sh_k0 hS, sh_r0_3 hS, sh_k4 hS, sh_z4 hS, nI_1, LQ1, LQ2, ga, gb]
      try refine pm_wb_ok pb_c142 1 89 0 _ _ _ _ _ ?_
      try simp only [pm_WI0, pm_WI1, pm_WI2, pm_WI3, pm_WI4, pm_WI5, pm_WV, pm_WW, pm_WX, pb_B142, pm_if, pm_QI_at, pm_QL_at, pm_QV_at, pm_QR_at, pm_QR_at0, pm_QR_at1, Nat.reduceSub, Nat.reduceAdd, List.replicate_zero, List.replicate_succ, true_and, and_true, true_or, or_true, and_self, reduceIte, Nat.reduceEqDiff, Nat.reduceLT, Nat.reduceLeDiff, Nat.reduceMul, false_and, and_false, reduceCtorEq, false_or, or_false, not_true_eq_false, not_false_eq_true, true_implies, false_implies, implies_true, lf_10, eq_self, Int32.reduceLT, Int32.reduceLE, Int32.reduceAdd, Int32.reduceSub, pm_same, pm_i_wI, pm_l_wL, pm_l_wM, pm_oR_rf, pm_oQ_rf, sh_k0 hS, sh_r0_3 hS, sh_k4 hS, sh_z4 hS, nI_1, LQ1, LQ2, ga]
      rcases hp with rfl | rfl
      · try simp only [pm_WV, pm_WW, true_and, and_true, true_or, or_true, and_self, reduceIte, Nat.reduceEqDiff, Nat.reduceLT, Nat.reduceLeDiff, Nat.reduceMul, false_and, and_false, reduceCtorEq, false_or, or_false, not_true_eq_false, not_false_eq_true, true_implies, false_implies, implies_true, lf_10, eq_self, Int32.reduceLT, Int32.reduceLE, Int32.reduceAdd, Int32.reduceSub, pm_same, pm_i_wI, pm_l_wL, pm_l_wM, pm_oR_rf, pm_oQ_rf, nI_1, sw_e, LQ1, LQ2, pm_WI0, pm_WI1, pm_WI2, pm_WI3, pm_WI4, pm_WI5, pm_WV, pm_WW, pm_WX, pb_B142, pm_if, pm_QI_at, pm_QL_at, pm_QV_at, pm_QR_at, pm_QR_at0, pm_QR_at1, Nat.reduceSub, Nat.reduceAdd, List.replicate_zero, List.replicate_succ, true_and, and_true, true_or, or_true, and_self, reduceIte, Nat.reduceEqDiff, Nat.reduceLT, Nat.reduceLeDiff, Nat.reduceMul, false_and, and_false, reduceCtorEq, false_or, or_false, not_true_eq_false, not_false_eq_true, true_implies, false_implies, implies_true, lf_10, eq_self, Int32.reduceLT, Int32.reduceLE, Int32.reduceAdd, Int32.reduceSub, pm_same, pm_i_wI, pm_l_wL, pm_l_wM, pm_oR_rf, pm_oQ_rf, sh_k0 hS, sh_r0_3 hS, sh_k4 hS, sh_z4 hS, nI_1, LQ1, LQ2, gn]
        try refine pm_wb_ok pb_c142 3 111 0 _ _ _ _ _ ?_
        try simp only [pm_WI0, pm_WI1, pm_WI2, pm_WI3, pm_WI4, pm_WI5, pm_WV, pm_WW, pm_WX, pb_B142, pm_if, pm_QI_at, pm_QL_at, pm_QV_at, pm_QR_at, pm_QR_at0, pm_QR_at1, Nat.reduceSub, Nat.reduceAdd, List.replicate_zero, List.replicate_succ, true_and, and_true, true_or, or_true, and_self, reduceIte, Nat.reduceEqDiff, Nat.reduceLT, Nat.reduceLeDiff, Nat.reduceMul, false_and, and_false, reduceCtorEq, false_or, or_false, not_true_eq_false, not_false_eq_true, true_implies, false_implies, implies_true, lf_10, eq_self, Int32.reduceLT, Int32.reduceLE, Int32.reduceAdd, Int32.reduceSub, pm_same, pm_i_wI, pm_l_wL, pm_l_wM, pm_oR_rf, pm_oQ_rf, sh_k0 hS, sh_r0_3 hS, sh_k4 hS, sh_z4 hS, nI_1, LQ1, LQ2, gn]
        first | exact ⟨gn, hq⟩ | exact hq | skip
      · try simp only [pm_WV, pm_WW, true_and, and_true, true_or, or_true, and_self, reduceIte, Nat.reduceEqDiff, Nat.reduceLT, Nat.reduceLeDiff, Nat.reduceMul, false_and, and_false, reduceCtorEq, false_or, or_false, not_true_eq_false, not_false_eq_true, true_implies, false_implies, implies_true, lf_10, eq_self, Int32.reduceLT, Int32.reduceLE, Int32.reduceAdd, Int32.reduceSub, pm_same, pm_i_wI, pm_l_wL, pm_l_wM, pm_oR_rf, pm_oQ_rf, nI_1, sw_e, LQ1, LQ2, pm_WI0, pm_WI1, pm_WI2, pm_WI3, pm_WI4, pm_WI5, pm_WV, pm_WW, pm_WX, pb_B142, pm_if, pm_QI_at, pm_QL_at, pm_QV_at, pm_QR_at, pm_QR_at0, pm_QR_at1, Nat.reduceSub, Nat.reduceAdd, List.replicate_zero, List.replicate_succ, true_and, and_true, true_or, or_true, and_self, reduceIte, Nat.reduceEqDiff, Nat.reduceLT, Nat.reduceLeDiff, Nat.reduceMul, false_and, and_false, reduceCtorEq, false_or, or_false, not_true_eq_false, not_false_eq_true, true_implies, false_implies, implies_true, lf_10, eq_self, Int32.reduceLT, Int32.reduceLE, Int32.reduceAdd, Int32.reduceSub, pm_same, pm_i_wI, pm_l_wL, pm_l_wM, pm_oR_rf, pm_oQ_rf, sh_k0 hS, sh_r0_3 hS, sh_k4 hS, sh_z4 hS, nI_1, LQ1, LQ2, gn]
        try refine pm_wb_ok pb_c142 3 111 0 _ _ _ _ _ ?_
        try simp only [pm_WI0, pm_WI1, pm_WI2, pm_WI3, pm_WI4, pm_WI5, pm_WV, pm_WW, pm_WX, pb_B142, pm_if, pm_QI_at, pm_QL_at, pm_QV_at, pm_QR_at, pm_QR_at0, pm_QR_at1, Nat.reduceSub, Nat.reduceAdd, List.replicate_zero, List.replicate_succ, true_and, and_true, true_or, or_true, and_self, reduceIte, Nat.reduceEqDiff, Nat.reduceLT, Nat.reduceLeDiff, Nat.reduceMul, false_and, and_false, reduceCtorEq, false_or, or_false, not_true_eq_false, not_false_eq_true, true_implies, false_implies, implies_true, lf_10, eq_self, Int32.reduceLT, Int32.reduceLE, Int32.reduceAdd, Int32.reduceSub, pm_same, pm_i_wI, pm_l_wL, pm_l_wM, pm_oR_rf, pm_oQ_rf, sh_k0 hS, sh_r0_3 hS, sh_k4 hS, sh_z4 hS, nI_1, LQ1, LQ2, gn]
        have hq2 : q (nL (60 * hb_n S h) / nL g) S := hq
        first | exact ⟨gn, hq2⟩ | exact hq2 | skip
  have key : pm_W G d 142 (pm_QL q) 26 [.ref 0, .int (nI h), .int part, .long (hb_A S h 0), .float 0, .long (60 * (nI (pv_cnt (hb_y S h) 0)).toInt64), .float 0, .int (nI 0), .float 0] [] S 0 0 := by
    refine pv_loopR (fun i => [.ref 0, .int (nI h), .int part, .long (hb_A S h i), .float 0, .long (60 * (nI (pv_cnt (hb_y S h) i)).toInt64), .float 0, .int (nI i), .float 0]) (iv_c S 18) (fun i hi hk => ?_) ?_
    · have hc := nI_clamp (n := i) (by omega)
      have hle : ¬ nI (iv_c S 18) ≤ nI i := nI_ge hi (by omega)
      have hvi := vp_in_nI (n := i) (N := 40) (by omega) (by decide)
      have hw := hI.row hi
      have ecA : hb_A S h (i + 1) = if hb_y S h i then hb_A S h i + (hb_l S h i).toInt64 else hb_A S h i := rfl
      have ecs : pv_cnt (hb_y S h) (i + 1) = pv_cnt (hb_y S h) i + (if hb_y S h i then 1 else 0) := rfl
      have el := hb_lit (pv_cnt (hb_y S h) i) (by have := pv_cnt_le (hb_y S h) i; omega)
      refine pm_wb_ok pb_c142 2 26 0 _ _ _ _ _ ?_
      try simp only [pm_WI0, pm_WI1, pm_WI2, pm_WI3, pm_WI4, pm_WI5, pm_WV, pm_WW, pm_WX, pb_B142, pm_if, pm_QI_at, pm_QL_at, pm_QV_at, pm_QR_at, pm_QR_at0, pm_QR_at1, Nat.reduceSub, Nat.reduceAdd, List.replicate_zero, List.replicate_succ, true_and, and_true, true_or, or_true, and_self, reduceIte, Nat.reduceEqDiff, Nat.reduceLT, Nat.reduceLeDiff, Nat.reduceMul, false_and, and_false, reduceCtorEq, false_or, or_false, not_true_eq_false, not_false_eq_true, true_implies, false_implies, implies_true, lf_10, eq_self, Int32.reduceLT, Int32.reduceLE, Int32.reduceAdd, Int32.reduceSub, pm_same, pm_i_wI, pm_l_wL, pm_l_wM, pm_oR_rf, pm_oQ_rf, sh_k0 hS, sh_r0_3 hS, sh_k4 hS, sh_z4 hS, nI_1, LQ1, LQ2, e4, hc, hle, hw.r, hw.k]
      refine ⟨hvi, by omega, lf_69 (by omega) hI hi hh (fun hy => ?_) (fun hy => ?_)⟩
      · rw [ecA, ecs, hy] at hk
        try simp only [pm_WV, pm_WW, true_and, and_true, true_or, or_true, and_self, reduceIte, Nat.reduceEqDiff, Nat.reduceLT, Nat.reduceLeDiff, Nat.reduceMul, false_and, and_false, reduceCtorEq, false_or, or_false, not_true_eq_false, not_false_eq_true, true_implies, false_implies, implies_true, lf_10, eq_self, Int32.reduceLT, Int32.reduceLE, Int32.reduceAdd, Int32.reduceSub, pm_same, pm_i_wI, pm_l_wL, pm_l_wM, pm_oR_rf, pm_oQ_rf, nI_1, sw_e, LQ1, LQ2, pm_WI0, pm_WI1, pm_WI2, pm_WI3, pm_WI4, pm_WI5, pm_WV, pm_WW, pm_WX, pb_B142, pm_if, pm_QI_at, pm_QL_at, pm_QV_at, pm_QR_at, pm_QR_at0, pm_QR_at1, Nat.reduceSub, Nat.reduceAdd, List.replicate_zero, List.replicate_succ, true_and, and_true, true_or, or_true, and_self, reduceIte, Nat.reduceEqDiff, Nat.reduceLT, Nat.reduceLeDiff, Nat.reduceMul, false_and, and_false, reduceCtorEq, false_or, or_false, not_true_eq_false, not_false_eq_true, true_implies, false_implies, implies_true, lf_10, eq_self, Int32.reduceLT, Int32.reduceLE, Int32.reduceAdd, Int32.reduceSub, pm_same, pm_i_wI, pm_l_wL, pm_l_wM, pm_oR_rf, pm_oQ_rf, sh_k0 hS, sh_r0_3 hS, sh_k4 hS, sh_z4 hS, nI_1, LQ1, LQ2, e4, hc, hw.r, hw.k]
        refine ⟨hvi, by omega, lf_71 (by omega) hI hi hh hy ?_⟩
        try simp only [pm_WV, pm_WW, true_and, and_true, true_or, or_true, and_self, reduceIte, Nat.reduceEqDiff, Nat.reduceLT, Nat.reduceLeDiff, Nat.reduceMul, false_and, and_false, reduceCtorEq, false_or, or_false, not_true_eq_false, not_false_eq_true, true_implies, false_implies, implies_true, lf_10, eq_self, Int32.reduceLT, Int32.reduceLE, Int32.reduceAdd, Int32.reduceSub, pm_same, pm_i_wI, pm_l_wL, pm_l_wM, pm_oR_rf, pm_oQ_rf, nI_1, sw_e, LQ1, LQ2, pm_WI0, pm_WI1, pm_WI2, pm_WI3, pm_WI4, pm_WI5, pm_WV, pm_WW, pm_WX, pb_B142, pm_if, pm_QI_at, pm_QL_at, pm_QV_at, pm_QR_at, pm_QR_at0, pm_QR_at1, Nat.reduceSub, Nat.reduceAdd, List.replicate_zero, List.replicate_succ, true_and, and_true, true_or, or_true, and_self, reduceIte, Nat.reduceEqDiff, Nat.reduceLT, Nat.reduceLeDiff, Nat.reduceMul, false_and, and_false, reduceCtorEq, false_or, or_false, not_true_eq_false, not_false_eq_true, true_implies, false_implies, implies_true, lf_10, eq_self, Int32.reduceLT, Int32.reduceLE, Int32.reduceAdd, Int32.reduceSub, pm_same, pm_i_wI, pm_l_wL, pm_l_wM, pm_oR_rf, pm_oQ_rf, sh_k0 hS, sh_r0_3 hS, sh_k4 hS, sh_z4 hS, nI_1, LQ1, LQ2, el]
        first | exact pv_W hk (by simp [pv_le, pm_unk]) | skip
      · rw [ecA, ecs, hy] at hk
        try simp only [pm_WV, pm_WW, true_and, and_true, true_or, or_true, and_self, reduceIte, Nat.reduceEqDiff, Nat.reduceLT, Nat.reduceLeDiff, Nat.reduceMul, false_and, and_false, reduceCtorEq, false_or, or_false, not_true_eq_false, not_false_eq_true, true_implies, false_implies, implies_true, lf_10, eq_self, Int32.reduceLT, Int32.reduceLE, Int32.reduceAdd, Int32.reduceSub, pm_same, pm_i_wI, pm_l_wL, pm_l_wM, pm_oR_rf, pm_oQ_rf, nI_1, sw_e, LQ1, LQ2, pm_WI0, pm_WI1, pm_WI2, pm_WI3, pm_WI4, pm_WI5, pm_WV, pm_WW, pm_WX, pb_B142, pm_if, pm_QI_at, pm_QL_at, pm_QV_at, pm_QR_at, pm_QR_at0, pm_QR_at1, Nat.reduceSub, Nat.reduceAdd, List.replicate_zero, List.replicate_succ, true_and, and_true, true_or, or_true, and_self, reduceIte, Nat.reduceEqDiff, Nat.reduceLT, Nat.reduceLeDiff, Nat.reduceMul, false_and, and_false, reduceCtorEq, false_or, or_false, not_true_eq_false, not_false_eq_true, true_implies, false_implies, implies_true, lf_10, eq_self, Int32.reduceLT, Int32.reduceLE, Int32.reduceAdd, Int32.reduceSub, pm_same, pm_i_wI, pm_l_wL, pm_l_wM, pm_oR_rf, pm_oQ_rf, sh_k0 hS, sh_r0_3 hS, sh_k4 hS, sh_z4 hS, nI_1, LQ1, LQ2]
        first | exact pv_W hk (by simp [pv_le, pm_unk]) | skip
    · refine pm_wb_ok pb_c142 1 26 0 _ _ _ _ _ ?_
      try simp only [pm_WI0, pm_WI1, pm_WI2, pm_WI3, pm_WI4, pm_WI5, pm_WV, pm_WW, pm_WX, pb_B142, pm_if, pm_QI_at, pm_QL_at, pm_QV_at, pm_QR_at, pm_QR_at0, pm_QR_at1, Nat.reduceSub, Nat.reduceAdd, List.replicate_zero, List.replicate_succ, true_and, and_true, true_or, or_true, and_self, reduceIte, Nat.reduceEqDiff, Nat.reduceLT, Nat.reduceLeDiff, Nat.reduceMul, false_and, and_false, reduceCtorEq, false_or, or_false, not_true_eq_false, not_false_eq_true, true_implies, false_implies, implies_true, lf_10, eq_self, Int32.reduceLT, Int32.reduceLE, Int32.reduceAdd, Int32.reduceSub, pm_same, pm_i_wI, pm_l_wL, pm_l_wM, pm_oR_rf, pm_oQ_rf, sh_k0 hS, sh_r0_3 hS, sh_k4 hS, sh_z4 hS, nI_1, LQ1, LQ2, e4, Int32.le_refl]
      exact pv_W tail (by simp [pv_le, pm_unk, hb_n])
  refine pm_goL 142 1 pb_c142 (by decide) (Nat.le_of_ble_eq_true rfl) rfl ?_
  try simp only [show pm_mL 142 = 9 from rfl, pm_WI0, pm_WI1, pm_WI2, pm_WI3, pm_WI4, pm_WI5, pm_WV, pm_WW, pm_WX, pb_B142, pm_if, pm_QI_at, pm_QL_at, pm_QV_at, pm_QR_at, pm_QR_at0, pm_QR_at1, Nat.reduceSub, Nat.reduceAdd, List.replicate_zero, List.replicate_succ, true_and, and_true, true_or, or_true, and_self, reduceIte, Nat.reduceEqDiff, Nat.reduceLT, Nat.reduceLeDiff, Nat.reduceMul, false_and, and_false, reduceCtorEq, false_or, or_false, not_true_eq_false, not_false_eq_true, true_implies, false_implies, implies_true, lf_10, eq_self, Int32.reduceLT, Int32.reduceLE, Int32.reduceAdd, Int32.reduceSub, pm_same, pm_i_wI, pm_l_wL, pm_l_wM, pm_oR_rf, pm_oQ_rf, sh_k0 hS, sh_r0_3 hS, sh_k4 hS, sh_z4 hS, nI_1, LQ1, LQ2]
  refine ⟨by omega, lf_141 (fun _ => ?_) (fun z => absurd (hd_in hh) z)⟩
  try simp only [pm_WV, pm_WW, true_and, and_true, true_or, or_true, and_self, reduceIte, Nat.reduceEqDiff, Nat.reduceLT, Nat.reduceLeDiff, Nat.reduceMul, false_and, and_false, reduceCtorEq, false_or, or_false, not_true_eq_false, not_false_eq_true, true_implies, false_implies, implies_true, lf_10, eq_self, Int32.reduceLT, Int32.reduceLE, Int32.reduceAdd, Int32.reduceSub, pm_same, pm_i_wI, pm_l_wL, pm_l_wM, pm_oR_rf, pm_oQ_rf, nI_1, sw_e, LQ1, LQ2, pm_WI0, pm_WI1, pm_WI2, pm_WI3, pm_WI4, pm_WI5, pm_WV, pm_WW, pm_WX, pb_B142, pm_if, pm_QI_at, pm_QL_at, pm_QV_at, pm_QR_at, pm_QR_at0, pm_QR_at1, Nat.reduceSub, Nat.reduceAdd, List.replicate_zero, List.replicate_succ, true_and, and_true, true_or, or_true, and_self, reduceIte, Nat.reduceEqDiff, Nat.reduceLT, Nat.reduceLeDiff, Nat.reduceMul, false_and, and_false, reduceCtorEq, false_or, or_false, not_true_eq_false, not_false_eq_true, true_implies, false_implies, implies_true, lf_10, eq_self, Int32.reduceLT, Int32.reduceLE, Int32.reduceAdd, Int32.reduceSub, pm_same, pm_i_wI, pm_l_wL, pm_l_wM, pm_oR_rf, pm_oQ_rf, sh_k0 hS, sh_r0_3 hS, sh_k4 hS, sh_z4 hS, nI_1, LQ1, LQ2]
  refine ⟨by omega, lf_102 (fun _ => ?_) (fun z => absurd hp z)⟩
  try simp only [pm_WV, pm_WW, true_and, and_true, true_or, or_true, and_self, reduceIte, Nat.reduceEqDiff, Nat.reduceLT, Nat.reduceLeDiff, Nat.reduceMul, false_and, and_false, reduceCtorEq, false_or, or_false, not_true_eq_false, not_false_eq_true, true_implies, false_implies, implies_true, lf_10, eq_self, Int32.reduceLT, Int32.reduceLE, Int32.reduceAdd, Int32.reduceSub, pm_same, pm_i_wI, pm_l_wL, pm_l_wM, pm_oR_rf, pm_oQ_rf, nI_1, sw_e, LQ1, LQ2, pm_WI0, pm_WI1, pm_WI2, pm_WI3, pm_WI4, pm_WI5, pm_WV, pm_WW, pm_WX, pb_B142, pm_if, pm_QI_at, pm_QL_at, pm_QV_at, pm_QR_at, pm_QR_at0, pm_QR_at1, Nat.reduceSub, Nat.reduceAdd, List.replicate_zero, List.replicate_succ, true_and, and_true, true_or, or_true, and_self, reduceIte, Nat.reduceEqDiff, Nat.reduceLT, Nat.reduceLeDiff, Nat.reduceMul, false_and, and_false, reduceCtorEq, false_or, or_false, not_true_eq_false, not_false_eq_true, true_implies, false_implies, implies_true, lf_10, eq_self, Int32.reduceLT, Int32.reduceLE, Int32.reduceAdd, Int32.reduceSub, pm_same, pm_i_wI, pm_l_wL, pm_l_wM, pm_oR_rf, pm_oQ_rf, sh_k0 hS, sh_r0_3 hS, sh_k4 hS, sh_z4 hS, nI_1, LQ1, LQ2]
  try refine pm_wb_ok pb_c142 1 18 0 _ _ _ _ _ ?_
  try simp only [pm_WI0, pm_WI1, pm_WI2, pm_WI3, pm_WI4, pm_WI5, pm_WV, pm_WW, pm_WX, pb_B142, pm_if, pm_QI_at, pm_QL_at, pm_QV_at, pm_QR_at, pm_QR_at0, pm_QR_at1, Nat.reduceSub, Nat.reduceAdd, List.replicate_zero, List.replicate_succ, true_and, and_true, true_or, or_true, and_self, reduceIte, Nat.reduceEqDiff, Nat.reduceLT, Nat.reduceLeDiff, Nat.reduceMul, false_and, and_false, reduceCtorEq, false_or, or_false, not_true_eq_false, not_false_eq_true, true_implies, false_implies, implies_true, lf_10, eq_self, Int32.reduceLT, Int32.reduceLE, Int32.reduceAdd, Int32.reduceSub, pm_same, pm_i_wI, pm_l_wL, pm_l_wM, pm_oR_rf, pm_oQ_rf, sh_k0 hS, sh_r0_3 hS, sh_k4 hS, sh_z4 hS, nI_1, LQ1, LQ2]
  first | exact pv_W key (by simp [pv_le, pm_unk, hb_A, pv_cnt, show nI 0 = 0 from rfl, show 60 * (nI 0).toInt64 = 0 from by decide, show 60 * (0 : Int32).toInt64 = 0 from by decide]) | skip
theorem mo_243 {G : pm_G} {d : Nat} {A : iv_A} {S : pm_S} {h g : Nat} {part : Int32} {q : Int64 → pm_S → Prop} (hd : 3 ≤ d) (hI : Inv A S) (hh : h < 6) (hp : part = 0 ∨ part = 1) (hA : -160000 ≤ (hb_A S h (iv_c S 18)).toInt ∧ (hb_A S h (iv_c S 18)).toInt ≤ 160000) (hn40 : hb_n S h ≤ 40) (hg : ¬ hb_n S h = 0 → eu 24 (hb_A S h (iv_c S 18)).toInt.natAbs (60 * hb_n S h) = some g) (g0 : 0 < g) (gB : g ≤ 160000) (hq : q (hb_R S h part g) S) : pm_CL G d 243 [.ref 59, .int (nI h), .int part] S q := by
  have hS := hI.sh
  obtain ⟨n40, hn⟩ := MI.c18 hI.mi
  have m40 : (40 : Int32) * nI h = nI (40 * h) := pk_mul 40 h
  have tail : pm_W G d 243 (pm_QL q) 163 [.ref 59, .int (nI h), .int part, .long (hb_A S h (iv_c S 18)), .float 0, .int (nI (hb_n S h)), .float 0, .float 0, .float 0, .float 0] [] S 0 0 := by
    unfold hb_R at hq
    have e60 : (60 : Int64) * (nI (hb_n S h)).toInt64 = nL (60 * hb_n S h) := by
      rw [nI64 (n := hb_n S h) (by omega), show (60 : Int64) * nL (hb_n S h) = nL (60 * hb_n S h) from nL_mul (a := 60) (by omega) (by omega) (by omega)]
    by_cases h0 : hb_n S h = 0
    · rw [if_pos h0] at hq
      have e0 : nI (hb_n S h) = 0 := by rw [h0]; rfl
      refine pm_wb_ok pb_c243 1 163 0 _ _ _ _ _ ?_
      try simp only [pm_WI0, pm_WI1, pm_WI2, pm_WI3, pm_WI4, pm_WI5, pm_WV, pm_WW, pm_WX, pb_B243, pm_if, pm_QI_at, pm_QL_at, pm_QV_at, pm_QR_at, pm_QR_at0, pm_QR_at1, Nat.reduceSub, Nat.reduceAdd, List.replicate_zero, List.replicate_succ, true_and, and_true, true_or, or_true, and_self, reduceIte, Nat.reduceEqDiff, Nat.reduceLT, Nat.reduceLeDiff, Nat.reduceMul, false_and, and_false, reduceCtorEq, false_or, or_false, not_true_eq_false, not_false_eq_true, true_implies, false_implies, implies_true, lf_10, eq_self, Int32.reduceLT, Int32.reduceLE, Int32.reduceAdd, Int32.reduceSub, pm_same, pm_i_wI, pm_l_wL, pm_l_wM, pm_oR_rf, pm_oQ_rf, sh_k59 hS, sh_r59_36 hS, sh_k88 hS, sh_z88 hS, nI_1, LQ1, LQ2, e0]
      exact hq
    · rw [if_neg h0] at hq
      have e0 : ¬ nI (hb_n S h) = 0 := nI_ne0 (by omega) (by omega)
      have eg := hg h0
      have gn : ¬ nL g = 0 := fun z => by have := (nL_eq0 (by omega)).mp z; omega
      obtain ⟨_, ea, eb⟩ := hb_abs hA.1 hA.2
      have t2 : ∀ X : Value, pm_W G d 243 (pm_QL q) 193 [.ref 59, .int (nI h), .int part, .long (hb_A S h (iv_c S 18)), .float 0, .int (nI (hb_n S h)), .long (nL (60 * hb_n S h)), .float 0, .float 0, .float 0] [.long (nL (hb_A S h (iv_c S 18)).toInt.natAbs)] S 0 0 := by
        intro X
        refine pm_wb_ok pb_c243 1 193 0 _ _ _ _ _ ?_
        try simp only [pm_WI0, pm_WI1, pm_WI2, pm_WI3, pm_WI4, pm_WI5, pm_WV, pm_WW, pm_WX, pb_B243, pm_if, pm_QI_at, pm_QL_at, pm_QV_at, pm_QR_at, pm_QR_at0, pm_QR_at1, Nat.reduceSub, Nat.reduceAdd, List.replicate_zero, List.replicate_succ, true_and, and_true, true_or, or_true, and_self, reduceIte, Nat.reduceEqDiff, Nat.reduceLT, Nat.reduceLeDiff, Nat.reduceMul, false_and, and_false, reduceCtorEq, false_or, or_false, not_true_eq_false, not_false_eq_true, true_implies, false_implies, implies_true, lf_10, eq_self, Int32.reduceLT, Int32.reduceLE, Int32.reduceAdd, Int32.reduceSub, pm_same, pm_i_wI, pm_l_wL, pm_l_wM, pm_oR_rf, pm_oQ_rf, sh_k59 hS, sh_r59_36 hS, sh_k88 hS, sh_z88 hS, nI_1, LQ1, LQ2]
        refine ⟨by omega, lf_244 (f := 24) (by omega) (by omega) eg ?_⟩
        rcases hp with rfl | rfl
        · try simp only [pm_WV, pm_WW, true_and, and_true, true_or, or_true, and_self, reduceIte, Nat.reduceEqDiff, Nat.reduceLT, Nat.reduceLeDiff, Nat.reduceMul, false_and, and_false, reduceCtorEq, false_or, or_false, not_true_eq_false, not_false_eq_true, true_implies, false_implies, implies_true, lf_10, eq_self, Int32.reduceLT, Int32.reduceLE, Int32.reduceAdd, Int32.reduceSub, pm_same, pm_i_wI, pm_l_wL, pm_l_wM, pm_oR_rf, pm_oQ_rf, nI_1, sw_e, LQ1, LQ2, pm_WI0, pm_WI1, pm_WI2, pm_WI3, pm_WI4, pm_WI5, pm_WV, pm_WW, pm_WX, pb_B243, pm_if, pm_QI_at, pm_QL_at, pm_QV_at, pm_QR_at, pm_QR_at0, pm_QR_at1, Nat.reduceSub, Nat.reduceAdd, List.replicate_zero, List.replicate_succ, true_and, and_true, true_or, or_true, and_self, reduceIte, Nat.reduceEqDiff, Nat.reduceLT, Nat.reduceLeDiff, Nat.reduceMul, false_and, and_false, reduceCtorEq, false_or, or_false, not_true_eq_false, not_false_eq_true, true_implies, false_implies, implies_true, lf_10, eq_self, Int32.reduceLT, Int32.reduceLE, Int32.reduceAdd, Int32.reduceSub, pm_same, pm_i_wI, pm_l_wL, pm_l_wM, pm_oR_rf, pm_oQ_rf, sh_k59 hS, sh_r59_36 hS, sh_k88 hS, sh_z88 hS, nI_1, LQ1, LQ2, gn]
          try refine pm_wb_ok pb_c243 3 211 0 _ _ _ _ _ ?_
          try simp only [pm_WI0, pm_WI1, pm_WI2, pm_WI3, pm_WI4, pm_WI5, pm_WV, pm_WW, pm_WX, pb_B243, pm_if, pm_QI_at, pm_QL_at, pm_QV_at, pm_QR_at, pm_QR_at0, pm_QR_at1, Nat.reduceSub, Nat.reduceAdd, List.replicate_zero, List.replicate_succ, true_and, and_true, true_or, or_true, and_self, reduceIte, Nat.reduceEqDiff, Nat.reduceLT, Nat.reduceLeDiff, Nat.reduceMul, false_and, and_false, reduceCtorEq, false_or, or_false, not_true_eq_false, not_false_eq_true, true_implies, false_implies, implies_true, lf_10, eq_self, Int32.reduceLT, Int32.reduceLE, Int32.reduceAdd, Int32.reduceSub, pm_same, pm_i_wI, pm_l_wL, pm_l_wM, pm_oR_rf, pm_oQ_rf, sh_k59 hS, sh_r59_36 hS, sh_k88 hS, sh_z88 hS, nI_1, LQ1, LQ2, gn]
          first | exact ⟨gn, hq⟩ | exact hq | (refine pm_wb_ok pb_c243 1 216 0 _ _ _ _ _ ?_; simp only [pm_WI0, pm_WI1, pm_WI2, pm_WI3, pm_WI4, pm_WI5, pm_WV, pm_WW, pm_WX, pb_B243, pm_if, pm_QI_at, pm_QL_at, pm_QV_at, pm_QR_at, pm_QR_at0, pm_QR_at1, Nat.reduceSub, Nat.reduceAdd, List.replicate_zero, List.replicate_succ, true_and, and_true, true_or, or_true, and_self, reduceIte, Nat.reduceEqDiff, Nat.reduceLT, Nat.reduceLeDiff, Nat.reduceMul, false_and, and_false, reduceCtorEq, false_or, or_false, not_true_eq_false, not_false_eq_true, true_implies, false_implies, implies_true, lf_10, eq_self, Int32.reduceLT, Int32.reduceLE, Int32.reduceAdd, Int32.reduceSub, pm_same, pm_i_wI, pm_l_wL, pm_l_wM, pm_oR_rf, pm_oQ_rf, sh_k59 hS, sh_r59_36 hS, sh_k88 hS, sh_z88 hS, nI_1, LQ1, LQ2]; exact hq) | skip
        · try simp only [pm_WV, pm_WW, true_and, and_true, true_or, or_true, and_self, reduceIte, Nat.reduceEqDiff, Nat.reduceLT, Nat.reduceLeDiff, Nat.reduceMul, false_and, and_false, reduceCtorEq, false_or, or_false, not_true_eq_false, not_false_eq_true, true_implies, false_implies, implies_true, lf_10, eq_self, Int32.reduceLT, Int32.reduceLE, Int32.reduceAdd, Int32.reduceSub, pm_same, pm_i_wI, pm_l_wL, pm_l_wM, pm_oR_rf, pm_oQ_rf, nI_1, sw_e, LQ1, LQ2, pm_WI0, pm_WI1, pm_WI2, pm_WI3, pm_WI4, pm_WI5, pm_WV, pm_WW, pm_WX, pb_B243, pm_if, pm_QI_at, pm_QL_at, pm_QV_at, pm_QR_at, pm_QR_at0, pm_QR_at1, Nat.reduceSub, Nat.reduceAdd, List.replicate_zero, List.replicate_succ, true_and, and_true, true_or, or_true, and_self, reduceIte, Nat.reduceEqDiff, Nat.reduceLT, Nat.reduceLeDiff, Nat.reduceMul, false_and, and_false, reduceCtorEq, false_or, or_false, not_true_eq_false, not_false_eq_true, true_implies, false_implies, implies_true, lf_10, eq_self, Int32.reduceLT, Int32.reduceLE, Int32.reduceAdd, Int32.reduceSub, pm_same, pm_i_wI, pm_l_wL, pm_l_wM, pm_oR_rf, pm_oQ_rf, sh_k59 hS, sh_r59_36 hS, sh_k88 hS, sh_z88 hS, nI_1, LQ1, LQ2, gn]
          try refine pm_wb_ok pb_c243 3 211 0 _ _ _ _ _ ?_
          try simp only [pm_WI0, pm_WI1, pm_WI2, pm_WI3, pm_WI4, pm_WI5, pm_WV, pm_WW, pm_WX, pb_B243, pm_if, pm_QI_at, pm_QL_at, pm_QV_at, pm_QR_at, pm_QR_at0, pm_QR_at1, Nat.reduceSub, Nat.reduceAdd, List.replicate_zero, List.replicate_succ, true_and, and_true, true_or, or_true, and_self, reduceIte, Nat.reduceEqDiff, Nat.reduceLT, Nat.reduceLeDiff, Nat.reduceMul, false_and, and_false, reduceCtorEq, false_or, or_false, not_true_eq_false, not_false_eq_true, true_implies, false_implies, implies_true, lf_10, eq_self, Int32.reduceLT, Int32.reduceLE, Int32.reduceAdd, Int32.reduceSub, pm_same, pm_i_wI, pm_l_wL, pm_l_wM, pm_oR_rf, pm_oQ_rf, sh_k59 hS, sh_r59_36 hS, sh_k88 hS, sh_z88 hS, nI_1, LQ1, LQ2, gn]
          have hq2 : q (nL (60 * hb_n S h) / nL g) S := hq
          first | exact ⟨gn, hq2⟩ | exact hq2 | (refine pm_wb_ok pb_c243 1 216 0 _ _ _ _ _ ?_; simp only [pm_WI0, pm_WI1, pm_WI2, pm_WI3, pm_WI4, pm_WI5, pm_WV, pm_WW, pm_WX, pb_B243, pm_if, pm_QI_at, pm_QL_at, pm_QV_at, pm_QR_at, pm_QR_at0, pm_QR_at1, Nat.reduceSub, Nat.reduceAdd, List.replicate_zero, List.replicate_succ, true_and, and_true, true_or, or_true, and_self, reduceIte, Nat.reduceEqDiff, Nat.reduceLT, Nat.reduceLeDiff, Nat.reduceMul, false_and, and_false, reduceCtorEq, false_or, or_false, not_true_eq_false, not_false_eq_true, true_implies, false_implies, implies_true, lf_10, eq_self, Int32.reduceLT, Int32.reduceLE, Int32.reduceAdd, Int32.reduceSub, pm_same, pm_i_wI, pm_l_wL, pm_l_wM, pm_oR_rf, pm_oQ_rf, sh_k59 hS, sh_r59_36 hS, sh_k88 hS, sh_z88 hS, nI_1, LQ1, LQ2]; exact hq2) | skip
      refine pm_wb_ok pb_c243 2 163 0 _ _ _ _ _ ?_
      try simp only [pm_WI0, pm_WI1, pm_WI2, pm_WI3, pm_WI4, pm_WI5, pm_WV, pm_WW, pm_WX, pb_B243, pm_if, pm_QI_at, pm_QL_at, pm_QV_at, pm_QR_at, pm_QR_at0, pm_QR_at1, Nat.reduceSub, Nat.reduceAdd, List.replicate_zero, List.replicate_succ, true_and, and_true, true_or, or_true, and_self, reduceIte, Nat.reduceEqDiff, Nat.reduceLT, Nat.reduceLeDiff, Nat.reduceMul, false_and, and_false, reduceCtorEq, false_or, or_false, not_true_eq_false, not_false_eq_true, true_implies, false_implies, implies_true, lf_10, eq_self, Int32.reduceLT, Int32.reduceLE, Int32.reduceAdd, Int32.reduceSub, pm_same, pm_i_wI, pm_l_wL, pm_l_wM, pm_oR_rf, pm_oQ_rf, sh_k59 hS, sh_r59_36 hS, sh_k88 hS, sh_z88 hS, nI_1, LQ1, LQ2, e0, e60, lc_lt]
      refine ⟨fun z => ?_, fun z => ?_⟩
      all_goals first
        | (have z' : ¬ hb_A S h (iv_c S 18) < 0 := by first | exact z | (intro y; have := lc_lt.mpr y; lia)
           have t3 := t2 (.float 0)
           rw [← ea z'] at t3
           refine pm_wb_ok pb_c243 1 192 0 _ _ _ _ _ ?_
           try simp only [pm_WI0, pm_WI1, pm_WI2, pm_WI3, pm_WI4, pm_WI5, pm_WV, pm_WW, pm_WX, pb_B243, pm_if, pm_QI_at, pm_QL_at, pm_QV_at, pm_QR_at, pm_QR_at0, pm_QR_at1, Nat.reduceSub, Nat.reduceAdd, List.replicate_zero, List.replicate_succ, true_and, and_true, true_or, or_true, and_self, reduceIte, Nat.reduceEqDiff, Nat.reduceLT, Nat.reduceLeDiff, Nat.reduceMul, false_and, and_false, reduceCtorEq, false_or, or_false, not_true_eq_false, not_false_eq_true, true_implies, false_implies, implies_true, lf_10, eq_self, Int32.reduceLT, Int32.reduceLE, Int32.reduceAdd, Int32.reduceSub, pm_same, pm_i_wI, pm_l_wL, pm_l_wM, pm_oR_rf, pm_oQ_rf, sh_k59 hS, sh_r59_36 hS, sh_k88 hS, sh_z88 hS, nI_1, LQ1, LQ2]
           exact pv_W t3 (by simp [pv_le, pm_unk]))
        | (have z' : ¬ hb_A S h (iv_c S 18) < 0 := by first | exact z | (intro y; have := lc_lt.mpr y; lia)
           have t3 := t2 (.float 0)
           rw [← ea z'] at t3
           exact pv_W t3 (by simp [pv_le, pm_unk]))
        | (have z' : hb_A S h (iv_c S 18) < 0 := by first | exact z | exact lc_lt.mp (by lia)
           have t3 := t2 (.float 0)
           rw [← eb z'] at t3
           exact pv_W t3 (by simp [pv_le, pm_unk]))
        | skip
  have key : pm_W G d 243 (pm_QL q) 28 [.ref 59, .int (nI h), .int part, .long (hb_A S h 0), .float 0, .int (nI (pv_cnt (hb_y S h) 0)), .int (nI 0), .float 0, .float 0, .float 0] [] S 0 0 := by
    refine pv_loopR (fun i => [.ref 59, .int (nI h), .int part, .long (hb_A S h i), .float 0, .int (nI (pv_cnt (hb_y S h) i)), .int (nI i), .float 0, .float 0, .float 0]) (iv_c S 18) (fun i hi hk => ?_) ?_
    · have hle : ¬ nI (iv_c S 18) ≤ nI i := nI_ge hi (by omega)
      have hok := (hI.ok hi).2.2.2.2.2
      have ecA : hb_A S h (i + 1) = if hb_y S h i then hb_A S h i + (hb_l S h i).toInt64 else hb_A S h i := rfl
      have ecs : pv_cnt (hb_y S h) (i + 1) = pv_cnt (hb_y S h) i + (if hb_y S h i then 1 else 0) := rfl
      have o5 := hb_o_le (S := S) (i := i) hh
      have ch := nI_clamp (n := 40 * h + i) (by omega)
      have vh := vp_in_nI (n := 40 * h + i) (N := 240) (by omega) (by decide)
      have back : pm_W G d 243 (pm_QL q) 102 [.ref 59, .int (nI h), .int part, .long (hb_A S h i), .float 0, .int (nI (pv_cnt (hb_y S h) i)), .int (nI i), .int (nI (hb_o S h i)), .int (nI (hb_s S h i 6)), .float 0] [] S 0 0 := by
        by_cases o0 : hb_o S h i = 0
        · have hy : hb_y S h i = false := decide_eq_false (fun z => by have := z.2; omega)
          have ol : nI (hb_o S h i) ≤ 0 := by rw [o0]; decide
          rw [ecA, ecs, hy] at hk
          refine pm_wb_ok pb_c243 2 102 0 _ _ _ _ _ ?_
          try simp only [pm_WI0, pm_WI1, pm_WI2, pm_WI3, pm_WI4, pm_WI5, pm_WV, pm_WW, pm_WX, pb_B243, pm_if, pm_QI_at, pm_QL_at, pm_QV_at, pm_QR_at, pm_QR_at0, pm_QR_at1, Nat.reduceSub, Nat.reduceAdd, List.replicate_zero, List.replicate_succ, true_and, and_true, true_or, or_true, and_self, reduceIte, Nat.reduceEqDiff, Nat.reduceLT, Nat.reduceLeDiff, Nat.reduceMul, false_and, and_false, reduceCtorEq, false_or, or_false, not_true_eq_false, not_false_eq_true, true_implies, false_implies, implies_true, lf_10, eq_self, Int32.reduceLT, Int32.reduceLE, Int32.reduceAdd, Int32.reduceSub, pm_same, pm_i_wI, pm_l_wL, pm_l_wM, pm_oR_rf, pm_oQ_rf, sh_k59 hS, sh_r59_36 hS, sh_k88 hS, sh_z88 hS, nI_1, LQ1, LQ2, ol]
          first | exact pv_W hk (by simp [pv_le, pm_unk]) | skip
        · have ol : ¬ nI (hb_o S h i) ≤ 0 := nI_ge (a := 0) (by omega) (by omega)
          have on : ¬ (nI (hb_o S h i)).toInt64 = 0 := fun z => by
            rw [nI64 (by omega)] at z
            have := (nL_eq0 (by omega)).mp z; omega
          by_cases g0 : pm_i S 88 (40 * h + i) < 0
          · have hy : hb_y S h i = false := decide_eq_false (fun z => by have := z.1; lia)
            rw [ecA, ecs, hy] at hk
            refine pm_wb_ok pb_c243 2 102 0 _ _ _ _ _ ?_
            try simp only [pm_WI0, pm_WI1, pm_WI2, pm_WI3, pm_WI4, pm_WI5, pm_WV, pm_WW, pm_WX, pb_B243, pm_if, pm_QI_at, pm_QL_at, pm_QV_at, pm_QR_at, pm_QR_at0, pm_QR_at1, Nat.reduceSub, Nat.reduceAdd, List.replicate_zero, List.replicate_succ, true_and, and_true, true_or, or_true, and_self, reduceIte, Nat.reduceEqDiff, Nat.reduceLT, Nat.reduceLeDiff, Nat.reduceMul, false_and, and_false, reduceCtorEq, false_or, or_false, not_true_eq_false, not_false_eq_true, true_implies, false_implies, implies_true, lf_10, eq_self, Int32.reduceLT, Int32.reduceLE, Int32.reduceAdd, Int32.reduceSub, pm_same, pm_i_wI, pm_l_wL, pm_l_wM, pm_oR_rf, pm_oQ_rf, sh_k59 hS, sh_r59_36 hS, sh_k88 hS, sh_z88 hS, nI_1, LQ1, LQ2, ol, m40, nI_add, ch, g0]
            first | exact ⟨vh, pv_W hk (by simp [pv_le, pm_unk])⟩ | skip
          · have hy : hb_y S h i = true := decide_eq_true ⟨by lia, by omega⟩
            obtain ⟨z, _, _, _, e4⟩ := hb_l_eq hh hok hy
            rw [ecA, ecs, hy] at hk
            refine pm_wb_ok pb_c243 2 102 0 _ _ _ _ _ ?_
            try simp only [pm_WI0, pm_WI1, pm_WI2, pm_WI3, pm_WI4, pm_WI5, pm_WV, pm_WW, pm_WX, pb_B243, pm_if, pm_QI_at, pm_QL_at, pm_QV_at, pm_QR_at, pm_QR_at0, pm_QR_at1, Nat.reduceSub, Nat.reduceAdd, List.replicate_zero, List.replicate_succ, true_and, and_true, true_or, or_true, and_self, reduceIte, Nat.reduceEqDiff, Nat.reduceLT, Nat.reduceLeDiff, Nat.reduceMul, false_and, and_false, reduceCtorEq, false_or, or_false, not_true_eq_false, not_false_eq_true, true_implies, false_implies, implies_true, lf_10, eq_self, Int32.reduceLT, Int32.reduceLE, Int32.reduceAdd, Int32.reduceSub, pm_same, pm_i_wI, pm_l_wL, pm_l_wM, pm_oR_rf, pm_oQ_rf, sh_k59 hS, sh_r59_36 hS, sh_k88 hS, sh_z88 hS, nI_1, LQ1, LQ2, ol, m40, nI_add, ch, g0, on, e4]
            first | exact ⟨vh, vh, pv_W hk (by simp [pv_le, pm_unk])⟩ | exact ⟨vh, vh, on, pv_W hk (by simp [pv_le, pm_unk])⟩ | skip
      have inner : pm_W G d 243 (pm_QL q) 46 [.ref 59, .int (nI h), .int part, .long (hb_A S h i), .float 0, .int (nI (pv_cnt (hb_y S h) i)), .int (nI i), .int (nI (pv_cnt (hb_c S h i) 0)), .int (nI (hb_s S h i 0)), .int (nI 0)] [] S 0 0 := by
        refine pv_loopR (fun o => [.ref 59, .int (nI h), .int part, .long (hb_A S h i), .float 0, .int (nI (pv_cnt (hb_y S h) i)), .int (nI i), .int (nI (pv_cnt (hb_c S h i) o)), .int (nI (hb_s S h i o)), .int (nI o)]) 6 (fun o ho hk2 => ?_) ?_
        · have hle2 : ¬ 6 ≤ nI o := nI_ge (b := 6) ho (by decide)
          have mo : (40 : Int32) * nI o = nI (40 * o) := pk_mul 40 o
          have co := nI_clamp (n := 40 * o + i) (by omega)
          have vo := vp_in_nI (n := 40 * o + i) (N := 240) (by omega) (by decide)
          have ecc : pv_cnt (hb_c S h i) (o + 1) = pv_cnt (hb_c S h i) o + (if hb_c S h i o then 1 else 0) := rfl
          have ecx : hb_s S h i (o + 1) = if hb_c S h i o then hb_s S h i o + (pm_i S 88 (40 * o + i)).toNatClampNeg else hb_s S h i o := rfl
          by_cases eo : o = h
          · have e2 : nI o = nI h := by rw [eo]
            have ef : hb_c S h i o = false := decide_eq_false (fun z => z.1 eo)
            rw [ecc, ecx, ef] at hk2
            subst eo
            refine pm_wb_ok pb_c243 2 46 0 _ _ _ _ _ ?_
            try simp only [pm_WI0, pm_WI1, pm_WI2, pm_WI3, pm_WI4, pm_WI5, pm_WV, pm_WW, pm_WX, pb_B243, pm_if, pm_QI_at, pm_QL_at, pm_QV_at, pm_QR_at, pm_QR_at0, pm_QR_at1, Nat.reduceSub, Nat.reduceAdd, List.replicate_zero, List.replicate_succ, true_and, and_true, true_or, or_true, and_self, reduceIte, Nat.reduceEqDiff, Nat.reduceLT, Nat.reduceLeDiff, Nat.reduceMul, false_and, and_false, reduceCtorEq, false_or, or_false, not_true_eq_false, not_false_eq_true, true_implies, false_implies, implies_true, lf_10, eq_self, Int32.reduceLT, Int32.reduceLE, Int32.reduceAdd, Int32.reduceSub, pm_same, pm_i_wI, pm_l_wL, pm_l_wM, pm_oR_rf, pm_oQ_rf, sh_k59 hS, sh_r59_36 hS, sh_k88 hS, sh_z88 hS, nI_1, LQ1, LQ2, hle2]
            exact pv_W hk2 (by simp [pv_le, pm_unk])
          · have e2 : ¬ nI o = nI h := fun z => eo ((nI_eq (by omega) (by omega)).mp z)
            by_cases g0 : pm_i S 88 (40 * o + i) < 0
            · have ef : hb_c S h i o = false := decide_eq_false (fun z => by have := z.2; lia)
              rw [ecc, ecx, ef] at hk2
              refine pm_wb_ok pb_c243 2 46 0 _ _ _ _ _ ?_
              try simp only [pm_WI0, pm_WI1, pm_WI2, pm_WI3, pm_WI4, pm_WI5, pm_WV, pm_WW, pm_WX, pb_B243, pm_if, pm_QI_at, pm_QL_at, pm_QV_at, pm_QR_at, pm_QR_at0, pm_QR_at1, Nat.reduceSub, Nat.reduceAdd, List.replicate_zero, List.replicate_succ, true_and, and_true, true_or, or_true, and_self, reduceIte, Nat.reduceEqDiff, Nat.reduceLT, Nat.reduceLeDiff, Nat.reduceMul, false_and, and_false, reduceCtorEq, false_or, or_false, not_true_eq_false, not_false_eq_true, true_implies, false_implies, implies_true, lf_10, eq_self, Int32.reduceLT, Int32.reduceLE, Int32.reduceAdd, Int32.reduceSub, pm_same, pm_i_wI, pm_l_wL, pm_l_wM, pm_oR_rf, pm_oQ_rf, sh_k59 hS, sh_r59_36 hS, sh_k88 hS, sh_z88 hS, nI_1, LQ1, LQ2, hle2, e2, mo, nI_add, co, g0]
              first | exact ⟨vo, pv_W hk2 (by simp [pv_le, pm_unk])⟩ | skip
            · have g1 : 0 ≤ pm_i S 88 (40 * o + i) := by lia
              have ef : hb_c S h i o = true := decide_eq_true ⟨eo, g1⟩
              have eg : nI (hb_s S h i o) + pm_i S 88 (40 * o + i) = nI (hb_s S h i o + (pm_i S 88 (40 * o + i)).toNatClampNeg) := by rw [← nI_add, ← iv_nn g1]
              rw [ecc, ecx, ef] at hk2
              refine pm_wb_ok pb_c243 2 46 0 _ _ _ _ _ ?_
              try simp only [pm_WI0, pm_WI1, pm_WI2, pm_WI3, pm_WI4, pm_WI5, pm_WV, pm_WW, pm_WX, pb_B243, pm_if, pm_QI_at, pm_QL_at, pm_QV_at, pm_QR_at, pm_QR_at0, pm_QR_at1, Nat.reduceSub, Nat.reduceAdd, List.replicate_zero, List.replicate_succ, true_and, and_true, true_or, or_true, and_self, reduceIte, Nat.reduceEqDiff, Nat.reduceLT, Nat.reduceLeDiff, Nat.reduceMul, false_and, and_false, reduceCtorEq, false_or, or_false, not_true_eq_false, not_false_eq_true, true_implies, false_implies, implies_true, lf_10, eq_self, Int32.reduceLT, Int32.reduceLE, Int32.reduceAdd, Int32.reduceSub, pm_same, pm_i_wI, pm_l_wL, pm_l_wM, pm_oR_rf, pm_oQ_rf, sh_k59 hS, sh_r59_36 hS, sh_k88 hS, sh_z88 hS, nI_1, LQ1, LQ2, hle2, e2, mo, nI_add, co, g0, eg]
              first | exact ⟨vo, vo, pv_W hk2 (by simp [pv_le, pm_unk])⟩ | skip
        · refine pm_wb_ok pb_c243 1 46 0 _ _ _ _ _ ?_
          try simp only [pm_WI0, pm_WI1, pm_WI2, pm_WI3, pm_WI4, pm_WI5, pm_WV, pm_WW, pm_WX, pb_B243, pm_if, pm_QI_at, pm_QL_at, pm_QV_at, pm_QR_at, pm_QR_at0, pm_QR_at1, Nat.reduceSub, Nat.reduceAdd, List.replicate_zero, List.replicate_succ, true_and, and_true, true_or, or_true, and_self, reduceIte, Nat.reduceEqDiff, Nat.reduceLT, Nat.reduceLeDiff, Nat.reduceMul, false_and, and_false, reduceCtorEq, false_or, or_false, not_true_eq_false, not_false_eq_true, true_implies, false_implies, implies_true, lf_10, eq_self, Int32.reduceLT, Int32.reduceLE, Int32.reduceAdd, Int32.reduceSub, pm_same, pm_i_wI, pm_l_wL, pm_l_wM, pm_oR_rf, pm_oQ_rf, sh_k59 hS, sh_r59_36 hS, sh_k88 hS, sh_z88 hS, nI_1, LQ1, LQ2, show (6 : Int32) ≤ nI 6 from by decide]
          exact pv_W back (by simp [pv_le, pm_unk, hb_o])
      refine pm_wb_ok pb_c243 1 28 0 _ _ _ _ _ ?_
      try simp only [pm_WI0, pm_WI1, pm_WI2, pm_WI3, pm_WI4, pm_WI5, pm_WV, pm_WW, pm_WX, pb_B243, pm_if, pm_QI_at, pm_QL_at, pm_QV_at, pm_QR_at, pm_QR_at0, pm_QR_at1, Nat.reduceSub, Nat.reduceAdd, List.replicate_zero, List.replicate_succ, true_and, and_true, true_or, or_true, and_self, reduceIte, Nat.reduceEqDiff, Nat.reduceLT, Nat.reduceLeDiff, Nat.reduceMul, false_and, and_false, reduceCtorEq, false_or, or_false, not_true_eq_false, not_false_eq_true, true_implies, false_implies, implies_true, lf_10, eq_self, Int32.reduceLT, Int32.reduceLE, Int32.reduceAdd, Int32.reduceSub, pm_same, pm_i_wI, pm_l_wL, pm_l_wM, pm_oR_rf, pm_oQ_rf, sh_k59 hS, sh_r59_36 hS, sh_k88 hS, sh_z88 hS, nI_1, LQ1, LQ2, hn, hle]
      first | exact pv_W inner (by simp [pv_le, pm_unk, hb_s, pv_cnt, show nI 0 = 0 from rfl]) | skip
    · refine pm_wb_ok pb_c243 1 28 0 _ _ _ _ _ ?_
      try simp only [pm_WI0, pm_WI1, pm_WI2, pm_WI3, pm_WI4, pm_WI5, pm_WV, pm_WW, pm_WX, pb_B243, pm_if, pm_QI_at, pm_QL_at, pm_QV_at, pm_QR_at, pm_QR_at0, pm_QR_at1, Nat.reduceSub, Nat.reduceAdd, List.replicate_zero, List.replicate_succ, true_and, and_true, true_or, or_true, and_self, reduceIte, Nat.reduceEqDiff, Nat.reduceLT, Nat.reduceLeDiff, Nat.reduceMul, false_and, and_false, reduceCtorEq, false_or, or_false, not_true_eq_false, not_false_eq_true, true_implies, false_implies, implies_true, lf_10, eq_self, Int32.reduceLT, Int32.reduceLE, Int32.reduceAdd, Int32.reduceSub, pm_same, pm_i_wI, pm_l_wL, pm_l_wM, pm_oR_rf, pm_oQ_rf, sh_k59 hS, sh_r59_36 hS, sh_k88 hS, sh_z88 hS, nI_1, LQ1, LQ2, hn, Int32.le_refl]
      exact pv_W tail (by simp [pv_le, pm_unk, hb_n])
  have hp2 : 0 ≤ part ∧ part ≤ 1 := by lia
  refine pm_goL 243 1 pb_c243 (by decide) (Nat.le_of_ble_eq_true rfl) rfl ?_
  try simp only [show pm_mL 243 = 10 from rfl, pm_WI0, pm_WI1, pm_WI2, pm_WI3, pm_WI4, pm_WI5, pm_WV, pm_WW, pm_WX, pb_B243, pm_if, pm_QI_at, pm_QL_at, pm_QV_at, pm_QR_at, pm_QR_at0, pm_QR_at1, Nat.reduceSub, Nat.reduceAdd, List.replicate_zero, List.replicate_succ, true_and, and_true, true_or, or_true, and_self, reduceIte, Nat.reduceEqDiff, Nat.reduceLT, Nat.reduceLeDiff, Nat.reduceMul, false_and, and_false, reduceCtorEq, false_or, or_false, not_true_eq_false, not_false_eq_true, true_implies, false_implies, implies_true, lf_10, eq_self, Int32.reduceLT, Int32.reduceLE, Int32.reduceAdd, Int32.reduceSub, pm_same, pm_i_wI, pm_l_wL, pm_l_wM, pm_oR_rf, pm_oQ_rf, sh_k59 hS, sh_r59_36 hS, sh_k88 hS, sh_z88 hS, nI_1, LQ1, LQ2]
  refine ⟨by omega, lf_242 (by omega) (fun _ => ?_) (fun z => absurd (hd_in hh) z)⟩
  try simp only [pm_WV, pm_WW, true_and, and_true, true_or, or_true, and_self, reduceIte, Nat.reduceEqDiff, Nat.reduceLT, Nat.reduceLeDiff, Nat.reduceMul, false_and, and_false, reduceCtorEq, false_or, or_false, not_true_eq_false, not_false_eq_true, true_implies, false_implies, implies_true, lf_10, eq_self, Int32.reduceLT, Int32.reduceLE, Int32.reduceAdd, Int32.reduceSub, pm_same, pm_i_wI, pm_l_wL, pm_l_wM, pm_oR_rf, pm_oQ_rf, nI_1, sw_e, LQ1, LQ2, pm_WI0, pm_WI1, pm_WI2, pm_WI3, pm_WI4, pm_WI5, pm_WV, pm_WW, pm_WX, pb_B243, pm_if, pm_QI_at, pm_QL_at, pm_QV_at, pm_QR_at, pm_QR_at0, pm_QR_at1, Nat.reduceSub, Nat.reduceAdd, List.replicate_zero, List.replicate_succ, true_and, and_true, true_or, or_true, and_self, reduceIte, Nat.reduceEqDiff, Nat.reduceLT, Nat.reduceLeDiff, Nat.reduceMul, false_and, and_false, reduceCtorEq, false_or, or_false, not_true_eq_false, not_false_eq_true, true_implies, false_implies, implies_true, lf_10, eq_self, Int32.reduceLT, Int32.reduceLE, Int32.reduceAdd, Int32.reduceSub, pm_same, pm_i_wI, pm_l_wL, pm_l_wM, pm_oR_rf, pm_oQ_rf, sh_k59 hS, sh_r59_36 hS, sh_k88 hS, sh_z88 hS, nI_1, LQ1, LQ2]
  refine ⟨by omega, lf_159 (fun _ => ?_) (fun z => absurd hp2 z)⟩
  try simp only [pm_WV, pm_WW, true_and, and_true, true_or, or_true, and_self, reduceIte, Nat.reduceEqDiff, Nat.reduceLT, Nat.reduceLeDiff, Nat.reduceMul, false_and, and_false, reduceCtorEq, false_or, or_false, not_true_eq_false, not_false_eq_true, true_implies, false_implies, implies_true, lf_10, eq_self, Int32.reduceLT, Int32.reduceLE, Int32.reduceAdd, Int32.reduceSub, pm_same, pm_i_wI, pm_l_wL, pm_l_wM, pm_oR_rf, pm_oQ_rf, nI_1, sw_e, LQ1, LQ2, pm_WI0, pm_WI1, pm_WI2, pm_WI3, pm_WI4, pm_WI5, pm_WV, pm_WW, pm_WX, pb_B243, pm_if, pm_QI_at, pm_QL_at, pm_QV_at, pm_QR_at, pm_QR_at0, pm_QR_at1, Nat.reduceSub, Nat.reduceAdd, List.replicate_zero, List.replicate_succ, true_and, and_true, true_or, or_true, and_self, reduceIte, Nat.reduceEqDiff, Nat.reduceLT, Nat.reduceLeDiff, Nat.reduceMul, false_and, and_false, reduceCtorEq, false_or, or_false, not_true_eq_false, not_false_eq_true, true_implies, false_implies, implies_true, lf_10, eq_self, Int32.reduceLT, Int32.reduceLE, Int32.reduceAdd, Int32.reduceSub, pm_same, pm_i_wI, pm_l_wL, pm_l_wM, pm_oR_rf, pm_oQ_rf, sh_k59 hS, sh_r59_36 hS, sh_k88 hS, sh_z88 hS, nI_1, LQ1, LQ2]
  try refine pm_wb_ok pb_c243 1 20 0 _ _ _ _ _ ?_
  try simp only [pm_WI0, pm_WI1, pm_WI2, pm_WI3, pm_WI4, pm_WI5, pm_WV, pm_WW, pm_WX, pb_B243, pm_if, pm_QI_at, pm_QL_at, pm_QV_at, pm_QR_at, pm_QR_at0, pm_QR_at1, Nat.reduceSub, Nat.reduceAdd, List.replicate_zero, List.replicate_succ, true_and, and_true, true_or, or_true, and_self, reduceIte, Nat.reduceEqDiff, Nat.reduceLT, Nat.reduceLeDiff, Nat.reduceMul, false_and, and_false, reduceCtorEq, false_or, or_false, not_true_eq_false, not_false_eq_true, true_implies, false_implies, implies_true, lf_10, eq_self, Int32.reduceLT, Int32.reduceLE, Int32.reduceAdd, Int32.reduceSub, pm_same, pm_i_wI, pm_l_wL, pm_l_wM, pm_oR_rf, pm_oQ_rf, sh_k59 hS, sh_r59_36 hS, sh_k88 hS, sh_z88 hS, nI_1, LQ1, LQ2]
  first | exact pv_W key (by simp [pv_le, pm_unk, hb_A, pv_cnt, show nI 0 = 0 from rfl, show 60 * (nI 0).toInt64 = 0 from by decide, show 60 * (0 : Int32).toInt64 = 0 from by decide]) | skip
theorem pp_habit {G : pm_G} {d : Nat} {A : iv_A} {S : pm_S} {u v : Int32} (hd : 40 ≤ d) (hI : Inv A S) : pm_CL G d 142 [.ref 0, .int u, .int v] S (fun r S1 => pm_CL G d 243 [.ref 59, .int u, .int v] S1 (fun r' S2 => pv_endL A r r' S2)) := by
  have hS := hI.sh
  by_cases hu : 0 ≤ u ∧ u ≤ 5
  · by_cases hv : v = 0 ∨ v = 1
    · obtain ⟨h, hh, rfl⟩ := hd_of hu
      obtain ⟨hA, hn, g, hg, g0, gB⟩ := hb_g hI hh
      exact cl_142 (by omega) hI hh hv hA hn hg g0 gB (mo_243 (by omega) hI hh hv hA hn hg g0 gB (pv_sameL hI))
    · have hv2 : ¬ (0 ≤ v ∧ v ≤ 1) := fun z => hv (by lia)
      have mo : pm_CL G d 243 [.ref 59, .int u, .int v] S (fun r' S2 => pv_endL A (-9223372036854775808) r' S2) := by
        refine pm_goL 243 2 pb_c243 (by decide) (Nat.le_of_ble_eq_true rfl) rfl ?_
        try simp only [show pm_mL 243 = 10 from rfl, pm_WI0, pm_WI1, pm_WI2, pm_WI3, pm_WI4, pm_WI5, pm_WV, pm_WW, pm_WX, pb_B243, pm_if, pm_QI_at, pm_QL_at, pm_QV_at, pm_QR_at, pm_QR_at0, pm_QR_at1, Nat.reduceSub, Nat.reduceAdd, List.replicate_zero, List.replicate_succ, true_and, and_true, true_or, or_true, and_self, reduceIte, Nat.reduceEqDiff, Nat.reduceLT, Nat.reduceLeDiff, Nat.reduceMul, false_and, and_false, reduceCtorEq, false_or, or_false, not_true_eq_false, not_false_eq_true, true_implies, false_implies, implies_true, lf_10, eq_self, Int32.reduceLT, Int32.reduceLE, Int32.reduceAdd, Int32.reduceSub, pm_same, pm_i_wI, pm_l_wL, pm_l_wM, pm_oR_rf, pm_oQ_rf, sh_k59 hS, sh_r59_36 hS, sh_k88 hS, sh_z88 hS, nI_1, LQ1, LQ2]
        refine ⟨by omega, lf_242 (by omega) (fun _ => ?_) (fun z => absurd hu z)⟩
        try simp only [pm_WV, pm_WW, true_and, and_true, true_or, or_true, and_self, reduceIte, Nat.reduceEqDiff, Nat.reduceLT, Nat.reduceLeDiff, Nat.reduceMul, false_and, and_false, reduceCtorEq, false_or, or_false, not_true_eq_false, not_false_eq_true, true_implies, false_implies, implies_true, lf_10, eq_self, Int32.reduceLT, Int32.reduceLE, Int32.reduceAdd, Int32.reduceSub, pm_same, pm_i_wI, pm_l_wL, pm_l_wM, pm_oR_rf, pm_oQ_rf, nI_1, sw_e, LQ1, LQ2, pm_WI0, pm_WI1, pm_WI2, pm_WI3, pm_WI4, pm_WI5, pm_WV, pm_WW, pm_WX, pb_B243, pm_if, pm_QI_at, pm_QL_at, pm_QV_at, pm_QR_at, pm_QR_at0, pm_QR_at1, Nat.reduceSub, Nat.reduceAdd, List.replicate_zero, List.replicate_succ, true_and, and_true, true_or, or_true, and_self, reduceIte, Nat.reduceEqDiff, Nat.reduceLT, Nat.reduceLeDiff, Nat.reduceMul, false_and, and_false, reduceCtorEq, false_or, or_false, not_true_eq_false, not_false_eq_true, true_implies, false_implies, implies_true, lf_10, eq_self, Int32.reduceLT, Int32.reduceLE, Int32.reduceAdd, Int32.reduceSub, pm_same, pm_i_wI, pm_l_wL, pm_l_wM, pm_oR_rf, pm_oQ_rf, sh_k59 hS, sh_r59_36 hS, sh_k88 hS, sh_z88 hS, nI_1, LQ1, LQ2]
        refine ⟨by omega, lf_159 (fun z => absurd z hv2) (fun _ => ?_)⟩
        try simp only [pm_WV, pm_WW, true_and, and_true, true_or, or_true, and_self, reduceIte, Nat.reduceEqDiff, Nat.reduceLT, Nat.reduceLeDiff, Nat.reduceMul, false_and, and_false, reduceCtorEq, false_or, or_false, not_true_eq_false, not_false_eq_true, true_implies, false_implies, implies_true, lf_10, eq_self, Int32.reduceLT, Int32.reduceLE, Int32.reduceAdd, Int32.reduceSub, pm_same, pm_i_wI, pm_l_wL, pm_l_wM, pm_oR_rf, pm_oQ_rf, nI_1, sw_e, LQ1, LQ2, pm_WI0, pm_WI1, pm_WI2, pm_WI3, pm_WI4, pm_WI5, pm_WV, pm_WW, pm_WX, pb_B243, pm_if, pm_QI_at, pm_QL_at, pm_QV_at, pm_QR_at, pm_QR_at0, pm_QR_at1, Nat.reduceSub, Nat.reduceAdd, List.replicate_zero, List.replicate_succ, true_and, and_true, true_or, or_true, and_self, reduceIte, Nat.reduceEqDiff, Nat.reduceLT, Nat.reduceLeDiff, Nat.reduceMul, false_and, and_false, reduceCtorEq, false_or, or_false, not_true_eq_false, not_false_eq_true, true_implies, false_implies, implies_true, lf_10, eq_self, Int32.reduceLT, Int32.reduceLE, Int32.reduceAdd, Int32.reduceSub, pm_same, pm_i_wI, pm_l_wL, pm_l_wM, pm_oR_rf, pm_oQ_rf, sh_k59 hS, sh_r59_36 hS, sh_k88 hS, sh_z88 hS, nI_1, LQ1, LQ2]
        exact pv_sameL hI
      refine pm_goL 142 2 pb_c142 (by decide) (Nat.le_of_ble_eq_true rfl) rfl ?_
      try simp only [show pm_mL 142 = 9 from rfl, pm_WI0, pm_WI1, pm_WI2, pm_WI3, pm_WI4, pm_WI5, pm_WV, pm_WW, pm_WX, pb_B142, pm_if, pm_QI_at, pm_QL_at, pm_QV_at, pm_QR_at, pm_QR_at0, pm_QR_at1, Nat.reduceSub, Nat.reduceAdd, List.replicate_zero, List.replicate_succ, true_and, and_true, true_or, or_true, and_self, reduceIte, Nat.reduceEqDiff, Nat.reduceLT, Nat.reduceLeDiff, Nat.reduceMul, false_and, and_false, reduceCtorEq, false_or, or_false, not_true_eq_false, not_false_eq_true, true_implies, false_implies, implies_true, lf_10, eq_self, Int32.reduceLT, Int32.reduceLE, Int32.reduceAdd, Int32.reduceSub, pm_same, pm_i_wI, pm_l_wL, pm_l_wM, pm_oR_rf, pm_oQ_rf, sh_k0 hS, sh_r0_3 hS, sh_k4 hS, sh_z4 hS, nI_1, LQ1, LQ2]
      refine ⟨by omega, lf_141 (fun _ => ?_) (fun z => absurd hu z)⟩
      try simp only [pm_WV, pm_WW, true_and, and_true, true_or, or_true, and_self, reduceIte, Nat.reduceEqDiff, Nat.reduceLT, Nat.reduceLeDiff, Nat.reduceMul, false_and, and_false, reduceCtorEq, false_or, or_false, not_true_eq_false, not_false_eq_true, true_implies, false_implies, implies_true, lf_10, eq_self, Int32.reduceLT, Int32.reduceLE, Int32.reduceAdd, Int32.reduceSub, pm_same, pm_i_wI, pm_l_wL, pm_l_wM, pm_oR_rf, pm_oQ_rf, nI_1, sw_e, LQ1, LQ2, pm_WI0, pm_WI1, pm_WI2, pm_WI3, pm_WI4, pm_WI5, pm_WV, pm_WW, pm_WX, pb_B142, pm_if, pm_QI_at, pm_QL_at, pm_QV_at, pm_QR_at, pm_QR_at0, pm_QR_at1, Nat.reduceSub, Nat.reduceAdd, List.replicate_zero, List.replicate_succ, true_and, and_true, true_or, or_true, and_self, reduceIte, Nat.reduceEqDiff, Nat.reduceLT, Nat.reduceLeDiff, Nat.reduceMul, false_and, and_false, reduceCtorEq, false_or, or_false, not_true_eq_false, not_false_eq_true, true_implies, false_implies, implies_true, lf_10, eq_self, Int32.reduceLT, Int32.reduceLE, Int32.reduceAdd, Int32.reduceSub, pm_same, pm_i_wI, pm_l_wL, pm_l_wM, pm_oR_rf, pm_oQ_rf, sh_k0 hS, sh_r0_3 hS, sh_k4 hS, sh_z4 hS, nI_1, LQ1, LQ2]
      refine ⟨by omega, lf_102 (fun z => absurd z hv) (fun _ => ?_)⟩
      try simp only [pm_WV, pm_WW, true_and, and_true, true_or, or_true, and_self, reduceIte, Nat.reduceEqDiff, Nat.reduceLT, Nat.reduceLeDiff, Nat.reduceMul, false_and, and_false, reduceCtorEq, false_or, or_false, not_true_eq_false, not_false_eq_true, true_implies, false_implies, implies_true, lf_10, eq_self, Int32.reduceLT, Int32.reduceLE, Int32.reduceAdd, Int32.reduceSub, pm_same, pm_i_wI, pm_l_wL, pm_l_wM, pm_oR_rf, pm_oQ_rf, nI_1, sw_e, LQ1, LQ2, pm_WI0, pm_WI1, pm_WI2, pm_WI3, pm_WI4, pm_WI5, pm_WV, pm_WW, pm_WX, pb_B142, pm_if, pm_QI_at, pm_QL_at, pm_QV_at, pm_QR_at, pm_QR_at0, pm_QR_at1, Nat.reduceSub, Nat.reduceAdd, List.replicate_zero, List.replicate_succ, true_and, and_true, true_or, or_true, and_self, reduceIte, Nat.reduceEqDiff, Nat.reduceLT, Nat.reduceLeDiff, Nat.reduceMul, false_and, and_false, reduceCtorEq, false_or, or_false, not_true_eq_false, not_false_eq_true, true_implies, false_implies, implies_true, lf_10, eq_self, Int32.reduceLT, Int32.reduceLE, Int32.reduceAdd, Int32.reduceSub, pm_same, pm_i_wI, pm_l_wL, pm_l_wM, pm_oR_rf, pm_oQ_rf, sh_k0 hS, sh_r0_3 hS, sh_k4 hS, sh_z4 hS, nI_1, LQ1, LQ2]
      exact mo
  · have mo : pm_CL G d 243 [.ref 59, .int u, .int v] S (fun r' S2 => pv_endL A (-9223372036854775808) r' S2) := by
      refine pm_goL 243 2 pb_c243 (by decide) (Nat.le_of_ble_eq_true rfl) rfl ?_
      try simp only [show pm_mL 243 = 10 from rfl, pm_WI0, pm_WI1, pm_WI2, pm_WI3, pm_WI4, pm_WI5, pm_WV, pm_WW, pm_WX, pb_B243, pm_if, pm_QI_at, pm_QL_at, pm_QV_at, pm_QR_at, pm_QR_at0, pm_QR_at1, Nat.reduceSub, Nat.reduceAdd, List.replicate_zero, List.replicate_succ, true_and, and_true, true_or, or_true, and_self, reduceIte, Nat.reduceEqDiff, Nat.reduceLT, Nat.reduceLeDiff, Nat.reduceMul, false_and, and_false, reduceCtorEq, false_or, or_false, not_true_eq_false, not_false_eq_true, true_implies, false_implies, implies_true, lf_10, eq_self, Int32.reduceLT, Int32.reduceLE, Int32.reduceAdd, Int32.reduceSub, pm_same, pm_i_wI, pm_l_wL, pm_l_wM, pm_oR_rf, pm_oQ_rf, sh_k59 hS, sh_r59_36 hS, sh_k88 hS, sh_z88 hS, nI_1, LQ1, LQ2]
      refine ⟨by omega, lf_242 (by omega) (fun z => absurd z hu) (fun _ => ?_)⟩
      try simp only [pm_WV, pm_WW, true_and, and_true, true_or, or_true, and_self, reduceIte, Nat.reduceEqDiff, Nat.reduceLT, Nat.reduceLeDiff, Nat.reduceMul, false_and, and_false, reduceCtorEq, false_or, or_false, not_true_eq_false, not_false_eq_true, true_implies, false_implies, implies_true, lf_10, eq_self, Int32.reduceLT, Int32.reduceLE, Int32.reduceAdd, Int32.reduceSub, pm_same, pm_i_wI, pm_l_wL, pm_l_wM, pm_oR_rf, pm_oQ_rf, nI_1, sw_e, LQ1, LQ2, pm_WI0, pm_WI1, pm_WI2, pm_WI3, pm_WI4, pm_WI5, pm_WV, pm_WW, pm_WX, pb_B243, pm_if, pm_QI_at, pm_QL_at, pm_QV_at, pm_QR_at, pm_QR_at0, pm_QR_at1, Nat.reduceSub, Nat.reduceAdd, List.replicate_zero, List.replicate_succ, true_and, and_true, true_or, or_true, and_self, reduceIte, Nat.reduceEqDiff, Nat.reduceLT, Nat.reduceLeDiff, Nat.reduceMul, false_and, and_false, reduceCtorEq, false_or, or_false, not_true_eq_false, not_false_eq_true, true_implies, false_implies, implies_true, lf_10, eq_self, Int32.reduceLT, Int32.reduceLE, Int32.reduceAdd, Int32.reduceSub, pm_same, pm_i_wI, pm_l_wL, pm_l_wM, pm_oR_rf, pm_oQ_rf, sh_k59 hS, sh_r59_36 hS, sh_k88 hS, sh_z88 hS, nI_1, LQ1, LQ2]
      try refine pm_wb_ok pb_c243 1 16 0 _ _ _ _ _ ?_
      try simp only [pm_WI0, pm_WI1, pm_WI2, pm_WI3, pm_WI4, pm_WI5, pm_WV, pm_WW, pm_WX, pb_B243, pm_if, pm_QI_at, pm_QL_at, pm_QV_at, pm_QR_at, pm_QR_at0, pm_QR_at1, Nat.reduceSub, Nat.reduceAdd, List.replicate_zero, List.replicate_succ, true_and, and_true, true_or, or_true, and_self, reduceIte, Nat.reduceEqDiff, Nat.reduceLT, Nat.reduceLeDiff, Nat.reduceMul, false_and, and_false, reduceCtorEq, false_or, or_false, not_true_eq_false, not_false_eq_true, true_implies, false_implies, implies_true, lf_10, eq_self, Int32.reduceLT, Int32.reduceLE, Int32.reduceAdd, Int32.reduceSub, pm_same, pm_i_wI, pm_l_wL, pm_l_wM, pm_oR_rf, pm_oQ_rf, sh_k59 hS, sh_r59_36 hS, sh_k88 hS, sh_z88 hS, nI_1, LQ1, LQ2]
      exact pv_sameL hI
    refine pm_goL 142 2 pb_c142 (by decide) (Nat.le_of_ble_eq_true rfl) rfl ?_
    try simp only [show pm_mL 142 = 9 from rfl, pm_WI0, pm_WI1, pm_WI2, pm_WI3, pm_WI4, pm_WI5, pm_WV, pm_WW, pm_WX, pb_B142, pm_if, pm_QI_at, pm_QL_at, pm_QV_at, pm_QR_at, pm_QR_at0, pm_QR_at1, Nat.reduceSub, Nat.reduceAdd, List.replicate_zero, List.replicate_succ, true_and, and_true, true_or, or_true, and_self, reduceIte, Nat.reduceEqDiff, Nat.reduceLT, Nat.reduceLeDiff, Nat.reduceMul, false_and, and_false, reduceCtorEq, false_or, or_false, not_true_eq_false, not_false_eq_true, true_implies, false_implies, implies_true, lf_10, eq_self, Int32.reduceLT, Int32.reduceLE, Int32.reduceAdd, Int32.reduceSub, pm_same, pm_i_wI, pm_l_wL, pm_l_wM, pm_oR_rf, pm_oQ_rf, sh_k0 hS, sh_r0_3 hS, sh_k4 hS, sh_z4 hS, nI_1, LQ1, LQ2]
    refine ⟨by omega, lf_141 (fun z => absurd z hu) (fun _ => ?_)⟩
    try simp only [pm_WV, pm_WW, true_and, and_true, true_or, or_true, and_self, reduceIte, Nat.reduceEqDiff, Nat.reduceLT, Nat.reduceLeDiff, Nat.reduceMul, false_and, and_false, reduceCtorEq, false_or, or_false, not_true_eq_false, not_false_eq_true, true_implies, false_implies, implies_true, lf_10, eq_self, Int32.reduceLT, Int32.reduceLE, Int32.reduceAdd, Int32.reduceSub, pm_same, pm_i_wI, pm_l_wL, pm_l_wM, pm_oR_rf, pm_oQ_rf, nI_1, sw_e, LQ1, LQ2, pm_WI0, pm_WI1, pm_WI2, pm_WI3, pm_WI4, pm_WI5, pm_WV, pm_WW, pm_WX, pb_B142, pm_if, pm_QI_at, pm_QL_at, pm_QV_at, pm_QR_at, pm_QR_at0, pm_QR_at1, Nat.reduceSub, Nat.reduceAdd, List.replicate_zero, List.replicate_succ, true_and, and_true, true_or, or_true, and_self, reduceIte, Nat.reduceEqDiff, Nat.reduceLT, Nat.reduceLeDiff, Nat.reduceMul, false_and, and_false, reduceCtorEq, false_or, or_false, not_true_eq_false, not_false_eq_true, true_implies, false_implies, implies_true, lf_10, eq_self, Int32.reduceLT, Int32.reduceLE, Int32.reduceAdd, Int32.reduceSub, pm_same, pm_i_wI, pm_l_wL, pm_l_wM, pm_oR_rf, pm_oQ_rf, sh_k0 hS, sh_r0_3 hS, sh_k4 hS, sh_z4 hS, nI_1, LQ1, LQ2]
    try refine pm_wb_ok pb_c142 1 14 0 _ _ _ _ _ ?_
    try simp only [pm_WI0, pm_WI1, pm_WI2, pm_WI3, pm_WI4, pm_WI5, pm_WV, pm_WW, pm_WX, pb_B142, pm_if, pm_QI_at, pm_QL_at, pm_QV_at, pm_QR_at, pm_QR_at0, pm_QR_at1, Nat.reduceSub, Nat.reduceAdd, List.replicate_zero, List.replicate_succ, true_and, and_true, true_or, or_true, and_self, reduceIte, Nat.reduceEqDiff, Nat.reduceLT, Nat.reduceLeDiff, Nat.reduceMul, false_and, and_false, reduceCtorEq, false_or, or_false, not_true_eq_false, not_false_eq_true, true_implies, false_implies, implies_true, lf_10, eq_self, Int32.reduceLT, Int32.reduceLE, Int32.reduceAdd, Int32.reduceSub, pm_same, pm_i_wI, pm_l_wL, pm_l_wM, pm_oR_rf, pm_oQ_rf, sh_k0 hS, sh_r0_3 hS, sh_k4 hS, sh_z4 hS, nI_1, LQ1, LQ2]
    exact mo
