theorem mr_183_owe {G : pm_G} {d : Nat} {S : pm_S} {q : Int64 → pm_S → Prop} (h : q 16101 S) : pm_CL G d 183 [.int 111, .int 119, .int 101, .int 0, .int 0] S q := by
  refine pm_goL 183 20 pb_c183 (by decide) (Nat.le_of_ble_eq_true rfl) rfl ?_
  try simp only [show pm_mL 183 = 7 from rfl, pm_WI0, pm_WI1, pm_WI2, pm_WI3, pm_WI4, pm_WI5, pm_WV, pm_WW, pm_WX, pb_B183, pm_if, pm_QI_at, pm_QL_at, pm_QV_at, pm_QR_at, pm_QR_at0, pm_QR_at1, Nat.reduceSub, Nat.reduceAdd, List.replicate_zero, List.replicate_succ, true_and, and_true, true_or, or_true, and_self, reduceIte, Nat.reduceEqDiff, Nat.reduceLT, Nat.reduceLeDiff, Nat.reduceMul, false_and, and_false, reduceCtorEq, false_or, or_false, not_true_eq_false, not_false_eq_true, true_implies, false_implies, implies_true, lf_10, eq_self, Int32.reduceLT, Int32.reduceLE, Int32.reduceAdd, Int32.reduceSub, pm_same, pm_i_wI, pm_l_wL, pm_l_wM, pm_oR_rf, pm_oQ_rf, LQ1, LQ2, LQ4]
  refine cast (congrArg (fun v => q v S) ?_) h
  decide
theorem wk_owe : wk 16101 [0, 0, 0, 0, 0, 0, 0, 0, 0, 111, 119, 101] := by unfold wk; decide
theorem wz_owe : wz [0, 0, 0, 0, 0, 0, 0, 0, 0, 111, 119, 101] = [111, 119, 101] := by decide
theorem mr_183_unles {G : pm_G} {d : Nat} {S : pm_S} {q : Int64 → pm_S → Prop} (h : q 22491315 S) : pm_CL G d 183 [.int 117, .int 110, .int 108, .int 101, .int 115] S q := by
  refine pm_goL 183 20 pb_c183 (by decide) (Nat.le_of_ble_eq_true rfl) rfl ?_
  try simp only [show pm_mL 183 = 7 from rfl, pm_WI0, pm_WI1, pm_WI2, pm_WI3, pm_WI4, pm_WI5, pm_WV, pm_WW, pm_WX, pb_B183, pm_if, pm_QI_at, pm_QL_at, pm_QV_at, pm_QR_at, pm_QR_at0, pm_QR_at1, Nat.reduceSub, Nat.reduceAdd, List.replicate_zero, List.replicate_succ, true_and, and_true, true_or, or_true, and_self, reduceIte, Nat.reduceEqDiff, Nat.reduceLT, Nat.reduceLeDiff, Nat.reduceMul, false_and, and_false, reduceCtorEq, false_or, or_false, not_true_eq_false, not_false_eq_true, true_implies, false_implies, implies_true, lf_10, eq_self, Int32.reduceLT, Int32.reduceLE, Int32.reduceAdd, Int32.reduceSub, pm_same, pm_i_wI, pm_l_wL, pm_l_wM, pm_oR_rf, pm_oQ_rf, LQ1, LQ2, LQ4]
  refine cast (congrArg (fun v => q v S) ?_) h
  decide
theorem wk_unles : wk 22491315 [0, 0, 0, 0, 0, 0, 0, 117, 110, 108, 101, 115] := by unfold wk; decide
theorem wz_unles : wz [0, 0, 0, 0, 0, 0, 0, 117, 110, 108, 101, 115] = [117, 110, 108, 101, 115] := by decide
theorem mr_183_if {G : pm_G} {d : Nat} {S : pm_S} {q : Int64 → pm_S → Prop} (h : q 294 S) : pm_CL G d 183 [.int 105, .int 102, .int 0, .int 0, .int 0] S q := by
  refine pm_goL 183 20 pb_c183 (by decide) (Nat.le_of_ble_eq_true rfl) rfl ?_
  try simp only [show pm_mL 183 = 7 from rfl, pm_WI0, pm_WI1, pm_WI2, pm_WI3, pm_WI4, pm_WI5, pm_WV, pm_WW, pm_WX, pb_B183, pm_if, pm_QI_at, pm_QL_at, pm_QV_at, pm_QR_at, pm_QR_at0, pm_QR_at1, Nat.reduceSub, Nat.reduceAdd, List.replicate_zero, List.replicate_succ, true_and, and_true, true_or, or_true, and_self, reduceIte, Nat.reduceEqDiff, Nat.reduceLT, Nat.reduceLeDiff, Nat.reduceMul, false_and, and_false, reduceCtorEq, false_or, or_false, not_true_eq_false, not_false_eq_true, true_implies, false_implies, implies_true, lf_10, eq_self, Int32.reduceLT, Int32.reduceLE, Int32.reduceAdd, Int32.reduceSub, pm_same, pm_i_wI, pm_l_wL, pm_l_wM, pm_oR_rf, pm_oQ_rf, LQ1, LQ2, LQ4]
  refine cast (congrArg (fun v => q v S) ?_) h
  decide
theorem wk_if : wk 294 [0, 0, 0, 0, 0, 0, 0, 0, 0, 0, 105, 102] := by unfold wk; decide
theorem wz_if : wz [0, 0, 0, 0, 0, 0, 0, 0, 0, 0, 105, 102] = [105, 102] := by decide
theorem mr_183_limit {G : pm_G} {d : Nat} {S : pm_S} {q : Int64 → pm_S → Prop} (h : q 12891444 S) : pm_CL G d 183 [.int 108, .int 105, .int 109, .int 105, .int 116] S q := by
  refine pm_goL 183 20 pb_c183 (by decide) (Nat.le_of_ble_eq_true rfl) rfl ?_
  try simp only [show pm_mL 183 = 7 from rfl, pm_WI0, pm_WI1, pm_WI2, pm_WI3, pm_WI4, pm_WI5, pm_WV, pm_WW, pm_WX, pb_B183, pm_if, pm_QI_at, pm_QL_at, pm_QV_at, pm_QR_at, pm_QR_at0, pm_QR_at1, Nat.reduceSub, Nat.reduceAdd, List.replicate_zero, List.replicate_succ, true_and, and_true, true_or, or_true, and_self, reduceIte, Nat.reduceEqDiff, Nat.reduceLT, Nat.reduceLeDiff, Nat.reduceMul, false_and, and_false, reduceCtorEq, false_or, or_false, not_true_eq_false, not_false_eq_true, true_implies, false_implies, implies_true, lf_10, eq_self, Int32.reduceLT, Int32.reduceLE, Int32.reduceAdd, Int32.reduceSub, pm_same, pm_i_wI, pm_l_wL, pm_l_wM, pm_oR_rf, pm_oQ_rf, LQ1, LQ2, LQ4]
  refine cast (congrArg (fun v => q v S) ?_) h
  decide
theorem wk_limit : wk 12891444 [0, 0, 0, 0, 0, 0, 0, 108, 105, 109, 105, 116] := by unfold wk; decide
theorem wz_limit : wz [0, 0, 0, 0, 0, 0, 0, 108, 105, 109, 105, 116] = [108, 105, 109, 105, 116] := by decide
theorem mr_183_answe {G : pm_G} {d : Nat} {S : pm_S} {q : Int64 → pm_S → Prop} (h : q 1527525 S) : pm_CL G d 183 [.int 97, .int 110, .int 115, .int 119, .int 101] S q := by
  refine pm_goL 183 20 pb_c183 (by decide) (Nat.le_of_ble_eq_true rfl) rfl ?_
  try simp only [show pm_mL 183 = 7 from rfl, pm_WI0, pm_WI1, pm_WI2, pm_WI3, pm_WI4, pm_WI5, pm_WV, pm_WW, pm_WX, pb_B183, pm_if, pm_QI_at, pm_QL_at, pm_QV_at, pm_QR_at, pm_QR_at0, pm_QR_at1, Nat.reduceSub, Nat.reduceAdd, List.replicate_zero, List.replicate_succ, true_and, and_true, true_or, or_true, and_self, reduceIte, Nat.reduceEqDiff, Nat.reduceLT, Nat.reduceLeDiff, Nat.reduceMul, false_and, and_false, reduceCtorEq, false_or, or_false, not_true_eq_false, not_false_eq_true, true_implies, false_implies, implies_true, lf_10, eq_self, Int32.reduceLT, Int32.reduceLE, Int32.reduceAdd, Int32.reduceSub, pm_same, pm_i_wI, pm_l_wL, pm_l_wM, pm_oR_rf, pm_oQ_rf, LQ1, LQ2, LQ4]
  refine cast (congrArg (fun v => q v S) ?_) h
  decide
theorem wk_answe : wk 1527525 [0, 0, 0, 0, 0, 0, 0, 97, 110, 115, 119, 101] := by unfold wk; decide
theorem wz_answe : wz [0, 0, 0, 0, 0, 0, 0, 97, 110, 115, 119, 101] = [97, 110, 115, 119, 101] := by decide
theorem mr_183_r {G : pm_G} {d : Nat} {S : pm_S} {q : Int64 → pm_S → Prop} (h : q 18 S) : pm_CL G d 183 [.int 114, .int 0, .int 0, .int 0, .int 0] S q := by
  refine pm_goL 183 20 pb_c183 (by decide) (Nat.le_of_ble_eq_true rfl) rfl ?_
  try simp only [show pm_mL 183 = 7 from rfl, pm_WI0, pm_WI1, pm_WI2, pm_WI3, pm_WI4, pm_WI5, pm_WV, pm_WW, pm_WX, pb_B183, pm_if, pm_QI_at, pm_QL_at, pm_QV_at, pm_QR_at, pm_QR_at0, pm_QR_at1, Nat.reduceSub, Nat.reduceAdd, List.replicate_zero, List.replicate_succ, true_and, and_true, true_or, or_true, and_self, reduceIte, Nat.reduceEqDiff, Nat.reduceLT, Nat.reduceLeDiff, Nat.reduceMul, false_and, and_false, reduceCtorEq, false_or, or_false, not_true_eq_false, not_false_eq_true, true_implies, false_implies, implies_true, lf_10, eq_self, Int32.reduceLT, Int32.reduceLE, Int32.reduceAdd, Int32.reduceSub, pm_same, pm_i_wI, pm_l_wL, pm_l_wM, pm_oR_rf, pm_oQ_rf, LQ1, LQ2, LQ4]
  refine cast (congrArg (fun v => q v S) ?_) h
  decide
theorem wk_r : wk 18 [0, 0, 0, 0, 0, 0, 0, 0, 0, 0, 0, 114] := by unfold wk; decide
theorem wz_r : wz [0, 0, 0, 0, 0, 0, 0, 0, 0, 0, 0, 114] = [114] := by decide
theorem mr_183_cap {G : pm_G} {d : Nat} {S : pm_S} {q : Int64 → pm_S → Prop} (h : q 3120 S) : pm_CL G d 183 [.int 99, .int 97, .int 112, .int 0, .int 0] S q := by
  refine pm_goL 183 20 pb_c183 (by decide) (Nat.le_of_ble_eq_true rfl) rfl ?_
  try simp only [show pm_mL 183 = 7 from rfl, pm_WI0, pm_WI1, pm_WI2, pm_WI3, pm_WI4, pm_WI5, pm_WV, pm_WW, pm_WX, pb_B183, pm_if, pm_QI_at, pm_QL_at, pm_QV_at, pm_QR_at, pm_QR_at0, pm_QR_at1, Nat.reduceSub, Nat.reduceAdd, List.replicate_zero, List.replicate_succ, true_and, and_true, true_or, or_true, and_self, reduceIte, Nat.reduceEqDiff, Nat.reduceLT, Nat.reduceLeDiff, Nat.reduceMul, false_and, and_false, reduceCtorEq, false_or, or_false, not_true_eq_false, not_false_eq_true, true_implies, false_implies, implies_true, lf_10, eq_self, Int32.reduceLT, Int32.reduceLE, Int32.reduceAdd, Int32.reduceSub, pm_same, pm_i_wI, pm_l_wL, pm_l_wM, pm_oR_rf, pm_oQ_rf, LQ1, LQ2, LQ4]
  refine cast (congrArg (fun v => q v S) ?_) h
  decide
theorem wk_cap : wk 3120 [0, 0, 0, 0, 0, 0, 0, 0, 0, 99, 97, 112] := by unfold wk; decide
theorem wz_cap : wz [0, 0, 0, 0, 0, 0, 0, 0, 0, 99, 97, 112] = [99, 97, 112] := by decide
theorem mr_183_few {G : pm_G} {d : Nat} {S : pm_S} {q : Int64 → pm_S → Prop} (h : q 6327 S) : pm_CL G d 183 [.int 102, .int 101, .int 119, .int 0, .int 0] S q := by
  refine pm_goL 183 20 pb_c183 (by decide) (Nat.le_of_ble_eq_true rfl) rfl ?_
  try simp only [show pm_mL 183 = 7 from rfl, pm_WI0, pm_WI1, pm_WI2, pm_WI3, pm_WI4, pm_WI5, pm_WV, pm_WW, pm_WX, pb_B183, pm_if, pm_QI_at, pm_QL_at, pm_QV_at, pm_QR_at, pm_QR_at0, pm_QR_at1, Nat.reduceSub, Nat.reduceAdd, List.replicate_zero, List.replicate_succ, true_and, and_true, true_or, or_true, and_self, reduceIte, Nat.reduceEqDiff, Nat.reduceLT, Nat.reduceLeDiff, Nat.reduceMul, false_and, and_false, reduceCtorEq, false_or, or_false, not_true_eq_false, not_false_eq_true, true_implies, false_implies, implies_true, lf_10, eq_self, Int32.reduceLT, Int32.reduceLE, Int32.reduceAdd, Int32.reduceSub, pm_same, pm_i_wI, pm_l_wL, pm_l_wM, pm_oR_rf, pm_oQ_rf, LQ1, LQ2, LQ4]
  refine cast (congrArg (fun v => q v S) ?_) h
  decide
theorem wk_few : wk 6327 [0, 0, 0, 0, 0, 0, 0, 0, 0, 102, 101, 119] := by unfold wk; decide
theorem wz_few : wz [0, 0, 0, 0, 0, 0, 0, 0, 0, 102, 101, 119] = [102, 101, 119] := by decide
theorem mr_183_scale {G : pm_G} {d : Nat} {S : pm_S} {q : Int64 → pm_S → Prop} (h : q 20022661 S) : pm_CL G d 183 [.int 115, .int 99, .int 97, .int 108, .int 101] S q := by
  refine pm_goL 183 20 pb_c183 (by decide) (Nat.le_of_ble_eq_true rfl) rfl ?_
  try simp only [show pm_mL 183 = 7 from rfl, pm_WI0, pm_WI1, pm_WI2, pm_WI3, pm_WI4, pm_WI5, pm_WV, pm_WW, pm_WX, pb_B183, pm_if, pm_QI_at, pm_QL_at, pm_QV_at, pm_QR_at, pm_QR_at0, pm_QR_at1, Nat.reduceSub, Nat.reduceAdd, List.replicate_zero, List.replicate_succ, true_and, and_true, true_or, or_true, and_self, reduceIte, Nat.reduceEqDiff, Nat.reduceLT, Nat.reduceLeDiff, Nat.reduceMul, false_and, and_false, reduceCtorEq, false_or, or_false, not_true_eq_false, not_false_eq_true, true_implies, false_implies, implies_true, lf_10, eq_self, Int32.reduceLT, Int32.reduceLE, Int32.reduceAdd, Int32.reduceSub, pm_same, pm_i_wI, pm_l_wL, pm_l_wM, pm_oR_rf, pm_oQ_rf, LQ1, LQ2, LQ4]
  refine cast (congrArg (fun v => q v S) ?_) h
  decide
theorem wk_scale : wk 20022661 [0, 0, 0, 0, 0, 0, 0, 115, 99, 97, 108, 101] := by unfold wk; decide
theorem wz_scale : wz [0, 0, 0, 0, 0, 0, 0, 115, 99, 97, 108, 101] = [115, 99, 97, 108, 101] := by decide
theorem mr_183_ate {G : pm_G} {d : Nat} {S : pm_S} {q : Int64 → pm_S → Prop} (h : q 1669 S) : pm_CL G d 183 [.int 97, .int 116, .int 101, .int 0, .int 0] S q := by
  refine pm_goL 183 20 pb_c183 (by decide) (Nat.le_of_ble_eq_true rfl) rfl ?_
  try simp only [show pm_mL 183 = 7 from rfl, pm_WI0, pm_WI1, pm_WI2, pm_WI3, pm_WI4, pm_WI5, pm_WV, pm_WW, pm_WX, pb_B183, pm_if, pm_QI_at, pm_QL_at, pm_QV_at, pm_QR_at, pm_QR_at0, pm_QR_at1, Nat.reduceSub, Nat.reduceAdd, List.replicate_zero, List.replicate_succ, true_and, and_true, true_or, or_true, and_self, reduceIte, Nat.reduceEqDiff, Nat.reduceLT, Nat.reduceLeDiff, Nat.reduceMul, false_and, and_false, reduceCtorEq, false_or, or_false, not_true_eq_false, not_false_eq_true, true_implies, false_implies, implies_true, lf_10, eq_self, Int32.reduceLT, Int32.reduceLE, Int32.reduceAdd, Int32.reduceSub, pm_same, pm_i_wI, pm_l_wL, pm_l_wM, pm_oR_rf, pm_oQ_rf, LQ1, LQ2, LQ4]
  refine cast (congrArg (fun v => q v S) ?_) h
  decide
theorem wk_ate : wk 1669 [0, 0, 0, 0, 0, 0, 0, 0, 0, 97, 116, 101] := by unfold wk; decide
theorem wz_ate : wz [0, 0, 0, 0, 0, 0, 0, 0, 0, 97, 116, 101] = [97, 116, 101] := by decide
theorem mr_183_each {G : pm_G} {d : Nat} {S : pm_S} {q : Int64 → pm_S → Prop} (h : q 164968 S) : pm_CL G d 183 [.int 101, .int 97, .int 99, .int 104, .int 0] S q := by
  refine pm_goL 183 20 pb_c183 (by decide) (Nat.le_of_ble_eq_true rfl) rfl ?_
  try simp only [show pm_mL 183 = 7 from rfl, pm_WI0, pm_WI1, pm_WI2, pm_WI3, pm_WI4, pm_WI5, pm_WV, pm_WW, pm_WX, pb_B183, pm_if, pm_QI_at, pm_QL_at, pm_QV_at, pm_QR_at, pm_QR_at0, pm_QR_at1, Nat.reduceSub, Nat.reduceAdd, List.replicate_zero, List.replicate_succ, true_and, and_true, true_or, or_true, and_self, reduceIte, Nat.reduceEqDiff, Nat.reduceLT, Nat.reduceLeDiff, Nat.reduceMul, false_and, and_false, reduceCtorEq, false_or, or_false, not_true_eq_false, not_false_eq_true, true_implies, false_implies, implies_true, lf_10, eq_self, Int32.reduceLT, Int32.reduceLE, Int32.reduceAdd, Int32.reduceSub, pm_same, pm_i_wI, pm_l_wL, pm_l_wM, pm_oR_rf, pm_oQ_rf, LQ1, LQ2, LQ4]
  refine cast (congrArg (fun v => q v S) ?_) h
  decide
theorem wk_each : wk 164968 [0, 0, 0, 0, 0, 0, 0, 0, 101, 97, 99, 104] := by unfold wk; decide
theorem wz_each : wz [0, 0, 0, 0, 0, 0, 0, 0, 101, 97, 99, 104] = [101, 97, 99, 104] := by decide
theorem sg_dig {b : Nat} (hb : b ≤ 256) : (sg b < 48 ↔ ¬ 48 ≤ b ∨ b = 256) ∧ (57 < sg b ↔ 57 < b ∧ ¬ b = 256) ∧ (sg b < 49 ↔ ¬ 49 ≤ b ∨ b = 256) ∧ (sg b ≤ 57 ↔ b ≤ 57 ∨ b = 256) := by
  unfold sg
  by_cases h : b = 256
  · rw [if_pos h]; subst h; decide
  · rw [if_neg h, show (48 : Int32) = nI 48 from rfl, show (57 : Int32) = nI 57 from rfl, show (49 : Int32) = nI 49 from rfl, nI_ltI (by omega) (by omega), nI_ltI (by omega) (by omega), nI_ltI (by omega) (by omega), nI_leI (by omega) (by omega)]
    omega
theorem mr_190 {G : pm_G} {d : Nat} {S : pm_S} {f : Nat → Int32} {n : Nat} {p : Nat} {x o : Int32} {q : Int32 → pm_S → Prop} (hd : 2 ≤ d) (hS : Sh S) (hm : mrc S f n) (hp : p ≤ n) (h1 : 48 ≤ gx_b f n p ∧ gx_b f n p ≤ 57 → q 1 (mst S (nI p) x o)) (h0 : ¬ (48 ≤ gx_b f n p ∧ gx_b f n p ≤ 57) → q 0 (mst S (nI p) x o)) : pm_CI G d 190 [.ref 59] (mst S (nI p) x o) q := by
  obtain ⟨s1, s2, s3, s4⟩ := sg_dig (hm.le p)
  refine pm_goI 190 40 pb_c190 (by decide) (Nat.le_of_ble_eq_true rfl) rfl ?_
  try simp only [show pm_mL 190 = 1 from rfl, pm_WI0, pm_WI1, pm_WI2, pm_WI3, pm_WI4, pm_WI5, pm_WV, pm_WW, pm_WX, pb_B190, pm_if, pm_QI_at, pm_QL_at, pm_QV_at, pm_QR_at, pm_QR_at0, pm_QR_at1, Nat.reduceSub, Nat.reduceAdd, List.replicate_zero, List.replicate_succ, true_and, and_true, true_or, or_true, and_self, reduceIte, Nat.reduceEqDiff, Nat.reduceLT, Nat.reduceLeDiff, Nat.reduceMul, false_and, and_false, reduceCtorEq, false_or, or_false, not_true_eq_false, not_false_eq_true, true_implies, false_implies, implies_true, lf_10, eq_self, Int32.reduceLT, Int32.reduceLE, Int32.reduceAdd, Int32.reduceSub, pm_same, pm_i_wI, pm_l_wL, pm_l_wM, pm_oR_rf, pm_oQ_rf, sh_k59 hS, sh_r59_25 hS, sh_k80 hS, sh_z80 hS, sh_r59_27 hS, sh_k81 hS, sh_z81 hS, mst_w46, mst_w48, mst_w49, mst_46, mst_48, mst_49, mst_k, mst_z, mst_r, mst_n, mst_l, mst_R62, mst_R64, mst_R65, mst_R66, mst_R67, mst_R78, mst_R80, mst_R81, mst_F18, mst_F24, mst_F45, mst_F47, mst_F50, mst_F51, nI_1, LQ1, LQ2, LQ4]
  refine ⟨by omega, mr_181 hS hm hp ⟨fun z => h0 (by rw [s1] at z; omega), fun z => ⟨by omega, sh_k59 hS, mr_181 hS hm hp ⟨fun y => h0 (by rw [s2] at y; omega), fun y => h1 (by rw [s1] at z; rw [s2] at y; omega)⟩⟩⟩⟩
theorem mr_188 {G : pm_G} {d : Nat} {S : pm_S} {f : Nat → Int32} {n : Nat} {o : Nat} {r : gx_R Unit} {q : Int32 → pm_S → Prop} (hd : 3 ≤ d) (hS : Sh S) (hm : mrc S f n) (hr : r.1 ≤ n) (h : q (vo (gx_bd r (fun _ p => gx_num (gx_b f n) 1 1 p))) (ms S o (un (gx_bd r (fun _ p => gx_num (gx_b f n) 1 1 p))))) : pm_CI G d 188 [.ref 59] (ms S o r) q := by
  have hn := hm.2.1
  obtain ⟨m1, m2, m3, m4⟩ := id hm
  obtain ⟨p, _ | u⟩ := r
  · try simp only [ms, gx_bd, un_none, vo] at *
    have hx : 0 ≤ nI p := nI_pos' (by omega)
    refine pm_goI 188 40 pb_c188 (by decide) (Nat.le_of_ble_eq_true rfl) rfl ?_
    try simp only [show pm_mL 188 = 1 from rfl, pm_WI0, pm_WI1, pm_WI2, pm_WI3, pm_WI4, pm_WI5, pm_WV, pm_WW, pm_WX, pb_B188, pm_if, pm_QI_at, pm_QL_at, pm_QV_at, pm_QR_at, pm_QR_at0, pm_QR_at1, Nat.reduceSub, Nat.reduceAdd, List.replicate_zero, List.replicate_succ, true_and, and_true, true_or, or_true, and_self, reduceIte, Nat.reduceEqDiff, Nat.reduceLT, Nat.reduceLeDiff, Nat.reduceMul, false_and, and_false, reduceCtorEq, false_or, or_false, not_true_eq_false, not_false_eq_true, true_implies, false_implies, implies_true, lf_10, eq_self, Int32.reduceLT, Int32.reduceLE, Int32.reduceAdd, Int32.reduceSub, pm_same, pm_i_wI, pm_l_wL, pm_l_wM, pm_oR_rf, pm_oQ_rf, sh_k59 hS, sh_r59_25 hS, sh_k80 hS, sh_z80 hS, sh_r59_27 hS, sh_k81 hS, sh_z81 hS, mst_w46, mst_w48, mst_w49, mst_46, mst_48, mst_49, mst_k, mst_z, mst_r, mst_n, mst_l, mst_R62, mst_R64, mst_R65, mst_R66, mst_R67, mst_R78, mst_R80, mst_R81, mst_F18, mst_F24, mst_F45, mst_F47, mst_F50, mst_F51, nI_1, LQ1, LQ2, LQ4, hx]
    exact ⟨by omega, mr_187f hS (by omega) h⟩
  · simp only at hr
    have hp : p ≤ n := hr
    obtain ⟨s1, s2, s3, s4⟩ := sg_dig (hm.le p)
    have no : ¬ (49 ≤ gx_b f n p ∧ gx_b f n p ≤ 57) → q 0 (mst S (nI p) (nI p) (nI o)) := fun z => by
      try simp only [gx_bd, gx_num_none (B := gx_b f n) (least := 1) (most := 1) (p := p) (by omega)] at h
      exact h
    have yes : 49 ≤ gx_b f n p ∧ gx_b f n p ≤ 57 → q (nI (gx_b f n p - 48)) (mst S (nI (p + 1)) (-1) (nI o)) := fun z => by
      try simp only [gx_bd, gx_num_some (B := gx_b f n) (least := 1) (most := 1) (p := p) (by omega)] at h
      exact h
    try simp only [ms]
    refine pm_goI 188 40 pb_c188 (by decide) (Nat.le_of_ble_eq_true rfl) rfl ?_
    try simp only [show pm_mL 188 = 1 from rfl, pm_WI0, pm_WI1, pm_WI2, pm_WI3, pm_WI4, pm_WI5, pm_WV, pm_WW, pm_WX, pb_B188, pm_if, pm_QI_at, pm_QL_at, pm_QV_at, pm_QR_at, pm_QR_at0, pm_QR_at1, Nat.reduceSub, Nat.reduceAdd, List.replicate_zero, List.replicate_succ, true_and, and_true, true_or, or_true, and_self, reduceIte, Nat.reduceEqDiff, Nat.reduceLT, Nat.reduceLeDiff, Nat.reduceMul, false_and, and_false, reduceCtorEq, false_or, or_false, not_true_eq_false, not_false_eq_true, true_implies, false_implies, implies_true, lf_10, eq_self, Int32.reduceLT, Int32.reduceLE, Int32.reduceAdd, Int32.reduceSub, pm_same, pm_i_wI, pm_l_wL, pm_l_wM, pm_oR_rf, pm_oQ_rf, sh_k59 hS, sh_r59_25 hS, sh_k80 hS, sh_z80 hS, sh_r59_27 hS, sh_k81 hS, sh_z81 hS, mst_w46, mst_w48, mst_w49, mst_46, mst_48, mst_49, mst_k, mst_z, mst_r, mst_n, mst_l, mst_R62, mst_R64, mst_R65, mst_R66, mst_R67, mst_R78, mst_R80, mst_R81, mst_F18, mst_F24, mst_F45, mst_F47, mst_F50, mst_F51, nI_1, LQ1, LQ2, LQ4]
    refine ⟨by omega, mr_181 hS hm hp ⟨fun z => ⟨by omega, sh_k59 hS, mr_187l hS (no (by rw [s3] at z; omega))⟩, fun z => ⟨by omega, sh_k59 hS, mr_181 hS hm hp ⟨fun y => ?_, fun y => ⟨by omega, sh_k59 hS, mr_187l hS (no (by rw [s4] at y; omega))⟩⟩⟩⟩⟩
    have hb : 49 ≤ gx_b f n p ∧ gx_b f n p ≤ 57 := by rw [s3] at z; rw [s4] at y; omega
    have hpn : p < n := gx_lt (B := gx_b f n) gx_b_eof rfl (by omega)
    obtain ⟨e2, e3⟩ := hm.at hpn
    have hy := yes hb
    have e48 : nI (gx_b f n p) - 48 = nI (gx_b f n p - 48) := (rd_dig e3).2.2.1 (by omega)
    try simp only [pm_WV, pm_WW, true_and, and_true, true_or, or_true, and_self, reduceIte, Nat.reduceEqDiff, Nat.reduceLT, Nat.reduceLeDiff, Nat.reduceMul, false_and, and_false, reduceCtorEq, false_or, or_false, not_true_eq_false, not_false_eq_true, true_implies, false_implies, implies_true, lf_10, eq_self, Int32.reduceLT, Int32.reduceLE, Int32.reduceAdd, Int32.reduceSub, pm_same, pm_i_wI, pm_l_wL, pm_l_wM, pm_oR_rf, pm_oQ_rf, sh_k59 hS, sh_r59_25 hS, sh_k80 hS, sh_z80 hS, sh_r59_27 hS, sh_k81 hS, sh_z81 hS, mst_w46, mst_w48, mst_w49, mst_46, mst_48, mst_49, mst_k, mst_z, mst_r, mst_n, mst_l, mst_R62, mst_R64, mst_R65, mst_R66, mst_R67, mst_R78, mst_R80, mst_R81, mst_F18, mst_F24, mst_F45, mst_F47, mst_F50, mst_F51, nI_1, LQ1, LQ2, LQ4]
    rcases m4 with ⟨b1, b2⟩ | ⟨l, b0, b1, b2⟩
    · rw [b1]
      refine ⟨fun y => absurd y (by decide), fun _ => ?_⟩
      rw [nI_pred]
      refine ⟨vp_in_nI (by omega) (by decide), ?_⟩
      rw [nI_clamp (by omega), ← b2, e2, e48]; exact hy
    · rw [b1]
      refine ⟨fun _ => ?_, fun y => absurd (nI_pos' (by omega)) y⟩
      rw [nI_add, show 160 * l + (p + 1) = (160 * l + p) + 1 from by omega, nI_pred, nI_clamp (by omega)]
      refine ⟨vp_in_nI (by omega) (by decide), ?_⟩
      have e2' : pm_i S 81 (160 * l + p) = nI (gx_b f n p) := by rw [← e2, b2]; rfl
      rw [e2', e48]; exact hy
theorem mr_189 {G : pm_G} {d : Nat} {S : pm_S} {f : Nat → Int32} {n : Nat} {o : Nat} {r : gx_R Unit} {most : Nat} {q : Int32 → pm_S → Prop} (hd : 4 ≤ d) (hS : Sh S) (hm : mrc S f n) (hr : r.1 ≤ n) (hmo : 1 ≤ most) (hmo4 : most ≤ 4) (h : q (vo (gx_bd r (fun _ p => gx_num (gx_b f n) 0 most p))) (ms S o (un (gx_bd r (fun _ p => gx_num (gx_b f n) 0 most p))))) : pm_CI G d 189 [.ref 59, .int (nI most)] (ms S o r) q := by
  have hn := hm.2.1
  obtain ⟨p, _ | u⟩ := r
  · try simp only [ms, gx_bd, un_none, vo] at *
    have hx : 0 ≤ nI p := nI_pos' (by omega)
    refine pm_goI 189 40 pb_c189 (by decide) (Nat.le_of_ble_eq_true rfl) rfl ?_
    try simp only [show pm_mL 189 = 4 from rfl, pm_WI0, pm_WI1, pm_WI2, pm_WI3, pm_WI4, pm_WI5, pm_WV, pm_WW, pm_WX, pb_B189, pm_if, pm_QI_at, pm_QL_at, pm_QV_at, pm_QR_at, pm_QR_at0, pm_QR_at1, Nat.reduceSub, Nat.reduceAdd, List.replicate_zero, List.replicate_succ, true_and, and_true, true_or, or_true, and_self, reduceIte, Nat.reduceEqDiff, Nat.reduceLT, Nat.reduceLeDiff, Nat.reduceMul, false_and, and_false, reduceCtorEq, false_or, or_false, not_true_eq_false, not_false_eq_true, true_implies, false_implies, implies_true, lf_10, eq_self, Int32.reduceLT, Int32.reduceLE, Int32.reduceAdd, Int32.reduceSub, pm_same, pm_i_wI, pm_l_wL, pm_l_wM, pm_oR_rf, pm_oQ_rf, sh_k59 hS, sh_r59_25 hS, sh_k80 hS, sh_z80 hS, sh_r59_27 hS, sh_k81 hS, sh_z81 hS, mst_w46, mst_w48, mst_w49, mst_46, mst_48, mst_49, mst_k, mst_z, mst_r, mst_n, mst_l, mst_R62, mst_R64, mst_R65, mst_R66, mst_R67, mst_R78, mst_R80, mst_R81, mst_F18, mst_F24, mst_F45, mst_F47, mst_F50, mst_F51, nI_1, LQ1, LQ2, LQ4, hx]
    exact ⟨by omega, mr_187f hS (by omega) h⟩
  · simp only at hr
    have hp : p ≤ n := hr
    have no : ¬ (48 ≤ gx_b f n p ∧ gx_b f n p ≤ 57) → q 0 (mst S (nI p) (nI p) (nI o)) := fun z => by
      try simp only [gx_bd, gx_num_none (B := gx_b f n) (least := 0) (most := most) (p := p) (by omega)] at h
      exact h
    have yes : 48 ≤ gx_b f n p ∧ gx_b f n p ≤ 57 → q (nI (gx_nm (gx_b f n) most p 0).2) (mst S (nI (gx_nm (gx_b f n) most p 0).1) (-1) (nI o)) := fun z => by
      try simp only [gx_bd, gx_num_some (B := gx_b f n) (least := 0) (most := most) (p := p) (by omega)] at h
      obtain ⟨k, rfl⟩ : ∃ k, most = k + 1 := ⟨most - 1, by omega⟩
      rw [gx_nm_yes z, Nat.mul_zero, Nat.zero_add]
      try simp only [Nat.add_sub_cancel] at h
      exact h
    have key : ∀ k j p' v, j + k = most → p' ≤ n → v < 10 ^ j → (q (nI (gx_nm (gx_b f n) k p' v).2) (mst S (nI (gx_nm (gx_b f n) k p' v).1) (-1) (nI o))) → pm_W G d 189 (pm_QI q) 23 [.ref 59, .int (nI most), .int (nI v), .int (nI j)] [] (mst S (nI p') (-1) (nI o)) 0 0 := by
      intro k
      induction k with
      | zero =>
        intro j p' v hj hp' hv hq
        have hjm : j = most := by omega
        subst hjm
        refine pm_wb_ok pb_c189 3 23 0 _ _ _ _ _ ?_
        try simp only [pm_WI0, pm_WI1, pm_WI2, pm_WI3, pm_WI4, pm_WI5, pm_WV, pm_WW, pm_WX, pb_B189, pm_if, pm_QI_at, pm_QL_at, pm_QV_at, pm_QR_at, pm_QR_at0, pm_QR_at1, Nat.reduceSub, Nat.reduceAdd, List.replicate_zero, List.replicate_succ, true_and, and_true, true_or, or_true, and_self, reduceIte, Nat.reduceEqDiff, Nat.reduceLT, Nat.reduceLeDiff, Nat.reduceMul, false_and, and_false, reduceCtorEq, false_or, or_false, not_true_eq_false, not_false_eq_true, true_implies, false_implies, implies_true, lf_10, eq_self, Int32.reduceLT, Int32.reduceLE, Int32.reduceAdd, Int32.reduceSub, pm_same, pm_i_wI, pm_l_wL, pm_l_wM, pm_oR_rf, pm_oQ_rf, sh_k59 hS, sh_r59_25 hS, sh_k80 hS, sh_z80 hS, sh_r59_27 hS, sh_k81 hS, sh_z81 hS, mst_w46, mst_w48, mst_w49, mst_46, mst_48, mst_49, mst_k, mst_z, mst_r, mst_n, mst_l, mst_R62, mst_R64, mst_R65, mst_R66, mst_R67, mst_R78, mst_R80, mst_R81, mst_F18, mst_F24, mst_F45, mst_F47, mst_F50, mst_F51, nI_1, LQ1, LQ2, LQ4, Int32.le_refl]
        exact hq
      | succ k ih =>
        intro j p' v hj hp' hv hq
        have hle : ¬ nI most ≤ nI j := nI_ge (by omega) (by omega)
        have hv4 : v < 10000 := Nat.lt_of_lt_of_le hv (by have : 10 ^ j ≤ 10 ^ 4 := Nat.pow_le_pow_right (by omega) (by omega); omega)
        refine pm_wb_ok pb_c189 3 23 0 _ _ _ _ _ ?_
        try simp only [pm_WI0, pm_WI1, pm_WI2, pm_WI3, pm_WI4, pm_WI5, pm_WV, pm_WW, pm_WX, pb_B189, pm_if, pm_QI_at, pm_QL_at, pm_QV_at, pm_QR_at, pm_QR_at0, pm_QR_at1, Nat.reduceSub, Nat.reduceAdd, List.replicate_zero, List.replicate_succ, true_and, and_true, true_or, or_true, and_self, reduceIte, Nat.reduceEqDiff, Nat.reduceLT, Nat.reduceLeDiff, Nat.reduceMul, false_and, and_false, reduceCtorEq, false_or, or_false, not_true_eq_false, not_false_eq_true, true_implies, false_implies, implies_true, lf_10, eq_self, Int32.reduceLT, Int32.reduceLE, Int32.reduceAdd, Int32.reduceSub, pm_same, pm_i_wI, pm_l_wL, pm_l_wM, pm_oR_rf, pm_oQ_rf, sh_k59 hS, sh_r59_25 hS, sh_k80 hS, sh_z80 hS, sh_r59_27 hS, sh_k81 hS, sh_z81 hS, mst_w46, mst_w48, mst_w49, mst_46, mst_48, mst_49, mst_k, mst_z, mst_r, mst_n, mst_l, mst_R62, mst_R64, mst_R65, mst_R66, mst_R67, mst_R78, mst_R80, mst_R81, mst_F18, mst_F24, mst_F45, mst_F47, mst_F50, mst_F51, nI_1, LQ1, LQ2, LQ4, hle]
        refine ⟨by omega, mr_190 (by omega) hS hm hp' (fun hb => ⟨fun z => absurd z (by decide), fun _ => ⟨by omega, sh_k59 hS, mr_181 hS hm hp' ?_⟩⟩) (fun hb => ⟨fun _ => ?_, fun z => absurd rfl z⟩)⟩
        · have hpn : p' < n := gx_lt (B := gx_b f n) gx_b_eof rfl (by omega)
          obtain ⟨e2, e3⟩ := hm.at hpn
          have es : sg (gx_b f n p') = nI (gx_b f n p') := by unfold sg; rw [if_neg (by omega)]
          rw [gx_nm_yes hb] at hq
          have ev : 10 * nI v + sg (gx_b f n p') - 48 = nI (10 * v + (gx_b f n p' - 48)) := by
            rw [es, show (10 : Int32) = nI 10 from rfl, pk_mul, nI_add, show (48 : Int32) = nI 48 from rfl, pk_sub (by omega)]
            congr 1; omega
          try simp only [pm_WV, pm_WW, true_and, and_true, true_or, or_true, and_self, reduceIte, Nat.reduceEqDiff, Nat.reduceLT, Nat.reduceLeDiff, Nat.reduceMul, false_and, and_false, reduceCtorEq, false_or, or_false, not_true_eq_false, not_false_eq_true, true_implies, false_implies, implies_true, lf_10, eq_self, Int32.reduceLT, Int32.reduceLE, Int32.reduceAdd, Int32.reduceSub, pm_same, pm_i_wI, pm_l_wL, pm_l_wM, pm_oR_rf, pm_oQ_rf, sh_k59 hS, sh_r59_25 hS, sh_k80 hS, sh_z80 hS, sh_r59_27 hS, sh_k81 hS, sh_z81 hS, mst_w46, mst_w48, mst_w49, mst_46, mst_48, mst_49, mst_k, mst_z, mst_r, mst_n, mst_l, mst_R62, mst_R64, mst_R65, mst_R66, mst_R67, mst_R78, mst_R80, mst_R81, mst_F18, mst_F24, mst_F45, mst_F47, mst_F50, mst_F51, nI_1, LQ1, LQ2, LQ4]
          rw [ev]
          exact ih (j + 1) (p' + 1) _ (by omega) (by omega) (by rw [Nat.pow_succ]; omega) hq
        · rw [gx_nm_no hb] at hq
          exact hq
    try simp only [ms]
    refine pm_goI 189 1 pb_c189 (by decide) (Nat.le_of_ble_eq_true rfl) rfl ?_
    try simp only [show pm_mL 189 = 4 from rfl, pm_WI0, pm_WI1, pm_WI2, pm_WI3, pm_WI4, pm_WI5, pm_WV, pm_WW, pm_WX, pb_B189, pm_if, pm_QI_at, pm_QL_at, pm_QV_at, pm_QR_at, pm_QR_at0, pm_QR_at1, Nat.reduceSub, Nat.reduceAdd, List.replicate_zero, List.replicate_succ, true_and, and_true, true_or, or_true, and_self, reduceIte, Nat.reduceEqDiff, Nat.reduceLT, Nat.reduceLeDiff, Nat.reduceMul, false_and, and_false, reduceCtorEq, false_or, or_false, not_true_eq_false, not_false_eq_true, true_implies, false_implies, implies_true, lf_10, eq_self, Int32.reduceLT, Int32.reduceLE, Int32.reduceAdd, Int32.reduceSub, pm_same, pm_i_wI, pm_l_wL, pm_l_wM, pm_oR_rf, pm_oQ_rf, sh_k59 hS, sh_r59_25 hS, sh_k80 hS, sh_z80 hS, sh_r59_27 hS, sh_k81 hS, sh_z81 hS, mst_w46, mst_w48, mst_w49, mst_46, mst_48, mst_49, mst_k, mst_z, mst_r, mst_n, mst_l, mst_R62, mst_R64, mst_R65, mst_R66, mst_R67, mst_R78, mst_R80, mst_R81, mst_F18, mst_F24, mst_F45, mst_F47, mst_F50, mst_F51, nI_1, LQ1, LQ2, LQ4]
    refine ⟨by omega, mr_190 (by omega) hS hm hp (fun hb => ⟨fun z => absurd z (by decide), fun _ => ?_⟩) (fun hb => ⟨fun _ => ?_, fun z => absurd rfl z⟩)⟩
    · refine pm_wb_ok pb_c189 1 19 0 _ _ _ _ _ ?_
      try simp only [pm_WI0, pm_WI1, pm_WI2, pm_WI3, pm_WI4, pm_WI5, pm_WV, pm_WW, pm_WX, pb_B189, pm_if, pm_QI_at, pm_QL_at, pm_QV_at, pm_QR_at, pm_QR_at0, pm_QR_at1, Nat.reduceSub, Nat.reduceAdd, List.replicate_zero, List.replicate_succ, true_and, and_true, true_or, or_true, and_self, reduceIte, Nat.reduceEqDiff, Nat.reduceLT, Nat.reduceLeDiff, Nat.reduceMul, false_and, and_false, reduceCtorEq, false_or, or_false, not_true_eq_false, not_false_eq_true, true_implies, false_implies, implies_true, lf_10, eq_self, Int32.reduceLT, Int32.reduceLE, Int32.reduceAdd, Int32.reduceSub, pm_same, pm_i_wI, pm_l_wL, pm_l_wM, pm_oR_rf, pm_oQ_rf, sh_k59 hS, sh_r59_25 hS, sh_k80 hS, sh_z80 hS, sh_r59_27 hS, sh_k81 hS, sh_z81 hS, mst_w46, mst_w48, mst_w49, mst_46, mst_48, mst_49, mst_k, mst_z, mst_r, mst_n, mst_l, mst_R62, mst_R64, mst_R65, mst_R66, mst_R67, mst_R78, mst_R80, mst_R81, mst_F18, mst_F24, mst_F45, mst_F47, mst_F50, mst_F51, nI_1, LQ1, LQ2, LQ4]
      exact key most 0 p 0 (by omega) hp (by omega) (yes hb)
    · refine pm_wb_ok pb_c189 2 14 0 _ _ _ _ _ ?_
      try simp only [pm_WI0, pm_WI1, pm_WI2, pm_WI3, pm_WI4, pm_WI5, pm_WV, pm_WW, pm_WX, pb_B189, pm_if, pm_QI_at, pm_QL_at, pm_QV_at, pm_QR_at, pm_QR_at0, pm_QR_at1, Nat.reduceSub, Nat.reduceAdd, List.replicate_zero, List.replicate_succ, true_and, and_true, true_or, or_true, and_self, reduceIte, Nat.reduceEqDiff, Nat.reduceLT, Nat.reduceLeDiff, Nat.reduceMul, false_and, and_false, reduceCtorEq, false_or, or_false, not_true_eq_false, not_false_eq_true, true_implies, false_implies, implies_true, lf_10, eq_self, Int32.reduceLT, Int32.reduceLE, Int32.reduceAdd, Int32.reduceSub, pm_same, pm_i_wI, pm_l_wL, pm_l_wM, pm_oR_rf, pm_oQ_rf, sh_k59 hS, sh_r59_25 hS, sh_k80 hS, sh_z80 hS, sh_r59_27 hS, sh_k81 hS, sh_z81 hS, mst_w46, mst_w48, mst_w49, mst_46, mst_48, mst_49, mst_k, mst_z, mst_r, mst_n, mst_l, mst_R62, mst_R64, mst_R65, mst_R66, mst_R67, mst_R78, mst_R80, mst_R81, mst_F18, mst_F24, mst_F45, mst_F47, mst_F50, mst_F51, nI_1, LQ1, LQ2, LQ4]
      exact ⟨by omega, mr_187l hS (no hb)⟩
