theorem pf_t {c a b : Prop} (h : c) : pm_if c a b = a := propext ⟨fun z => z.1 h, fun z => ⟨fun _ => z, fun y => absurd h y⟩⟩
theorem pf_f {c a b : Prop} (h : ¬ c) : pm_if c a b = b := propext ⟨fun z => z.2 h, fun z => ⟨fun y => absurd y h, fun _ => z⟩⟩
theorem pf_eq_n1_0 {a b : Prop} : pm_if ((-1 : Int32) = 0) a b = b := pf_f (by decide)
theorem pf_eq_n1_1 {a b : Prop} : pm_if ((-1 : Int32) = 1) a b = b := pf_f (by decide)
theorem pf_eq_n1_2 {a b : Prop} : pm_if ((-1 : Int32) = 2) a b = b := pf_f (by decide)
theorem pf_eq_n1_3 {a b : Prop} : pm_if ((-1 : Int32) = 3) a b = b := pf_f (by decide)
theorem pf_lt_n1_2 {a b : Prop} : pm_if ((-1 : Int32) < 2) a b = a := pf_t (by decide)
theorem pf_ge_n1 {a b : Prop} : pm_if (0 ≤ (-1 : Int32)) a b = b := pf_f (by decide)
theorem pf_eq_0_0 {a b : Prop} : pm_if ((0 : Int32) = 0) a b = a := pf_t (by decide)
theorem pf_eq_0_1 {a b : Prop} : pm_if ((0 : Int32) = 1) a b = b := pf_f (by decide)
theorem pf_eq_0_2 {a b : Prop} : pm_if ((0 : Int32) = 2) a b = b := pf_f (by decide)
theorem pf_eq_0_3 {a b : Prop} : pm_if ((0 : Int32) = 3) a b = b := pf_f (by decide)
theorem pf_lt_0_2 {a b : Prop} : pm_if ((0 : Int32) < 2) a b = a := pf_t (by decide)
theorem pf_ge_0 {a b : Prop} : pm_if (0 ≤ (0 : Int32)) a b = a := pf_t (by decide)
theorem pf_eq_1_0 {a b : Prop} : pm_if ((1 : Int32) = 0) a b = b := pf_f (by decide)
theorem pf_eq_1_1 {a b : Prop} : pm_if ((1 : Int32) = 1) a b = a := pf_t (by decide)
theorem pf_eq_1_2 {a b : Prop} : pm_if ((1 : Int32) = 2) a b = b := pf_f (by decide)
theorem pf_eq_1_3 {a b : Prop} : pm_if ((1 : Int32) = 3) a b = b := pf_f (by decide)
theorem pf_lt_1_2 {a b : Prop} : pm_if ((1 : Int32) < 2) a b = a := pf_t (by decide)
theorem pf_ge_1 {a b : Prop} : pm_if (0 ≤ (1 : Int32)) a b = a := pf_t (by decide)
theorem pf_eq_2_0 {a b : Prop} : pm_if ((2 : Int32) = 0) a b = b := pf_f (by decide)
theorem pf_eq_2_1 {a b : Prop} : pm_if ((2 : Int32) = 1) a b = b := pf_f (by decide)
theorem pf_eq_2_2 {a b : Prop} : pm_if ((2 : Int32) = 2) a b = a := pf_t (by decide)
theorem pf_eq_2_3 {a b : Prop} : pm_if ((2 : Int32) = 3) a b = b := pf_f (by decide)
theorem pf_lt_2_2 {a b : Prop} : pm_if ((2 : Int32) < 2) a b = b := pf_f (by decide)
theorem pf_ge_2 {a b : Prop} : pm_if (0 ≤ (2 : Int32)) a b = a := pf_t (by decide)
theorem pf_eq_3_0 {a b : Prop} : pm_if ((3 : Int32) = 0) a b = b := pf_f (by decide)
theorem pf_eq_3_1 {a b : Prop} : pm_if ((3 : Int32) = 1) a b = b := pf_f (by decide)
theorem pf_eq_3_2 {a b : Prop} : pm_if ((3 : Int32) = 2) a b = b := pf_f (by decide)
theorem pf_eq_3_3 {a b : Prop} : pm_if ((3 : Int32) = 3) a b = a := pf_t (by decide)
theorem pf_lt_3_2 {a b : Prop} : pm_if ((3 : Int32) < 2) a b = b := pf_f (by decide)
theorem pf_ge_3 {a b : Prop} : pm_if (0 ≤ (3 : Int32)) a b = a := pf_t (by decide)
theorem pf_eq_4_0 {a b : Prop} : pm_if ((4 : Int32) = 0) a b = b := pf_f (by decide)
theorem pf_eq_4_1 {a b : Prop} : pm_if ((4 : Int32) = 1) a b = b := pf_f (by decide)
theorem pf_eq_4_2 {a b : Prop} : pm_if ((4 : Int32) = 2) a b = b := pf_f (by decide)
theorem pf_eq_4_3 {a b : Prop} : pm_if ((4 : Int32) = 3) a b = b := pf_f (by decide)
theorem pf_lt_4_2 {a b : Prop} : pm_if ((4 : Int32) < 2) a b = b := pf_f (by decide)
theorem pf_ge_4 {a b : Prop} : pm_if (0 ≤ (4 : Int32)) a b = a := pf_t (by decide)
theorem pf_eq_5_0 {a b : Prop} : pm_if ((5 : Int32) = 0) a b = b := pf_f (by decide)
theorem pf_eq_5_1 {a b : Prop} : pm_if ((5 : Int32) = 1) a b = b := pf_f (by decide)
theorem pf_eq_5_2 {a b : Prop} : pm_if ((5 : Int32) = 2) a b = b := pf_f (by decide)
theorem pf_eq_5_3 {a b : Prop} : pm_if ((5 : Int32) = 3) a b = b := pf_f (by decide)
theorem pf_lt_5_2 {a b : Prop} : pm_if ((5 : Int32) < 2) a b = b := pf_f (by decide)
theorem pf_ge_5 {a b : Prop} : pm_if (0 ≤ (5 : Int32)) a b = a := pf_t (by decide)
theorem pf_eq_6_0 {a b : Prop} : pm_if ((6 : Int32) = 0) a b = b := pf_f (by decide)
theorem pf_eq_6_1 {a b : Prop} : pm_if ((6 : Int32) = 1) a b = b := pf_f (by decide)
theorem pf_eq_6_2 {a b : Prop} : pm_if ((6 : Int32) = 2) a b = b := pf_f (by decide)
theorem pf_eq_6_3 {a b : Prop} : pm_if ((6 : Int32) = 3) a b = b := pf_f (by decide)
theorem pf_lt_6_2 {a b : Prop} : pm_if ((6 : Int32) < 2) a b = b := pf_f (by decide)
theorem pf_ge_6 {a b : Prop} : pm_if (0 ≤ (6 : Int32)) a b = a := pf_t (by decide)
theorem pf_eq_7_0 {a b : Prop} : pm_if ((7 : Int32) = 0) a b = b := pf_f (by decide)
theorem pf_eq_7_1 {a b : Prop} : pm_if ((7 : Int32) = 1) a b = b := pf_f (by decide)
theorem pf_eq_7_2 {a b : Prop} : pm_if ((7 : Int32) = 2) a b = b := pf_f (by decide)
theorem pf_eq_7_3 {a b : Prop} : pm_if ((7 : Int32) = 3) a b = b := pf_f (by decide)
theorem pf_lt_7_2 {a b : Prop} : pm_if ((7 : Int32) < 2) a b = b := pf_f (by decide)
theorem pf_ge_7 {a b : Prop} : pm_if (0 ≤ (7 : Int32)) a b = a := pf_t (by decide)
def tk (b : Nat) : Int32 := if b = 97 then 1 else if b = 100 then 6 else if b = 108 then 4 else if b = 116 then 0 else if b = 119 then 2 else -1
theorem sg_is {b c : Nat} (hb : b ≤ 256) (hc : c < 256) : sg b = Int32.ofNat c ↔ b = c := by
  unfold sg
  by_cases h : b = 256
  · rw [if_pos h]
    refine ⟨fun z => ?_, fun z => by omega⟩
    exfalso
    have : (-1 : Int32) = nI c := z
    exact absurd (show (-1 : Int32) < 0 by decide) (by rw [this]; exact nI_pos (by omega))
  · rw [if_neg h]; exact nI_eq (by omega) (by omega)
theorem gx_b_le {S : pm_S} {p n : Nat} (h : rd S p n) (k : Nat) : gx_b (pm_i S 6) n k ≤ 256 := by
  by_cases hk : k < n
  · have := (rd_at h hk).2.2; omega
  · rw [gx_b_end (by omega)]; omega
theorem rd_52 {G : pm_G} {d b : Nat} {S : pm_S} {q : Int32 → pm_S → Prop} (hb : b ≤ 256) (h : q (tk b) S) : pm_CI G d 52 [.int (sg b)] S q := by
  unfold tk at h
  refine pm_goI 52 40 pb_c52 (by decide) (Nat.le_of_ble_eq_true rfl) rfl ?_
  simp only [show pm_mL 52 = 1 from rfl, pm_WI0, pm_WI1, pm_WI2, pm_WI3, pm_WI4, pm_WI5, pm_WV, pm_WW, pm_WX, pb_B52, pm_if, pm_QI_at, pm_QL_at, pm_QV_at, pm_QR_at, pm_QR_at0, pm_QR_at1, Nat.reduceSub, Nat.reduceAdd, List.replicate_zero, List.replicate_succ, true_and, and_true, true_or, or_true, and_self, reduceIte, Nat.reduceEqDiff, Nat.reduceLT, Nat.reduceLeDiff, Nat.reduceMul, false_and, and_false, reduceCtorEq, false_or, or_false, not_true_eq_false, not_false_eq_true, true_implies, false_implies, implies_true, lf_10, eq_self, Int32.reduceLT, Int32.reduceLE, Int32.reduceAdd, Int32.reduceSub, Int32.reduceDiv, Int32.reduceMul]
  refine ⟨fun z => ?_, fun z => ⟨fun z1 => ?_, fun z1 => ⟨fun z2 => ?_, fun z2 => ⟨fun z3 => ?_, fun z3 => ⟨fun z4 => ?_, fun z4 => ?_⟩⟩⟩⟩⟩ <;> simp only [sg_is hb (show 97 < 256 by omega), sg_is hb (show 100 < 256 by omega), sg_is hb (show 108 < 256 by omega), sg_is hb (show 116 < 256 by omega), sg_is hb (show 119 < 256 by omega)] at *
  · rw [if_pos z] at h; exact h
  · rw [if_neg z, if_pos z1] at h; exact h
  · rw [if_neg z, if_neg z1, if_pos z2] at h; exact h
  · rw [if_neg z, if_neg z1, if_neg z2, if_pos z3] at h; exact h
  · rw [if_neg z, if_neg z1, if_neg z2, if_neg z3, if_pos z4] at h; exact h
  · rw [if_neg z, if_neg z1, if_neg z2, if_neg z3, if_neg z4] at h; exact h
theorem rd_53_0 {G : pm_G} {d : Nat} {S : pm_S} {q : Int32 → pm_S → Prop} (h : q 1 S) : pm_CI G d 53 [.int 0] S q := by
  refine pm_goI 53 40 pb_c53 (by decide) (Nat.le_of_ble_eq_true rfl) rfl ?_
  simp only [show pm_mL 53 = 1 from rfl, pm_WI0, pm_WI1, pm_WI2, pm_WI3, pm_WI4, pm_WI5, pm_WV, pm_WW, pm_WX, pb_B53, pm_if, pm_QI_at, pm_QL_at, pm_QV_at, pm_QR_at, pm_QR_at0, pm_QR_at1, Nat.reduceSub, Nat.reduceAdd, List.replicate_zero, List.replicate_succ, true_and, and_true, true_or, or_true, and_self, reduceIte, Nat.reduceEqDiff, Nat.reduceLT, Nat.reduceLeDiff, Nat.reduceMul, false_and, and_false, reduceCtorEq, false_or, or_false, not_true_eq_false, not_false_eq_true, true_implies, false_implies, implies_true, lf_10, eq_self, Int32.reduceLT, Int32.reduceLE, Int32.reduceAdd, Int32.reduceSub, Int32.reduceDiv, Int32.reduceMul, sw_e]
  all_goals first | exact h | (refine ⟨fun z => ?_, fun z => ?_⟩ <;> first | exact h | exact absurd z (by decide)) | exact ⟨fun z => absurd z (by decide), fun _ => ⟨fun z => absurd z (by decide), fun _ => ⟨fun z => absurd z (by decide), fun _ => h⟩⟩⟩
theorem rd_53_2 {G : pm_G} {d : Nat} {S : pm_S} {q : Int32 → pm_S → Prop} (h : q 2 S) : pm_CI G d 53 [.int 2] S q := by
  refine pm_goI 53 40 pb_c53 (by decide) (Nat.le_of_ble_eq_true rfl) rfl ?_
  simp only [show pm_mL 53 = 1 from rfl, pm_WI0, pm_WI1, pm_WI2, pm_WI3, pm_WI4, pm_WI5, pm_WV, pm_WW, pm_WX, pb_B53, pm_if, pm_QI_at, pm_QL_at, pm_QV_at, pm_QR_at, pm_QR_at0, pm_QR_at1, Nat.reduceSub, Nat.reduceAdd, List.replicate_zero, List.replicate_succ, true_and, and_true, true_or, or_true, and_self, reduceIte, Nat.reduceEqDiff, Nat.reduceLT, Nat.reduceLeDiff, Nat.reduceMul, false_and, and_false, reduceCtorEq, false_or, or_false, not_true_eq_false, not_false_eq_true, true_implies, false_implies, implies_true, lf_10, eq_self, Int32.reduceLT, Int32.reduceLE, Int32.reduceAdd, Int32.reduceSub, Int32.reduceDiv, Int32.reduceMul, sw_e]
  all_goals first | exact h | (refine ⟨fun z => ?_, fun z => ?_⟩ <;> first | exact h | exact absurd z (by decide)) | exact ⟨fun z => absurd z (by decide), fun _ => ⟨fun z => absurd z (by decide), fun _ => ⟨fun z => absurd z (by decide), fun _ => h⟩⟩⟩
theorem rd_53_3 {G : pm_G} {d : Nat} {S : pm_S} {q : Int32 → pm_S → Prop} (h : q 2 S) : pm_CI G d 53 [.int 3] S q := by
  refine pm_goI 53 40 pb_c53 (by decide) (Nat.le_of_ble_eq_true rfl) rfl ?_
  simp only [show pm_mL 53 = 1 from rfl, pm_WI0, pm_WI1, pm_WI2, pm_WI3, pm_WI4, pm_WI5, pm_WV, pm_WW, pm_WX, pb_B53, pm_if, pm_QI_at, pm_QL_at, pm_QV_at, pm_QR_at, pm_QR_at0, pm_QR_at1, Nat.reduceSub, Nat.reduceAdd, List.replicate_zero, List.replicate_succ, true_and, and_true, true_or, or_true, and_self, reduceIte, Nat.reduceEqDiff, Nat.reduceLT, Nat.reduceLeDiff, Nat.reduceMul, false_and, and_false, reduceCtorEq, false_or, or_false, not_true_eq_false, not_false_eq_true, true_implies, false_implies, implies_true, lf_10, eq_self, Int32.reduceLT, Int32.reduceLE, Int32.reduceAdd, Int32.reduceSub, Int32.reduceDiv, Int32.reduceMul, sw_e]
  all_goals first | exact h | (refine ⟨fun z => ?_, fun z => ?_⟩ <;> first | exact h | exact absurd z (by decide)) | exact ⟨fun z => absurd z (by decide), fun _ => ⟨fun z => absurd z (by decide), fun _ => ⟨fun z => absurd z (by decide), fun _ => h⟩⟩⟩
theorem rd_53_4 {G : pm_G} {d : Nat} {S : pm_S} {q : Int32 → pm_S → Prop} (h : q 4 S) : pm_CI G d 53 [.int 4] S q := by
  refine pm_goI 53 40 pb_c53 (by decide) (Nat.le_of_ble_eq_true rfl) rfl ?_
  simp only [show pm_mL 53 = 1 from rfl, pm_WI0, pm_WI1, pm_WI2, pm_WI3, pm_WI4, pm_WI5, pm_WV, pm_WW, pm_WX, pb_B53, pm_if, pm_QI_at, pm_QL_at, pm_QV_at, pm_QR_at, pm_QR_at0, pm_QR_at1, Nat.reduceSub, Nat.reduceAdd, List.replicate_zero, List.replicate_succ, true_and, and_true, true_or, or_true, and_self, reduceIte, Nat.reduceEqDiff, Nat.reduceLT, Nat.reduceLeDiff, Nat.reduceMul, false_and, and_false, reduceCtorEq, false_or, or_false, not_true_eq_false, not_false_eq_true, true_implies, false_implies, implies_true, lf_10, eq_self, Int32.reduceLT, Int32.reduceLE, Int32.reduceAdd, Int32.reduceSub, Int32.reduceDiv, Int32.reduceMul, sw_e]
  all_goals first | exact h | (refine ⟨fun z => ?_, fun z => ?_⟩ <;> first | exact h | exact absurd z (by decide)) | exact ⟨fun z => absurd z (by decide), fun _ => ⟨fun z => absurd z (by decide), fun _ => ⟨fun z => absurd z (by decide), fun _ => h⟩⟩⟩
theorem rd_53_5 {G : pm_G} {d : Nat} {S : pm_S} {q : Int32 → pm_S → Prop} (h : q 4 S) : pm_CI G d 53 [.int 5] S q := by
  refine pm_goI 53 40 pb_c53 (by decide) (Nat.le_of_ble_eq_true rfl) rfl ?_
  simp only [show pm_mL 53 = 1 from rfl, pm_WI0, pm_WI1, pm_WI2, pm_WI3, pm_WI4, pm_WI5, pm_WV, pm_WW, pm_WX, pb_B53, pm_if, pm_QI_at, pm_QL_at, pm_QV_at, pm_QR_at, pm_QR_at0, pm_QR_at1, Nat.reduceSub, Nat.reduceAdd, List.replicate_zero, List.replicate_succ, true_and, and_true, true_or, or_true, and_self, reduceIte, Nat.reduceEqDiff, Nat.reduceLT, Nat.reduceLeDiff, Nat.reduceMul, false_and, and_false, reduceCtorEq, false_or, or_false, not_true_eq_false, not_false_eq_true, true_implies, false_implies, implies_true, lf_10, eq_self, Int32.reduceLT, Int32.reduceLE, Int32.reduceAdd, Int32.reduceSub, Int32.reduceDiv, Int32.reduceMul, sw_e]
  all_goals first | exact h | (refine ⟨fun z => ?_, fun z => ?_⟩ <;> first | exact h | exact absurd z (by decide)) | exact ⟨fun z => absurd z (by decide), fun _ => ⟨fun z => absurd z (by decide), fun _ => ⟨fun z => absurd z (by decide), fun _ => h⟩⟩⟩
theorem rd_53_6 {G : pm_G} {d : Nat} {S : pm_S} {q : Int32 → pm_S → Prop} (h : q 4 S) : pm_CI G d 53 [.int 6] S q := by
  refine pm_goI 53 40 pb_c53 (by decide) (Nat.le_of_ble_eq_true rfl) rfl ?_
  simp only [show pm_mL 53 = 1 from rfl, pm_WI0, pm_WI1, pm_WI2, pm_WI3, pm_WI4, pm_WI5, pm_WV, pm_WW, pm_WX, pb_B53, pm_if, pm_QI_at, pm_QL_at, pm_QV_at, pm_QR_at, pm_QR_at0, pm_QR_at1, Nat.reduceSub, Nat.reduceAdd, List.replicate_zero, List.replicate_succ, true_and, and_true, true_or, or_true, and_self, reduceIte, Nat.reduceEqDiff, Nat.reduceLT, Nat.reduceLeDiff, Nat.reduceMul, false_and, and_false, reduceCtorEq, false_or, or_false, not_true_eq_false, not_false_eq_true, true_implies, false_implies, implies_true, lf_10, eq_self, Int32.reduceLT, Int32.reduceLE, Int32.reduceAdd, Int32.reduceSub, Int32.reduceDiv, Int32.reduceMul, sw_e]
  all_goals first | exact h | (refine ⟨fun z => ?_, fun z => ?_⟩ <;> first | exact h | exact absurd z (by decide)) | exact ⟨fun z => absurd z (by decide), fun _ => ⟨fun z => absurd z (by decide), fun _ => ⟨fun z => absurd z (by decide), fun _ => h⟩⟩⟩
theorem rd_53_7 {G : pm_G} {d : Nat} {S : pm_S} {q : Int32 → pm_S → Prop} (h : q 4 S) : pm_CI G d 53 [.int 7] S q := by
  refine pm_goI 53 40 pb_c53 (by decide) (Nat.le_of_ble_eq_true rfl) rfl ?_
  simp only [show pm_mL 53 = 1 from rfl, pm_WI0, pm_WI1, pm_WI2, pm_WI3, pm_WI4, pm_WI5, pm_WV, pm_WW, pm_WX, pb_B53, pm_if, pm_QI_at, pm_QL_at, pm_QV_at, pm_QR_at, pm_QR_at0, pm_QR_at1, Nat.reduceSub, Nat.reduceAdd, List.replicate_zero, List.replicate_succ, true_and, and_true, true_or, or_true, and_self, reduceIte, Nat.reduceEqDiff, Nat.reduceLT, Nat.reduceLeDiff, Nat.reduceMul, false_and, and_false, reduceCtorEq, false_or, or_false, not_true_eq_false, not_false_eq_true, true_implies, false_implies, implies_true, lf_10, eq_self, Int32.reduceLT, Int32.reduceLE, Int32.reduceAdd, Int32.reduceSub, Int32.reduceDiv, Int32.reduceMul, sw_e]
  all_goals first | exact h | (refine ⟨fun z => ?_, fun z => ?_⟩ <;> first | exact h | exact absurd z (by decide)) | exact ⟨fun z => absurd z (by decide), fun _ => ⟨fun z => absurd z (by decide), fun _ => ⟨fun z => absurd z (by decide), fun _ => h⟩⟩⟩
theorem rd_48_01 {G : pm_G} {d : Nat} {S : pm_S} {p n : Nat} {q : Int32 → pm_S → Prop} (hS : Sh S) (hr : rd S p n) (h1 : ∀ r v, gx_num (gx_b (pm_i S 6) n) 0 1 p = (r, some v) → p < r → r ≤ n → v < 10 ^ 1 → q (nI v) (pm_wI S 5 2 (nI r))) (h0 : gx_num (gx_b (pm_i S 6) n) 0 1 p = (p, none) → q (-1) S) : pm_CI G d 48 [.ref 5, .int 0, .int 1] S q :=
  rd_48 (least := 0) (most := 1) hS hr (by omega) (by omega) (by omega) h1 h0
theorem rd_48_02 {G : pm_G} {d : Nat} {S : pm_S} {p n : Nat} {q : Int32 → pm_S → Prop} (hS : Sh S) (hr : rd S p n) (h1 : ∀ r v, gx_num (gx_b (pm_i S 6) n) 0 2 p = (r, some v) → p < r → r ≤ n → v < 10 ^ 2 → q (nI v) (pm_wI S 5 2 (nI r))) (h0 : gx_num (gx_b (pm_i S 6) n) 0 2 p = (p, none) → q (-1) S) : pm_CI G d 48 [.ref 5, .int 0, .int 2] S q :=
  rd_48 (least := 0) (most := 2) hS hr (by omega) (by omega) (by omega) h1 h0
theorem rd_48_04 {G : pm_G} {d : Nat} {S : pm_S} {p n : Nat} {q : Int32 → pm_S → Prop} (hS : Sh S) (hr : rd S p n) (h1 : ∀ r v, gx_num (gx_b (pm_i S 6) n) 0 4 p = (r, some v) → p < r → r ≤ n → v < 10 ^ 4 → q (nI v) (pm_wI S 5 2 (nI r))) (h0 : gx_num (gx_b (pm_i S 6) n) 0 4 p = (p, none) → q (-1) S) : pm_CI G d 48 [.ref 5, .int 0, .int 4] S q :=
  rd_48 (least := 0) (most := 4) hS hr (by omega) (by omega) (by omega) h1 h0
theorem rd_48_11 {G : pm_G} {d : Nat} {S : pm_S} {p n : Nat} {q : Int32 → pm_S → Prop} (hS : Sh S) (hr : rd S p n) (h1 : ∀ r v, gx_num (gx_b (pm_i S 6) n) 1 1 p = (r, some v) → p < r → r ≤ n → v < 10 ^ 1 → q (nI v) (pm_wI S 5 2 (nI r))) (h0 : gx_num (gx_b (pm_i S 6) n) 1 1 p = (p, none) → q (-1) S) : pm_CI G d 48 [.ref 5, .int 1, .int 1] S q :=
  rd_48 (least := 1) (most := 1) hS hr (by omega) (by omega) (by omega) h1 h0
theorem rd_48_14 {G : pm_G} {d : Nat} {S : pm_S} {p n : Nat} {q : Int32 → pm_S → Prop} (hS : Sh S) (hr : rd S p n) (h1 : ∀ r v, gx_num (gx_b (pm_i S 6) n) 1 4 p = (r, some v) → p < r → r ≤ n → v < 10 ^ 4 → q (nI v) (pm_wI S 5 2 (nI r))) (h0 : gx_num (gx_b (pm_i S 6) n) 1 4 p = (p, none) → q (-1) S) : pm_CI G d 48 [.ref 5, .int 1, .int 4] S q :=
  rd_48 (least := 1) (most := 4) hS hr (by omega) (by omega) (by omega) h1 h0
set_option maxRecDepth 30000 in
theorem rd_51 {G : pm_G} {d : Nat} {S0 S : pm_S} {D p n : Nat} {W : Nat → Nat} {L : gx_L} {q : Int32 → pm_S → Prop} (hd : 6 ≤ d) (hS0 : Sh S0) (hd0 : dl S0 D W) (hr : rs S0 D W n S p L) (hl : L.2.2.length ≤ p) (h1 : ∀ r e S', gx_test (gx_b (pm_i S0 6) n) p = (r, some e) → rs S0 D W n S' r (L.1, L.2.1, L.2.2 ++ e) → q 1 S') (h0 : ∀ r S', gx_test (gx_b (pm_i S0 6) n) p = (r, none) → rs S0 D W n S' r L → q 0 S') : pm_CI G d 51 [.ref 5] S q := by
  have hS := hr.sh hS0
  have hdl := hr.todl hd0
  have ht := hr.text hd0
  have hr3 := hr.2.2.1
  have hn := hr3.2.2.2.1
  have hpn := hr3.2.2.1
  have hp5 : pm_i S 5 2 = nI p := hr3.1
  have hr5 : pm_r S 5 3 = some D := hdl.1
  have hkD : pm_k S D = 5 := hdl.2.1
  have hle := gx_b_le hr3 p
  rw [ht] at hle
  have fin : ∀ (k s m r : Nat), k < 16 → s < 16 → m < 10000 → p < r → r ≤ n → gx_test (gx_b (pm_i S0 6) n) p = (r, some [gx_st k s m]) → pm_CV G (d - 1) 38 [.ref D, .int (nI k), .int (nI s), .int (nI m)] (pm_wI S 5 2 (nI r)) (fun S' => q 1 S') := fun k s m r hk hs hm hr1 hr2 e =>
    rd_38 hd0 (hr.mv hd0 hr2) (by omega) hk hs hm (fun S' hS' => h1 r _ S' e hS')
  have no : ∀ r, r ≤ n → gx_test (gx_b (pm_i S0 6) n) p = (r, none) → q 0 (pm_wI S 5 2 (nI r)) := fun r hr2 e => h0 r _ e (hr.mv hd0 hr2)
  refine pm_goI 51 1 pb_c51 (by decide) (Nat.le_of_ble_eq_true rfl) rfl ?_
  simp only [show pm_mL 51 = 5 from rfl, pm_WI0, pm_WI1, pm_WI2, pm_WI3, pm_WI4, pm_WI5, pm_WV, pm_WW, pm_WX, pb_B51, pm_if, pm_QI_at, pm_QL_at, pm_QV_at, pm_QR_at, pm_QR_at0, pm_QR_at1, Nat.reduceSub, Nat.reduceAdd, List.replicate_zero, List.replicate_succ, true_and, and_true, true_or, or_true, and_self, reduceIte, Nat.reduceEqDiff, Nat.reduceLT, Nat.reduceLeDiff, Nat.reduceMul, false_and, and_false, reduceCtorEq, false_or, or_false, not_true_eq_false, not_false_eq_true, true_implies, false_implies, implies_true, lf_10, eq_self, Int32.reduceLT, Int32.reduceLE, Int32.reduceAdd, Int32.reduceSub, Int32.reduceDiv, Int32.reduceMul, pm_same, pm_i_wI, pm_l_wL, pm_l_wM, pm_oR_rf, pm_oQ_rf, sh_k5 hS, nI_1, pm_wI_wI, sw_e, hp5, hr5, hkD]
  refine ⟨by omega, rd_44 hS hr3 ⟨by omega, rd_52 (by rw [ht]; exact hle) ?_⟩⟩
  rw [ht]
  generalize hB : gx_b (pm_i S0 6) n = B at *
  have hBe : ∀ i, n ≤ i → B i = 256 := by rw [← hB]; exact gx_b_eof
  have nB : ∀ x, gx_b (pm_i (pm_wI S 5 2 x) 6) n = B := fun x => by rw [rd_B, ht, hB]
  by_cases b116 : B p = 116
  · have hlt : p < n := gx_lt hBe b116 (by omega)
    have ek : tk (B p) = 0 := by rw [b116]; rfl
    rw [ek]
    refine ⟨fun _ => ?_, fun z => absurd (show (0 : Int32) ≤ 0 by decide) z⟩
    refine pm_wb_ok pb_c51 6 14 0 _ _ _ _ _ ?_
    simp only [pm_WV, pm_WW, true_and, and_true, true_or, or_true, and_self, reduceIte, Nat.reduceEqDiff, Nat.reduceLT, Nat.reduceLeDiff, Nat.reduceMul, false_and, and_false, reduceCtorEq, false_or, or_false, not_true_eq_false, not_false_eq_true, true_implies, false_implies, implies_true, lf_10, eq_self, Int32.reduceLT, Int32.reduceLE, Int32.reduceAdd, Int32.reduceSub, Int32.reduceDiv, Int32.reduceMul, pm_same, pm_i_wI, pm_l_wL, pm_l_wM, pm_oR_rf, pm_oQ_rf, sh_k5 hS, nI_1, pm_wI_wI, sw_e, pm_WI0, pm_WI1, pm_WI2, pm_WI3, pm_WI4, pm_WI5, pm_WV, pm_WW, pm_WX, pb_B51, pm_if, pm_QI_at, pm_QL_at, pm_QV_at, pm_QR_at, pm_QR_at0, pm_QR_at1, Nat.reduceSub, Nat.reduceAdd, List.replicate_zero, List.replicate_succ, ↓pf_eq_n1_0, ↓pf_eq_n1_1, ↓pf_eq_n1_2, ↓pf_eq_n1_3, ↓pf_lt_n1_2, ↓pf_ge_n1, ↓pf_eq_0_0, ↓pf_eq_0_1, ↓pf_eq_0_2, ↓pf_eq_0_3, ↓pf_lt_0_2, ↓pf_ge_0, ↓pf_eq_1_0, ↓pf_eq_1_1, ↓pf_eq_1_2, ↓pf_eq_1_3, ↓pf_lt_1_2, ↓pf_ge_1, ↓pf_eq_2_0, ↓pf_eq_2_1, ↓pf_eq_2_2, ↓pf_eq_2_3, ↓pf_lt_2_2, ↓pf_ge_2, ↓pf_eq_3_0, ↓pf_eq_3_1, ↓pf_eq_3_2, ↓pf_eq_3_3, ↓pf_lt_3_2, ↓pf_ge_3, ↓pf_eq_4_0, ↓pf_eq_4_1, ↓pf_eq_4_2, ↓pf_eq_4_3, ↓pf_lt_4_2, ↓pf_ge_4, ↓pf_eq_5_0, ↓pf_eq_5_1, ↓pf_eq_5_2, ↓pf_eq_5_3, ↓pf_lt_5_2, ↓pf_ge_5, ↓pf_eq_6_0, ↓pf_eq_6_1, ↓pf_eq_6_2, ↓pf_eq_6_3, ↓pf_lt_6_2, ↓pf_ge_6, ↓pf_eq_7_0, ↓pf_eq_7_1, ↓pf_eq_7_2, ↓pf_eq_7_3, ↓pf_lt_7_2, ↓pf_ge_7, hp5, hr5, hkD]
    trace_state
    sorry
  · sorry
