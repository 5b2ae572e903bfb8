theorem pf_t {c a b : Prop} (h : c) : pm_if c a b = a := propext ⟨fun z => z.1 h, fun z => ⟨fun _ => z, fun y => absurd h y⟩⟩
theorem pf_f {c a b : Prop} (h : ¬ c) : pm_if c a b = b := propext ⟨fun z => z.2 h, fun z => ⟨fun y => absurd y h, fun _ => z⟩⟩
theorem pf_eq_n1_0 {a b : Prop} : pm_if ((-1 : Int32) = 0) a b = b := pf_f (by decide)
theorem pf_eq_n1_1 {a b : Prop} : pm_if ((-1 : Int32) = 1) a b = b := pf_f (by decide)
theorem pf_eq_n1_2 {a b : Prop} : pm_if ((-1 : Int32) = 2) a b = b := pf_f (by decide)
theorem pf_eq_n1_3 {a b : Prop} : pm_if ((-1 : Int32) = 3) a b = b := pf_f (by decide)
theorem pf_lt_n1_2 {a b : Prop} : pm_if ((-1 : Int32) < 2) a b = a := pf_t (by decide)
theorem pf_ge_n1 {a b : Prop} : pm_if (0 ≤ (-1 : Int32)) a b = b := pf_f (by decide)
theorem pf_eq_0_0 {a b : Prop} : pm_if ((0 : Int32) = 0) a b = a := pf_t (by decide)
theorem pf_eq_0_1 {a b : Prop} : pm_if ((0 : Int32) = 1) a b = b := pf_f (by decide)
theorem pf_eq_0_2 {a b : Prop} : pm_if ((0 : Int32) = 2) a b = b := pf_f (by decide)
theorem pf_eq_0_3 {a b : Prop} : pm_if ((0 : Int32) = 3) a b = b := pf_f (by decide)
theorem pf_lt_0_2 {a b : Prop} : pm_if ((0 : Int32) < 2) a b = a := pf_t (by decide)
theorem pf_ge_0 {a b : Prop} : pm_if (0 ≤ (0 : Int32)) a b = a := pf_t (by decide)
theorem pf_eq_1_0 {a b : Prop} : pm_if ((1 : Int32) = 0) a b = b := pf_f (by decide)
theorem pf_eq_1_1 {a b : Prop} : pm_if ((1 : Int32) = 1) a b = a := pf_t (by decide)
theorem pf_eq_1_2 {a b : Prop} : pm_if ((1 : Int32) = 2) a b = b := pf_f (by decide)
theorem pf_eq_1_3 {a b : Prop} : pm_if ((1 : Int32) = 3) a b = b := pf_f (by decide)
theorem pf_lt_1_2 {a b : Prop} : pm_if ((1 : Int32) < 2) a b = a := pf_t (by decide)
theorem pf_ge_1 {a b : Prop} : pm_if (0 ≤ (1 : Int32)) a b = a := pf_t (by decide)
theorem pf_eq_2_0 {a b : Prop} : pm_if ((2 : Int32) = 0) a b = b := pf_f (by decide)
theorem pf_eq_2_1 {a b : Prop} : pm_if ((2 : Int32) = 1) a b = b := pf_f (by decide)
theorem pf_eq_2_2 {a b : Prop} : pm_if ((2 : Int32) = 2) a b = a := pf_t (by decide)
theorem pf_eq_2_3 {a b : Prop} : pm_if ((2 : Int32) = 3) a b = b := pf_f (by decide)
theorem pf_lt_2_2 {a b : Prop} : pm_if ((2 : Int32) < 2) a b = b := pf_f (by decide)
theorem pf_ge_2 {a b : Prop} : pm_if (0 ≤ (2 : Int32)) a b = a := pf_t (by decide)
theorem pf_eq_3_0 {a b : Prop} : pm_if ((3 : Int32) = 0) a b = b := pf_f (by decide)
theorem pf_eq_3_1 {a b : Prop} : pm_if ((3 : Int32) = 1) a b = b := pf_f (by decide)
theorem pf_eq_3_2 {a b : Prop} : pm_if ((3 : Int32) = 2) a b = b := pf_f (by decide)
theorem pf_eq_3_3 {a b : Prop} : pm_if ((3 : Int32) = 3) a b = a := pf_t (by decide)
theorem pf_lt_3_2 {a b : Prop} : pm_if ((3 : Int32) < 2) a b = b := pf_f (by decide)
theorem pf_ge_3 {a b : Prop} : pm_if (0 ≤ (3 : Int32)) a b = a := pf_t (by decide)
theorem pf_eq_4_0 {a b : Prop} : pm_if ((4 : Int32) = 0) a b = b := pf_f (by decide)
theorem pf_eq_4_1 {a b : Prop} : pm_if ((4 : Int32) = 1) a b = b := pf_f (by decide)
theorem pf_eq_4_2 {a b : Prop} : pm_if ((4 : Int32) = 2) a b = b := pf_f (by decide)
theorem pf_eq_4_3 {a b : Prop} : pm_if ((4 : Int32) = 3) a b = b := pf_f (by decide)
theorem pf_lt_4_2 {a b : Prop} : pm_if ((4 : Int32) < 2) a b = b := pf_f (by decide)
theorem pf_ge_4 {a b : Prop} : pm_if (0 ≤ (4 : Int32)) a b = a := pf_t (by decide)
theorem pf_eq_5_0 {a b : Prop} : pm_if ((5 : Int32) = 0) a b = b := pf_f (by decide)
theorem pf_eq_5_1 {a b : Prop} : pm_if ((5 : Int32) = 1) a b = b := pf_f (by decide)
theorem pf_eq_5_2 {a b : Prop} : pm_if ((5 : Int32) = 2) a b = b := pf_f (by decide)
theorem pf_eq_5_3 {a b : Prop} : pm_if ((5 : Int32) = 3) a b = b := pf_f (by decide)
theorem pf_lt_5_2 {a b : Prop} : pm_if ((5 : Int32) < 2) a b = b := pf_f (by decide)
theorem pf_ge_5 {a b : Prop} : pm_if (0 ≤ (5 : Int32)) a b = a := pf_t (by decide)
theorem pf_eq_6_0 {a b : Prop} : pm_if ((6 : Int32) = 0) a b = b := pf_f (by decide)
theorem pf_eq_6_1 {a b : Prop} : pm_if ((6 : Int32) = 1) a b = b := pf_f (by decide)
theorem pf_eq_6_2 {a b : Prop} : pm_if ((6 : Int32) = 2) a b = b := pf_f (by decide)
theorem pf_eq_6_3 {a b : Prop} : pm_if ((6 : Int32) = 3) a b = b := pf_f (by decide)
theorem pf_lt_6_2 {a b : Prop} : pm_if ((6 : Int32) < 2) a b = b := pf_f (by decide)
theorem pf_ge_6 {a b : Prop} : pm_if (0 ≤ (6 : Int32)) a b = a := pf_t (by decide)
theorem pf_eq_7_0 {a b : Prop} : pm_if ((7 : Int32) = 0) a b = b := pf_f (by decide)
theorem pf_eq_7_1 {a b : Prop} : pm_if ((7 : Int32) = 1) a b = b := pf_f (by decide)
theorem pf_eq_7_2 {a b : Prop} : pm_if ((7 : Int32) = 2) a b = b := pf_f (by decide)
theorem pf_eq_7_3 {a b : Prop} : pm_if ((7 : Int32) = 3) a b = b := pf_f (by decide)
theorem pf_lt_7_2 {a b : Prop} : pm_if ((7 : Int32) < 2) a b = b := pf_f (by decide)
theorem pf_ge_7 {a b : Prop} : pm_if (0 ≤ (7 : Int32)) a b = a := pf_t (by decide)
def tk (b : Nat) : Int32 := if b = 97 then 1 else if b = 100 then 6 else if b = 108 then 4 else if b = 116 then 0 else if b = 119 then 2 else -1
theorem sg_is {b c : Nat} (hb : b ≤ 256) (hc : c < 256) : sg b = Int32.ofNat c ↔ b = c := by
  unfold sg
  by_cases h : b = 256
  · rw [if_pos h]
    refine ⟨fun z => ?_, fun z => by omega⟩
    exfalso
    have : (-1 : Int32) = nI c := z
    exact absurd (show (-1 : Int32) < 0 by decide) (by rw [this]; exact nI_pos (by omega))
  · rw [if_neg h]; exact nI_eq (by omega) (by omega)
theorem gx_b_le {S : pm_S} {p n : Nat} (h : rd S p n) (k : Nat) : gx_b (pm_i S 6) n k ≤ 256 := by
  by_cases hk : k < n
  · have := (rd_at h hk).2.2; omega
  · rw [gx_b_end (by omega)]; omega
theorem rd_52 {G : pm_G} {d b : Nat} {S : pm_S} {q : Int32 → pm_S → Prop} (hb : b ≤ 256) (h : q (tk b) S) : pm_CI G d 52 [.int (sg b)] S q := by
  unfold tk at h
  refine pm_goI 52 40 pb_c52 (by decide) (Nat.le_of_ble_eq_true rfl) rfl ?_
  try simp only [show pm_mL 52 = 1 from rfl, pm_WI0, pm_WI1, pm_WI2, pm_WI3, pm_WI4, pm_WI5, pm_WV, pm_WW, pm_WX, pb_B52, pm_if, pm_QI_at, pm_QL_at, pm_QV_at, pm_QR_at, pm_QR_at0, pm_QR_at1, Nat.reduceSub, Nat.reduceAdd, List.replicate_zero, List.replicate_succ, true_and, and_true, true_or, or_true, and_self, reduceIte, Nat.reduceEqDiff, Nat.reduceLT, Nat.reduceLeDiff, Nat.reduceMul, false_and, and_false, reduceCtorEq, false_or, or_false, not_true_eq_false, not_false_eq_true, true_implies, false_implies, implies_true, lf_10, eq_self, Int32.reduceLT, Int32.reduceLE, Int32.reduceAdd, Int32.reduceSub, Int32.reduceDiv, Int32.reduceMul]
  refine ⟨fun z => ?_, fun z => ⟨fun z1 => ?_, fun z1 => ⟨fun z2 => ?_, fun z2 => ⟨fun z3 => ?_, fun z3 => ⟨fun z4 => ?_, fun z4 => ?_⟩⟩⟩⟩⟩ <;> simp only [sg_is hb (show 97 < 256 by omega), sg_is hb (show 100 < 256 by omega), sg_is hb (show 108 < 256 by omega), sg_is hb (show 116 < 256 by omega), sg_is hb (show 119 < 256 by omega)] at *
  · rw [if_pos z] at h; exact h
  · rw [if_neg z, if_pos z1] at h; exact h
  · rw [if_neg z, if_neg z1, if_pos z2] at h; exact h
  · rw [if_neg z, if_neg z1, if_neg z2, if_pos z3] at h; exact h
  · rw [if_neg z, if_neg z1, if_neg z2, if_neg z3, if_pos z4] at h; exact h
  · rw [if_neg z, if_neg z1, if_neg z2, if_neg z3, if_neg z4] at h; exact h
theorem rd_53_0 {G : pm_G} {d : Nat} {S : pm_S} {q : Int32 → pm_S → Prop} (h : q 1 S) : pm_CI G d 53 [.int 0] S q := by
  refine pm_goI 53 40 pb_c53 (by decide) (Nat.le_of_ble_eq_true rfl) rfl ?_
  try simp only [show pm_mL 53 = 1 from rfl, pm_WI0, pm_WI1, pm_WI2, pm_WI3, pm_WI4, pm_WI5, pm_WV, pm_WW, pm_WX, pb_B53, pm_if, pm_QI_at, pm_QL_at, pm_QV_at, pm_QR_at, pm_QR_at0, pm_QR_at1, Nat.reduceSub, Nat.reduceAdd, List.replicate_zero, List.replicate_succ, true_and, and_true, true_or, or_true, and_self, reduceIte, Nat.reduceEqDiff, Nat.reduceLT, Nat.reduceLeDiff, Nat.reduceMul, false_and, and_false, reduceCtorEq, false_or, or_false, not_true_eq_false, not_false_eq_true, true_implies, false_implies, implies_true, lf_10, eq_self, Int32.reduceLT, Int32.reduceLE, Int32.reduceAdd, Int32.reduceSub, Int32.reduceDiv, Int32.reduceMul, sw_e]
  all_goals first | exact h | (refine ⟨fun z => ?_, fun z => ?_⟩ <;> first | exact h | exact absurd z (by decide)) | exact ⟨fun z => absurd z (by decide), fun _ => ⟨fun z => absurd z (by decide), fun _ => ⟨fun z => absurd z (by decide), fun _ => h⟩⟩⟩
theorem rd_53_2 {G : pm_G} {d : Nat} {S : pm_S} {q : Int32 → pm_S → Prop} (h : q 2 S) : pm_CI G d 53 [.int 2] S q := by
  refine pm_goI 53 40 pb_c53 (by decide) (Nat.le_of_ble_eq_true rfl) rfl ?_
  try simp only [show pm_mL 53 = 1 from rfl, pm_WI0, pm_WI1, pm_WI2, pm_WI3, pm_WI4, pm_WI5, pm_WV, pm_WW, pm_WX, pb_B53, pm_if, pm_QI_at, pm_QL_at, pm_QV_at, pm_QR_at, pm_QR_at0, pm_QR_at1, Nat.reduceSub, Nat.reduceAdd, List.replicate_zero, List.replicate_succ, true_and, and_true, true_or, or_true, and_self, reduceIte, Nat.reduceEqDiff, Nat.reduceLT, Nat.reduceLeDiff, Nat.reduceMul, false_and, and_false, reduceCtorEq, false_or, or_false, not_true_eq_false, not_false_eq_true, true_implies, false_implies, implies_true, lf_10, eq_self, Int32.reduceLT, Int32.reduceLE, Int32.reduceAdd, Int32.reduceSub, Int32.reduceDiv, Int32.reduceMul, sw_e]
  all_goals first | exact h | (refine ⟨fun z => ?_, fun z => ?_⟩ <;> first | exact h | exact absurd z (by decide)) | exact ⟨fun z => absurd z (by decide), fun _ => ⟨fun z => absurd z (by decide), fun _ => ⟨fun z => absurd z (by decide), fun _ => h⟩⟩⟩
theorem rd_53_3 {G : pm_G} {d : Nat} {S : pm_S} {q : Int32 → pm_S → Prop} (h : q 2 S) : pm_CI G d 53 [.int 3] S q := by
  refine pm_goI 53 40 pb_c53 (by decide) (Nat.le_of_ble_eq_true rfl) rfl ?_
  try simp only [show pm_mL 53 = 1 from rfl, pm_WI0, pm_WI1, pm_WI2, pm_WI3, pm_WI4, pm_WI5, pm_WV, pm_WW, pm_WX, pb_B53, pm_if, pm_QI_at, pm_QL_at, pm_QV_at, pm_QR_at, pm_QR_at0, pm_QR_at1, Nat.reduceSub, Nat.reduceAdd, List.replicate_zero, List.replicate_succ, true_and, and_true, true_or, or_true, and_self, reduceIte, Nat.reduceEqDiff, Nat.reduceLT, Nat.reduceLeDiff, Nat.reduceMul, false_and, and_false, reduceCtorEq, false_or, or_false, not_true_eq_false, not_false_eq_true, true_implies, false_implies, implies_true, lf_10, eq_self, Int32.reduceLT, Int32.reduceLE, Int32.reduceAdd, Int32.reduceSub, Int32.reduceDiv, Int32.reduceMul, sw_e]
  all_goals first | exact h | (refine ⟨fun z => ?_, fun z => ?_⟩ <;> first | exact h | exact absurd z (by decide)) | exact ⟨fun z => absurd z (by decide), fun _ => ⟨fun z => absurd z (by decide), fun _ => ⟨fun z => absurd z (by decide), fun _ => h⟩⟩⟩
theorem rd_53_4 {G : pm_G} {d : Nat} {S : pm_S} {q : Int32 → pm_S → Prop} (h : q 4 S) : pm_CI G d 53 [.int 4] S q := by
  refine pm_goI 53 40 pb_c53 (by decide) (Nat.le_of_ble_eq_true rfl) rfl ?_
  try simp only [show pm_mL 53 = 1 from rfl, pm_WI0, pm_WI1, pm_WI2, pm_WI3, pm_WI4, pm_WI5, pm_WV, pm_WW, pm_WX, pb_B53, pm_if, pm_QI_at, pm_QL_at, pm_QV_at, pm_QR_at, pm_QR_at0, pm_QR_at1, Nat.reduceSub, Nat.reduceAdd, List.replicate_zero, List.replicate_succ, true_and, and_true, true_or, or_true, and_self, reduceIte, Nat.reduceEqDiff, Nat.reduceLT, Nat.reduceLeDiff, Nat.reduceMul, false_and, and_false, reduceCtorEq, false_or, or_false, not_true_eq_false, not_false_eq_true, true_implies, false_implies, implies_true, lf_10, eq_self, Int32.reduceLT, Int32.reduceLE, Int32.reduceAdd, Int32.reduceSub, Int32.reduceDiv, Int32.reduceMul, sw_e]
  all_goals first | exact h | (refine ⟨fun z => ?_, fun z => ?_⟩ <;> first | exact h | exact absurd z (by decide)) | exact ⟨fun z => absurd z (by decide), fun _ => ⟨fun z => absurd z (by decide), fun _ => ⟨fun z => absurd z (by decide), fun _ => h⟩⟩⟩
theorem rd_53_5 {G : pm_G} {d : Nat} {S : pm_S} {q : Int32 → pm_S → Prop} (h : q 4 S) : pm_CI G d 53 [.int 5] S q := by
  refine pm_goI 53 40 pb_c53 (by decide) (Nat.le_of_ble_eq_true rfl) rfl ?_
  try simp only [show pm_mL 53 = 1 from rfl, pm_WI0, pm_WI1, pm_WI2, pm_WI3, pm_WI4, pm_WI5, pm_WV, pm_WW, pm_WX, pb_B53, pm_if, pm_QI_at, pm_QL_at, pm_QV_at, pm_QR_at, pm_QR_at0, pm_QR_at1, Nat.reduceSub, Nat.reduceAdd, List.replicate_zero, List.replicate_succ, true_and, and_true, true_or, or_true, and_self, reduceIte, Nat.reduceEqDiff, Nat.reduceLT, Nat.reduceLeDiff, Nat.reduceMul, false_and, and_false, reduceCtorEq, false_or, or_false, not_true_eq_false, not_false_eq_true, true_implies, false_implies, implies_true, lf_10, eq_self, Int32.reduceLT, Int32.reduceLE, Int32.reduceAdd, Int32.reduceSub, Int32.reduceDiv, Int32.reduceMul, sw_e]
  all_goals first | exact h | (refine ⟨fun z => ?_, fun z => ?_⟩ <;> first | exact h | exact absurd z (by decide)) | exact ⟨fun z => absurd z (by decide), fun _ => ⟨fun z => absurd z (by decide), fun _ => ⟨fun z => absurd z (by decide), fun _ => h⟩⟩⟩
theorem rd_53_6 {G : pm_G} {d : Nat} {S : pm_S} {q : Int32 → pm_S → Prop} (h : q 4 S) : pm_CI G d 53 [.int 6] S q := by
  refine pm_goI 53 40 pb_c53 (by decide) (Nat.le_of_ble_eq_true rfl) rfl ?_
  try simp only [show pm_mL 53 = 1 from rfl, pm_WI0, pm_WI1, pm_WI2, pm_WI3, pm_WI4, pm_WI5, pm_WV, pm_WW, pm_WX, pb_B53, pm_if, pm_QI_at, pm_QL_at, pm_QV_at, pm_QR_at, pm_QR_at0, pm_QR_at1, Nat.reduceSub, Nat.reduceAdd, List.replicate_zero, List.replicate_succ, true_and, and_true, true_or, or_true, and_self, reduceIte, Nat.reduceEqDiff, Nat.reduceLT, Nat.reduceLeDiff, Nat.reduceMul, false_and, and_false, reduceCtorEq, false_or, or_false, not_true_eq_false, not_false_eq_true, true_implies, false_implies, implies_true, lf_10, eq_self, Int32.reduceLT, Int32.reduceLE, Int32.reduceAdd, Int32.reduceSub, Int32.reduceDiv, Int32.reduceMul, sw_e]
  all_goals first | exact h | (refine ⟨fun z => ?_, fun z => ?_⟩ <;> first | exact h | exact absurd z (by decide)) | exact ⟨fun z => absurd z (by decide), fun _ => ⟨fun z => absurd z (by decide), fun _ => ⟨fun z => absurd z (by decide), fun _ => h⟩⟩⟩
theorem rd_53_7 {G : pm_G} {d : Nat} {S : pm_S} {q : Int32 → pm_S → Prop} (h : q 4 S) : pm_CI G d 53 [.int 7] S q := by
  refine pm_goI 53 40 pb_c53 (by decide) (Nat.le_of_ble_eq_true rfl) rfl ?_
  try simp only [show pm_mL 53 = 1 from rfl, pm_WI0, pm_WI1, pm_WI2, pm_WI3, pm_WI4, pm_WI5, pm_WV, pm_WW, pm_WX, pb_B53, pm_if, pm_QI_at, pm_QL_at, pm_QV_at, pm_QR_at, pm_QR_at0, pm_QR_at1, Nat.reduceSub, Nat.reduceAdd, List.replicate_zero, List.replicate_succ, true_and, and_true, true_or, or_true, and_self, reduceIte, Nat.reduceEqDiff, Nat.reduceLT, Nat.reduceLeDiff, Nat.reduceMul, false_and, and_false, reduceCtorEq, false_or, or_false, not_true_eq_false, not_false_eq_true, true_implies, false_implies, implies_true, lf_10, eq_self, Int32.reduceLT, Int32.reduceLE, Int32.reduceAdd, Int32.reduceSub, Int32.reduceDiv, Int32.reduceMul, sw_e]
  all_goals first | exact h | (refine ⟨fun z => ?_, fun z => ?_⟩ <;> first | exact h | exact absurd z (by decide)) | exact ⟨fun z => absurd z (by decide), fun _ => ⟨fun z => absurd z (by decide), fun _ => ⟨fun z => absurd z (by decide), fun _ => h⟩⟩⟩
theorem rd_48_01 {G : pm_G} {d : Nat} {S : pm_S} {p n : Nat} {q : Int32 → pm_S → Prop} (hS : Sh S) (hr : rd S p n) (h1 : ∀ r v, gx_num (gx_b (pm_i S 6) n) 0 1 p = (r, some v) → p < r → r ≤ n → v < 10 ^ 1 → q (nI v) (pm_wI S 5 2 (nI r))) (h0 : gx_num (gx_b (pm_i S 6) n) 0 1 p = (p, none) → q (-1) S) : pm_CI G d 48 [.ref 5, .int 0, .int 1] S q :=
  rd_48 (least := 0) (most := 1) hS hr (by omega) (by omega) (by omega) h1 h0
theorem rd_48_02 {G : pm_G} {d : Nat} {S : pm_S} {p n : Nat} {q : Int32 → pm_S → Prop} (hS : Sh S) (hr : rd S p n) (h1 : ∀ r v, gx_num (gx_b (pm_i S 6) n) 0 2 p = (r, some v) → p < r → r ≤ n → v < 10 ^ 2 → q (nI v) (pm_wI S 5 2 (nI r))) (h0 : gx_num (gx_b (pm_i S 6) n) 0 2 p = (p, none) → q (-1) S) : pm_CI G d 48 [.ref 5, .int 0, .int 2] S q :=
  rd_48 (least := 0) (most := 2) hS hr (by omega) (by omega) (by omega) h1 h0
theorem rd_48_04 {G : pm_G} {d : Nat} {S : pm_S} {p n : Nat} {q : Int32 → pm_S → Prop} (hS : Sh S) (hr : rd S p n) (h1 : ∀ r v, gx_num (gx_b (pm_i S 6) n) 0 4 p = (r, some v) → p < r → r ≤ n → v < 10 ^ 4 → q (nI v) (pm_wI S 5 2 (nI r))) (h0 : gx_num (gx_b (pm_i S 6) n) 0 4 p = (p, none) → q (-1) S) : pm_CI G d 48 [.ref 5, .int 0, .int 4] S q :=
  rd_48 (least := 0) (most := 4) hS hr (by omega) (by omega) (by omega) h1 h0
theorem rd_48_11 {G : pm_G} {d : Nat} {S : pm_S} {p n : Nat} {q : Int32 → pm_S → Prop} (hS : Sh S) (hr : rd S p n) (h1 : ∀ r v, gx_num (gx_b (pm_i S 6) n) 1 1 p = (r, some v) → p < r → r ≤ n → v < 10 ^ 1 → q (nI v) (pm_wI S 5 2 (nI r))) (h0 : gx_num (gx_b (pm_i S 6) n) 1 1 p = (p, none) → q (-1) S) : pm_CI G d 48 [.ref 5, .int 1, .int 1] S q :=
  rd_48 (least := 1) (most := 1) hS hr (by omega) (by omega) (by omega) h1 h0
theorem rd_48_14 {G : pm_G} {d : Nat} {S : pm_S} {p n : Nat} {q : Int32 → pm_S → Prop} (hS : Sh S) (hr : rd S p n) (h1 : ∀ r v, gx_num (gx_b (pm_i S 6) n) 1 4 p = (r, some v) → p < r → r ≤ n → v < 10 ^ 4 → q (nI v) (pm_wI S 5 2 (nI r))) (h0 : gx_num (gx_b (pm_i S 6) n) 1 4 p = (p, none) → q (-1) S) : pm_CI G d 48 [.ref 5, .int 1, .int 4] S q :=
  rd_48 (least := 1) (most := 4) hS hr (by omega) (by omega) (by omega) h1 h0
theorem rd51_127_0 {G : pm_G} {d : Nat} {S0 S : pm_S} {D r n : Nat} {W : Nat → Nat} {L : gx_L} {q : Int32 → pm_S → Prop} (hd : 6 ≤ d) (hS0 : Sh S0) (hd0 : dl S0 D W) (hr : rs S0 D W n S r L) {h : Int32} {s m : Nat} (hl : L.2.2.length < 160) (hs : s < 16) (hm : m < 10000) (h1 : ∀ S', rs S0 D W n S' r (L.1, L.2.1, L.2.2 ++ [gx_st 0 s m]) → q 1 S') : pm_W G d 51 (pm_QI q) 127 [.ref 5, .int 0, .int h, .int (nI s), .int (nI m)] [] S 0 0 := by
  have hS := hr.sh hS0
  have hdl := hr.todl hd0
  have ht := hr.text hd0
  have hr3 := hr.2.2.1
  have hn := hr3.2.2.2.1
  have hpn := hr3.2.2.1
  have hp5 : pm_i S 5 2 = nI r := hr3.1
  have hr5 : pm_r S 5 3 = some D := hdl.1
  have hkD : pm_k S D = 5 := hdl.2.1
  have rB : gx_b (pm_i S 6) n = gx_b (pm_i S0 6) n := by rw [ht]
  refine pm_wb_ok pb_c51 3 127 0 _ _ _ _ _ ?_
  try simp only [pm_WI0, pm_WI1, pm_WI2, pm_WI3, pm_WI4, pm_WI5, pm_WV, pm_WW, pm_WX, pb_B51, pm_if, pm_QI_at, pm_QL_at, pm_QV_at, pm_QR_at, pm_QR_at0, pm_QR_at1, Nat.reduceSub, Nat.reduceAdd, List.replicate_zero, List.replicate_succ, true_and, and_true, true_or, or_true, and_self, reduceIte, Nat.reduceEqDiff, Nat.reduceLT, Nat.reduceLeDiff, Nat.reduceMul, false_and, and_false, reduceCtorEq, false_or, or_false, not_true_eq_false, not_false_eq_true, true_implies, false_implies, implies_true, lf_10, eq_self, Int32.reduceLT, Int32.reduceLE, Int32.reduceAdd, Int32.reduceSub, Int32.reduceDiv, Int32.reduceMul, pm_same, pm_i_wI, pm_l_wL, pm_l_wM, pm_oR_rf, pm_oQ_rf, sh_k5 hS, nI_1, pm_wI_wI, sw_e, LQ1, LQ2, hp5, hr5, hkD]
  exact ⟨by omega, rd_38 (k := 0) hd0 hr hl (by omega) hs hm h1⟩
theorem rd51_127_1 {G : pm_G} {d : Nat} {S0 S : pm_S} {D r n : Nat} {W : Nat → Nat} {L : gx_L} {q : Int32 → pm_S → Prop} (hd : 6 ≤ d) (hS0 : Sh S0) (hd0 : dl S0 D W) (hr : rs S0 D W n S r L) {h : Int32} {s m : Nat} (hl : L.2.2.length < 160) (hs : s < 16) (hm : m < 10000) (h1 : ∀ S', rs S0 D W n S' r (L.1, L.2.1, L.2.2 ++ [gx_st 1 s m]) → q 1 S') : pm_W G d 51 (pm_QI q) 127 [.ref 5, .int 1, .int h, .int (nI s), .int (nI m)] [] S 0 0 := by
  have hS := hr.sh hS0
  have hdl := hr.todl hd0
  have ht := hr.text hd0
  have hr3 := hr.2.2.1
  have hn := hr3.2.2.2.1
  have hpn := hr3.2.2.1
  have hp5 : pm_i S 5 2 = nI r := hr3.1
  have hr5 : pm_r S 5 3 = some D := hdl.1
  have hkD : pm_k S D = 5 := hdl.2.1
  have rB : gx_b (pm_i S 6) n = gx_b (pm_i S0 6) n := by rw [ht]
  refine pm_wb_ok pb_c51 3 127 0 _ _ _ _ _ ?_
  try simp only [pm_WI0, pm_WI1, pm_WI2, pm_WI3, pm_WI4, pm_WI5, pm_WV, pm_WW, pm_WX, pb_B51, pm_if, pm_QI_at, pm_QL_at, pm_QV_at, pm_QR_at, pm_QR_at0, pm_QR_at1, Nat.reduceSub, Nat.reduceAdd, List.replicate_zero, List.replicate_succ, true_and, and_true, true_or, or_true, and_self, reduceIte, Nat.reduceEqDiff, Nat.reduceLT, Nat.reduceLeDiff, Nat.reduceMul, false_and, and_false, reduceCtorEq, false_or, or_false, not_true_eq_false, not_false_eq_true, true_implies, false_implies, implies_true, lf_10, eq_self, Int32.reduceLT, Int32.reduceLE, Int32.reduceAdd, Int32.reduceSub, Int32.reduceDiv, Int32.reduceMul, pm_same, pm_i_wI, pm_l_wL, pm_l_wM, pm_oR_rf, pm_oQ_rf, sh_k5 hS, nI_1, pm_wI_wI, sw_e, LQ1, LQ2, hp5, hr5, hkD]
  exact ⟨by omega, rd_38 (k := 1) hd0 hr hl (by omega) hs hm h1⟩
theorem rd51_127_2 {G : pm_G} {d : Nat} {S0 S : pm_S} {D r n : Nat} {W : Nat → Nat} {L : gx_L} {q : Int32 → pm_S → Prop} (hd : 6 ≤ d) (hS0 : Sh S0) (hd0 : dl S0 D W) (hr : rs S0 D W n S r L) {h : Int32} {s m : Nat} (hl : L.2.2.length < 160) (hs : s < 16) (hm : m < 10000) (h1 : ∀ S', rs S0 D W n S' r (L.1, L.2.1, L.2.2 ++ [gx_st 2 s m]) → q 1 S') : pm_W G d 51 (pm_QI q) 127 [.ref 5, .int 2, .int h, .int (nI s), .int (nI m)] [] S 0 0 := by
  have hS := hr.sh hS0
  have hdl := hr.todl hd0
  have ht := hr.text hd0
  have hr3 := hr.2.2.1
  have hn := hr3.2.2.2.1
  have hpn := hr3.2.2.1
  have hp5 : pm_i S 5 2 = nI r := hr3.1
  have hr5 : pm_r S 5 3 = some D := hdl.1
  have hkD : pm_k S D = 5 := hdl.2.1
  have rB : gx_b (pm_i S 6) n = gx_b (pm_i S0 6) n := by rw [ht]
  refine pm_wb_ok pb_c51 3 127 0 _ _ _ _ _ ?_
  try simp only [pm_WI0, pm_WI1, pm_WI2, pm_WI3, pm_WI4, pm_WI5, pm_WV, pm_WW, pm_WX, pb_B51, pm_if, pm_QI_at, pm_QL_at, pm_QV_at, pm_QR_at, pm_QR_at0, pm_QR_at1, Nat.reduceSub, Nat.reduceAdd, List.replicate_zero, List.replicate_succ, true_and, and_true, true_or, or_true, and_self, reduceIte, Nat.reduceEqDiff, Nat.reduceLT, Nat.reduceLeDiff, Nat.reduceMul, false_and, and_false, reduceCtorEq, false_or, or_false, not_true_eq_false, not_false_eq_true, true_implies, false_implies, implies_true, lf_10, eq_self, Int32.reduceLT, Int32.reduceLE, Int32.reduceAdd, Int32.reduceSub, Int32.reduceDiv, Int32.reduceMul, pm_same, pm_i_wI, pm_l_wL, pm_l_wM, pm_oR_rf, pm_oQ_rf, sh_k5 hS, nI_1, pm_wI_wI, sw_e, LQ1, LQ2, hp5, hr5, hkD]
  exact ⟨by omega, rd_38 (k := 2) hd0 hr hl (by omega) hs hm h1⟩
theorem rd51_127_3 {G : pm_G} {d : Nat} {S0 S : pm_S} {D r n : Nat} {W : Nat → Nat} {L : gx_L} {q : Int32 → pm_S → Prop} (hd : 6 ≤ d) (hS0 : Sh S0) (hd0 : dl S0 D W) (hr : rs S0 D W n S r L) {h : Int32} {s m : Nat} (hl : L.2.2.length < 160) (hs : s < 16) (hm : m < 10000) (h1 : ∀ S', rs S0 D W n S' r (L.1, L.2.1, L.2.2 ++ [gx_st 3 s m]) → q 1 S') : pm_W G d 51 (pm_QI q) 127 [.ref 5, .int 3, .int h, .int (nI s), .int (nI m)] [] S 0 0 := by
  have hS := hr.sh hS0
  have hdl := hr.todl hd0
  have ht := hr.text hd0
  have hr3 := hr.2.2.1
  have hn := hr3.2.2.2.1
  have hpn := hr3.2.2.1
  have hp5 : pm_i S 5 2 = nI r := hr3.1
  have hr5 : pm_r S 5 3 = some D := hdl.1
  have hkD : pm_k S D = 5 := hdl.2.1
  have rB : gx_b (pm_i S 6) n = gx_b (pm_i S0 6) n := by rw [ht]
  refine pm_wb_ok pb_c51 3 127 0 _ _ _ _ _ ?_
  try simp only [pm_WI0, pm_WI1, pm_WI2, pm_WI3, pm_WI4, pm_WI5, pm_WV, pm_WW, pm_WX, pb_B51, pm_if, pm_QI_at, pm_QL_at, pm_QV_at, pm_QR_at, pm_QR_at0, pm_QR_at1, Nat.reduceSub, Nat.reduceAdd, List.replicate_zero, List.replicate_succ, true_and, and_true, true_or, or_true, and_self, reduceIte, Nat.reduceEqDiff, Nat.reduceLT, Nat.reduceLeDiff, Nat.reduceMul, false_and, and_false, reduceCtorEq, false_or, or_false, not_true_eq_false, not_false_eq_true, true_implies, false_implies, implies_true, lf_10, eq_self, Int32.reduceLT, Int32.reduceLE, Int32.reduceAdd, Int32.reduceSub, Int32.reduceDiv, Int32.reduceMul, pm_same, pm_i_wI, pm_l_wL, pm_l_wM, pm_oR_rf, pm_oQ_rf, sh_k5 hS, nI_1, pm_wI_wI, sw_e, LQ1, LQ2, hp5, hr5, hkD]
  exact ⟨by omega, rd_38 (k := 3) hd0 hr hl (by omega) hs hm h1⟩
theorem rd51_127_4 {G : pm_G} {d : Nat} {S0 S : pm_S} {D r n : Nat} {W : Nat → Nat} {L : gx_L} {q : Int32 → pm_S → Prop} (hd : 6 ≤ d) (hS0 : Sh S0) (hd0 : dl S0 D W) (hr : rs S0 D W n S r L) {h : Int32} {s m : Nat} (hl : L.2.2.length < 160) (hs : s < 16) (hm : m < 10000) (h1 : ∀ S', rs S0 D W n S' r (L.1, L.2.1, L.2.2 ++ [gx_st 4 s m]) → q 1 S') : pm_W G d 51 (pm_QI q) 127 [.ref 5, .int 4, .int h, .int (nI s), .int (nI m)] [] S 0 0 := by
  have hS := hr.sh hS0
  have hdl := hr.todl hd0
  have ht := hr.text hd0
  have hr3 := hr.2.2.1
  have hn := hr3.2.2.2.1
  have hpn := hr3.2.2.1
  have hp5 : pm_i S 5 2 = nI r := hr3.1
  have hr5 : pm_r S 5 3 = some D := hdl.1
  have hkD : pm_k S D = 5 := hdl.2.1
  have rB : gx_b (pm_i S 6) n = gx_b (pm_i S0 6) n := by rw [ht]
  refine pm_wb_ok pb_c51 3 127 0 _ _ _ _ _ ?_
  try simp only [pm_WI0, pm_WI1, pm_WI2, pm_WI3, pm_WI4, pm_WI5, pm_WV, pm_WW, pm_WX, pb_B51, pm_if, pm_QI_at, pm_QL_at, pm_QV_at, pm_QR_at, pm_QR_at0, pm_QR_at1, Nat.reduceSub, Nat.reduceAdd, List.replicate_zero, List.replicate_succ, true_and, and_true, true_or, or_true, and_self, reduceIte, Nat.reduceEqDiff, Nat.reduceLT, Nat.reduceLeDiff, Nat.reduceMul, false_and, and_false, reduceCtorEq, false_or, or_false, not_true_eq_false, not_false_eq_true, true_implies, false_implies, implies_true, lf_10, eq_self, Int32.reduceLT, Int32.reduceLE, Int32.reduceAdd, Int32.reduceSub, Int32.reduceDiv, Int32.reduceMul, pm_same, pm_i_wI, pm_l_wL, pm_l_wM, pm_oR_rf, pm_oQ_rf, sh_k5 hS, nI_1, pm_wI_wI, sw_e, LQ1, LQ2, hp5, hr5, hkD]
  exact ⟨by omega, rd_38 (k := 4) hd0 hr hl (by omega) hs hm h1⟩
theorem rd51_127_5 {G : pm_G} {d : Nat} {S0 S : pm_S} {D r n : Nat} {W : Nat → Nat} {L : gx_L} {q : Int32 → pm_S → Prop} (hd : 6 ≤ d) (hS0 : Sh S0) (hd0 : dl S0 D W) (hr : rs S0 D W n S r L) {h : Int32} {s m : Nat} (hl : L.2.2.length < 160) (hs : s < 16) (hm : m < 10000) (h1 : ∀ S', rs S0 D W n S' r (L.1, L.2.1, L.2.2 ++ [gx_st 5 s m]) → q 1 S') : pm_W G d 51 (pm_QI q) 127 [.ref 5, .int 5, .int h, .int (nI s), .int (nI m)] [] S 0 0 := by
  have hS := hr.sh hS0
  have hdl := hr.todl hd0
  have ht := hr.text hd0
  have hr3 := hr.2.2.1
  have hn := hr3.2.2.2.1
  have hpn := hr3.2.2.1
  have hp5 : pm_i S 5 2 = nI r := hr3.1
  have hr5 : pm_r S 5 3 = some D := hdl.1
  have hkD : pm_k S D = 5 := hdl.2.1
  have rB : gx_b (pm_i S 6) n = gx_b (pm_i S0 6) n := by rw [ht]
  refine pm_wb_ok pb_c51 3 127 0 _ _ _ _ _ ?_
  try simp only [pm_WI0, pm_WI1, pm_WI2, pm_WI3, pm_WI4, pm_WI5, pm_WV, pm_WW, pm_WX, pb_B51, pm_if, pm_QI_at, pm_QL_at, pm_QV_at, pm_QR_at, pm_QR_at0, pm_QR_at1, Nat.reduceSub, Nat.reduceAdd, List.replicate_zero, List.replicate_succ, true_and, and_true, true_or, or_true, and_self, reduceIte, Nat.reduceEqDiff, Nat.reduceLT, Nat.reduceLeDiff, Nat.reduceMul, false_and, and_false, reduceCtorEq, false_or, or_false, not_true_eq_false, not_false_eq_true, true_implies, false_implies, implies_true, lf_10, eq_self, Int32.reduceLT, Int32.reduceLE, Int32.reduceAdd, Int32.reduceSub, Int32.reduceDiv, Int32.reduceMul, pm_same, pm_i_wI, pm_l_wL, pm_l_wM, pm_oR_rf, pm_oQ_rf, sh_k5 hS, nI_1, pm_wI_wI, sw_e, LQ1, LQ2, hp5, hr5, hkD]
  exact ⟨by omega, rd_38 (k := 5) hd0 hr hl (by omega) hs hm h1⟩
theorem rd51_127_6 {G : pm_G} {d : Nat} {S0 S : pm_S} {D r n : Nat} {W : Nat → Nat} {L : gx_L} {q : Int32 → pm_S → Prop} (hd : 6 ≤ d) (hS0 : Sh S0) (hd0 : dl S0 D W) (hr : rs S0 D W n S r L) {h : Int32} {s m : Nat} (hl : L.2.2.length < 160) (hs : s < 16) (hm : m < 10000) (h1 : ∀ S', rs S0 D W n S' r (L.1, L.2.1, L.2.2 ++ [gx_st 6 s m]) → q 1 S') : pm_W G d 51 (pm_QI q) 127 [.ref 5, .int 6, .int h, .int (nI s), .int (nI m)] [] S 0 0 := by
  have hS := hr.sh hS0
  have hdl := hr.todl hd0
  have ht := hr.text hd0
  have hr3 := hr.2.2.1
  have hn := hr3.2.2.2.1
  have hpn := hr3.2.2.1
  have hp5 : pm_i S 5 2 = nI r := hr3.1
  have hr5 : pm_r S 5 3 = some D := hdl.1
  have hkD : pm_k S D = 5 := hdl.2.1
  have rB : gx_b (pm_i S 6) n = gx_b (pm_i S0 6) n := by rw [ht]
  refine pm_wb_ok pb_c51 3 127 0 _ _ _ _ _ ?_
  try simp only [pm_WI0, pm_WI1, pm_WI2, pm_WI3, pm_WI4, pm_WI5, pm_WV, pm_WW, pm_WX, pb_B51, pm_if, pm_QI_at, pm_QL_at, pm_QV_at, pm_QR_at, pm_QR_at0, pm_QR_at1, Nat.reduceSub, Nat.reduceAdd, List.replicate_zero, List.replicate_succ, true_and, and_true, true_or, or_true, and_self, reduceIte, Nat.reduceEqDiff, Nat.reduceLT, Nat.reduceLeDiff, Nat.reduceMul, false_and, and_false, reduceCtorEq, false_or, or_false, not_true_eq_false, not_false_eq_true, true_implies, false_implies, implies_true, lf_10, eq_self, Int32.reduceLT, Int32.reduceLE, Int32.reduceAdd, Int32.reduceSub, Int32.reduceDiv, Int32.reduceMul, pm_same, pm_i_wI, pm_l_wL, pm_l_wM, pm_oR_rf, pm_oQ_rf, sh_k5 hS, nI_1, pm_wI_wI, sw_e, LQ1, LQ2, hp5, hr5, hkD]
  exact ⟨by omega, rd_38 (k := 6) hd0 hr hl (by omega) hs hm h1⟩
theorem rd51_127_7 {G : pm_G} {d : Nat} {S0 S : pm_S} {D r n : Nat} {W : Nat → Nat} {L : gx_L} {q : Int32 → pm_S → Prop} (hd : 6 ≤ d) (hS0 : Sh S0) (hd0 : dl S0 D W) (hr : rs S0 D W n S r L) {h : Int32} {s m : Nat} (hl : L.2.2.length < 160) (hs : s < 16) (hm : m < 10000) (h1 : ∀ S', rs S0 D W n S' r (L.1, L.2.1, L.2.2 ++ [gx_st 7 s m]) → q 1 S') : pm_W G d 51 (pm_QI q) 127 [.ref 5, .int 7, .int h, .int (nI s), .int (nI m)] [] S 0 0 := by
  have hS := hr.sh hS0
  have hdl := hr.todl hd0
  have ht := hr.text hd0
  have hr3 := hr.2.2.1
  have hn := hr3.2.2.2.1
  have hpn := hr3.2.2.1
  have hp5 : pm_i S 5 2 = nI r := hr3.1
  have hr5 : pm_r S 5 3 = some D := hdl.1
  have hkD : pm_k S D = 5 := hdl.2.1
  have rB : gx_b (pm_i S 6) n = gx_b (pm_i S0 6) n := by rw [ht]
  refine pm_wb_ok pb_c51 3 127 0 _ _ _ _ _ ?_
  try simp only [pm_WI0, pm_WI1, pm_WI2, pm_WI3, pm_WI4, pm_WI5, pm_WV, pm_WW, pm_WX, pb_B51, pm_if, pm_QI_at, pm_QL_at, pm_QV_at, pm_QR_at, pm_QR_at0, pm_QR_at1, Nat.reduceSub, Nat.reduceAdd, List.replicate_zero, List.replicate_succ, true_and, and_true, true_or, or_true, and_self, reduceIte, Nat.reduceEqDiff, Nat.reduceLT, Nat.reduceLeDiff, Nat.reduceMul, false_and, and_false, reduceCtorEq, false_or, or_false, not_true_eq_false, not_false_eq_true, true_implies, false_implies, implies_true, lf_10, eq_self, Int32.reduceLT, Int32.reduceLE, Int32.reduceAdd, Int32.reduceSub, Int32.reduceDiv, Int32.reduceMul, pm_same, pm_i_wI, pm_l_wL, pm_l_wM, pm_oR_rf, pm_oQ_rf, sh_k5 hS, nI_1, pm_wI_wI, sw_e, LQ1, LQ2, hp5, hr5, hkD]
  exact ⟨by omega, rd_38 (k := 7) hd0 hr hl (by omega) hs hm h1⟩
theorem rd51_100_1 {G : pm_G} {d : Nat} {S0 S : pm_S} {D r n : Nat} {W : Nat → Nat} {L : gx_L} {q : Int32 → pm_S → Prop} (hd : 6 ≤ d) (hS0 : Sh S0) (hd0 : dl S0 D W) (hr : rs S0 D W n S r L) {h : Int32} {s : Nat} {v : Value} (hl : L.2.2.length < 160) (hs : s < 16) (h1 : ∀ S', rs S0 D W n S' r (L.1, L.2.1, L.2.2 ++ [gx_st 1 s 0]) → q 1 S') : pm_W G d 51 (pm_QI q) 100 [.ref 5, .int 1, .int h, .int (nI s), v] [] S 0 0 := by
  have hS := hr.sh hS0
  have hdl := hr.todl hd0
  have ht := hr.text hd0
  have hr3 := hr.2.2.1
  have hn := hr3.2.2.2.1
  have hpn := hr3.2.2.1
  have hp5 : pm_i S 5 2 = nI r := hr3.1
  have hr5 : pm_r S 5 3 = some D := hdl.1
  have hkD : pm_k S D = 5 := hdl.2.1
  have rB : gx_b (pm_i S 6) n = gx_b (pm_i S0 6) n := by rw [ht]
  refine pm_wb_ok pb_c51 6 100 0 _ _ _ _ _ ?_
  try simp only [pm_WI0, pm_WI1, pm_WI2, pm_WI3, pm_WI4, pm_WI5, pm_WV, pm_WW, pm_WX, pb_B51, pm_if, pm_QI_at, pm_QL_at, pm_QV_at, pm_QR_at, pm_QR_at0, pm_QR_at1, Nat.reduceSub, Nat.reduceAdd, List.replicate_zero, List.replicate_succ, true_and, and_true, true_or, or_true, and_self, reduceIte, Nat.reduceEqDiff, Nat.reduceLT, Nat.reduceLeDiff, Nat.reduceMul, false_and, and_false, reduceCtorEq, false_or, or_false, not_true_eq_false, not_false_eq_true, true_implies, false_implies, implies_true, lf_10, eq_self, Int32.reduceLT, Int32.reduceLE, Int32.reduceAdd, Int32.reduceSub, Int32.reduceDiv, Int32.reduceMul, pm_same, pm_i_wI, pm_l_wL, pm_l_wM, pm_oR_rf, pm_oQ_rf, sh_k5 hS, nI_1, pm_wI_wI, sw_e, LQ1, LQ2, hp5, hr5, hkD]
  exact ⟨by omega, rd_38 (k := 1) (m := 0) hd0 hr hl (by omega) hs (by omega) h1⟩
theorem rd51_100_0 {G : pm_G} {d : Nat} {S0 S : pm_S} {D r n : Nat} {W : Nat → Nat} {L : gx_L} {q : Int32 → pm_S → Prop} (hd : 6 ≤ d) (hS0 : Sh S0) (hd0 : dl S0 D W) (hr : rs S0 D W n S r L) {h : Int32} {s : Nat} {v : Value} (hl : L.2.2.length < r) (hs : s < 16) (h1 : ∀ x m S', gx_num (gx_b (pm_i S0 6) n) 0 1 r = (x, some m) → rs S0 D W n S' x (L.1, L.2.1, L.2.2 ++ [gx_st 0 s m]) → q 1 S') (h0 : gx_num (gx_b (pm_i S0 6) n) 0 1 r = (r, none) → q 0 S) : pm_W G d 51 (pm_QI q) 100 [.ref 5, .int 0, .int h, .int (nI s), v] [] S 0 0 := by
  have hS := hr.sh hS0
  have hdl := hr.todl hd0
  have ht := hr.text hd0
  have hr3 := hr.2.2.1
  have hn := hr3.2.2.2.1
  have hpn := hr3.2.2.1
  have hp5 : pm_i S 5 2 = nI r := hr3.1
  have hr5 : pm_r S 5 3 = some D := hdl.1
  have hkD : pm_k S D = 5 := hdl.2.1
  have rB : gx_b (pm_i S 6) n = gx_b (pm_i S0 6) n := by rw [ht]
  refine pm_wb_ok pb_c51 2 100 0 _ _ _ _ _ ?_
  try simp only [pm_WI0, pm_WI1, pm_WI2, pm_WI3, pm_WI4, pm_WI5, pm_WV, pm_WW, pm_WX, pb_B51, pm_if, pm_QI_at, pm_QL_at, pm_QV_at, pm_QR_at, pm_QR_at0, pm_QR_at1, Nat.reduceSub, Nat.reduceAdd, List.replicate_zero, List.replicate_succ, true_and, and_true, true_or, or_true, and_self, reduceIte, Nat.reduceEqDiff, Nat.reduceLT, Nat.reduceLeDiff, Nat.reduceMul, false_and, and_false, reduceCtorEq, false_or, or_false, not_true_eq_false, not_false_eq_true, true_implies, false_implies, implies_true, lf_10, eq_self, Int32.reduceLT, Int32.reduceLE, Int32.reduceAdd, Int32.reduceSub, Int32.reduceDiv, Int32.reduceMul, pm_same, pm_i_wI, pm_l_wL, pm_l_wM, pm_oR_rf, pm_oQ_rf, sh_k5 hS, nI_1, pm_wI_wI, sw_e, LQ1, LQ2, hp5, hr5, hkD]
  refine ⟨by omega, rd_53_0 ⟨by omega, sh_k5 hS, rd_48_01 (n := n) hS hr3 (fun x m hv1 hv2 hv3 hv4 => ?_) (fun hv => ?_)⟩⟩ <;> rw [rB] at *
  · have hm0 : ¬ nI m < 0 := nI_pos (by omega)
    have hge : 0 ≤ nI m := nI_pos' (by omega)
    try simp only [pm_WV, pm_WW, true_and, and_true, true_or, or_true, and_self, reduceIte, Nat.reduceEqDiff, Nat.reduceLT, Nat.reduceLeDiff, Nat.reduceMul, false_and, and_false, reduceCtorEq, false_or, or_false, not_true_eq_false, not_false_eq_true, true_implies, false_implies, implies_true, lf_10, eq_self, Int32.reduceLT, Int32.reduceLE, Int32.reduceAdd, Int32.reduceSub, Int32.reduceDiv, Int32.reduceMul, pm_same, pm_i_wI, pm_l_wL, pm_l_wM, pm_oR_rf, pm_oQ_rf, sh_k5 hS, nI_1, pm_wI_wI, sw_e, LQ1, LQ2]
    refine pm_wb_ok pb_c51 1 118 0 _ _ _ _ _ ?_
    try simp only [pm_WI0, pm_WI1, pm_WI2, pm_WI3, pm_WI4, pm_WI5, pm_WV, pm_WW, pm_WX, pb_B51, pm_if, pm_QI_at, pm_QL_at, pm_QV_at, pm_QR_at, pm_QR_at0, pm_QR_at1, Nat.reduceSub, Nat.reduceAdd, List.replicate_zero, List.replicate_succ, true_and, and_true, true_or, or_true, and_self, reduceIte, Nat.reduceEqDiff, Nat.reduceLT, Nat.reduceLeDiff, Nat.reduceMul, false_and, and_false, reduceCtorEq, false_or, or_false, not_true_eq_false, not_false_eq_true, true_implies, false_implies, implies_true, lf_10, eq_self, Int32.reduceLT, Int32.reduceLE, Int32.reduceAdd, Int32.reduceSub, Int32.reduceDiv, Int32.reduceMul, pm_same, pm_i_wI, pm_l_wL, pm_l_wM, pm_oR_rf, pm_oQ_rf, sh_k5 hS, nI_1, pm_wI_wI, sw_e, LQ1, LQ2, hp5, hr5, hkD, hge]
    exact rd51_127_0 hd hS0 hd0 (hr.mv hd0 hv3) (by omega) hs (by omega) (fun S' hS' => h1 x m S' hv1 hS')
  · try simp only [pm_WV, pm_WW, true_and, and_true, true_or, or_true, and_self, reduceIte, Nat.reduceEqDiff, Nat.reduceLT, Nat.reduceLeDiff, Nat.reduceMul, false_and, and_false, reduceCtorEq, false_or, or_false, not_true_eq_false, not_false_eq_true, true_implies, false_implies, implies_true, lf_10, eq_self, Int32.reduceLT, Int32.reduceLE, Int32.reduceAdd, Int32.reduceSub, Int32.reduceDiv, Int32.reduceMul, pm_same, pm_i_wI, pm_l_wL, pm_l_wM, pm_oR_rf, pm_oQ_rf, sh_k5 hS, nI_1, pm_wI_wI, sw_e, LQ1, LQ2]
    refine pm_wb_ok pb_c51 3 118 0 _ _ _ _ _ ?_
    try simp only [pm_WI0, pm_WI1, pm_WI2, pm_WI3, pm_WI4, pm_WI5, pm_WV, pm_WW, pm_WX, pb_B51, pm_if, pm_QI_at, pm_QL_at, pm_QV_at, pm_QR_at, pm_QR_at0, pm_QR_at1, Nat.reduceSub, Nat.reduceAdd, List.replicate_zero, List.replicate_succ, true_and, and_true, true_or, or_true, and_self, reduceIte, Nat.reduceEqDiff, Nat.reduceLT, Nat.reduceLeDiff, Nat.reduceMul, false_and, and_false, reduceCtorEq, false_or, or_false, not_true_eq_false, not_false_eq_true, true_implies, false_implies, implies_true, lf_10, eq_self, Int32.reduceLT, Int32.reduceLE, Int32.reduceAdd, Int32.reduceSub, Int32.reduceDiv, Int32.reduceMul, pm_same, pm_i_wI, pm_l_wL, pm_l_wM, pm_oR_rf, pm_oQ_rf, sh_k5 hS, nI_1, pm_wI_wI, sw_e, LQ1, LQ2, hp5, hr5, hkD]
    exact h0 hv
theorem rd51_100_2 {G : pm_G} {d : Nat} {S0 S : pm_S} {D r n : Nat} {W : Nat → Nat} {L : gx_L} {q : Int32 → pm_S → Prop} (hd : 6 ≤ d) (hS0 : Sh S0) (hd0 : dl S0 D W) (hr : rs S0 D W n S r L) {h : Int32} {s : Nat} {v : Value} (hl : L.2.2.length < r) (hs : s < 16) (h1 : ∀ x m S', gx_num (gx_b (pm_i S0 6) n) 0 2 r = (x, some m) → rs S0 D W n S' x (L.1, L.2.1, L.2.2 ++ [gx_st 2 s m]) → q 1 S') (h0 : gx_num (gx_b (pm_i S0 6) n) 0 2 r = (r, none) → q 0 S) : pm_W G d 51 (pm_QI q) 100 [.ref 5, .int 2, .int h, .int (nI s), v] [] S 0 0 := by
  have hS := hr.sh hS0
  have hdl := hr.todl hd0
  have ht := hr.text hd0
  have hr3 := hr.2.2.1
  have hn := hr3.2.2.2.1
  have hpn := hr3.2.2.1
  have hp5 : pm_i S 5 2 = nI r := hr3.1
  have hr5 : pm_r S 5 3 = some D := hdl.1
  have hkD : pm_k S D = 5 := hdl.2.1
  have rB : gx_b (pm_i S 6) n = gx_b (pm_i S0 6) n := by rw [ht]
  refine pm_wb_ok pb_c51 2 100 0 _ _ _ _ _ ?_
  try simp only [pm_WI0, pm_WI1, pm_WI2, pm_WI3, pm_WI4, pm_WI5, pm_WV, pm_WW, pm_WX, pb_B51, pm_if, pm_QI_at, pm_QL_at, pm_QV_at, pm_QR_at, pm_QR_at0, pm_QR_at1, Nat.reduceSub, Nat.reduceAdd, List.replicate_zero, List.replicate_succ, true_and, and_true, true_or, or_true, and_self, reduceIte, Nat.reduceEqDiff, Nat.reduceLT, Nat.reduceLeDiff, Nat.reduceMul, false_and, and_false, reduceCtorEq, false_or, or_false, not_true_eq_false, not_false_eq_true, true_implies, false_implies, implies_true, lf_10, eq_self, Int32.reduceLT, Int32.reduceLE, Int32.reduceAdd, Int32.reduceSub, Int32.reduceDiv, Int32.reduceMul, pm_same, pm_i_wI, pm_l_wL, pm_l_wM, pm_oR_rf, pm_oQ_rf, sh_k5 hS, nI_1, pm_wI_wI, sw_e, LQ1, LQ2, hp5, hr5, hkD]
  refine ⟨by omega, rd_53_2 ⟨by omega, sh_k5 hS, rd_48_02 (n := n) hS hr3 (fun x m hv1 hv2 hv3 hv4 => ?_) (fun hv => ?_)⟩⟩ <;> rw [rB] at *
  · have hm0 : ¬ nI m < 0 := nI_pos (by omega)
    have hge : 0 ≤ nI m := nI_pos' (by omega)
    try simp only [pm_WV, pm_WW, true_and, and_true, true_or, or_true, and_self, reduceIte, Nat.reduceEqDiff, Nat.reduceLT, Nat.reduceLeDiff, Nat.reduceMul, false_and, and_false, reduceCtorEq, false_or, or_false, not_true_eq_false, not_false_eq_true, true_implies, false_implies, implies_true, lf_10, eq_self, Int32.reduceLT, Int32.reduceLE, Int32.reduceAdd, Int32.reduceSub, Int32.reduceDiv, Int32.reduceMul, pm_same, pm_i_wI, pm_l_wL, pm_l_wM, pm_oR_rf, pm_oQ_rf, sh_k5 hS, nI_1, pm_wI_wI, sw_e, LQ1, LQ2]
    refine pm_wb_ok pb_c51 1 118 0 _ _ _ _ _ ?_
    try simp only [pm_WI0, pm_WI1, pm_WI2, pm_WI3, pm_WI4, pm_WI5, pm_WV, pm_WW, pm_WX, pb_B51, pm_if, pm_QI_at, pm_QL_at, pm_QV_at, pm_QR_at, pm_QR_at0, pm_QR_at1, Nat.reduceSub, Nat.reduceAdd, List.replicate_zero, List.replicate_succ, true_and, and_true, true_or, or_true, and_self, reduceIte, Nat.reduceEqDiff, Nat.reduceLT, Nat.reduceLeDiff, Nat.reduceMul, false_and, and_false, reduceCtorEq, false_or, or_false, not_true_eq_false, not_false_eq_true, true_implies, false_implies, implies_true, lf_10, eq_self, Int32.reduceLT, Int32.reduceLE, Int32.reduceAdd, Int32.reduceSub, Int32.reduceDiv, Int32.reduceMul, pm_same, pm_i_wI, pm_l_wL, pm_l_wM, pm_oR_rf, pm_oQ_rf, sh_k5 hS, nI_1, pm_wI_wI, sw_e, LQ1, LQ2, hp5, hr5, hkD, hge]
    exact rd51_127_2 hd hS0 hd0 (hr.mv hd0 hv3) (by omega) hs (by omega) (fun S' hS' => h1 x m S' hv1 hS')
  · try simp only [pm_WV, pm_WW, true_and, and_true, true_or, or_true, and_self, reduceIte, Nat.reduceEqDiff, Nat.reduceLT, Nat.reduceLeDiff, Nat.reduceMul, false_and, and_false, reduceCtorEq, false_or, or_false, not_true_eq_false, not_false_eq_true, true_implies, false_implies, implies_true, lf_10, eq_self, Int32.reduceLT, Int32.reduceLE, Int32.reduceAdd, Int32.reduceSub, Int32.reduceDiv, Int32.reduceMul, pm_same, pm_i_wI, pm_l_wL, pm_l_wM, pm_oR_rf, pm_oQ_rf, sh_k5 hS, nI_1, pm_wI_wI, sw_e, LQ1, LQ2]
    refine pm_wb_ok pb_c51 3 118 0 _ _ _ _ _ ?_
    try simp only [pm_WI0, pm_WI1, pm_WI2, pm_WI3, pm_WI4, pm_WI5, pm_WV, pm_WW, pm_WX, pb_B51, pm_if, pm_QI_at, pm_QL_at, pm_QV_at, pm_QR_at, pm_QR_at0, pm_QR_at1, Nat.reduceSub, Nat.reduceAdd, List.replicate_zero, List.replicate_succ, true_and, and_true, true_or, or_true, and_self, reduceIte, Nat.reduceEqDiff, Nat.reduceLT, Nat.reduceLeDiff, Nat.reduceMul, false_and, and_false, reduceCtorEq, false_or, or_false, not_true_eq_false, not_false_eq_true, true_implies, false_implies, implies_true, lf_10, eq_self, Int32.reduceLT, Int32.reduceLE, Int32.reduceAdd, Int32.reduceSub, Int32.reduceDiv, Int32.reduceMul, pm_same, pm_i_wI, pm_l_wL, pm_l_wM, pm_oR_rf, pm_oQ_rf, sh_k5 hS, nI_1, pm_wI_wI, sw_e, LQ1, LQ2, hp5, hr5, hkD]
    exact h0 hv
theorem rd51_100_3 {G : pm_G} {d : Nat} {S0 S : pm_S} {D r n : Nat} {W : Nat → Nat} {L : gx_L} {q : Int32 → pm_S → Prop} (hd : 6 ≤ d) (hS0 : Sh S0) (hd0 : dl S0 D W) (hr : rs S0 D W n S r L) {h : Int32} {s : Nat} {v : Value} (hl : L.2.2.length < r) (hs : s < 16) (h1 : ∀ x m S', gx_num (gx_b (pm_i S0 6) n) 0 2 r = (x, some m) → rs S0 D W n S' x (L.1, L.2.1, L.2.2 ++ [gx_st 3 s m]) → q 1 S') (h0 : gx_num (gx_b (pm_i S0 6) n) 0 2 r = (r, none) → q 0 S) : pm_W G d 51 (pm_QI q) 100 [.ref 5, .int 3, .int h, .int (nI s), v] [] S 0 0 := by
  have hS := hr.sh hS0
  have hdl := hr.todl hd0
  have ht := hr.text hd0
  have hr3 := hr.2.2.1
  have hn := hr3.2.2.2.1
  have hpn := hr3.2.2.1
  have hp5 : pm_i S 5 2 = nI r := hr3.1
  have hr5 : pm_r S 5 3 = some D := hdl.1
  have hkD : pm_k S D = 5 := hdl.2.1
  have rB : gx_b (pm_i S 6) n = gx_b (pm_i S0 6) n := by rw [ht]
  refine pm_wb_ok pb_c51 2 100 0 _ _ _ _ _ ?_
  try simp only [pm_WI0, pm_WI1, pm_WI2, pm_WI3, pm_WI4, pm_WI5, pm_WV, pm_WW, pm_WX, pb_B51, pm_if, pm_QI_at, pm_QL_at, pm_QV_at, pm_QR_at, pm_QR_at0, pm_QR_at1, Nat.reduceSub, Nat.reduceAdd, List.replicate_zero, List.replicate_succ, true_and, and_true, true_or, or_true, and_self, reduceIte, Nat.reduceEqDiff, Nat.reduceLT, Nat.reduceLeDiff, Nat.reduceMul, false_and, and_false, reduceCtorEq, false_or, or_false, not_true_eq_false, not_false_eq_true, true_implies, false_implies, implies_true, lf_10, eq_self, Int32.reduceLT, Int32.reduceLE, Int32.reduceAdd, Int32.reduceSub, Int32.reduceDiv, Int32.reduceMul, pm_same, pm_i_wI, pm_l_wL, pm_l_wM, pm_oR_rf, pm_oQ_rf, sh_k5 hS, nI_1, pm_wI_wI, sw_e, LQ1, LQ2, hp5, hr5, hkD]
  refine ⟨by omega, rd_53_3 ⟨by omega, sh_k5 hS, rd_48_02 (n := n) hS hr3 (fun x m hv1 hv2 hv3 hv4 => ?_) (fun hv => ?_)⟩⟩ <;> rw [rB] at *
  · have hm0 : ¬ nI m < 0 := nI_pos (by omega)
    have hge : 0 ≤ nI m := nI_pos' (by omega)
    try simp only [pm_WV, pm_WW, true_and, and_true, true_or, or_true, and_self, reduceIte, Nat.reduceEqDiff, Nat.reduceLT, Nat.reduceLeDiff, Nat.reduceMul, false_and, and_false, reduceCtorEq, false_or, or_false, not_true_eq_false, not_false_eq_true, true_implies, false_implies, implies_true, lf_10, eq_self, Int32.reduceLT, Int32.reduceLE, Int32.reduceAdd, Int32.reduceSub, Int32.reduceDiv, Int32.reduceMul, pm_same, pm_i_wI, pm_l_wL, pm_l_wM, pm_oR_rf, pm_oQ_rf, sh_k5 hS, nI_1, pm_wI_wI, sw_e, LQ1, LQ2]
    refine pm_wb_ok pb_c51 1 118 0 _ _ _ _ _ ?_
    try simp only [pm_WI0, pm_WI1, pm_WI2, pm_WI3, pm_WI4, pm_WI5, pm_WV, pm_WW, pm_WX, pb_B51, pm_if, pm_QI_at, pm_QL_at, pm_QV_at, pm_QR_at, pm_QR_at0, pm_QR_at1, Nat.reduceSub, Nat.reduceAdd, List.replicate_zero, List.replicate_succ, true_and, and_true, true_or, or_true, and_self, reduceIte, Nat.reduceEqDiff, Nat.reduceLT, Nat.reduceLeDiff, Nat.reduceMul, false_and, and_false, reduceCtorEq, false_or, or_false, not_true_eq_false, not_false_eq_true, true_implies, false_implies, implies_true, lf_10, eq_self, Int32.reduceLT, Int32.reduceLE, Int32.reduceAdd, Int32.reduceSub, Int32.reduceDiv, Int32.reduceMul, pm_same, pm_i_wI, pm_l_wL, pm_l_wM, pm_oR_rf, pm_oQ_rf, sh_k5 hS, nI_1, pm_wI_wI, sw_e, LQ1, LQ2, hp5, hr5, hkD, hge]
    exact rd51_127_3 hd hS0 hd0 (hr.mv hd0 hv3) (by omega) hs (by omega) (fun S' hS' => h1 x m S' hv1 hS')
  · try simp only [pm_WV, pm_WW, true_and, and_true, true_or, or_true, and_self, reduceIte, Nat.reduceEqDiff, Nat.reduceLT, Nat.reduceLeDiff, Nat.reduceMul, false_and, and_false, reduceCtorEq, false_or, or_false, not_true_eq_false, not_false_eq_true, true_implies, false_implies, implies_true, lf_10, eq_self, Int32.reduceLT, Int32.reduceLE, Int32.reduceAdd, Int32.reduceSub, Int32.reduceDiv, Int32.reduceMul, pm_same, pm_i_wI, pm_l_wL, pm_l_wM, pm_oR_rf, pm_oQ_rf, sh_k5 hS, nI_1, pm_wI_wI, sw_e, LQ1, LQ2]
    refine pm_wb_ok pb_c51 3 118 0 _ _ _ _ _ ?_
    try simp only [pm_WI0, pm_WI1, pm_WI2, pm_WI3, pm_WI4, pm_WI5, pm_WV, pm_WW, pm_WX, pb_B51, pm_if, pm_QI_at, pm_QL_at, pm_QV_at, pm_QR_at, pm_QR_at0, pm_QR_at1, Nat.reduceSub, Nat.reduceAdd, List.replicate_zero, List.replicate_succ, true_and, and_true, true_or, or_true, and_self, reduceIte, Nat.reduceEqDiff, Nat.reduceLT, Nat.reduceLeDiff, Nat.reduceMul, false_and, and_false, reduceCtorEq, false_or, or_false, not_true_eq_false, not_false_eq_true, true_implies, false_implies, implies_true, lf_10, eq_self, Int32.reduceLT, Int32.reduceLE, Int32.reduceAdd, Int32.reduceSub, Int32.reduceDiv, Int32.reduceMul, pm_same, pm_i_wI, pm_l_wL, pm_l_wM, pm_oR_rf, pm_oQ_rf, sh_k5 hS, nI_1, pm_wI_wI, sw_e, LQ1, LQ2, hp5, hr5, hkD]
    exact h0 hv
theorem rd51_100_4 {G : pm_G} {d : Nat} {S0 S : pm_S} {D r n : Nat} {W : Nat → Nat} {L : gx_L} {q : Int32 → pm_S → Prop} (hd : 6 ≤ d) (hS0 : Sh S0) (hd0 : dl S0 D W) (hr : rs S0 D W n S r L) {h : Int32} {s : Nat} {v : Value} (hl : L.2.2.length < r) (hs : s < 16) (h1 : ∀ x m S', gx_num (gx_b (pm_i S0 6) n) 0 4 r = (x, some m) → rs S0 D W n S' x (L.1, L.2.1, L.2.2 ++ [gx_st 4 s m]) → q 1 S') (h0 : gx_num (gx_b (pm_i S0 6) n) 0 4 r = (r, none) → q 0 S) : pm_W G d 51 (pm_QI q) 100 [.ref 5, .int 4, .int h, .int (nI s), v] [] S 0 0 := by
  have hS := hr.sh hS0
  have hdl := hr.todl hd0
  have ht := hr.text hd0
  have hr3 := hr.2.2.1
  have hn := hr3.2.2.2.1
  have hpn := hr3.2.2.1
  have hp5 : pm_i S 5 2 = nI r := hr3.1
  have hr5 : pm_r S 5 3 = some D := hdl.1
  have hkD : pm_k S D = 5 := hdl.2.1
  have rB : gx_b (pm_i S 6) n = gx_b (pm_i S0 6) n := by rw [ht]
  refine pm_wb_ok pb_c51 2 100 0 _ _ _ _ _ ?_
  try simp only [pm_WI0, pm_WI1, pm_WI2, pm_WI3, pm_WI4, pm_WI5, pm_WV, pm_WW, pm_WX, pb_B51, pm_if, pm_QI_at, pm_QL_at, pm_QV_at, pm_QR_at, pm_QR_at0, pm_QR_at1, Nat.reduceSub, Nat.reduceAdd, List.replicate_zero, List.replicate_succ, true_and, and_true, true_or, or_true, and_self, reduceIte, Nat.reduceEqDiff, Nat.reduceLT, Nat.reduceLeDiff, Nat.reduceMul, false_and, and_false, reduceCtorEq, false_or, or_false, not_true_eq_false, not_false_eq_true, true_implies, false_implies, implies_true, lf_10, eq_self, Int32.reduceLT, Int32.reduceLE, Int32.reduceAdd, Int32.reduceSub, Int32.reduceDiv, Int32.reduceMul, pm_same, pm_i_wI, pm_l_wL, pm_l_wM, pm_oR_rf, pm_oQ_rf, sh_k5 hS, nI_1, pm_wI_wI, sw_e, LQ1, LQ2, hp5, hr5, hkD]
  refine ⟨by omega, rd_53_4 ⟨by omega, sh_k5 hS, rd_48_04 (n := n) hS hr3 (fun x m hv1 hv2 hv3 hv4 => ?_) (fun hv => ?_)⟩⟩ <;> rw [rB] at *
  · have hm0 : ¬ nI m < 0 := nI_pos (by omega)
    have hge : 0 ≤ nI m := nI_pos' (by omega)
    try simp only [pm_WV, pm_WW, true_and, and_true, true_or, or_true, and_self, reduceIte, Nat.reduceEqDiff, Nat.reduceLT, Nat.reduceLeDiff, Nat.reduceMul, false_and, and_false, reduceCtorEq, false_or, or_false, not_true_eq_false, not_false_eq_true, true_implies, false_implies, implies_true, lf_10, eq_self, Int32.reduceLT, Int32.reduceLE, Int32.reduceAdd, Int32.reduceSub, Int32.reduceDiv, Int32.reduceMul, pm_same, pm_i_wI, pm_l_wL, pm_l_wM, pm_oR_rf, pm_oQ_rf, sh_k5 hS, nI_1, pm_wI_wI, sw_e, LQ1, LQ2]
    refine pm_wb_ok pb_c51 1 118 0 _ _ _ _ _ ?_
    try simp only [pm_WI0, pm_WI1, pm_WI2, pm_WI3, pm_WI4, pm_WI5, pm_WV, pm_WW, pm_WX, pb_B51, pm_if, pm_QI_at, pm_QL_at, pm_QV_at, pm_QR_at, pm_QR_at0, pm_QR_at1, Nat.reduceSub, Nat.reduceAdd, List.replicate_zero, List.replicate_succ, true_and, and_true, true_or, or_true, and_self, reduceIte, Nat.reduceEqDiff, Nat.reduceLT, Nat.reduceLeDiff, Nat.reduceMul, false_and, and_false, reduceCtorEq, false_or, or_false, not_true_eq_false, not_false_eq_true, true_implies, false_implies, implies_true, lf_10, eq_self, Int32.reduceLT, Int32.reduceLE, Int32.reduceAdd, Int32.reduceSub, Int32.reduceDiv, Int32.reduceMul, pm_same, pm_i_wI, pm_l_wL, pm_l_wM, pm_oR_rf, pm_oQ_rf, sh_k5 hS, nI_1, pm_wI_wI, sw_e, LQ1, LQ2, hp5, hr5, hkD, hge]
    exact rd51_127_4 hd hS0 hd0 (hr.mv hd0 hv3) (by omega) hs (by omega) (fun S' hS' => h1 x m S' hv1 hS')
  · try simp only [pm_WV, pm_WW, true_and, and_true, true_or, or_true, and_self, reduceIte, Nat.reduceEqDiff, Nat.reduceLT, Nat.reduceLeDiff, Nat.reduceMul, false_and, and_false, reduceCtorEq, false_or, or_false, not_true_eq_false, not_false_eq_true, true_implies, false_implies, implies_true, lf_10, eq_self, Int32.reduceLT, Int32.reduceLE, Int32.reduceAdd, Int32.reduceSub, Int32.reduceDiv, Int32.reduceMul, pm_same, pm_i_wI, pm_l_wL, pm_l_wM, pm_oR_rf, pm_oQ_rf, sh_k5 hS, nI_1, pm_wI_wI, sw_e, LQ1, LQ2]
    refine pm_wb_ok pb_c51 3 118 0 _ _ _ _ _ ?_
    try simp only [pm_WI0, pm_WI1, pm_WI2, pm_WI3, pm_WI4, pm_WI5, pm_WV, pm_WW, pm_WX, pb_B51, pm_if, pm_QI_at, pm_QL_at, pm_QV_at, pm_QR_at, pm_QR_at0, pm_QR_at1, Nat.reduceSub, Nat.reduceAdd, List.replicate_zero, List.replicate_succ, true_and, and_true, true_or, or_true, and_self, reduceIte, Nat.reduceEqDiff, Nat.reduceLT, Nat.reduceLeDiff, Nat.reduceMul, false_and, and_false, reduceCtorEq, false_or, or_false, not_true_eq_false, not_false_eq_true, true_implies, false_implies, implies_true, lf_10, eq_self, Int32.reduceLT, Int32.reduceLE, Int32.reduceAdd, Int32.reduceSub, Int32.reduceDiv, Int32.reduceMul, pm_same, pm_i_wI, pm_l_wL, pm_l_wM, pm_oR_rf, pm_oQ_rf, sh_k5 hS, nI_1, pm_wI_wI, sw_e, LQ1, LQ2, hp5, hr5, hkD]
    exact h0 hv
theorem rd51_100_5 {G : pm_G} {d : Nat} {S0 S : pm_S} {D r n : Nat} {W : Nat → Nat} {L : gx_L} {q : Int32 → pm_S → Prop} (hd : 6 ≤ d) (hS0 : Sh S0) (hd0 : dl S0 D W) (hr : rs S0 D W n S r L) {h : Int32} {s : Nat} {v : Value} (hl : L.2.2.length < r) (hs : s < 16) (h1 : ∀ x m S', gx_num (gx_b (pm_i S0 6) n) 0 4 r = (x, some m) → rs S0 D W n S' x (L.1, L.2.1, L.2.2 ++ [gx_st 5 s m]) → q 1 S') (h0 : gx_num (gx_b (pm_i S0 6) n) 0 4 r = (r, none) → q 0 S) : pm_W G d 51 (pm_QI q) 100 [.ref 5, .int 5, .int h, .int (nI s), v] [] S 0 0 := by
  have hS := hr.sh hS0
  have hdl := hr.todl hd0
  have ht := hr.text hd0
  have hr3 := hr.2.2.1
  have hn := hr3.2.2.2.1
  have hpn := hr3.2.2.1
  have hp5 : pm_i S 5 2 = nI r := hr3.1
  have hr5 : pm_r S 5 3 = some D := hdl.1
  have hkD : pm_k S D = 5 := hdl.2.1
  have rB : gx_b (pm_i S 6) n = gx_b (pm_i S0 6) n := by rw [ht]
  refine pm_wb_ok pb_c51 2 100 0 _ _ _ _ _ ?_
  try simp only [pm_WI0, pm_WI1, pm_WI2, pm_WI3, pm_WI4, pm_WI5, pm_WV, pm_WW, pm_WX, pb_B51, pm_if, pm_QI_at, pm_QL_at, pm_QV_at, pm_QR_at, pm_QR_at0, pm_QR_at1, Nat.reduceSub, Nat.reduceAdd, List.replicate_zero, List.replicate_succ, true_and, and_true, true_or, or_true, and_self, reduceIte, Nat.reduceEqDiff, Nat.reduceLT, Nat.reduceLeDiff, Nat.reduceMul, false_and, and_false, reduceCtorEq, false_or, or_false, not_true_eq_false, not_false_eq_true, true_implies, false_implies, implies_true, lf_10, eq_self, Int32.reduceLT, Int32.reduceLE, Int32.reduceAdd, Int32.reduceSub, Int32.reduceDiv, Int32.reduceMul, pm_same, pm_i_wI, pm_l_wL, pm_l_wM, pm_oR_rf, pm_oQ_rf, sh_k5 hS, nI_1, pm_wI_wI, sw_e, LQ1, LQ2, hp5, hr5, hkD]
  refine ⟨by omega, rd_53_5 ⟨by omega, sh_k5 hS, rd_48_04 (n := n) hS hr3 (fun x m hv1 hv2 hv3 hv4 => ?_) (fun hv => ?_)⟩⟩ <;> rw [rB] at *
  · have hm0 : ¬ nI m < 0 := nI_pos (by omega)
    have hge : 0 ≤ nI m := nI_pos' (by omega)
    try simp only [pm_WV, pm_WW, true_and, and_true, true_or, or_true, and_self, reduceIte, Nat.reduceEqDiff, Nat.reduceLT, Nat.reduceLeDiff, Nat.reduceMul, false_and, and_false, reduceCtorEq, false_or, or_false, not_true_eq_false, not_false_eq_true, true_implies, false_implies, implies_true, lf_10, eq_self, Int32.reduceLT, Int32.reduceLE, Int32.reduceAdd, Int32.reduceSub, Int32.reduceDiv, Int32.reduceMul, pm_same, pm_i_wI, pm_l_wL, pm_l_wM, pm_oR_rf, pm_oQ_rf, sh_k5 hS, nI_1, pm_wI_wI, sw_e, LQ1, LQ2]
    refine pm_wb_ok pb_c51 1 118 0 _ _ _ _ _ ?_
    try simp only [pm_WI0, pm_WI1, pm_WI2, pm_WI3, pm_WI4, pm_WI5, pm_WV, pm_WW, pm_WX, pb_B51, pm_if, pm_QI_at, pm_QL_at, pm_QV_at, pm_QR_at, pm_QR_at0, pm_QR_at1, Nat.reduceSub, Nat.reduceAdd, List.replicate_zero, List.replicate_succ, true_and, and_true, true_or, or_true, and_self, reduceIte, Nat.reduceEqDiff, Nat.reduceLT, Nat.reduceLeDiff, Nat.reduceMul, false_and, and_false, reduceCtorEq, false_or, or_false, not_true_eq_false, not_false_eq_true, true_implies, false_implies, implies_true, lf_10, eq_self, Int32.reduceLT, Int32.reduceLE, Int32.reduceAdd, Int32.reduceSub, Int32.reduceDiv, Int32.reduceMul, pm_same, pm_i_wI, pm_l_wL, pm_l_wM, pm_oR_rf, pm_oQ_rf, sh_k5 hS, nI_1, pm_wI_wI, sw_e, LQ1, LQ2, hp5, hr5, hkD, hge]
    exact rd51_127_5 hd hS0 hd0 (hr.mv hd0 hv3) (by omega) hs (by omega) (fun S' hS' => h1 x m S' hv1 hS')
  · try simp only [pm_WV, pm_WW, true_and, and_true, true_or, or_true, and_self, reduceIte, Nat.reduceEqDiff, Nat.reduceLT, Nat.reduceLeDiff, Nat.reduceMul, false_and, and_false, reduceCtorEq, false_or, or_false, not_true_eq_false, not_false_eq_true, true_implies, false_implies, implies_true, lf_10, eq_self, Int32.reduceLT, Int32.reduceLE, Int32.reduceAdd, Int32.reduceSub, Int32.reduceDiv, Int32.reduceMul, pm_same, pm_i_wI, pm_l_wL, pm_l_wM, pm_oR_rf, pm_oQ_rf, sh_k5 hS, nI_1, pm_wI_wI, sw_e, LQ1, LQ2]
    refine pm_wb_ok pb_c51 3 118 0 _ _ _ _ _ ?_
    try simp only [pm_WI0, pm_WI1, pm_WI2, pm_WI3, pm_WI4, pm_WI5, pm_WV, pm_WW, pm_WX, pb_B51, pm_if, pm_QI_at, pm_QL_at, pm_QV_at, pm_QR_at, pm_QR_at0, pm_QR_at1, Nat.reduceSub, Nat.reduceAdd, List.replicate_zero, List.replicate_succ, true_and, and_true, true_or, or_true, and_self, reduceIte, Nat.reduceEqDiff, Nat.reduceLT, Nat.reduceLeDiff, Nat.reduceMul, false_and, and_false, reduceCtorEq, false_or, or_false, not_true_eq_false, not_false_eq_true, true_implies, false_implies, implies_true, lf_10, eq_self, Int32.reduceLT, Int32.reduceLE, Int32.reduceAdd, Int32.reduceSub, Int32.reduceDiv, Int32.reduceMul, pm_same, pm_i_wI, pm_l_wL, pm_l_wM, pm_oR_rf, pm_oQ_rf, sh_k5 hS, nI_1, pm_wI_wI, sw_e, LQ1, LQ2, hp5, hr5, hkD]
    exact h0 hv
theorem rd51_100_6 {G : pm_G} {d : Nat} {S0 S : pm_S} {D r n : Nat} {W : Nat → Nat} {L : gx_L} {q : Int32 → pm_S → Prop} (hd : 6 ≤ d) (hS0 : Sh S0) (hd0 : dl S0 D W) (hr : rs S0 D W n S r L) {h : Int32} {s : Nat} {v : Value} (hl : L.2.2.length < r) (hs : s < 16) (h1 : ∀ x m S', gx_num (gx_b (pm_i S0 6) n) 0 4 r = (x, some m) → rs S0 D W n S' x (L.1, L.2.1, L.2.2 ++ [gx_st 6 s m]) → q 1 S') (h0 : gx_num (gx_b (pm_i S0 6) n) 0 4 r = (r, none) → q 0 S) : pm_W G d 51 (pm_QI q) 100 [.ref 5, .int 6, .int h, .int (nI s), v] [] S 0 0 := by
  have hS := hr.sh hS0
  have hdl := hr.todl hd0
  have ht := hr.text hd0
  have hr3 := hr.2.2.1
  have hn := hr3.2.2.2.1
  have hpn := hr3.2.2.1
  have hp5 : pm_i S 5 2 = nI r := hr3.1
  have hr5 : pm_r S 5 3 = some D := hdl.1
  have hkD : pm_k S D = 5 := hdl.2.1
  have rB : gx_b (pm_i S 6) n = gx_b (pm_i S0 6) n := by rw [ht]
  refine pm_wb_ok pb_c51 2 100 0 _ _ _ _ _ ?_
  try simp only [pm_WI0, pm_WI1, pm_WI2, pm_WI3, pm_WI4, pm_WI5, pm_WV, pm_WW, pm_WX, pb_B51, pm_if, pm_QI_at, pm_QL_at, pm_QV_at, pm_QR_at, pm_QR_at0, pm_QR_at1, Nat.reduceSub, Nat.reduceAdd, List.replicate_zero, List.replicate_succ, true_and, and_true, true_or, or_true, and_self, reduceIte, Nat.reduceEqDiff, Nat.reduceLT, Nat.reduceLeDiff, Nat.reduceMul, false_and, and_false, reduceCtorEq, false_or, or_false, not_true_eq_false, not_false_eq_true, true_implies, false_implies, implies_true, lf_10, eq_self, Int32.reduceLT, Int32.reduceLE, Int32.reduceAdd, Int32.reduceSub, Int32.reduceDiv, Int32.reduceMul, pm_same, pm_i_wI, pm_l_wL, pm_l_wM, pm_oR_rf, pm_oQ_rf, sh_k5 hS, nI_1, pm_wI_wI, sw_e, LQ1, LQ2, hp5, hr5, hkD]
  refine ⟨by omega, rd_53_6 ⟨by omega, sh_k5 hS, rd_48_04 (n := n) hS hr3 (fun x m hv1 hv2 hv3 hv4 => ?_) (fun hv => ?_)⟩⟩ <;> rw [rB] at *
  · have hm0 : ¬ nI m < 0 := nI_pos (by omega)
    have hge : 0 ≤ nI m := nI_pos' (by omega)
    try simp only [pm_WV, pm_WW, true_and, and_true, true_or, or_true, and_self, reduceIte, Nat.reduceEqDiff, Nat.reduceLT, Nat.reduceLeDiff, Nat.reduceMul, false_and, and_false, reduceCtorEq, false_or, or_false, not_true_eq_false, not_false_eq_true, true_implies, false_implies, implies_true, lf_10, eq_self, Int32.reduceLT, Int32.reduceLE, Int32.reduceAdd, Int32.reduceSub, Int32.reduceDiv, Int32.reduceMul, pm_same, pm_i_wI, pm_l_wL, pm_l_wM, pm_oR_rf, pm_oQ_rf, sh_k5 hS, nI_1, pm_wI_wI, sw_e, LQ1, LQ2]
    refine pm_wb_ok pb_c51 1 118 0 _ _ _ _ _ ?_
    try simp only [pm_WI0, pm_WI1, pm_WI2, pm_WI3, pm_WI4, pm_WI5, pm_WV, pm_WW, pm_WX, pb_B51, pm_if, pm_QI_at, pm_QL_at, pm_QV_at, pm_QR_at, pm_QR_at0, pm_QR_at1, Nat.reduceSub, Nat.reduceAdd, List.replicate_zero, List.replicate_succ, true_and, and_true, true_or, or_true, and_self, reduceIte, Nat.reduceEqDiff, Nat.reduceLT, Nat.reduceLeDiff, Nat.reduceMul, false_and, and_false, reduceCtorEq, false_or, or_false, not_true_eq_false, not_false_eq_true, true_implies, false_implies, implies_true, lf_10, eq_self, Int32.reduceLT, Int32.reduceLE, Int32.reduceAdd, Int32.reduceSub, Int32.reduceDiv, Int32.reduceMul, pm_same, pm_i_wI, pm_l_wL, pm_l_wM, pm_oR_rf, pm_oQ_rf, sh_k5 hS, nI_1, pm_wI_wI, sw_e, LQ1, LQ2, hp5, hr5, hkD, hge]
    exact rd51_127_6 hd hS0 hd0 (hr.mv hd0 hv3) (by omega) hs (by omega) (fun S' hS' => h1 x m S' hv1 hS')
  · try simp only [pm_WV, pm_WW, true_and, and_true, true_or, or_true, and_self, reduceIte, Nat.reduceEqDiff, Nat.reduceLT, Nat.reduceLeDiff, Nat.reduceMul, false_and, and_false, reduceCtorEq, false_or, or_false, not_true_eq_false, not_false_eq_true, true_implies, false_implies, implies_true, lf_10, eq_self, Int32.reduceLT, Int32.reduceLE, Int32.reduceAdd, Int32.reduceSub, Int32.reduceDiv, Int32.reduceMul, pm_same, pm_i_wI, pm_l_wL, pm_l_wM, pm_oR_rf, pm_oQ_rf, sh_k5 hS, nI_1, pm_wI_wI, sw_e, LQ1, LQ2]
    refine pm_wb_ok pb_c51 3 118 0 _ _ _ _ _ ?_
    try simp only [pm_WI0, pm_WI1, pm_WI2, pm_WI3, pm_WI4, pm_WI5, pm_WV, pm_WW, pm_WX, pb_B51, pm_if, pm_QI_at, pm_QL_at, pm_QV_at, pm_QR_at, pm_QR_at0, pm_QR_at1, Nat.reduceSub, Nat.reduceAdd, List.replicate_zero, List.replicate_succ, true_and, and_true, true_or, or_true, and_self, reduceIte, Nat.reduceEqDiff, Nat.reduceLT, Nat.reduceLeDiff, Nat.reduceMul, false_and, and_false, reduceCtorEq, false_or, or_false, not_true_eq_false, not_false_eq_true, true_implies, false_implies, implies_true, lf_10, eq_self, Int32.reduceLT, Int32.reduceLE, Int32.reduceAdd, Int32.reduceSub, Int32.reduceDiv, Int32.reduceMul, pm_same, pm_i_wI, pm_l_wL, pm_l_wM, pm_oR_rf, pm_oQ_rf, sh_k5 hS, nI_1, pm_wI_wI, sw_e, LQ1, LQ2, hp5, hr5, hkD]
    exact h0 hv
theorem rd51_100_7 {G : pm_G} {d : Nat} {S0 S : pm_S} {D r n : Nat} {W : Nat → Nat} {L : gx_L} {q : Int32 → pm_S → Prop} (hd : 6 ≤ d) (hS0 : Sh S0) (hd0 : dl S0 D W) (hr : rs S0 D W n S r L) {h : Int32} {s : Nat} {v : Value} (hl : L.2.2.length < r) (hs : s < 16) (h1 : ∀ x m S', gx_num (gx_b (pm_i S0 6) n) 0 4 r = (x, some m) → rs S0 D W n S' x (L.1, L.2.1, L.2.2 ++ [gx_st 7 s m]) → q 1 S') (h0 : gx_num (gx_b (pm_i S0 6) n) 0 4 r = (r, none) → q 0 S) : pm_W G d 51 (pm_QI q) 100 [.ref 5, .int 7, .int h, .int (nI s), v] [] S 0 0 := by
  have hS := hr.sh hS0
  have hdl := hr.todl hd0
  have ht := hr.text hd0
  have hr3 := hr.2.2.1
  have hn := hr3.2.2.2.1
  have hpn := hr3.2.2.1
  have hp5 : pm_i S 5 2 = nI r := hr3.1
  have hr5 : pm_r S 5 3 = some D := hdl.1
  have hkD : pm_k S D = 5 := hdl.2.1
  have rB : gx_b (pm_i S 6) n = gx_b (pm_i S0 6) n := by rw [ht]
  refine pm_wb_ok pb_c51 2 100 0 _ _ _ _ _ ?_
  try simp only [pm_WI0, pm_WI1, pm_WI2, pm_WI3, pm_WI4, pm_WI5, pm_WV, pm_WW, pm_WX, pb_B51, pm_if, pm_QI_at, pm_QL_at, pm_QV_at, pm_QR_at, pm_QR_at0, pm_QR_at1, Nat.reduceSub, Nat.reduceAdd, List.replicate_zero, List.replicate_succ, true_and, and_true, true_or, or_true, and_self, reduceIte, Nat.reduceEqDiff, Nat.reduceLT, Nat.reduceLeDiff, Nat.reduceMul, false_and, and_false, reduceCtorEq, false_or, or_false, not_true_eq_false, not_false_eq_true, true_implies, false_implies, implies_true, lf_10, eq_self, Int32.reduceLT, Int32.reduceLE, Int32.reduceAdd, Int32.reduceSub, Int32.reduceDiv, Int32.reduceMul, pm_same, pm_i_wI, pm_l_wL, pm_l_wM, pm_oR_rf, pm_oQ_rf, sh_k5 hS, nI_1, pm_wI_wI, sw_e, LQ1, LQ2, hp5, hr5, hkD]
  refine ⟨by omega, rd_53_7 ⟨by omega, sh_k5 hS, rd_48_04 (n := n) hS hr3 (fun x m hv1 hv2 hv3 hv4 => ?_) (fun hv => ?_)⟩⟩ <;> rw [rB] at *
  · have hm0 : ¬ nI m < 0 := nI_pos (by omega)
    have hge : 0 ≤ nI m := nI_pos' (by omega)
    try simp only [pm_WV, pm_WW, true_and, and_true, true_or, or_true, and_self, reduceIte, Nat.reduceEqDiff, Nat.reduceLT, Nat.reduceLeDiff, Nat.reduceMul, false_and, and_false, reduceCtorEq, false_or, or_false, not_true_eq_false, not_false_eq_true, true_implies, false_implies, implies_true, lf_10, eq_self, Int32.reduceLT, Int32.reduceLE, Int32.reduceAdd, Int32.reduceSub, Int32.reduceDiv, Int32.reduceMul, pm_same, pm_i_wI, pm_l_wL, pm_l_wM, pm_oR_rf, pm_oQ_rf, sh_k5 hS, nI_1, pm_wI_wI, sw_e, LQ1, LQ2]
    refine pm_wb_ok pb_c51 1 118 0 _ _ _ _ _ ?_
    try simp only [pm_WI0, pm_WI1, pm_WI2, pm_WI3, pm_WI4, pm_WI5, pm_WV, pm_WW, pm_WX, pb_B51, pm_if, pm_QI_at, pm_QL_at, pm_QV_at, pm_QR_at, pm_QR_at0, pm_QR_at1, Nat.reduceSub, Nat.reduceAdd, List.replicate_zero, List.replicate_succ, true_and, and_true, true_or, or_true, and_self, reduceIte, Nat.reduceEqDiff, Nat.reduceLT, Nat.reduceLeDiff, Nat.reduceMul, false_and, and_false, reduceCtorEq, false_or, or_false, not_true_eq_false, not_false_eq_true, true_implies, false_implies, implies_true, lf_10, eq_self, Int32.reduceLT, Int32.reduceLE, Int32.reduceAdd, Int32.reduceSub, Int32.reduceDiv, Int32.reduceMul, pm_same, pm_i_wI, pm_l_wL, pm_l_wM, pm_oR_rf, pm_oQ_rf, sh_k5 hS, nI_1, pm_wI_wI, sw_e, LQ1, LQ2, hp5, hr5, hkD, hge]
    exact rd51_127_7 hd hS0 hd0 (hr.mv hd0 hv3) (by omega) hs (by omega) (fun S' hS' => h1 x m S' hv1 hS')
  · try simp only [pm_WV, pm_WW, true_and, and_true, true_or, or_true, and_self, reduceIte, Nat.reduceEqDiff, Nat.reduceLT, Nat.reduceLeDiff, Nat.reduceMul, false_and, and_false, reduceCtorEq, false_or, or_false, not_true_eq_false, not_false_eq_true, true_implies, false_implies, implies_true, lf_10, eq_self, Int32.reduceLT, Int32.reduceLE, Int32.reduceAdd, Int32.reduceSub, Int32.reduceDiv, Int32.reduceMul, pm_same, pm_i_wI, pm_l_wL, pm_l_wM, pm_oR_rf, pm_oQ_rf, sh_k5 hS, nI_1, pm_wI_wI, sw_e, LQ1, LQ2]
    refine pm_wb_ok pb_c51 3 118 0 _ _ _ _ _ ?_
    try simp only [pm_WI0, pm_WI1, pm_WI2, pm_WI3, pm_WI4, pm_WI5, pm_WV, pm_WW, pm_WX, pb_B51, pm_if, pm_QI_at, pm_QL_at, pm_QV_at, pm_QR_at, pm_QR_at0, pm_QR_at1, Nat.reduceSub, Nat.reduceAdd, List.replicate_zero, List.replicate_succ, true_and, and_true, true_or, or_true, and_self, reduceIte, Nat.reduceEqDiff, Nat.reduceLT, Nat.reduceLeDiff, Nat.reduceMul, false_and, and_false, reduceCtorEq, false_or, or_false, not_true_eq_false, not_false_eq_true, true_implies, false_implies, implies_true, lf_10, eq_self, Int32.reduceLT, Int32.reduceLE, Int32.reduceAdd, Int32.reduceSub, Int32.reduceDiv, Int32.reduceMul, pm_same, pm_i_wI, pm_l_wL, pm_l_wM, pm_oR_rf, pm_oQ_rf, sh_k5 hS, nI_1, pm_wI_wI, sw_e, LQ1, LQ2, hp5, hr5, hkD]
    exact h0 hv
theorem rd51_61_2 {G : pm_G} {d : Nat} {S0 S : pm_S} {D r n : Nat} {W : Nat → Nat} {L : gx_L} {q : Int32 → pm_S → Prop} (hd : 6 ≤ d) (hS0 : Sh S0) (hd0 : dl S0 D W) (hr : rs S0 D W n S r L) {h : Int32} {s : Nat} {v : Value} (hl : L.2.2.length < r) (hs : s < 16) (h1 : ∀ x e S', gx_cmp (gx_b (pm_i S0 6) n) 2 s 2 r = (x, some e) → rs S0 D W n S' x (L.1, L.2.1, L.2.2 ++ e) → q 1 S') (h0 : ∀ x S', gx_cmp (gx_b (pm_i S0 6) n) 2 s 2 r = (x, none) → rs S0 D W n S' x L → q 0 S') : pm_W G d 51 (pm_QI q) 61 [.ref 5, .int 2, .int h, .int (nI s), v] [] S 0 0 := by
  have hS := hr.sh hS0
  have hdl := hr.todl hd0
  have ht := hr.text hd0
  have hr3 := hr.2.2.1
  have hn := hr3.2.2.2.1
  have hpn := hr3.2.2.1
  have hp5 : pm_i S 5 2 = nI r := hr3.1
  have hr5 : pm_r S 5 3 = some D := hdl.1
  have hkD : pm_k S D = 5 := hdl.2.1
  have rB : gx_b (pm_i S 6) n = gx_b (pm_i S0 6) n := by rw [ht]
  refine pm_wb_ok pb_c51 2 61 0 _ _ _ _ _ ?_
  try simp only [pm_WI0, pm_WI1, pm_WI2, pm_WI3, pm_WI4, pm_WI5, pm_WV, pm_WW, pm_WX, pb_B51, pm_if, pm_QI_at, pm_QL_at, pm_QV_at, pm_QR_at, pm_QR_at0, pm_QR_at1, Nat.reduceSub, Nat.reduceAdd, List.replicate_zero, List.replicate_succ, true_and, and_true, true_or, or_true, and_self, reduceIte, Nat.reduceEqDiff, Nat.reduceLT, Nat.reduceLeDiff, Nat.reduceMul, false_and, and_false, reduceCtorEq, false_or, or_false, not_true_eq_false, not_false_eq_true, true_implies, false_implies, implies_true, lf_10, eq_self, Int32.reduceLT, Int32.reduceLE, Int32.reduceAdd, Int32.reduceSub, Int32.reduceDiv, Int32.reduceMul, pm_same, pm_i_wI, pm_l_wL, pm_l_wM, pm_oR_rf, pm_oQ_rf, sh_k5 hS, nI_1, pm_wI_wI, sw_e, LQ1, LQ2, hp5, hr5, hkD]
  refine ⟨by omega, rd_46 (c := 62) (n := n) hS hr3 (by omega) (fun y => ?_) (fun y => ?_)⟩ <;> rw [rB] at y
  · have hlt : r < n := gx_lt gx_b_eof y (by omega)
    have ec : gx_cmp (gx_b (pm_i S0 6) n) 2 s 2 r = gx_bd (gx_num (gx_b (pm_i S0 6) n) 0 2 (r + 1)) (fun n q => (q, some [gx_st 3 s n])) := by
      unfold gx_cmp; rw [if_neg (by omega), if_pos y]
    have hr2 := hr.mv hd0 (q := r + 1) (by omega)
    try simp only [pm_WV, pm_WW, true_and, and_true, true_or, or_true, and_self, reduceIte, Nat.reduceEqDiff, Nat.reduceLT, Nat.reduceLeDiff, Nat.reduceMul, false_and, and_false, reduceCtorEq, false_or, or_false, not_true_eq_false, not_false_eq_true, true_implies, false_implies, implies_true, lf_10, eq_self, Int32.reduceLT, Int32.reduceLE, Int32.reduceAdd, Int32.reduceSub, Int32.reduceDiv, Int32.reduceMul, pm_same, pm_i_wI, pm_l_wL, pm_l_wM, pm_oR_rf, pm_oQ_rf, sh_k5 hS, nI_1, pm_wI_wI, sw_e, LQ1, LQ2, pb_B51, pm_if, pm_QI_at, pm_QL_at, pm_QV_at, pm_QR_at, pm_QR_at0, pm_QR_at1, Nat.reduceSub, Nat.reduceAdd, List.replicate_zero, List.replicate_succ, pm_WI0, pm_WI1, pm_WI2, pm_WI3, pm_WI4, pm_WI5, pm_WV, pm_WW, pm_WX]
    exact rd51_100_3 hd hS0 hd0 hr2 (by omega) hs (fun x m S' hv hS' => h1 x _ S' (by rw [ec, gx_bd_some hv]) hS') (fun hv => h0 _ _ (by rw [ec, gx_bd_none hv]) hr2)
  · try simp only [pm_WV, pm_WW, true_and, and_true, true_or, or_true, and_self, reduceIte, Nat.reduceEqDiff, Nat.reduceLT, Nat.reduceLeDiff, Nat.reduceMul, false_and, and_false, reduceCtorEq, false_or, or_false, not_true_eq_false, not_false_eq_true, true_implies, false_implies, implies_true, lf_10, eq_self, Int32.reduceLT, Int32.reduceLE, Int32.reduceAdd, Int32.reduceSub, Int32.reduceDiv, Int32.reduceMul, pm_same, pm_i_wI, pm_l_wL, pm_l_wM, pm_oR_rf, pm_oQ_rf, sh_k5 hS, nI_1, pm_wI_wI, sw_e, LQ1, LQ2, pb_B51, pm_if, pm_QI_at, pm_QL_at, pm_QV_at, pm_QR_at, pm_QR_at0, pm_QR_at1, Nat.reduceSub, Nat.reduceAdd, List.replicate_zero, List.replicate_succ, pm_WI0, pm_WI1, pm_WI2, pm_WI3, pm_WI4, pm_WI5, pm_WV, pm_WW, pm_WX]
    refine pm_wb_ok pb_c51 1 81 0 _ _ _ _ _ ?_
    try simp only [pm_WI0, pm_WI1, pm_WI2, pm_WI3, pm_WI4, pm_WI5, pm_WV, pm_WW, pm_WX, pb_B51, pm_if, pm_QI_at, pm_QL_at, pm_QV_at, pm_QR_at, pm_QR_at0, pm_QR_at1, Nat.reduceSub, Nat.reduceAdd, List.replicate_zero, List.replicate_succ, true_and, and_true, true_or, or_true, and_self, reduceIte, Nat.reduceEqDiff, Nat.reduceLT, Nat.reduceLeDiff, Nat.reduceMul, false_and, and_false, reduceCtorEq, false_or, or_false, not_true_eq_false, not_false_eq_true, true_implies, false_implies, implies_true, lf_10, eq_self, Int32.reduceLT, Int32.reduceLE, Int32.reduceAdd, Int32.reduceSub, Int32.reduceDiv, Int32.reduceMul, pm_same, pm_i_wI, pm_l_wL, pm_l_wM, pm_oR_rf, pm_oQ_rf, sh_k5 hS, nI_1, pm_wI_wI, sw_e, LQ1, LQ2, hp5, hr5, hkD]
    refine ⟨by omega, rd_46 (c := 60) (n := n) hS hr3 (by omega) (fun y2 => ?_) (fun y2 => ?_)⟩ <;> rw [rB] at y2
    · have hlt : r < n := gx_lt gx_b_eof y2 (by omega)
      have ec : gx_cmp (gx_b (pm_i S0 6) n) 2 s 2 r = gx_bd (gx_num (gx_b (pm_i S0 6) n) 0 2 (r + 1)) (fun n q => (q, some [gx_st 2 s n])) := by
        unfold gx_cmp; rw [if_pos y2]
      have hr2 := hr.mv hd0 (q := r + 1) (by omega)
      try simp only [pm_WV, pm_WW, true_and, and_true, true_or, or_true, and_self, reduceIte, Nat.reduceEqDiff, Nat.reduceLT, Nat.reduceLeDiff, Nat.reduceMul, false_and, and_false, reduceCtorEq, false_or, or_false, not_true_eq_false, not_false_eq_true, true_implies, false_implies, implies_true, lf_10, eq_self, Int32.reduceLT, Int32.reduceLE, Int32.reduceAdd, Int32.reduceSub, Int32.reduceDiv, Int32.reduceMul, pm_same, pm_i_wI, pm_l_wL, pm_l_wM, pm_oR_rf, pm_oQ_rf, sh_k5 hS, nI_1, pm_wI_wI, sw_e, LQ1, LQ2, pb_B51, pm_if, pm_QI_at, pm_QL_at, pm_QV_at, pm_QR_at, pm_QR_at0, pm_QR_at1, Nat.reduceSub, Nat.reduceAdd, List.replicate_zero, List.replicate_succ, pm_WI0, pm_WI1, pm_WI2, pm_WI3, pm_WI4, pm_WI5, pm_WV, pm_WW, pm_WX]
      exact rd51_100_2 hd hS0 hd0 hr2 (by omega) hs (fun x m S' hv hS' => h1 x _ S' (by rw [ec, gx_bd_some hv]) hS') (fun hv => h0 _ _ (by rw [ec, gx_bd_none hv]) hr2)
    · try simp only [pm_WV, pm_WW, true_and, and_true, true_or, or_true, and_self, reduceIte, Nat.reduceEqDiff, Nat.reduceLT, Nat.reduceLeDiff, Nat.reduceMul, false_and, and_false, reduceCtorEq, false_or, or_false, not_true_eq_false, not_false_eq_true, true_implies, false_implies, implies_true, lf_10, eq_self, Int32.reduceLT, Int32.reduceLE, Int32.reduceAdd, Int32.reduceSub, Int32.reduceDiv, Int32.reduceMul, pm_same, pm_i_wI, pm_l_wL, pm_l_wM, pm_oR_rf, pm_oQ_rf, sh_k5 hS, nI_1, pm_wI_wI, sw_e, LQ1, LQ2, pb_B51, pm_if, pm_QI_at, pm_QL_at, pm_QV_at, pm_QR_at, pm_QR_at0, pm_QR_at1, Nat.reduceSub, Nat.reduceAdd, List.replicate_zero, List.replicate_succ, pm_WI0, pm_WI1, pm_WI2, pm_WI3, pm_WI4, pm_WI5, pm_WV, pm_WW, pm_WX]
      exact h0 r S (by unfold gx_cmp; rw [if_neg y2, if_neg y]) hr
theorem rd51_61_4 {G : pm_G} {d : Nat} {S0 S : pm_S} {D r n : Nat} {W : Nat → Nat} {L : gx_L} {q : Int32 → pm_S → Prop} (hd : 6 ≤ d) (hS0 : Sh S0) (hd0 : dl S0 D W) (hr : rs S0 D W n S r L) {h : Int32} {s : Nat} {v : Value} (hl : L.2.2.length < r) (hs : s < 16) (h1 : ∀ x e S', gx_cmp (gx_b (pm_i S0 6) n) 4 s 4 r = (x, some e) → rs S0 D W n S' x (L.1, L.2.1, L.2.2 ++ e) → q 1 S') (h0 : ∀ x S', gx_cmp (gx_b (pm_i S0 6) n) 4 s 4 r = (x, none) → rs S0 D W n S' x L → q 0 S') : pm_W G d 51 (pm_QI q) 61 [.ref 5, .int 4, .int h, .int (nI s), v] [] S 0 0 := by
  have hS := hr.sh hS0
  have hdl := hr.todl hd0
  have ht := hr.text hd0
  have hr3 := hr.2.2.1
  have hn := hr3.2.2.2.1
  have hpn := hr3.2.2.1
  have hp5 : pm_i S 5 2 = nI r := hr3.1
  have hr5 : pm_r S 5 3 = some D := hdl.1
  have hkD : pm_k S D = 5 := hdl.2.1
  have rB : gx_b (pm_i S 6) n = gx_b (pm_i S0 6) n := by rw [ht]
  refine pm_wb_ok pb_c51 2 61 0 _ _ _ _ _ ?_
  try simp only [pm_WI0, pm_WI1, pm_WI2, pm_WI3, pm_WI4, pm_WI5, pm_WV, pm_WW, pm_WX, pb_B51, pm_if, pm_QI_at, pm_QL_at, pm_QV_at, pm_QR_at, pm_QR_at0, pm_QR_at1, Nat.reduceSub, Nat.reduceAdd, List.replicate_zero, List.replicate_succ, true_and, and_true, true_or, or_true, and_self, reduceIte, Nat.reduceEqDiff, Nat.reduceLT, Nat.reduceLeDiff, Nat.reduceMul, false_and, and_false, reduceCtorEq, false_or, or_false, not_true_eq_false, not_false_eq_true, true_implies, false_implies, implies_true, lf_10, eq_self, Int32.reduceLT, Int32.reduceLE, Int32.reduceAdd, Int32.reduceSub, Int32.reduceDiv, Int32.reduceMul, pm_same, pm_i_wI, pm_l_wL, pm_l_wM, pm_oR_rf, pm_oQ_rf, sh_k5 hS, nI_1, pm_wI_wI, sw_e, LQ1, LQ2, hp5, hr5, hkD]
  refine ⟨by omega, rd_46 (c := 62) (n := n) hS hr3 (by omega) (fun y => ?_) (fun y => ?_)⟩ <;> rw [rB] at y
  · have hlt : r < n := gx_lt gx_b_eof y (by omega)
    have ec : gx_cmp (gx_b (pm_i S0 6) n) 4 s 4 r = gx_bd (gx_num (gx_b (pm_i S0 6) n) 0 4 (r + 1)) (fun n q => (q, some [gx_st 5 s n])) := by
      unfold gx_cmp; rw [if_neg (by omega), if_pos y]
    have hr2 := hr.mv hd0 (q := r + 1) (by omega)
    try simp only [pm_WV, pm_WW, true_and, and_true, true_or, or_true, and_self, reduceIte, Nat.reduceEqDiff, Nat.reduceLT, Nat.reduceLeDiff, Nat.reduceMul, false_and, and_false, reduceCtorEq, false_or, or_false, not_true_eq_false, not_false_eq_true, true_implies, false_implies, implies_true, lf_10, eq_self, Int32.reduceLT, Int32.reduceLE, Int32.reduceAdd, Int32.reduceSub, Int32.reduceDiv, Int32.reduceMul, pm_same, pm_i_wI, pm_l_wL, pm_l_wM, pm_oR_rf, pm_oQ_rf, sh_k5 hS, nI_1, pm_wI_wI, sw_e, LQ1, LQ2, pb_B51, pm_if, pm_QI_at, pm_QL_at, pm_QV_at, pm_QR_at, pm_QR_at0, pm_QR_at1, Nat.reduceSub, Nat.reduceAdd, List.replicate_zero, List.replicate_succ, pm_WI0, pm_WI1, pm_WI2, pm_WI3, pm_WI4, pm_WI5, pm_WV, pm_WW, pm_WX]
    exact rd51_100_5 hd hS0 hd0 hr2 (by omega) hs (fun x m S' hv hS' => h1 x _ S' (by rw [ec, gx_bd_some hv]) hS') (fun hv => h0 _ _ (by rw [ec, gx_bd_none hv]) hr2)
  · try simp only [pm_WV, pm_WW, true_and, and_true, true_or, or_true, and_self, reduceIte, Nat.reduceEqDiff, Nat.reduceLT, Nat.reduceLeDiff, Nat.reduceMul, false_and, and_false, reduceCtorEq, false_or, or_false, not_true_eq_false, not_false_eq_true, true_implies, false_implies, implies_true, lf_10, eq_self, Int32.reduceLT, Int32.reduceLE, Int32.reduceAdd, Int32.reduceSub, Int32.reduceDiv, Int32.reduceMul, pm_same, pm_i_wI, pm_l_wL, pm_l_wM, pm_oR_rf, pm_oQ_rf, sh_k5 hS, nI_1, pm_wI_wI, sw_e, LQ1, LQ2, pb_B51, pm_if, pm_QI_at, pm_QL_at, pm_QV_at, pm_QR_at, pm_QR_at0, pm_QR_at1, Nat.reduceSub, Nat.reduceAdd, List.replicate_zero, List.replicate_succ, pm_WI0, pm_WI1, pm_WI2, pm_WI3, pm_WI4, pm_WI5, pm_WV, pm_WW, pm_WX]
    refine pm_wb_ok pb_c51 1 81 0 _ _ _ _ _ ?_
    try simp only [pm_WI0, pm_WI1, pm_WI2, pm_WI3, pm_WI4, pm_WI5, pm_WV, pm_WW, pm_WX, pb_B51, pm_if, pm_QI_at, pm_QL_at, pm_QV_at, pm_QR_at, pm_QR_at0, pm_QR_at1, Nat.reduceSub, Nat.reduceAdd, List.replicate_zero, List.replicate_succ, true_and, and_true, true_or, or_true, and_self, reduceIte, Nat.reduceEqDiff, Nat.reduceLT, Nat.reduceLeDiff, Nat.reduceMul, false_and, and_false, reduceCtorEq, false_or, or_false, not_true_eq_false, not_false_eq_true, true_implies, false_implies, implies_true, lf_10, eq_self, Int32.reduceLT, Int32.reduceLE, Int32.reduceAdd, Int32.reduceSub, Int32.reduceDiv, Int32.reduceMul, pm_same, pm_i_wI, pm_l_wL, pm_l_wM, pm_oR_rf, pm_oQ_rf, sh_k5 hS, nI_1, pm_wI_wI, sw_e, LQ1, LQ2, hp5, hr5, hkD]
    refine ⟨by omega, rd_46 (c := 60) (n := n) hS hr3 (by omega) (fun y2 => ?_) (fun y2 => ?_)⟩ <;> rw [rB] at y2
    · have hlt : r < n := gx_lt gx_b_eof y2 (by omega)
      have ec : gx_cmp (gx_b (pm_i S0 6) n) 4 s 4 r = gx_bd (gx_num (gx_b (pm_i S0 6) n) 0 4 (r + 1)) (fun n q => (q, some [gx_st 4 s n])) := by
        unfold gx_cmp; rw [if_pos y2]
      have hr2 := hr.mv hd0 (q := r + 1) (by omega)
      try simp only [pm_WV, pm_WW, true_and, and_true, true_or, or_true, and_self, reduceIte, Nat.reduceEqDiff, Nat.reduceLT, Nat.reduceLeDiff, Nat.reduceMul, false_and, and_false, reduceCtorEq, false_or, or_false, not_true_eq_false, not_false_eq_true, true_implies, false_implies, implies_true, lf_10, eq_self, Int32.reduceLT, Int32.reduceLE, Int32.reduceAdd, Int32.reduceSub, Int32.reduceDiv, Int32.reduceMul, pm_same, pm_i_wI, pm_l_wL, pm_l_wM, pm_oR_rf, pm_oQ_rf, sh_k5 hS, nI_1, pm_wI_wI, sw_e, LQ1, LQ2, pb_B51, pm_if, pm_QI_at, pm_QL_at, pm_QV_at, pm_QR_at, pm_QR_at0, pm_QR_at1, Nat.reduceSub, Nat.reduceAdd, List.replicate_zero, List.replicate_succ, pm_WI0, pm_WI1, pm_WI2, pm_WI3, pm_WI4, pm_WI5, pm_WV, pm_WW, pm_WX]
      exact rd51_100_4 hd hS0 hd0 hr2 (by omega) hs (fun x m S' hv hS' => h1 x _ S' (by rw [ec, gx_bd_some hv]) hS') (fun hv => h0 _ _ (by rw [ec, gx_bd_none hv]) hr2)
    · try simp only [pm_WV, pm_WW, true_and, and_true, true_or, or_true, and_self, reduceIte, Nat.reduceEqDiff, Nat.reduceLT, Nat.reduceLeDiff, Nat.reduceMul, false_and, and_false, reduceCtorEq, false_or, or_false, not_true_eq_false, not_false_eq_true, true_implies, false_implies, implies_true, lf_10, eq_self, Int32.reduceLT, Int32.reduceLE, Int32.reduceAdd, Int32.reduceSub, Int32.reduceDiv, Int32.reduceMul, pm_same, pm_i_wI, pm_l_wL, pm_l_wM, pm_oR_rf, pm_oQ_rf, sh_k5 hS, nI_1, pm_wI_wI, sw_e, LQ1, LQ2, pb_B51, pm_if, pm_QI_at, pm_QL_at, pm_QV_at, pm_QR_at, pm_QR_at0, pm_QR_at1, Nat.reduceSub, Nat.reduceAdd, List.replicate_zero, List.replicate_succ, pm_WI0, pm_WI1, pm_WI2, pm_WI3, pm_WI4, pm_WI5, pm_WV, pm_WW, pm_WX]
      exact h0 r S (by unfold gx_cmp; rw [if_neg y2, if_neg y]) hr
theorem rd51_61_6 {G : pm_G} {d : Nat} {S0 S : pm_S} {D r n : Nat} {W : Nat → Nat} {L : gx_L} {q : Int32 → pm_S → Prop} (hd : 6 ≤ d) (hS0 : Sh S0) (hd0 : dl S0 D W) (hr : rs S0 D W n S r L) {h : Int32} {s : Nat} {v : Value} (hl : L.2.2.length < r) (hs : s < 16) (h1 : ∀ x e S', gx_cmp (gx_b (pm_i S0 6) n) 6 s 4 r = (x, some e) → rs S0 D W n S' x (L.1, L.2.1, L.2.2 ++ e) → q 1 S') (h0 : ∀ x S', gx_cmp (gx_b (pm_i S0 6) n) 6 s 4 r = (x, none) → rs S0 D W n S' x L → q 0 S') : pm_W G d 51 (pm_QI q) 61 [.ref 5, .int 6, .int h, .int (nI s), v] [] S 0 0 := by
  have hS := hr.sh hS0
  have hdl := hr.todl hd0
  have ht := hr.text hd0
  have hr3 := hr.2.2.1
  have hn := hr3.2.2.2.1
  have hpn := hr3.2.2.1
  have hp5 : pm_i S 5 2 = nI r := hr3.1
  have hr5 : pm_r S 5 3 = some D := hdl.1
  have hkD : pm_k S D = 5 := hdl.2.1
  have rB : gx_b (pm_i S 6) n = gx_b (pm_i S0 6) n := by rw [ht]
  refine pm_wb_ok pb_c51 2 61 0 _ _ _ _ _ ?_
  try simp only [pm_WI0, pm_WI1, pm_WI2, pm_WI3, pm_WI4, pm_WI5, pm_WV, pm_WW, pm_WX, pb_B51, pm_if, pm_QI_at, pm_QL_at, pm_QV_at, pm_QR_at, pm_QR_at0, pm_QR_at1, Nat.reduceSub, Nat.reduceAdd, List.replicate_zero, List.replicate_succ, true_and, and_true, true_or, or_true, and_self, reduceIte, Nat.reduceEqDiff, Nat.reduceLT, Nat.reduceLeDiff, Nat.reduceMul, false_and, and_false, reduceCtorEq, false_or, or_false, not_true_eq_false, not_false_eq_true, true_implies, false_implies, implies_true, lf_10, eq_self, Int32.reduceLT, Int32.reduceLE, Int32.reduceAdd, Int32.reduceSub, Int32.reduceDiv, Int32.reduceMul, pm_same, pm_i_wI, pm_l_wL, pm_l_wM, pm_oR_rf, pm_oQ_rf, sh_k5 hS, nI_1, pm_wI_wI, sw_e, LQ1, LQ2, hp5, hr5, hkD]
  refine ⟨by omega, rd_46 (c := 62) (n := n) hS hr3 (by omega) (fun y => ?_) (fun y => ?_)⟩ <;> rw [rB] at y
  · have hlt : r < n := gx_lt gx_b_eof y (by omega)
    have ec : gx_cmp (gx_b (pm_i S0 6) n) 6 s 4 r = gx_bd (gx_num (gx_b (pm_i S0 6) n) 0 4 (r + 1)) (fun n q => (q, some [gx_st 7 s n])) := by
      unfold gx_cmp; rw [if_neg (by omega), if_pos y]
    have hr2 := hr.mv hd0 (q := r + 1) (by omega)
    try simp only [pm_WV, pm_WW, true_and, and_true, true_or, or_true, and_self, reduceIte, Nat.reduceEqDiff, Nat.reduceLT, Nat.reduceLeDiff, Nat.reduceMul, false_and, and_false, reduceCtorEq, false_or, or_false, not_true_eq_false, not_false_eq_true, true_implies, false_implies, implies_true, lf_10, eq_self, Int32.reduceLT, Int32.reduceLE, Int32.reduceAdd, Int32.reduceSub, Int32.reduceDiv, Int32.reduceMul, pm_same, pm_i_wI, pm_l_wL, pm_l_wM, pm_oR_rf, pm_oQ_rf, sh_k5 hS, nI_1, pm_wI_wI, sw_e, LQ1, LQ2, pb_B51, pm_if, pm_QI_at, pm_QL_at, pm_QV_at, pm_QR_at, pm_QR_at0, pm_QR_at1, Nat.reduceSub, Nat.reduceAdd, List.replicate_zero, List.replicate_succ, pm_WI0, pm_WI1, pm_WI2, pm_WI3, pm_WI4, pm_WI5, pm_WV, pm_WW, pm_WX]
    exact rd51_100_7 hd hS0 hd0 hr2 (by omega) hs (fun x m S' hv hS' => h1 x _ S' (by rw [ec, gx_bd_some hv]) hS') (fun hv => h0 _ _ (by rw [ec, gx_bd_none hv]) hr2)
  · try simp only [pm_WV, pm_WW, true_and, and_true, true_or, or_true, and_self, reduceIte, Nat.reduceEqDiff, Nat.reduceLT, Nat.reduceLeDiff, Nat.reduceMul, false_and, and_false, reduceCtorEq, false_or, or_false, not_true_eq_false, not_false_eq_true, true_implies, false_implies, implies_true, lf_10, eq_self, Int32.reduceLT, Int32.reduceLE, Int32.reduceAdd, Int32.reduceSub, Int32.reduceDiv, Int32.reduceMul, pm_same, pm_i_wI, pm_l_wL, pm_l_wM, pm_oR_rf, pm_oQ_rf, sh_k5 hS, nI_1, pm_wI_wI, sw_e, LQ1, LQ2, pb_B51, pm_if, pm_QI_at, pm_QL_at, pm_QV_at, pm_QR_at, pm_QR_at0, pm_QR_at1, Nat.reduceSub, Nat.reduceAdd, List.replicate_zero, List.replicate_succ, pm_WI0, pm_WI1, pm_WI2, pm_WI3, pm_WI4, pm_WI5, pm_WV, pm_WW, pm_WX]
    refine pm_wb_ok pb_c51 1 81 0 _ _ _ _ _ ?_
    try simp only [pm_WI0, pm_WI1, pm_WI2, pm_WI3, pm_WI4, pm_WI5, pm_WV, pm_WW, pm_WX, pb_B51, pm_if, pm_QI_at, pm_QL_at, pm_QV_at, pm_QR_at, pm_QR_at0, pm_QR_at1, Nat.reduceSub, Nat.reduceAdd, List.replicate_zero, List.replicate_succ, true_and, and_true, true_or, or_true, and_self, reduceIte, Nat.reduceEqDiff, Nat.reduceLT, Nat.reduceLeDiff, Nat.reduceMul, false_and, and_false, reduceCtorEq, false_or, or_false, not_true_eq_false, not_false_eq_true, true_implies, false_implies, implies_true, lf_10, eq_self, Int32.reduceLT, Int32.reduceLE, Int32.reduceAdd, Int32.reduceSub, Int32.reduceDiv, Int32.reduceMul, pm_same, pm_i_wI, pm_l_wL, pm_l_wM, pm_oR_rf, pm_oQ_rf, sh_k5 hS, nI_1, pm_wI_wI, sw_e, LQ1, LQ2, hp5, hr5, hkD]
    refine ⟨by omega, rd_46 (c := 60) (n := n) hS hr3 (by omega) (fun y2 => ?_) (fun y2 => ?_)⟩ <;> rw [rB] at y2
    · have hlt : r < n := gx_lt gx_b_eof y2 (by omega)
      have ec : gx_cmp (gx_b (pm_i S0 6) n) 6 s 4 r = gx_bd (gx_num (gx_b (pm_i S0 6) n) 0 4 (r + 1)) (fun n q => (q, some [gx_st 6 s n])) := by
        unfold gx_cmp; rw [if_pos y2]
      have hr2 := hr.mv hd0 (q := r + 1) (by omega)
      try simp only [pm_WV, pm_WW, true_and, and_true, true_or, or_true, and_self, reduceIte, Nat.reduceEqDiff, Nat.reduceLT, Nat.reduceLeDiff, Nat.reduceMul, false_and, and_false, reduceCtorEq, false_or, or_false, not_true_eq_false, not_false_eq_true, true_implies, false_implies, implies_true, lf_10, eq_self, Int32.reduceLT, Int32.reduceLE, Int32.reduceAdd, Int32.reduceSub, Int32.reduceDiv, Int32.reduceMul, pm_same, pm_i_wI, pm_l_wL, pm_l_wM, pm_oR_rf, pm_oQ_rf, sh_k5 hS, nI_1, pm_wI_wI, sw_e, LQ1, LQ2, pb_B51, pm_if, pm_QI_at, pm_QL_at, pm_QV_at, pm_QR_at, pm_QR_at0, pm_QR_at1, Nat.reduceSub, Nat.reduceAdd, List.replicate_zero, List.replicate_succ, pm_WI0, pm_WI1, pm_WI2, pm_WI3, pm_WI4, pm_WI5, pm_WV, pm_WW, pm_WX]
      exact rd51_100_6 hd hS0 hd0 hr2 (by omega) hs (fun x m S' hv hS' => h1 x _ S' (by rw [ec, gx_bd_some hv]) hS') (fun hv => h0 _ _ (by rw [ec, gx_bd_none hv]) hr2)
    · try simp only [pm_WV, pm_WW, true_and, and_true, true_or, or_true, and_self, reduceIte, Nat.reduceEqDiff, Nat.reduceLT, Nat.reduceLeDiff, Nat.reduceMul, false_and, and_false, reduceCtorEq, false_or, or_false, not_true_eq_false, not_false_eq_true, true_implies, false_implies, implies_true, lf_10, eq_self, Int32.reduceLT, Int32.reduceLE, Int32.reduceAdd, Int32.reduceSub, Int32.reduceDiv, Int32.reduceMul, pm_same, pm_i_wI, pm_l_wL, pm_l_wM, pm_oR_rf, pm_oQ_rf, sh_k5 hS, nI_1, pm_wI_wI, sw_e, LQ1, LQ2, pb_B51, pm_if, pm_QI_at, pm_QL_at, pm_QV_at, pm_QR_at, pm_QR_at0, pm_QR_at1, Nat.reduceSub, Nat.reduceAdd, List.replicate_zero, List.replicate_succ, pm_WI0, pm_WI1, pm_WI2, pm_WI3, pm_WI4, pm_WI5, pm_WV, pm_WW, pm_WX]
      exact h0 r S (by unfold gx_cmp; rw [if_neg y2, if_neg y]) hr
set_option maxRecDepth 20000 in
theorem rd_51 {G : pm_G} {d : Nat} {S0 S : pm_S} {D r n : Nat} {W : Nat → Nat} {L : gx_L} {q : Int32 → pm_S → Prop} (hd : 6 ≤ d) (hS0 : Sh S0) (hd0 : dl S0 D W) (hr : rs S0 D W n S r L) (hl : L.2.2.length ≤ r) (h1 : ∀ x e S', gx_test (gx_b (pm_i S0 6) n) r = (x, some e) → rs S0 D W n S' x (L.1, L.2.1, L.2.2 ++ e) → q 1 S') (h0 : ∀ x S', gx_test (gx_b (pm_i S0 6) n) r = (x, none) → rs S0 D W n S' x L → q 0 S') : pm_CI G d 51 [.ref 5] S q := by
  have hS := hr.sh hS0
  have hdl := hr.todl hd0
  have ht := hr.text hd0
  have hr3 := hr.2.2.1
  have hn := hr3.2.2.2.1
  have hpn := hr3.2.2.1
  have hp5 : pm_i S 5 2 = nI r := hr3.1
  have hr5 : pm_r S 5 3 = some D := hdl.1
  have hkD : pm_k S D = 5 := hdl.2.1
  have rB : gx_b (pm_i S 6) n = gx_b (pm_i S0 6) n := by rw [ht]
  have hle := gx_b_le hr3 r
  refine pm_goI 51 1 pb_c51 (by decide) (Nat.le_of_ble_eq_true rfl) rfl ?_
  try simp only [show pm_mL 51 = 5 from rfl, pm_WI0, pm_WI1, pm_WI2, pm_WI3, pm_WI4, pm_WI5, pm_WV, pm_WW, pm_WX, pb_B51, pm_if, pm_QI_at, pm_QL_at, pm_QV_at, pm_QR_at, pm_QR_at0, pm_QR_at1, Nat.reduceSub, Nat.reduceAdd, List.replicate_zero, List.replicate_succ, true_and, and_true, true_or, or_true, and_self, reduceIte, Nat.reduceEqDiff, Nat.reduceLT, Nat.reduceLeDiff, Nat.reduceMul, false_and, and_false, reduceCtorEq, false_or, or_false, not_true_eq_false, not_false_eq_true, true_implies, false_implies, implies_true, lf_10, eq_self, Int32.reduceLT, Int32.reduceLE, Int32.reduceAdd, Int32.reduceSub, Int32.reduceDiv, Int32.reduceMul, pm_same, pm_i_wI, pm_l_wL, pm_l_wM, pm_oR_rf, pm_oQ_rf, sh_k5 hS, nI_1, pm_wI_wI, sw_e, LQ1, LQ2, hp5, hr5, hkD]
  refine ⟨by omega, rd_44 hS hr3 ⟨by omega, rd_52 hle ?_⟩⟩
  rw [rB]
  by_cases y116 : gx_b (pm_i S0 6) n r = 116
  · have ec : gx_test (gx_b (pm_i S0 6) n) r = gx_bd (gx_num (gx_b (pm_i S0 6) n) 0 1 (r + 1)) (fun n q => (q, some [gx_st 0 0 n])) := by
      unfold gx_test; rw [if_pos y116]
    have hlt : r < n := gx_lt gx_b_eof y116 (by omega)
    have hr2 := hr.mv hd0 (q := r + 1) (by omega)
    have hS2 := hr2.sh hS0
    have rB2 : gx_b (pm_i (pm_wI S 5 2 (nI (r + 1))) 6) n = gx_b (pm_i S0 6) n := by rw [rd_B, rB]
    rw [show tk (gx_b (pm_i S0 6) n r) = 0 from by rw [y116]; rfl]
    try simp only [pm_WV, pm_WW, true_and, and_true, true_or, or_true, and_self, reduceIte, Nat.reduceEqDiff, Nat.reduceLT, Nat.reduceLeDiff, Nat.reduceMul, false_and, and_false, reduceCtorEq, false_or, or_false, not_true_eq_false, not_false_eq_true, true_implies, false_implies, implies_true, lf_10, eq_self, Int32.reduceLT, Int32.reduceLE, Int32.reduceAdd, Int32.reduceSub, Int32.reduceDiv, Int32.reduceMul, pm_same, pm_i_wI, pm_l_wL, pm_l_wM, pm_oR_rf, pm_oQ_rf, sh_k5 hS, nI_1, pm_wI_wI, sw_e, LQ1, LQ2, pb_B51, pm_if, pm_QI_at, pm_QL_at, pm_QV_at, pm_QR_at, pm_QR_at0, pm_QR_at1, Nat.reduceSub, Nat.reduceAdd, List.replicate_zero, List.replicate_succ, pm_WI0, pm_WI1, pm_WI2, pm_WI3, pm_WI4, pm_WI5, pm_WV, pm_WW, pm_WX]
    refine pm_wb_ok pb_c51 6 14 0 _ _ _ _ _ ?_
    try simp only [pm_WI0, pm_WI1, pm_WI2, pm_WI3, pm_WI4, pm_WI5, pm_WV, pm_WW, pm_WX, pb_B51, pm_if, pm_QI_at, pm_QL_at, pm_QV_at, pm_QR_at, pm_QR_at0, pm_QR_at1, Nat.reduceSub, Nat.reduceAdd, List.replicate_zero, List.replicate_succ, true_and, and_true, true_or, or_true, and_self, reduceIte, Nat.reduceEqDiff, Nat.reduceLT, Nat.reduceLeDiff, Nat.reduceMul, false_and, and_false, reduceCtorEq, false_or, or_false, not_true_eq_false, not_false_eq_true, true_implies, false_implies, implies_true, lf_10, eq_self, Int32.reduceLT, Int32.reduceLE, Int32.reduceAdd, Int32.reduceSub, Int32.reduceDiv, Int32.reduceMul, pm_same, pm_i_wI, pm_l_wL, pm_l_wM, pm_oR_rf, pm_oQ_rf, sh_k5 hS, nI_1, pm_wI_wI, sw_e, LQ1, LQ2, hp5, hr5, hkD]
    exact rd51_100_0 (s := 0) hd hS0 hd0 hr2 (by omega) (by omega) (fun x m S' hv hS' => h1 x _ S' (by rw [ec, gx_bd_some hv]) hS') (fun hv => h0 _ _ (by rw [ec, gx_bd_none hv]) hr2)
  ·
    by_cases y97 : gx_b (pm_i S0 6) n r = 97
    · have ec : gx_test (gx_b (pm_i S0 6) n) r = gx_bd (gx_num (gx_b (pm_i S0 6) n) 1 1 (r + 1)) (fun s q => (q, some [gx_st 1 s 0])) := by
        unfold gx_test; rw [if_neg y116, if_pos y97]
      have hlt : r < n := gx_lt gx_b_eof y97 (by omega)
      have hr2 := hr.mv hd0 (q := r + 1) (by omega)
      have hS2 := hr2.sh hS0
      have rB2 : gx_b (pm_i (pm_wI S 5 2 (nI (r + 1))) 6) n = gx_b (pm_i S0 6) n := by rw [rd_B, rB]
      rw [show tk (gx_b (pm_i S0 6) n r) = 1 from by rw [y97]; rfl]
      try simp only [pm_WV, pm_WW, true_and, and_true, true_or, or_true, and_self, reduceIte, Nat.reduceEqDiff, Nat.reduceLT, Nat.reduceLeDiff, Nat.reduceMul, false_and, and_false, reduceCtorEq, false_or, or_false, not_true_eq_false, not_false_eq_true, true_implies, false_implies, implies_true, lf_10, eq_self, Int32.reduceLT, Int32.reduceLE, Int32.reduceAdd, Int32.reduceSub, Int32.reduceDiv, Int32.reduceMul, pm_same, pm_i_wI, pm_l_wL, pm_l_wM, pm_oR_rf, pm_oQ_rf, sh_k5 hS, nI_1, pm_wI_wI, sw_e, LQ1, LQ2, pb_B51, pm_if, pm_QI_at, pm_QL_at, pm_QV_at, pm_QR_at, pm_QR_at0, pm_QR_at1, Nat.reduceSub, Nat.reduceAdd, List.replicate_zero, List.replicate_succ, pm_WI0, pm_WI1, pm_WI2, pm_WI3, pm_WI4, pm_WI5, pm_WV, pm_WW, pm_WX]
      refine pm_wb_ok pb_c51 5 14 0 _ _ _ _ _ ?_
      try simp only [pm_WI0, pm_WI1, pm_WI2, pm_WI3, pm_WI4, pm_WI5, pm_WV, pm_WW, pm_WX, pb_B51, pm_if, pm_QI_at, pm_QL_at, pm_QV_at, pm_QR_at, pm_QR_at0, pm_QR_at1, Nat.reduceSub, Nat.reduceAdd, List.replicate_zero, List.replicate_succ, true_and, and_true, true_or, or_true, and_self, reduceIte, Nat.reduceEqDiff, Nat.reduceLT, Nat.reduceLeDiff, Nat.reduceMul, false_and, and_false, reduceCtorEq, false_or, or_false, not_true_eq_false, not_false_eq_true, true_implies, false_implies, implies_true, lf_10, eq_self, Int32.reduceLT, Int32.reduceLE, Int32.reduceAdd, Int32.reduceSub, Int32.reduceDiv, Int32.reduceMul, pm_same, pm_i_wI, pm_l_wL, pm_l_wM, pm_oR_rf, pm_oQ_rf, sh_k5 hS, nI_1, pm_wI_wI, sw_e, LQ1, LQ2, hp5, hr5, hkD]
      refine ⟨by omega, rd_48_11 (n := n) hS2 hr2.2.2.1 (fun x s hv1 hv2 hv3 hv4 => ?_) (fun hv => ?_)⟩ <;> rw [rB2] at *
      · have hge : 0 ≤ nI s := nI_pos' (by omega)
        try simp only [pm_WV, pm_WW, true_and, and_true, true_or, or_true, and_self, reduceIte, Nat.reduceEqDiff, Nat.reduceLT, Nat.reduceLeDiff, Nat.reduceMul, false_and, and_false, reduceCtorEq, false_or, or_false, not_true_eq_false, not_false_eq_true, true_implies, false_implies, implies_true, lf_10, eq_self, Int32.reduceLT, Int32.reduceLE, Int32.reduceAdd, Int32.reduceSub, Int32.reduceDiv, Int32.reduceMul, pm_same, pm_i_wI, pm_l_wL, pm_l_wM, pm_oR_rf, pm_oQ_rf, sh_k5 hS, nI_1, pm_wI_wI, sw_e, LQ1, LQ2, pb_B51, pm_if, pm_QI_at, pm_QL_at, pm_QV_at, pm_QR_at, pm_QR_at0, pm_QR_at1, Nat.reduceSub, Nat.reduceAdd, List.replicate_zero, List.replicate_succ, pm_WI0, pm_WI1, pm_WI2, pm_WI3, pm_WI4, pm_WI5, pm_WV, pm_WW, pm_WX, hge]
        exact rd51_100_1 hd hS0 hd0 (hr.mv hd0 hv3) (by omega) (by omega) (fun S' hS' => h1 x _ S' (by rw [ec, gx_bd_some hv1]) hS')
      · try simp only [pm_WV, pm_WW, true_and, and_true, true_or, or_true, and_self, reduceIte, Nat.reduceEqDiff, Nat.reduceLT, Nat.reduceLeDiff, Nat.reduceMul, false_and, and_false, reduceCtorEq, false_or, or_false, not_true_eq_false, not_false_eq_true, true_implies, false_implies, implies_true, lf_10, eq_self, Int32.reduceLT, Int32.reduceLE, Int32.reduceAdd, Int32.reduceSub, Int32.reduceDiv, Int32.reduceMul, pm_same, pm_i_wI, pm_l_wL, pm_l_wM, pm_oR_rf, pm_oQ_rf, sh_k5 hS, nI_1, pm_wI_wI, sw_e, LQ1, LQ2, pb_B51, pm_if, pm_QI_at, pm_QL_at, pm_QV_at, pm_QR_at, pm_QR_at0, pm_QR_at1, Nat.reduceSub, Nat.reduceAdd, List.replicate_zero, List.replicate_succ, pm_WI0, pm_WI1, pm_WI2, pm_WI3, pm_WI4, pm_WI5, pm_WV, pm_WW, pm_WX]
        exact h0 _ _ (by rw [ec, gx_bd_none hv]) hr2
    ·
      by_cases y119 : gx_b (pm_i S0 6) n r = 119
      · have ec : gx_test (gx_b (pm_i S0 6) n) r = gx_bd (gx_num (gx_b (pm_i S0 6) n) 1 1 (r + 1)) (fun s q => gx_cmp (gx_b (pm_i S0 6) n) 2 s 2 q) := by
          unfold gx_test; rw [if_neg y116, if_neg y97, if_pos y119]
        have hlt : r < n := gx_lt gx_b_eof y119 (by omega)
        have hr2 := hr.mv hd0 (q := r + 1) (by omega)
        have hS2 := hr2.sh hS0
        have rB2 : gx_b (pm_i (pm_wI S 5 2 (nI (r + 1))) 6) n = gx_b (pm_i S0 6) n := by rw [rd_B, rB]
        rw [show tk (gx_b (pm_i S0 6) n r) = 2 from by rw [y119]; rfl]
        try simp only [pm_WV, pm_WW, true_and, and_true, true_or, or_true, and_self, reduceIte, Nat.reduceEqDiff, Nat.reduceLT, Nat.reduceLeDiff, Nat.reduceMul, false_and, and_false, reduceCtorEq, false_or, or_false, not_true_eq_false, not_false_eq_true, true_implies, false_implies, implies_true, lf_10, eq_self, Int32.reduceLT, Int32.reduceLE, Int32.reduceAdd, Int32.reduceSub, Int32.reduceDiv, Int32.reduceMul, pm_same, pm_i_wI, pm_l_wL, pm_l_wM, pm_oR_rf, pm_oQ_rf, sh_k5 hS, nI_1, pm_wI_wI, sw_e, LQ1, LQ2, pb_B51, pm_if, pm_QI_at, pm_QL_at, pm_QV_at, pm_QR_at, pm_QR_at0, pm_QR_at1, Nat.reduceSub, Nat.reduceAdd, List.replicate_zero, List.replicate_succ, pm_WI0, pm_WI1, pm_WI2, pm_WI3, pm_WI4, pm_WI5, pm_WV, pm_WW, pm_WX]
        refine pm_wb_ok pb_c51 4 14 0 _ _ _ _ _ ?_
        try simp only [pm_WI0, pm_WI1, pm_WI2, pm_WI3, pm_WI4, pm_WI5, pm_WV, pm_WW, pm_WX, pb_B51, pm_if, pm_QI_at, pm_QL_at, pm_QV_at, pm_QR_at, pm_QR_at0, pm_QR_at1, Nat.reduceSub, Nat.reduceAdd, List.replicate_zero, List.replicate_succ, true_and, and_true, true_or, or_true, and_self, reduceIte, Nat.reduceEqDiff, Nat.reduceLT, Nat.reduceLeDiff, Nat.reduceMul, false_and, and_false, reduceCtorEq, false_or, or_false, not_true_eq_false, not_false_eq_true, true_implies, false_implies, implies_true, lf_10, eq_self, Int32.reduceLT, Int32.reduceLE, Int32.reduceAdd, Int32.reduceSub, Int32.reduceDiv, Int32.reduceMul, pm_same, pm_i_wI, pm_l_wL, pm_l_wM, pm_oR_rf, pm_oQ_rf, sh_k5 hS, nI_1, pm_wI_wI, sw_e, LQ1, LQ2, hp5, hr5, hkD]
        refine ⟨by omega, rd_48_11 (n := n) hS2 hr2.2.2.1 (fun x s hv1 hv2 hv3 hv4 => ?_) (fun hv => ?_)⟩ <;> rw [rB2] at *
        · have hge : 0 ≤ nI s := nI_pos' (by omega)
          try simp only [pm_WV, pm_WW, true_and, and_true, true_or, or_true, and_self, reduceIte, Nat.reduceEqDiff, Nat.reduceLT, Nat.reduceLeDiff, Nat.reduceMul, false_and, and_false, reduceCtorEq, false_or, or_false, not_true_eq_false, not_false_eq_true, true_implies, false_implies, implies_true, lf_10, eq_self, Int32.reduceLT, Int32.reduceLE, Int32.reduceAdd, Int32.reduceSub, Int32.reduceDiv, Int32.reduceMul, pm_same, pm_i_wI, pm_l_wL, pm_l_wM, pm_oR_rf, pm_oQ_rf, sh_k5 hS, nI_1, pm_wI_wI, sw_e, LQ1, LQ2, pb_B51, pm_if, pm_QI_at, pm_QL_at, pm_QV_at, pm_QR_at, pm_QR_at0, pm_QR_at1, Nat.reduceSub, Nat.reduceAdd, List.replicate_zero, List.replicate_succ, pm_WI0, pm_WI1, pm_WI2, pm_WI3, pm_WI4, pm_WI5, pm_WV, pm_WW, pm_WX, hge]
          exact rd51_61_2 hd hS0 hd0 (hr.mv hd0 hv3) (by omega) (by omega) (fun x2 e S' hv hS' => h1 x2 e S' (by rw [ec, gx_bd_some hv1, hv]) hS') (fun x2 S' hv hS' => h0 x2 S' (by rw [ec, gx_bd_some hv1, hv]) hS')
        · try simp only [pm_WV, pm_WW, true_and, and_true, true_or, or_true, and_self, reduceIte, Nat.reduceEqDiff, Nat.reduceLT, Nat.reduceLeDiff, Nat.reduceMul, false_and, and_false, reduceCtorEq, false_or, or_false, not_true_eq_false, not_false_eq_true, true_implies, false_implies, implies_true, lf_10, eq_self, Int32.reduceLT, Int32.reduceLE, Int32.reduceAdd, Int32.reduceSub, Int32.reduceDiv, Int32.reduceMul, pm_same, pm_i_wI, pm_l_wL, pm_l_wM, pm_oR_rf, pm_oQ_rf, sh_k5 hS, nI_1, pm_wI_wI, sw_e, LQ1, LQ2, pb_B51, pm_if, pm_QI_at, pm_QL_at, pm_QV_at, pm_QR_at, pm_QR_at0, pm_QR_at1, Nat.reduceSub, Nat.reduceAdd, List.replicate_zero, List.replicate_succ, pm_WI0, pm_WI1, pm_WI2, pm_WI3, pm_WI4, pm_WI5, pm_WV, pm_WW, pm_WX]
          exact h0 _ _ (by rw [ec, gx_bd_none hv]) hr2
      ·
        by_cases y108 : gx_b (pm_i S0 6) n r = 108
        · have ec : gx_test (gx_b (pm_i S0 6) n) r = gx_cmp (gx_b (pm_i S0 6) n) 4 0 4 (r + 1) := by
            unfold gx_test; rw [if_neg y116, if_neg y97, if_neg y119, if_pos y108]
          have hlt : r < n := gx_lt gx_b_eof y108 (by omega)
          have hr2 := hr.mv hd0 (q := r + 1) (by omega)
          have hS2 := hr2.sh hS0
          have rB2 : gx_b (pm_i (pm_wI S 5 2 (nI (r + 1))) 6) n = gx_b (pm_i S0 6) n := by rw [rd_B, rB]
          rw [show tk (gx_b (pm_i S0 6) n r) = 4 from by rw [y108]; rfl]
          try simp only [pm_WV, pm_WW, true_and, and_true, true_or, or_true, and_self, reduceIte, Nat.reduceEqDiff, Nat.reduceLT, Nat.reduceLeDiff, Nat.reduceMul, false_and, and_false, reduceCtorEq, false_or, or_false, not_true_eq_false, not_false_eq_true, true_implies, false_implies, implies_true, lf_10, eq_self, Int32.reduceLT, Int32.reduceLE, Int32.reduceAdd, Int32.reduceSub, Int32.reduceDiv, Int32.reduceMul, pm_same, pm_i_wI, pm_l_wL, pm_l_wM, pm_oR_rf, pm_oQ_rf, sh_k5 hS, nI_1, pm_wI_wI, sw_e, LQ1, LQ2, pb_B51, pm_if, pm_QI_at, pm_QL_at, pm_QV_at, pm_QR_at, pm_QR_at0, pm_QR_at1, Nat.reduceSub, Nat.reduceAdd, List.replicate_zero, List.replicate_succ, pm_WI0, pm_WI1, pm_WI2, pm_WI3, pm_WI4, pm_WI5, pm_WV, pm_WW, pm_WX]
          refine pm_wb_ok pb_c51 5 14 0 _ _ _ _ _ ?_
          try simp only [pm_WI0, pm_WI1, pm_WI2, pm_WI3, pm_WI4, pm_WI5, pm_WV, pm_WW, pm_WX, pb_B51, pm_if, pm_QI_at, pm_QL_at, pm_QV_at, pm_QR_at, pm_QR_at0, pm_QR_at1, Nat.reduceSub, Nat.reduceAdd, List.replicate_zero, List.replicate_succ, true_and, and_true, true_or, or_true, and_self, reduceIte, Nat.reduceEqDiff, Nat.reduceLT, Nat.reduceLeDiff, Nat.reduceMul, false_and, and_false, reduceCtorEq, false_or, or_false, not_true_eq_false, not_false_eq_true, true_implies, false_implies, implies_true, lf_10, eq_self, Int32.reduceLT, Int32.reduceLE, Int32.reduceAdd, Int32.reduceSub, Int32.reduceDiv, Int32.reduceMul, pm_same, pm_i_wI, pm_l_wL, pm_l_wM, pm_oR_rf, pm_oQ_rf, sh_k5 hS, nI_1, pm_wI_wI, sw_e, LQ1, LQ2, hp5, hr5, hkD]
          exact rd51_61_4 (s := 0) hd hS0 hd0 hr2 (by omega) (by omega) (fun x e S' hv hS' => h1 x e S' (by rw [ec, hv]) hS') (fun x S' hv hS' => h0 x S' (by rw [ec, hv]) hS')
        ·
          by_cases y100 : gx_b (pm_i S0 6) n r = 100
          · have ec : gx_test (gx_b (pm_i S0 6) n) r = gx_cmp (gx_b (pm_i S0 6) n) 6 0 4 (r + 1) := by
              unfold gx_test; rw [if_neg y116, if_neg y97, if_neg y119, if_neg y108, if_pos y100]
            have hlt : r < n := gx_lt gx_b_eof y100 (by omega)
            have hr2 := hr.mv hd0 (q := r + 1) (by omega)
            have hS2 := hr2.sh hS0
            have rB2 : gx_b (pm_i (pm_wI S 5 2 (nI (r + 1))) 6) n = gx_b (pm_i S0 6) n := by rw [rd_B, rB]
            rw [show tk (gx_b (pm_i S0 6) n r) = 6 from by rw [y100]; rfl]
            try simp only [pm_WV, pm_WW, true_and, and_true, true_or, or_true, and_self, reduceIte, Nat.reduceEqDiff, Nat.reduceLT, Nat.reduceLeDiff, Nat.reduceMul, false_and, and_false, reduceCtorEq, false_or, or_false, not_true_eq_false, not_false_eq_true, true_implies, false_implies, implies_true, lf_10, eq_self, Int32.reduceLT, Int32.reduceLE, Int32.reduceAdd, Int32.reduceSub, Int32.reduceDiv, Int32.reduceMul, pm_same, pm_i_wI, pm_l_wL, pm_l_wM, pm_oR_rf, pm_oQ_rf, sh_k5 hS, nI_1, pm_wI_wI, sw_e, LQ1, LQ2, pb_B51, pm_if, pm_QI_at, pm_QL_at, pm_QV_at, pm_QR_at, pm_QR_at0, pm_QR_at1, Nat.reduceSub, Nat.reduceAdd, List.replicate_zero, List.replicate_succ, pm_WI0, pm_WI1, pm_WI2, pm_WI3, pm_WI4, pm_WI5, pm_WV, pm_WW, pm_WX]
            refine pm_wb_ok pb_c51 5 14 0 _ _ _ _ _ ?_
            try simp only [pm_WI0, pm_WI1, pm_WI2, pm_WI3, pm_WI4, pm_WI5, pm_WV, pm_WW, pm_WX, pb_B51, pm_if, pm_QI_at, pm_QL_at, pm_QV_at, pm_QR_at, pm_QR_at0, pm_QR_at1, Nat.reduceSub, Nat.reduceAdd, List.replicate_zero, List.replicate_succ, true_and, and_true, true_or, or_true, and_self, reduceIte, Nat.reduceEqDiff, Nat.reduceLT, Nat.reduceLeDiff, Nat.reduceMul, false_and, and_false, reduceCtorEq, false_or, or_false, not_true_eq_false, not_false_eq_true, true_implies, false_implies, implies_true, lf_10, eq_self, Int32.reduceLT, Int32.reduceLE, Int32.reduceAdd, Int32.reduceSub, Int32.reduceDiv, Int32.reduceMul, pm_same, pm_i_wI, pm_l_wL, pm_l_wM, pm_oR_rf, pm_oQ_rf, sh_k5 hS, nI_1, pm_wI_wI, sw_e, LQ1, LQ2, hp5, hr5, hkD]
            exact rd51_61_6 (s := 0) hd hS0 hd0 hr2 (by omega) (by omega) (fun x e S' hv hS' => h1 x e S' (by rw [ec, hv]) hS') (fun x S' hv hS' => h0 x S' (by rw [ec, hv]) hS')
          ·
            have ek : tk (gx_b (pm_i S0 6) n r) = -1 := by unfold tk; rw [if_neg y97, if_neg y100, if_neg y108, if_neg y116, if_neg y119]
            rw [ek]
            try simp only [pm_WV, pm_WW, true_and, and_true, true_or, or_true, and_self, reduceIte, Nat.reduceEqDiff, Nat.reduceLT, Nat.reduceLeDiff, Nat.reduceMul, false_and, and_false, reduceCtorEq, false_or, or_false, not_true_eq_false, not_false_eq_true, true_implies, false_implies, implies_true, lf_10, eq_self, Int32.reduceLT, Int32.reduceLE, Int32.reduceAdd, Int32.reduceSub, Int32.reduceDiv, Int32.reduceMul, pm_same, pm_i_wI, pm_l_wL, pm_l_wM, pm_oR_rf, pm_oQ_rf, sh_k5 hS, nI_1, pm_wI_wI, sw_e, LQ1, LQ2, pb_B51, pm_if, pm_QI_at, pm_QL_at, pm_QV_at, pm_QR_at, pm_QR_at0, pm_QR_at1, Nat.reduceSub, Nat.reduceAdd, List.replicate_zero, List.replicate_succ, pm_WI0, pm_WI1, pm_WI2, pm_WI3, pm_WI4, pm_WI5, pm_WV, pm_WW, pm_WX]
            exact h0 r S (by unfold gx_test; rw [if_neg y116, if_neg y97, if_neg y119, if_neg y108, if_neg y100]) hr
