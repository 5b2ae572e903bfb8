theorem pf_t {c a b : Prop} (h : c) : pm_if c a b = a := propext ⟨fun z => z.1 h, fun z => ⟨fun _ => z, fun y => absurd h y⟩⟩
theorem pf_f {c a b : Prop} (h : ¬ c) : pm_if c a b = b := propext ⟨fun z => z.2 h, fun z => ⟨fun y => absurd y h, fun _ => z⟩⟩
theorem pf_eq_n1_0 {a b : Prop} : pm_if ((-1 : Int32) = 0) a b = b := pf_f (by decide)
theorem pf_eq_n1_1 {a b : Prop} : pm_if ((-1 : Int32) = 1) a b = b := pf_f (by decide)
theorem pf_eq_n1_2 {a b : Prop} : pm_if ((-1 : Int32) = 2) a b = b := pf_f (by decide)
theorem pf_eq_n1_3 {a b : Prop} : pm_if ((-1 : Int32) = 3) a b = b := pf_f (by decide)
theorem pf_lt_n1_2 {a b : Prop} : pm_if ((-1 : Int32) < 2) a b = a := pf_t (by decide)
theorem pf_ge_n1 {a b : Prop} : pm_if (0 ≤ (-1 : Int32)) a b = b := pf_f (by decide)
theorem pf_eq_0_0 {a b : Prop} : pm_if ((0 : Int32) = 0) a b = a := pf_t (by decide)
theorem pf_eq_0_1 {a b : Prop} : pm_if ((0 : Int32) = 1) a b = b := pf_f (by decide)
theorem pf_eq_0_2 {a b : Prop} : pm_if ((0 : Int32) = 2) a b = b := pf_f (by decide)
theorem pf_eq_0_3 {a b : Prop} : pm_if ((0 : Int32) = 3) a b = b := pf_f (by decide)
theorem pf_lt_0_2 {a b : Prop} : pm_if ((0 : Int32) < 2) a b = a := pf_t (by decide)
theorem pf_ge_0 {a b : Prop} : pm_if (0 ≤ (0 : Int32)) a b = a := pf_t (by decide)
theorem pf_eq_1_0 {a b : Prop} : pm_if ((1 : Int32) = 0) a b = b := pf_f (by decide)
theorem pf_eq_1_1 {a b : Prop} : pm_if ((1 : Int32) = 1) a b = a := pf_t (by decide)
theorem pf_eq_1_2 {a b : Prop} : pm_if ((1 : Int32) = 2) a b = b := pf_f (by decide)
theorem pf_eq_1_3 {a b : Prop} : pm_if ((1 : Int32) = 3) a b = b := pf_f (by decide)
theorem pf_lt_1_2 {a b : Prop} : pm_if ((1 : Int32) < 2) a b = a := pf_t (by decide)
theorem pf_ge_1 {a b : Prop} : pm_if (0 ≤ (1 : Int32)) a b = a := pf_t (by decide)
theorem pf_eq_2_0 {a b : Prop} : pm_if ((2 : Int32) = 0) a b = b := pf_f (by decide)
theorem pf_eq_2_1 {a b : Prop} : pm_if ((2 : Int32) = 1) a b = b := pf_f (by decide)
theorem pf_eq_2_2 {a b : Prop} : pm_if ((2 : Int32) = 2) a b = a := pf_t (by decide)
theorem pf_eq_2_3 {a b : Prop} : pm_if ((2 : Int32) = 3) a b = b := pf_f (by decide)
theorem pf_lt_2_2 {a b : Prop} : pm_if ((2 : Int32) < 2) a b = b := pf_f (by decide)
theorem pf_ge_2 {a b : Prop} : pm_if (0 ≤ (2 : Int32)) a b = a := pf_t (by decide)
theorem pf_eq_3_0 {a b : Prop} : pm_if ((3 : Int32) = 0) a b = b := pf_f (by decide)
theorem pf_eq_3_1 {a b : Prop} : pm_if ((3 : Int32) = 1) a b = b := pf_f (by decide)
theorem pf_eq_3_2 {a b : Prop} : pm_if ((3 : Int32) = 2) a b = b := pf_f (by decide)
theorem pf_eq_3_3 {a b : Prop} : pm_if ((3 : Int32) = 3) a b = a := pf_t (by decide)
theorem pf_lt_3_2 {a b : Prop} : pm_if ((3 : Int32) < 2) a b = b := pf_f (by decide)
theorem pf_ge_3 {a b : Prop} : pm_if (0 ≤ (3 : Int32)) a b = a := pf_t (by decide)
theorem pf_eq_4_0 {a b : Prop} : pm_if ((4 : Int32) = 0) a b = b := pf_f (by decide)
theorem pf_eq_4_1 {a b : Prop} : pm_if ((4 : Int32) = 1) a b = b := pf_f (by decide)
theorem pf_eq_4_2 {a b : Prop} : pm_if ((4 : Int32) = 2) a b = b := pf_f (by decide)
theorem pf_eq_4_3 {a b : Prop} : pm_if ((4 : Int32) = 3) a b = b := pf_f (by decide)
theorem pf_lt_4_2 {a b : Prop} : pm_if ((4 : Int32) < 2) a b = b := pf_f (by decide)
theorem pf_ge_4 {a b : Prop} : pm_if (0 ≤ (4 : Int32)) a b = a := pf_t (by decide)
theorem pf_eq_5_0 {a b : Prop} : pm_if ((5 : Int32) = 0) a b = b := pf_f (by decide)
theorem pf_eq_5_1 {a b : Prop} : pm_if ((5 : Int32) = 1) a b = b := pf_f (by decide)
theorem pf_eq_5_2 {a b : Prop} : pm_if ((5 : Int32) = 2) a b = b := pf_f (by decide)
theorem pf_eq_5_3 {a b : Prop} : pm_if ((5 : Int32) = 3) a b = b := pf_f (by decide)
theorem pf_lt_5_2 {a b : Prop} : pm_if ((5 : Int32) < 2) a b = b := pf_f (by decide)
theorem pf_ge_5 {a b : Prop} : pm_if (0 ≤ (5 : Int32)) a b = a := pf_t (by decide)
theorem pf_eq_6_0 {a b : Prop} : pm_if ((6 : Int32) = 0) a b = b := pf_f (by decide)
theorem pf_eq_6_1 {a b : Prop} : pm_if ((6 : Int32) = 1) a b = b := pf_f (by decide)
theorem pf_eq_6_2 {a b : Prop} : pm_if ((6 : Int32) = 2) a b = b := pf_f (by decide)
theorem pf_eq_6_3 {a b : Prop} : pm_if ((6 : Int32) = 3) a b = b := pf_f (by decide)
theorem pf_lt_6_2 {a b : Prop} : pm_if ((6 : Int32) < 2) a b = b := pf_f (by decide)
theorem pf_ge_6 {a b : Prop} : pm_if (0 ≤ (6 : Int32)) a b = a := pf_t (by decide)
theorem pf_eq_7_0 {a b : Prop} : pm_if ((7 : Int32) = 0) a b = b := pf_f (by decide)
theorem pf_eq_7_1 {a b : Prop} : pm_if ((7 : Int32) = 1) a b = b := pf_f (by decide)
theorem pf_eq_7_2 {a b : Prop} : pm_if ((7 : Int32) = 2) a b = b := pf_f (by decide)
theorem pf_eq_7_3 {a b : Prop} : pm_if ((7 : Int32) = 3) a b = b := pf_f (by decide)
theorem pf_lt_7_2 {a b : Prop} : pm_if ((7 : Int32) < 2) a b = b := pf_f (by decide)
theorem pf_ge_7 {a b : Prop} : pm_if (0 ≤ (7 : Int32)) a b = a := pf_t (by decide)
def tk (b : Nat) : Int32 := if b = 97 then 1 else if b = 100 then 6 else if b = 108 then 4 else if b = 116 then 0 else if b = 119 then 2 else -1
theorem sg_is {b c : Nat} (hb : b ≤ 256) (hc : c < 256) : sg b = Int32.ofNat c ↔ b = c := by
  unfold sg
  by_cases h : b = 256
  · rw [if_pos h]
    refine ⟨fun z => ?_, fun z => by omega⟩
    exfalso
    have : (-1 : Int32) = nI c := z
    exact absurd (show (-1 : Int32) < 0 by decide) (by rw [this]; exact nI_pos (by omega))
  · rw [if_neg h]; exact nI_eq (by omega) (by omega)
theorem gx_b_le {S : pm_S} {p n : Nat} (h : rd S p n) (k : Nat) : gx_b (pm_i S 6) n k ≤ 256 := by
  by_cases hk : k < n
  · have := (rd_at h hk).2.2; omega
  · rw [gx_b_end (by omega)]; omega
theorem rd_52 {G : pm_G} {d b : Nat} {S : pm_S} {q : Int32 → pm_S → Prop} (hb : b ≤ 256) (h : q (tk b) S) : pm_CI G d 52 [.int (sg b)] S q := by
  unfold tk at h
  refine pm_goI 52 40 pb_c52 (by decide) (Nat.le_of_ble_eq_true rfl) rfl ?_
  try simp only [show pm_mL 52 = 1 from rfl, pm_WI0, pm_WI1, pm_WI2, pm_WI3, pm_WI4, pm_WI5, pm_WV, pm_WW, pm_WX, pb_B52, pm_if, pm_QI_at, pm_QL_at, pm_QV_at, pm_QR_at, pm_QR_at0, pm_QR_at1, Nat.reduceSub, Nat.reduceAdd, List.replicate_zero, List.replicate_succ, true_and, and_true, true_or, or_true, and_self, reduceIte, Nat.reduceEqDiff, Nat.reduceLT, Nat.reduceLeDiff, Nat.reduceMul, false_and, and_false, reduceCtorEq, false_or, or_false, not_true_eq_false, not_false_eq_true, true_implies, false_implies, implies_true, lf_10, eq_self, Int32.reduceLT, Int32.reduceLE, Int32.reduceAdd, Int32.reduceSub, Int32.reduceDiv, Int32.reduceMul]
  refine ⟨fun z => ?_, fun z => ⟨fun z1 => ?_, fun z1 => ⟨fun z2 => ?_, fun z2 => ⟨fun z3 => ?_, fun z3 => ⟨fun z4 => ?_, fun z4 => ?_⟩⟩⟩⟩⟩ <;> simp only [sg_is hb (show 97 < 256 by omega), sg_is hb (show 100 < 256 by omega), sg_is hb (show 108 < 256 by omega), sg_is hb (show 116 < 256 by omega), sg_is hb (show 119 < 256 by omega)] at *
  · rw [if_pos z] at h; exact h
  · rw [if_neg z, if_pos z1] at h; exact h
  · rw [if_neg z, if_neg z1, if_pos z2] at h; exact h
  · rw [if_neg z, if_neg z1, if_neg z2, if_pos z3] at h; exact h
  · rw [if_neg z, if_neg z1, if_neg z2, if_neg z3, if_pos z4] at h; exact h
  · rw [if_neg z, if_neg z1, if_neg z2, if_neg z3, if_neg z4] at h; exact h
theorem rd_53_0 {G : pm_G} {d : Nat} {S : pm_S} {q : Int32 → pm_S → Prop} (h : q 1 S) : pm_CI G d 53 [.int 0] S q := by
  refine pm_goI 53 40 pb_c53 (by decide) (Nat.le_of_ble_eq_true rfl) rfl ?_
  try simp only [show pm_mL 53 = 1 from rfl, pm_WI0, pm_WI1, pm_WI2, pm_WI3, pm_WI4, pm_WI5, pm_WV, pm_WW, pm_WX, pb_B53, pm_if, pm_QI_at, pm_QL_at, pm_QV_at, pm_QR_at, pm_QR_at0, pm_QR_at1, Nat.reduceSub, Nat.reduceAdd, List.replicate_zero, List.replicate_succ, true_and, and_true, true_or, or_true, and_self, reduceIte, Nat.reduceEqDiff, Nat.reduceLT, Nat.reduceLeDiff, Nat.reduceMul, false_and, and_false, reduceCtorEq, false_or, or_false, not_true_eq_false, not_false_eq_true, true_implies, false_implies, implies_true, lf_10, eq_self, Int32.reduceLT, Int32.reduceLE, Int32.reduceAdd, Int32.reduceSub, Int32.reduceDiv, Int32.reduceMul, sw_e]
  all_goals first | exact h | (refine ⟨fun z => ?_, fun z => ?_⟩ <;> first | exact h | exact absurd z (by decide)) | exact ⟨fun z => absurd z (by decide), fun _ => ⟨fun z => absurd z (by decide), fun _ => ⟨fun z => absurd z (by decide), fun _ => h⟩⟩⟩
theorem rd_53_2 {G : pm_G} {d : Nat} {S : pm_S} {q : Int32 → pm_S → Prop} (h : q 2 S) : pm_CI G d 53 [.int 2] S q := by
  refine pm_goI 53 40 pb_c53 (by decide) (Nat.le_of_ble_eq_true rfl) rfl ?_
  try simp only [show pm_mL 53 = 1 from rfl, pm_WI0, pm_WI1, pm_WI2, pm_WI3, pm_WI4, pm_WI5, pm_WV, pm_WW, pm_WX, pb_B53, pm_if, pm_QI_at, pm_QL_at, pm_QV_at, pm_QR_at, pm_QR_at0, pm_QR_at1, Nat.reduceSub, Nat.reduceAdd, List.replicate_zero, List.replicate_succ, true_and, and_true, true_or, or_true, and_self, reduceIte, Nat.reduceEqDiff, Nat.reduceLT, Nat.reduceLeDiff, Nat.reduceMul, false_and, and_false, reduceCtorEq, false_or, or_false, not_true_eq_false, not_false_eq_true, true_implies, false_implies, implies_true, lf_10, eq_self, Int32.reduceLT, Int32.reduceLE, Int32.reduceAdd, Int32.reduceSub, Int32.reduceDiv, Int32.reduceMul, sw_e]
  all_goals first | exact h | (refine ⟨fun z => ?_, fun z => ?_⟩ <;> first | exact h | exact absurd z (by decide)) | exact ⟨fun z => absurd z (by decide), fun _ => ⟨fun z => absurd z (by decide), fun _ => ⟨fun z => absurd z (by decide), fun _ => h⟩⟩⟩
theorem rd_53_3 {G : pm_G} {d : Nat} {S : pm_S} {q : Int32 → pm_S → Prop} (h : q 2 S) : pm_CI G d 53 [.int 3] S q := by
  refine pm_goI 53 40 pb_c53 (by decide) (Nat.le_of_ble_eq_true rfl) rfl ?_
  try simp only [show pm_mL 53 = 1 from rfl, pm_WI0, pm_WI1, pm_WI2, pm_WI3, pm_WI4, pm_WI5, pm_WV, pm_WW, pm_WX, pb_B53, pm_if, pm_QI_at, pm_QL_at, pm_QV_at, pm_QR_at, pm_QR_at0, pm_QR_at1, Nat.reduceSub, Nat.reduceAdd, List.replicate_zero, List.replicate_succ, true_and, and_true, true_or, or_true, and_self, reduceIte, Nat.reduceEqDiff, Nat.reduceLT, Nat.reduceLeDiff, Nat.reduceMul, false_and, and_false, reduceCtorEq, false_or, or_false, not_true_eq_false, not_false_eq_true, true_implies, false_implies, implies_true, lf_10, eq_self, Int32.reduceLT, Int32.reduceLE, Int32.reduceAdd, Int32.reduceSub, Int32.reduceDiv, Int32.reduceMul, sw_e]
  all_goals first | exact h | (refine ⟨fun z => ?_, fun z => ?_⟩ <;> first | exact h | exact absurd z (by decide)) | exact ⟨fun z => absurd z (by decide), fun _ => ⟨fun z => absurd z (by decide), fun _ => ⟨fun z => absurd z (by decide), fun _ => h⟩⟩⟩
theorem rd_53_4 {G : pm_G} {d : Nat} {S : pm_S} {q : Int32 → pm_S → Prop} (h : q 4 S) : pm_CI G d 53 [.int 4] S q := by
  refine pm_goI 53 40 pb_c53 (by decide) (Nat.le_of_ble_eq_true rfl) rfl ?_
  try simp only [show pm_mL 53 = 1 from rfl, pm_WI0, pm_WI1, pm_WI2, pm_WI3, pm_WI4, pm_WI5, pm_WV, pm_WW, pm_WX, pb_B53, pm_if, pm_QI_at, pm_QL_at, pm_QV_at, pm_QR_at, pm_QR_at0, pm_QR_at1, Nat.reduceSub, Nat.reduceAdd, List.replicate_zero, List.replicate_succ, true_and, and_true, true_or, or_true, and_self, reduceIte, Nat.reduceEqDiff, Nat.reduceLT, Nat.reduceLeDiff, Nat.reduceMul, false_and, and_false, reduceCtorEq, false_or, or_false, not_true_eq_false, not_false_eq_true, true_implies, false_implies, implies_true, lf_10, eq_self, Int32.reduceLT, Int32.reduceLE, Int32.reduceAdd, Int32.reduceSub, Int32.reduceDiv, Int32.reduceMul, sw_e]
  all_goals first | exact h | (refine ⟨fun z => ?_, fun z => ?_⟩ <;> first | exact h | exact absurd z (by decide)) | exact ⟨fun z => absurd z (by decide), fun _ => ⟨fun z => absurd z (by decide), fun _ => ⟨fun z => absurd z (by decide), fun _ => h⟩⟩⟩
theorem rd_53_5 {G : pm_G} {d : Nat} {S : pm_S} {q : Int32 → pm_S → Prop} (h : q 4 S) : pm_CI G d 53 [.int 5] S q := by
  refine pm_goI 53 40 pb_c53 (by decide) (Nat.le_of_ble_eq_true rfl) rfl ?_
  try simp only [show pm_mL 53 = 1 from rfl, pm_WI0, pm_WI1, pm_WI2, pm_WI3, pm_WI4, pm_WI5, pm_WV, pm_WW, pm_WX, pb_B53, pm_if, pm_QI_at, pm_QL_at, pm_QV_at, pm_QR_at, pm_QR_at0, pm_QR_at1, Nat.reduceSub, Nat.reduceAdd, List.replicate_zero, List.replicate_succ, true_and, and_true, true_or, or_true, and_self, reduceIte, Nat.reduceEqDiff, Nat.reduceLT, Nat.reduceLeDiff, Nat.reduceMul, false_and, and_false, reduceCtorEq, false_or, or_false, not_true_eq_false, not_false_eq_true, true_implies, false_implies, implies_true, lf_10, eq_self, Int32.reduceLT, Int32.reduceLE, Int32.reduceAdd, Int32.reduceSub, Int32.reduceDiv, Int32.reduceMul, sw_e]
  all_goals first | exact h | (refine ⟨fun z => ?_, fun z => ?_⟩ <;> first | exact h | exact absurd z (by decide)) | exact ⟨fun z => absurd z (by decide), fun _ => ⟨fun z => absurd z (by decide), fun _ => ⟨fun z => absurd z (by decide), fun _ => h⟩⟩⟩
theorem rd_53_6 {G : pm_G} {d : Nat} {S : pm_S} {q : Int32 → pm_S → Prop} (h : q 4 S) : pm_CI G d 53 [.int 6] S q := by
  refine pm_goI 53 40 pb_c53 (by decide) (Nat.le_of_ble_eq_true rfl) rfl ?_
  try simp only [show pm_mL 53 = 1 from rfl, pm_WI0, pm_WI1, pm_WI2, pm_WI3, pm_WI4, pm_WI5, pm_WV, pm_WW, pm_WX, pb_B53, pm_if, pm_QI_at, pm_QL_at, pm_QV_at, pm_QR_at, pm_QR_at0, pm_QR_at1, Nat.reduceSub, Nat.reduceAdd, List.replicate_zero, List.replicate_succ, true_and, and_true, true_or, or_true, and_self, reduceIte, Nat.reduceEqDiff, Nat.reduceLT, Nat.reduceLeDiff, Nat.reduceMul, false_and, and_false, reduceCtorEq, false_or, or_false, not_true_eq_false, not_false_eq_true, true_implies, false_implies, implies_true, lf_10, eq_self, Int32.reduceLT, Int32.reduceLE, Int32.reduceAdd, Int32.reduceSub, Int32.reduceDiv, Int32.reduceMul, sw_e]
  all_goals first | exact h | (refine ⟨fun z => ?_, fun z => ?_⟩ <;> first | exact h | exact absurd z (by decide)) | exact ⟨fun z => absurd z (by decide), fun _ => ⟨fun z => absurd z (by decide), fun _ => ⟨fun z => absurd z (by decide), fun _ => h⟩⟩⟩
theorem rd_53_7 {G : pm_G} {d : Nat} {S : pm_S} {q : Int32 → pm_S → Prop} (h : q 4 S) : pm_CI G d 53 [.int 7] S q := by
  refine pm_goI 53 40 pb_c53 (by decide) (Nat.le_of_ble_eq_true rfl) rfl ?_
  try simp only [show pm_mL 53 = 1 from rfl, pm_WI0, pm_WI1, pm_WI2, pm_WI3, pm_WI4, pm_WI5, pm_WV, pm_WW, pm_WX, pb_B53, pm_if, pm_QI_at, pm_QL_at, pm_QV_at, pm_QR_at, pm_QR_at0, pm_QR_at1, Nat.reduceSub, Nat.reduceAdd, List.replicate_zero, List.replicate_succ, true_and, and_true, true_or, or_true, and_self, reduceIte, Nat.reduceEqDiff, Nat.reduceLT, Nat.reduceLeDiff, Nat.reduceMul, false_and, and_false, reduceCtorEq, false_or, or_false, not_true_eq_false, not_false_eq_true, true_implies, false_implies, implies_true, lf_10, eq_self, Int32.reduceLT, Int32.reduceLE, Int32.reduceAdd, Int32.reduceSub, Int32.reduceDiv, Int32.reduceMul, sw_e]
  all_goals first | exact h | (refine ⟨fun z => ?_, fun z => ?_⟩ <;> first | exact h | exact absurd z (by decide)) | exact ⟨fun z => absurd z (by decide), fun _ => ⟨fun z => absurd z (by decide), fun _ => ⟨fun z => absurd z (by decide), fun _ => h⟩⟩⟩
theorem rd_48_01 {G : pm_G} {d : Nat} {S : pm_S} {p n : Nat} {q : Int32 → pm_S → Prop} (hS : Sh S) (hr : rd S p n) (h1 : ∀ r v, gx_num (gx_b (pm_i S 6) n) 0 1 p = (r, some v) → p < r → r ≤ n → v < 10 ^ 1 → q (nI v) (pm_wI S 5 2 (nI r))) (h0 : gx_num (gx_b (pm_i S 6) n) 0 1 p = (p, none) → q (-1) S) : pm_CI G d 48 [.ref 5, .int 0, .int 1] S q :=
  rd_48 (least := 0) (most := 1) hS hr (by omega) (by omega) (by omega) h1 h0
theorem rd_48_02 {G : pm_G} {d : Nat} {S : pm_S} {p n : Nat} {q : Int32 → pm_S → Prop} (hS : Sh S) (hr : rd S p n) (h1 : ∀ r v, gx_num (gx_b (pm_i S 6) n) 0 2 p = (r, some v) → p < r → r ≤ n → v < 10 ^ 2 → q (nI v) (pm_wI S 5 2 (nI r))) (h0 : gx_num (gx_b (pm_i S 6) n) 0 2 p = (p, none) → q (-1) S) : pm_CI G d 48 [.ref 5, .int 0, .int 2] S q :=
  rd_48 (least := 0) (most := 2) hS hr (by omega) (by omega) (by omega) h1 h0
theorem rd_48_04 {G : pm_G} {d : Nat} {S : pm_S} {p n : Nat} {q : Int32 → pm_S → Prop} (hS : Sh S) (hr : rd S p n) (h1 : ∀ r v, gx_num (gx_b (pm_i S 6) n) 0 4 p = (r, some v) → p < r → r ≤ n → v < 10 ^ 4 → q (nI v) (pm_wI S 5 2 (nI r))) (h0 : gx_num (gx_b (pm_i S 6) n) 0 4 p = (p, none) → q (-1) S) : pm_CI G d 48 [.ref 5, .int 0, .int 4] S q :=
  rd_48 (least := 0) (most := 4) hS hr (by omega) (by omega) (by omega) h1 h0
theorem rd_48_11 {G : pm_G} {d : Nat} {S : pm_S} {p n : Nat} {q : Int32 → pm_S → Prop} (hS : Sh S) (hr : rd S p n) (h1 : ∀ r v, gx_num (gx_b (pm_i S 6) n) 1 1 p = (r, some v) → p < r → r ≤ n → v < 10 ^ 1 → q (nI v) (pm_wI S 5 2 (nI r))) (h0 : gx_num (gx_b (pm_i S 6) n) 1 1 p = (p, none) → q (-1) S) : pm_CI G d 48 [.ref 5, .int 1, .int 1] S q :=
  rd_48 (least := 1) (most := 1) hS hr (by omega) (by omega) (by omega) h1 h0
theorem rd_48_14 {G : pm_G} {d : Nat} {S : pm_S} {p n : Nat} {q : Int32 → pm_S → Prop} (hS : Sh S) (hr : rd S p n) (h1 : ∀ r v, gx_num (gx_b (pm_i S 6) n) 1 4 p = (r, some v) → p < r → r ≤ n → v < 10 ^ 4 → q (nI v) (pm_wI S 5 2 (nI r))) (h0 : gx_num (gx_b (pm_i S 6) n) 1 4 p = (p, none) → q (-1) S) : pm_CI G d 48 [.ref 5, .int 1, .int 4] S q :=
  rd_48 (least := 1) (most := 4) hS hr (by omega) (by omega) (by omega) h1 h0
theorem rd51_127_0 {G : pm_G} {d : Nat} {S0 S : pm_S} {D r n : Nat} {W : Nat → Nat} {L : gx_L} {q : Int32 → pm_S → Prop} (hd : 6 ≤ d) (hS0 : Sh S0) (hd0 : dl S0 D W) (hr : rs S0 D W n S r L) {h : Int32} {s m : Nat} (hl : L.2.2.length < 160) (hs : s < 16) (hm : m < 10000) (h1 : ∀ S', rs S0 D W n S' r (L.1, L.2.1, L.2.2 ++ [gx_st 0 s m]) → q 1 S') : pm_W G d 51 (pm_QI q) 127 [.ref 5, .int 0, .int h, .int (nI s), .int (nI m)] [] S 0 0 := by
  have hS := hr.sh hS0
  have hdl := hr.todl hd0
  have ht := hr.text hd0
  have hr3 := hr.2.2.1
  have hn := hr3.2.2.2.1
  have hpn := hr3.2.2.1
  have hp5 : pm_i S 5 2 = nI r := hr3.1
  have hr5 : pm_r S 5 3 = some D := hdl.1
  have hkD : pm_k S D = 5 := hdl.2.1
  have rB : gx_b (pm_i S 6) n = gx_b (pm_i S0 6) n := by rw [ht]
  refine pm_wb_ok pb_c51 3 127 0 _ _ _ _ _ ?_
  try simp only [pm_WI0, pm_WI1, pm_WI2, pm_WI3, pm_WI4, pm_WI5, pm_WV, pm_WW, pm_WX, pb_B51, pm_if, pm_QI_at, pm_QL_at, pm_QV_at, pm_QR_at, pm_QR_at0, pm_QR_at1, Nat.reduceSub, Nat.reduceAdd, List.replicate_zero, List.replicate_succ, true_and, and_true, true_or, or_true, and_self, reduceIte, Nat.reduceEqDiff, Nat.reduceLT, Nat.reduceLeDiff, Nat.reduceMul, false_and, and_false, reduceCtorEq, false_or, or_false, not_true_eq_false, not_false_eq_true, true_implies, false_implies, implies_true, lf_10, eq_self, Int32.reduceLT, Int32.reduceLE, Int32.reduceAdd, Int32.reduceSub, Int32.reduceDiv, Int32.reduceMul, pm_same, pm_i_wI, pm_l_wL, pm_l_wM, pm_oR_rf, pm_oQ_rf, sh_k5 hS, nI_1, pm_wI_wI, sw_e, LQ1, LQ2, hp5, hr5, hkD]
  exact ⟨by omega, rd_38 (k := 0) hd0 hr hl (by omega) hs hm h1⟩
theorem rd51_127_1 {G : pm_G} {d : Nat} {S0 S : pm_S} {D r n : Nat} {W : Nat → Nat} {L : gx_L} {q : Int32 → pm_S → Prop} (hd : 6 ≤ d) (hS0 : Sh S0) (hd0 : dl S0 D W) (hr : rs S0 D W n S r L) {h : Int32} {s m : Nat} (hl : L.2.2.length < 160) (hs : s < 16) (hm : m < 10000) (h1 : ∀ S', rs S0 D W n S' r (L.1, L.2.1, L.2.2 ++ [gx_st 1 s m]) → q 1 S') : pm_W G d 51 (pm_QI q) 127 [.ref 5, .int 1, .int h, .int (nI s), .int (nI m)] [] S 0 0 := by
  have hS := hr.sh hS0
  have hdl := hr.todl hd0
  have ht := hr.text hd0
  have hr3 := hr.2.2.1
  have hn := hr3.2.2.2.1
  have hpn := hr3.2.2.1
  have hp5 : pm_i S 5 2 = nI r := hr3.1
  have hr5 : pm_r S 5 3 = some D := hdl.1
  have hkD : pm_k S D = 5 := hdl.2.1
  have rB : gx_b (pm_i S 6) n = gx_b (pm_i S0 6) n := by rw [ht]
  refine pm_wb_ok pb_c51 3 127 0 _ _ _ _ _ ?_
  try simp only [pm_WI0, pm_WI1, pm_WI2, pm_WI3, pm_WI4, pm_WI5, pm_WV, pm_WW, pm_WX, pb_B51, pm_if, pm_QI_at, pm_QL_at, pm_QV_at, pm_QR_at, pm_QR_at0, pm_QR_at1, Nat.reduceSub, Nat.reduceAdd, List.replicate_zero, List.replicate_succ, true_and, and_true, true_or, or_true, and_self, reduceIte, Nat.reduceEqDiff, Nat.reduceLT, Nat.reduceLeDiff, Nat.reduceMul, false_and, and_false, reduceCtorEq, false_or, or_false, not_true_eq_false, not_false_eq_true, true_implies, false_implies, implies_true, lf_10, eq_self, Int32.reduceLT, Int32.reduceLE, Int32.reduceAdd, Int32.reduceSub, Int32.reduceDiv, Int32.reduceMul, pm_same, pm_i_wI, pm_l_wL, pm_l_wM, pm_oR_rf, pm_oQ_rf, sh_k5 hS, nI_1, pm_wI_wI, sw_e, LQ1, LQ2, hp5, hr5, hkD]
  exact ⟨by omega, rd_38 (k := 1) hd0 hr hl (by omega) hs hm h1⟩
theorem rd51_127_2 {G : pm_G} {d : Nat} {S0 S : pm_S} {D r n : Nat} {W : Nat → Nat} {L : gx_L} {q : Int32 → pm_S → Prop} (hd : 6 ≤ d) (hS0 : Sh S0) (hd0 : dl S0 D W) (hr : rs S0 D W n S r L) {h : Int32} {s m : Nat} (hl : L.2.2.length < 160) (hs : s < 16) (hm : m < 10000) (h1 : ∀ S', rs S0 D W n S' r (L.1, L.2.1, L.2.2 ++ [gx_st 2 s m]) → q 1 S') : pm_W G d 51 (pm_QI q) 127 [.ref 5, .int 2, .int h, .int (nI s), .int (nI m)] [] S 0 0 := by
  have hS := hr.sh hS0
  have hdl := hr.todl hd0
  have ht := hr.text hd0
  have hr3 := hr.2.2.1
  have hn := hr3.2.2.2.1
  have hpn := hr3.2.2.1
  have hp5 : pm_i S 5 2 = nI r := hr3.1
  have hr5 : pm_r S 5 3 = some D := hdl.1
  have hkD : pm_k S D = 5 := hdl.2.1
  have rB : gx_b (pm_i S 6) n = gx_b (pm_i S0 6) n := by rw [ht]
  refine pm_wb_ok pb_c51 3 127 0 _ _ _ _ _ ?_
  try simp only [pm_WI0, pm_WI1, pm_WI2, pm_WI3, pm_WI4, pm_WI5, pm_WV, pm_WW, pm_WX, pb_B51, pm_if, pm_QI_at, pm_QL_at, pm_QV_at, pm_QR_at, pm_QR_at0, pm_QR_at1, Nat.reduceSub, Nat.reduceAdd, List.replicate_zero, List.replicate_succ, true_and, and_true, true_or, or_true, and_self, reduceIte, Nat.reduceEqDiff, Nat.reduceLT, Nat.reduceLeDiff, Nat.reduceMul, false_and, and_false, reduceCtorEq, false_or, or_false, not_true_eq_false, not_false_eq_true, true_implies, false_implies, implies_true, lf_10, eq_self, Int32.reduceLT, Int32.reduceLE, Int32.reduceAdd, Int32.reduceSub, Int32.reduceDiv, Int32.reduceMul, pm_same, pm_i_wI, pm_l_wL, pm_l_wM, pm_oR_rf, pm_oQ_rf, sh_k5 hS, nI_1, pm_wI_wI, sw_e, LQ1, LQ2, hp5, hr5, hkD]
  exact ⟨by omega, rd_38 (k := 2) hd0 hr hl (by omega) hs hm h1⟩
theorem rd51_127_3 {G : pm_G} {d : Nat} {S0 S : pm_S} {D r n : Nat} {W : Nat → Nat} {L : gx_L} {q : Int32 → pm_S → Prop} (hd : 6 ≤ d) (hS0 : Sh S0) (hd0 : dl S0 D W) (hr : rs S0 D W n S r L) {h : Int32} {s m : Nat} (hl : L.2.2.length < 160) (hs : s < 16) (hm : m < 10000) (h1 : ∀ S', rs S0 D W n S' r (L.1, L.2.1, L.2.2 ++ [gx_st 3 s m]) → q 1 S') : pm_W G d 51 (pm_QI q) 127 [.ref 5, .int 3, .int h, .int (nI s), .int (nI m)] [] S 0 0 := by
  have hS := hr.sh hS0
  have hdl := hr.todl hd0
  have ht := hr.text hd0
  have hr3 := hr.2.2.1
  have hn := hr3.2.2.2.1
  have hpn := hr3.2.2.1
  have hp5 : pm_i S 5 2 = nI r := hr3.1
  have hr5 : pm_r S 5 3 = some D := hdl.1
  have hkD : pm_k S D = 5 := hdl.2.1
  have rB : gx_b (pm_i S 6) n = gx_b (pm_i S0 6) n := by rw [ht]
  refine pm_wb_ok pb_c51 3 127 0 _ _ _ _ _ ?_
  try simp only [pm_WI0, pm_WI1, pm_WI2, pm_WI3, pm_WI4, pm_WI5, pm_WV, pm_WW, pm_WX, pb_B51, pm_if, pm_QI_at, pm_QL_at, pm_QV_at, pm_QR_at, pm_QR_at0, pm_QR_at1, Nat.reduceSub, Nat.reduceAdd, List.replicate_zero, List.replicate_succ, true_and, and_true, true_or, or_true, and_self, reduceIte, Nat.reduceEqDiff, Nat.reduceLT, Nat.reduceLeDiff, Nat.reduceMul, false_and, and_false, reduceCtorEq, false_or, or_false, not_true_eq_false, not_false_eq_true, true_implies, false_implies, implies_true, lf_10, eq_self, Int32.reduceLT, Int32.reduceLE, Int32.reduceAdd, Int32.reduceSub, Int32.reduceDiv, Int32.reduceMul, pm_same, pm_i_wI, pm_l_wL, pm_l_wM, pm_oR_rf, pm_oQ_rf, sh_k5 hS, nI_1, pm_wI_wI, sw_e, LQ1, LQ2, hp5, hr5, hkD]
  exact ⟨by omega, rd_38 (k := 3) hd0 hr hl (by omega) hs hm h1⟩
theorem rd51_127_4 {G : pm_G} {d : Nat} {S0 S : pm_S} {D r n : Nat} {W : Nat → Nat} {L : gx_L} {q : Int32 → pm_S → Prop} (hd : 6 ≤ d) (hS0 : Sh S0) (hd0 : dl S0 D W) (hr : rs S0 D W n S r L) {h : Int32} {s m : Nat} (hl : L.2.2.length < 160) (hs : s < 16) (hm : m < 10000) (h1 : ∀ S', rs S0 D W n S' r (L.1, L.2.1, L.2.2 ++ [gx_st 4 s m]) → q 1 S') : pm_W G d 51 (pm_QI q) 127 [.ref 5, .int 4, .int h, .int (nI s), .int (nI m)] [] S 0 0 := by
  have hS := hr.sh hS0
  have hdl := hr.todl hd0
  have ht := hr.text hd0
  have hr3 := hr.2.2.1
  have hn := hr3.2.2.2.1
  have hpn := hr3.2.2.1
  have hp5 : pm_i S 5 2 = nI r := hr3.1
  have hr5 : pm_r S 5 3 = some D := hdl.1
  have hkD : pm_k S D = 5 := hdl.2.1
  have rB : gx_b (pm_i S 6) n = gx_b (pm_i S0 6) n := by rw [ht]
  refine pm_wb_ok pb_c51 3 127 0 _ _ _ _ _ ?_
  try simp only [pm_WI0, pm_WI1, pm_WI2, pm_WI3, pm_WI4, pm_WI5, pm_WV, pm_WW, pm_WX, pb_B51, pm_if, pm_QI_at, pm_QL_at, pm_QV_at, pm_QR_at, pm_QR_at0, pm_QR_at1, Nat.reduceSub, Nat.reduceAdd, List.replicate_zero, List.replicate_succ, true_and, and_true, true_or, or_true, and_self, reduceIte, Nat.reduceEqDiff, Nat.reduceLT, Nat.reduceLeDiff, Nat.reduceMul, false_and, and_false, reduceCtorEq, false_or, or_false, not_true_eq_false, not_false_eq_true, true_implies, false_implies, implies_true, lf_10, eq_self, Int32.reduceLT, Int32.reduceLE, Int32.reduceAdd, Int32.reduceSub, Int32.reduceDiv, Int32.reduceMul, pm_same, pm_i_wI, pm_l_wL, pm_l_wM, pm_oR_rf, pm_oQ_rf, sh_k5 hS, nI_1, pm_wI_wI, sw_e, LQ1, LQ2, hp5, hr5, hkD]
  exact ⟨by omega, rd_38 (k := 4) hd0 hr hl (by omega) hs hm h1⟩
theorem rd51_127_5 {G : pm_G} {d : Nat} {S0 S : pm_S} {D r n : Nat} {W : Nat → Nat} {L : gx_L} {q : Int32 → pm_S → Prop} (hd : 6 ≤ d) (hS0 : Sh S0) (hd0 : dl S0 D W) (hr : rs S0 D W n S r L) {h : Int32} {s m : Nat} (hl : L.2.2.length < 160) (hs : s < 16) (hm : m < 10000) (h1 : ∀ S', rs S0 D W n S' r (L.1, L.2.1, L.2.2 ++ [gx_st 5 s m]) → q 1 S') : pm_W G d 51 (pm_QI q) 127 [.ref 5, .int 5, .int h, .int (nI s), .int (nI m)] [] S 0 0 := by
  have hS := hr.sh hS0
  have hdl := hr.todl hd0
  have ht := hr.text hd0
  have hr3 := hr.2.2.1
  have hn := hr3.2.2.2.1
  have hpn := hr3.2.2.1
  have hp5 : pm_i S 5 2 = nI r := hr3.1
  have hr5 : pm_r S 5 3 = some D := hdl.1
  have hkD : pm_k S D = 5 := hdl.2.1
  have rB : gx_b (pm_i S 6) n = gx_b (pm_i S0 6) n := by rw [ht]
  refine pm_wb_ok pb_c51 3 127 0 _ _ _ _ _ ?_
  try simp only [pm_WI0, pm_WI1, pm_WI2, pm_WI3, pm_WI4, pm_WI5, pm_WV, pm_WW, pm_WX, pb_B51, pm_if, pm_QI_at, pm_QL_at, pm_QV_at, pm_QR_at, pm_QR_at0, pm_QR_at1, Nat.reduceSub, Nat.reduceAdd, List.replicate_zero, List.replicate_succ, true_and, and_true, true_or, or_true, and_self, reduceIte, Nat.reduceEqDiff, Nat.reduceLT, Nat.reduceLeDiff, Nat.reduceMul, false_and, and_false, reduceCtorEq, false_or, or_false, not_true_eq_false, not_false_eq_true, true_implies, false_implies, implies_true, lf_10, eq_self, Int32.reduceLT, Int32.reduceLE, Int32.reduceAdd, Int32.reduceSub, Int32.reduceDiv, Int32.reduceMul, pm_same, pm_i_wI, pm_l_wL, pm_l_wM, pm_oR_rf, pm_oQ_rf, sh_k5 hS, nI_1, pm_wI_wI, sw_e, LQ1, LQ2, hp5, hr5, hkD]
  exact ⟨by omega, rd_38 (k := 5) hd0 hr hl (by omega) hs hm h1⟩
theorem rd51_127_6 {G : pm_G} {d : Nat} {S0 S : pm_S} {D r n : Nat} {W : Nat → Nat} {L : gx_L} {q : Int32 → pm_S → Prop} (hd : 6 ≤ d) (hS0 : Sh S0) (hd0 : dl S0 D W) (hr : rs S0 D W n S r L) {h : Int32} {s m : Nat} (hl : L.2.2.length < 160) (hs : s < 16) (hm : m < 10000) (h1 : ∀ S', rs S0 D W n S' r (L.1, L.2.1, L.2.2 ++ [gx_st 6 s m]) → q 1 S') : pm_W G d 51 (pm_QI q) 127 [.ref 5, .int 6, .int h, .int (nI s), .int (nI m)] [] S 0 0 := by
  have hS := hr.sh hS0
  have hdl := hr.todl hd0
  have ht := hr.text hd0
  have hr3 := hr.2.2.1
  have hn := hr3.2.2.2.1
  have hpn := hr3.2.2.1
  have hp5 : pm_i S 5 2 = nI r := hr3.1
  have hr5 : pm_r S 5 3 = some D := hdl.1
  have hkD : pm_k S D = 5 := hdl.2.1
  have rB : gx_b (pm_i S 6) n = gx_b (pm_i S0 6) n := by rw [ht]
  refine pm_wb_ok pb_c51 3 127 0 _ _ _ _ _ ?_
  try simp only [pm_WI0, pm_WI1, pm_WI2, pm_WI3, pm_WI4, pm_WI5, pm_WV, pm_WW, pm_WX, pb_B51, pm_if, pm_QI_at, pm_QL_at, pm_QV_at, pm_QR_at, pm_QR_at0, pm_QR_at1, Nat.reduceSub, Nat.reduceAdd, List.replicate_zero, List.replicate_succ, true_and, and_true, true_or, or_true, and_self, reduceIte, Nat.reduceEqDiff, Nat.reduceLT, Nat.reduceLeDiff, Nat.reduceMul, false_and, and_false, reduceCtorEq, false_or, or_false, not_true_eq_false, not_false_eq_true, true_implies, false_implies, implies_true, lf_10, eq_self, Int32.reduceLT, Int32.reduceLE, Int32.reduceAdd, Int32.reduceSub, Int32.reduceDiv, Int32.reduceMul, pm_same, pm_i_wI, pm_l_wL, pm_l_wM, pm_oR_rf, pm_oQ_rf, sh_k5 hS, nI_1, pm_wI_wI, sw_e, LQ1, LQ2, hp5, hr5, hkD]
  exact ⟨by omega, rd_38 (k := 6) hd0 hr hl (by omega) hs hm h1⟩
theorem rd51_127_7 {G : pm_G} {d : Nat} {S0 S : pm_S} {D r n : Nat} {W : Nat → Nat} {L : gx_L} {q : Int32 → pm_S → Prop} (hd : 6 ≤ d) (hS0 : Sh S0) (hd0 : dl S0 D W) (hr : rs S0 D W n S r L) {h : Int32} {s m : Nat} (hl : L.2.2.length < 160) (hs : s < 16) (hm : m < 10000) (h1 : ∀ S', rs S0 D W n S' r (L.1, L.2.1, L.2.2 ++ [gx_st 7 s m]) → q 1 S') : pm_W G d 51 (pm_QI q) 127 [.ref 5, .int 7, .int h, .int (nI s), .int (nI m)] [] S 0 0 := by
  have hS := hr.sh hS0
  have hdl := hr.todl hd0
  have ht := hr.text hd0
  have hr3 := hr.2.2.1
  have hn := hr3.2.2.2.1
  have hpn := hr3.2.2.1
  have hp5 : pm_i S 5 2 = nI r := hr3.1
  have hr5 : pm_r S 5 3 = some D := hdl.1
  have hkD : pm_k S D = 5 := hdl.2.1
  have rB : gx_b (pm_i S 6) n = gx_b (pm_i S0 6) n := by rw [ht]
  refine pm_wb_ok pb_c51 3 127 0 _ _ _ _ _ ?_
  try simp only [pm_WI0, pm_WI1, pm_WI2, pm_WI3, pm_WI4, pm_WI5, pm_WV, pm_WW, pm_WX, pb_B51, pm_if, pm_QI_at, pm_QL_at, pm_QV_at, pm_QR_at, pm_QR_at0, pm_QR_at1, Nat.reduceSub, Nat.reduceAdd, List.replicate_zero, List.replicate_succ, true_and, and_true, true_or, or_true, and_self, reduceIte, Nat.reduceEqDiff, Nat.reduceLT, Nat.reduceLeDiff, Nat.reduceMul, false_and, and_false, reduceCtorEq, false_or, or_false, not_true_eq_false, not_false_eq_true, true_implies, false_implies, implies_true, lf_10, eq_self, Int32.reduceLT, Int32.reduceLE, Int32.reduceAdd, Int32.reduceSub, Int32.reduceDiv, Int32.reduceMul, pm_same, pm_i_wI, pm_l_wL, pm_l_wM, pm_oR_rf, pm_oQ_rf, sh_k5 hS, nI_1, pm_wI_wI, sw_e, LQ1, LQ2, hp5, hr5, hkD]
  exact ⟨by omega, rd_38 (k := 7) hd0 hr hl (by omega) hs hm h1⟩
theorem rd51_100_1 {G : pm_G} {d : Nat} {S0 S : pm_S} {D r n : Nat} {W : Nat → Nat} {L : gx_L} {q : Int32 → pm_S → Prop} (hd : 6 ≤ d) (hS0 : Sh S0) (hd0 : dl S0 D W) (hr : rs S0 D W n S r L) {h : Int32} {s : Nat} {v : Value} (hl : L.2.2.length < 160) (hs : s < 16) (h1 : ∀ S', rs S0 D W n S' r (L.1, L.2.1, L.2.2 ++ [gx_st 1 s 0]) → q 1 S') : pm_W G d 51 (pm_QI q) 100 [.ref 5, .int 1, .int h, .int (nI s), v] [] S 0 0 := by
  have hS := hr.sh hS0
  have hdl := hr.todl hd0
  have ht := hr.text hd0
  have hr3 := hr.2.2.1
  have hn := hr3.2.2.2.1
  have hpn := hr3.2.2.1
  have hp5 : pm_i S 5 2 = nI r := hr3.1
  have hr5 : pm_r S 5 3 = some D := hdl.1
  have hkD : pm_k S D = 5 := hdl.2.1
  have rB : gx_b (pm_i S 6) n = gx_b (pm_i S0 6) n := by rw [ht]
  refine pm_wb_ok pb_c51 6 100 0 _ _ _ _ _ ?_
  try simp only [pm_WI0, pm_WI1, pm_WI2, pm_WI3, pm_WI4, pm_WI5, pm_WV, pm_WW, pm_WX, pb_B51, pm_if, pm_QI_at, pm_QL_at, pm_QV_at, pm_QR_at, pm_QR_at0, pm_QR_at1, Nat.reduceSub, Nat.reduceAdd, List.replicate_zero, List.replicate_succ, true_and, and_true, true_or, or_true, and_self, reduceIte, Nat.reduceEqDiff, Nat.reduceLT, Nat.reduceLeDiff, Nat.reduceMul, false_and, and_false, reduceCtorEq, false_or, or_false, not_true_eq_false, not_false_eq_true, true_implies, false_implies, implies_true, lf_10, eq_self, Int32.reduceLT, Int32.reduceLE, Int32.reduceAdd, Int32.reduceSub, Int32.reduceDiv, Int32.reduceMul, pm_same, pm_i_wI, pm_l_wL, pm_l_wM, pm_oR_rf, pm_oQ_rf, sh_k5 hS, nI_1, pm_wI_wI, sw_e, LQ1, LQ2, hp5, hr5, hkD]
  exact ⟨by omega, rd_38 (k := 1) (m := 0) hd0 hr hl (by omega) hs (by omega) h1⟩
theorem rd51_100_0 {G : pm_G} {d : Nat} {S0 S : pm_S} {D r n : Nat} {W : Nat → Nat} {L : gx_L} {q : Int32 → pm_S → Prop} (hd : 6 ≤ d) (hS0 : Sh S0) (hd0 : dl S0 D W) (hr : rs S0 D W n S r L) {h : Int32} {s : Nat} {v : Value} (hl : L.2.2.length < r) (hs : s < 16) (h1 : ∀ x m S', gx_num (gx_b (pm_i S0 6) n) 0 1 r = (x, some m) → rs S0 D W n S' x (L.1, L.2.1, L.2.2 ++ [gx_st 0 s m]) → q 1 S') (h0 : gx_num (gx_b (pm_i S0 6) n) 0 1 r = (r, none) → q 0 S) : pm_W G d 51 (pm_QI q) 100 [.ref 5, .int 0, .int h, .int (nI s), v] [] S 0 0 := by
  have hS := hr.sh hS0
  have hdl := hr.todl hd0
  have ht := hr.text hd0
  have hr3 := hr.2.2.1
  have hn := hr3.2.2.2.1
  have hpn := hr3.2.2.1
  have hp5 : pm_i S 5 2 = nI r := hr3.1
  have hr5 : pm_r S 5 3 = some D := hdl.1
  have hkD : pm_k S D = 5 := hdl.2.1
  have rB : gx_b (pm_i S 6) n = gx_b (pm_i S0 6) n := by rw [ht]
  refine pm_wb_ok pb_c51 2 100 0 _ _ _ _ _ ?_
  try simp only [pm_WI0, pm_WI1, pm_WI2, pm_WI3, pm_WI4, pm_WI5, pm_WV, pm_WW, pm_WX, pb_B51, pm_if, pm_QI_at, pm_QL_at, pm_QV_at, pm_QR_at, pm_QR_at0, pm_QR_at1, Nat.reduceSub, Nat.reduceAdd, List.replicate_zero, List.replicate_succ, true_and, and_true, true_or, or_true, and_self, reduceIte, Nat.reduceEqDiff, Nat.reduceLT, Nat.reduceLeDiff, Nat.reduceMul, false_and, and_false, reduceCtorEq, false_or, or_false, not_true_eq_false, not_false_eq_true, true_implies, false_implies, implies_true, lf_10, eq_self, Int32.reduceLT, Int32.reduceLE, Int32.reduceAdd, Int32.reduceSub, Int32.reduceDiv, Int32.reduceMul, pm_same, pm_i_wI, pm_l_wL, pm_l_wM, pm_oR_rf, pm_oQ_rf, sh_k5 hS, nI_1, pm_wI_wI, sw_e, LQ1, LQ2, hp5, hr5, hkD]
  refine ⟨by omega, rd_53_0 ⟨by omega, sh_k5 hS, rd_48_01 (n := n) hS hr3 (fun x m hv1 hv2 hv3 hv4 => ?_) (fun hv => ?_)⟩⟩ <;> rw [rB] at *
  · have hm0 : ¬ nI m < 0 := nI_pos (by omega)
    have hge : 0 ≤ nI m := nI_pos' (by omega)
    try simp only [pm_WV, pm_WW, true_and, and_true, true_or, or_true, and_self, reduceIte, Nat.reduceEqDiff, Nat.reduceLT, Nat.reduceLeDiff, Nat.reduceMul, false_and, and_false, reduceCtorEq, false_or, or_false, not_true_eq_false, not_false_eq_true, true_implies, false_implies, implies_true, lf_10, eq_self, Int32.reduceLT, Int32.reduceLE, Int32.reduceAdd, Int32.reduceSub, Int32.reduceDiv, Int32.reduceMul, pm_same, pm_i_wI, pm_l_wL, pm_l_wM, pm_oR_rf, pm_oQ_rf, sh_k5 hS, nI_1, pm_wI_wI, sw_e, LQ1, LQ2]
    refine pm_wb_ok pb_c51 1 118 0 _ _ _ _ _ ?_
    try simp only [pm_WI0, pm_WI1, pm_WI2, pm_WI3, pm_WI4, pm_WI5, pm_WV, pm_WW, pm_WX, pb_B51, pm_if, pm_QI_at, pm_QL_at, pm_QV_at, pm_QR_at, pm_QR_at0, pm_QR_at1, Nat.reduceSub, Nat.reduceAdd, List.replicate_zero, List.replicate_succ, true_and, and_true, true_or, or_true, and_self, reduceIte, Nat.reduceEqDiff, Nat.reduceLT, Nat.reduceLeDiff, Nat.reduceMul, false_and, and_false, reduceCtorEq, false_or, or_false, not_true_eq_false, not_false_eq_true, true_implies, false_implies, implies_true, lf_10, eq_self, Int32.reduceLT, Int32.reduceLE, Int32.reduceAdd, Int32.reduceSub, Int32.reduceDiv, Int32.reduceMul, pm_same, pm_i_wI, pm_l_wL, pm_l_wM, pm_oR_rf, pm_oQ_rf, sh_k5 hS, nI_1, pm_wI_wI, sw_e, LQ1, LQ2, hp5, hr5, hkD, hge]
    exact rd51_127_0 hd hS0 hd0 (hr.mv hd0 hv3) (by omega) hs (by omega) (fun S' hS' => h1 x m S' hv1 hS')
  · try simp only [pm_WV, pm_WW, true_and, and_true, true_or, or_true, and_self, reduceIte, Nat.reduceEqDiff, Nat.reduceLT, Nat.reduceLeDiff, Nat.reduceMul, false_and, and_false, reduceCtorEq, false_or, or_false, not_true_eq_false, not_false_eq_true, true_implies, false_implies, implies_true, lf_10, eq_self, Int32.reduceLT, Int32.reduceLE, Int32.reduceAdd, Int32.reduceSub, Int32.reduceDiv, Int32.reduceMul, pm_same, pm_i_wI, pm_l_wL, pm_l_wM, pm_oR_rf, pm_oQ_rf, sh_k5 hS, nI_1, pm_wI_wI, sw_e, LQ1, LQ2]
    refine pm_wb_ok pb_c51 3 118 0 _ _ _ _ _ ?_
    try simp only [pm_WI0, pm_WI1, pm_WI2, pm_WI3, pm_WI4, pm_WI5, pm_WV, pm_WW, pm_WX, pb_B51, pm_if, pm_QI_at, pm_QL_at, pm_QV_at, pm_QR_at, pm_QR_at0, pm_QR_at1, Nat.reduceSub, Nat.reduceAdd, List.replicate_zero, List.replicate_succ, true_and, and_true, true_or, or_true, and_self, reduceIte, Nat.reduceEqDiff, Nat.reduceLT, Nat.reduceLeDiff, Nat.reduceMul, false_and, and_false, reduceCtorEq, false_or, or_false, not_true_eq_false, not_false_eq_true, true_implies, false_implies, implies_true, lf_10, eq_self, Int32.reduceLT, Int32.reduceLE, Int32.reduceAdd, Int32.reduceSub, Int32.reduceDiv, Int32.reduceMul, pm_same, pm_i_wI, pm_l_wL, pm_l_wM, pm_oR_rf, pm_oQ_rf, sh_k5 hS, nI_1, pm_wI_wI, sw_e, LQ1, LQ2, hp5, hr5, hkD]
    exact h0 hv
theorem rd51_100_2 {G : pm_G} {d : Nat} {S0 S : pm_S} {D r n : Nat} {W : Nat → Nat} {L : gx_L} {q : Int32 → pm_S → Prop} (hd : 6 ≤ d) (hS0 : Sh S0) (hd0 : dl S0 D W) (hr : rs S0 D W n S r L) {h : Int32} {s : Nat} {v : Value} (hl : L.2.2.length < r) (hs : s < 16) (h1 : ∀ x m S', gx_num (gx_b (pm_i S0 6) n) 0 2 r = (x, some m) → rs S0 D W n S' x (L.1, L.2.1, L.2.2 ++ [gx_st 2 s m]) → q 1 S') (h0 : gx_num (gx_b (pm_i S0 6) n) 0 2 r = (r, none) → q 0 S) : pm_W G d 51 (pm_QI q) 100 [.ref 5, .int 2, .int h, .int (nI s), v] [] S 0 0 := by
  have hS := hr.sh hS0
  have hdl := hr.todl hd0
  have ht := hr.text hd0
  have hr3 := hr.2.2.1
  have hn := hr3.2.2.2.1
  have hpn := hr3.2.2.1
  have hp5 : pm_i S 5 2 = nI r := hr3.1
  have hr5 : pm_r S 5 3 = some D := hdl.1
  have hkD : pm_k S D = 5 := hdl.2.1
  have rB : gx_b (pm_i S 6) n = gx_b (pm_i S0 6) n := by rw [ht]
  refine pm_wb_ok pb_c51 2 100 0 _ _ _ _ _ ?_
  try simp only [pm_WI0, pm_WI1, pm_WI2, pm_WI3, pm_WI4, pm_WI5, pm_WV, pm_WW, pm_WX, pb_B51, pm_if, pm_QI_at, pm_QL_at, pm_QV_at, pm_QR_at, pm_QR_at0, pm_QR_at1, Nat.reduceSub, Nat.reduceAdd, List.replicate_zero, List.replicate_succ, true_and, and_true, true_or, or_true, and_self, reduceIte, Nat.reduceEqDiff, Nat.reduceLT, Nat.reduceLeDiff, Nat.reduceMul, false_and, and_false, reduceCtorEq, false_or, or_false, not_true_eq_false, not_false_eq_true, true_implies, false_implies, implies_true, lf_10, eq_self, Int32.reduceLT, Int32.reduceLE, Int32.reduceAdd, Int32.reduceSub, Int32.reduceDiv, Int32.reduceMul, pm_same, pm_i_wI, pm_l_wL, pm_l_wM, pm_oR_rf, pm_oQ_rf, sh_k5 hS, nI_1, pm_wI_wI, sw_e, LQ1, LQ2, hp5, hr5, hkD]
  refine ⟨by omega, rd_53_2 ⟨by omega, sh_k5 hS, rd_48_02 (n := n) hS hr3 (fun x m hv1 hv2 hv3 hv4 => ?_) (fun hv => ?_)⟩⟩ <;> rw [rB] at *
  · have hm0 : ¬ nI m < 0 := nI_pos (by omega)
    have hge : 0 ≤ nI m := nI_pos' (by omega)
    try simp only [pm_WV, pm_WW, true_and, and_true, true_or, or_true, and_self, reduceIte, Nat.reduceEqDiff, Nat.reduceLT, Nat.reduceLeDiff, Nat.reduceMul, false_and, and_false, reduceCtorEq, false_or, or_false, not_true_eq_false, not_false_eq_true, true_implies, false_implies, implies_true, lf_10, eq_self, Int32.reduceLT, Int32.reduceLE, Int32.reduceAdd, Int32.reduceSub, Int32.reduceDiv, Int32.reduceMul, pm_same, pm_i_wI, pm_l_wL, pm_l_wM, pm_oR_rf, pm_oQ_rf, sh_k5 hS, nI_1, pm_wI_wI, sw_e, LQ1, LQ2]
    refine pm_wb_ok pb_c51 1 118 0 _ _ _ _ _ ?_
    try simp only [pm_WI0, pm_WI1, pm_WI2, pm_WI3, pm_WI4, pm_WI5, pm_WV, pm_WW, pm_WX, pb_B51, pm_if, pm_QI_at, pm_QL_at, pm_QV_at, pm_QR_at, pm_QR_at0, pm_QR_at1, Nat.reduceSub, Nat.reduceAdd, List.replicate_zero, List.replicate_succ, true_and, and_true, true_or, or_true, and_self, reduceIte, Nat.reduceEqDiff, Nat.reduceLT, Nat.reduceLeDiff, Nat.reduceMul, false_and, and_false, reduceCtorEq, false_or, or_false, not_true_eq_false, not_false_eq_true, true_implies, false_implies, implies_true, lf_10, eq_self, Int32.reduceLT, Int32.reduceLE, Int32.reduceAdd, Int32.reduceSub, Int32.reduceDiv, Int32.reduceMul, pm_same, pm_i_wI, pm_l_wL, pm_l_wM, pm_oR_rf, pm_oQ_rf, sh_k5 hS, nI_1, pm_wI_wI, sw_e, LQ1, LQ2, hp5, hr5, hkD, hge]
    exact rd51_127_2 hd hS0 hd0 (hr.mv hd0 hv3) (by omega) hs (by omega) (fun S' hS' => h1 x m S' hv1 hS')
  · try simp only [pm_WV, pm_WW, true_and, and_true, true_or, or_true, and_self, reduceIte, Nat.reduceEqDiff, Nat.reduceLT, Nat.reduceLeDiff, Nat.reduceMul, false_and, and_false, reduceCtorEq, false_or, or_false, not_true_eq_false, not_false_eq_true, true_implies, false_implies, implies_true, lf_10, eq_self, Int32.reduceLT, Int32.reduceLE, Int32.reduceAdd, Int32.reduceSub, Int32.reduceDiv, Int32.reduceMul, pm_same, pm_i_wI, pm_l_wL, pm_l_wM, pm_oR_rf, pm_oQ_rf, sh_k5 hS, nI_1, pm_wI_wI, sw_e, LQ1, LQ2]
    refine pm_wb_ok pb_c51 3 118 0 _ _ _ _ _ ?_
    try simp only [pm_WI0, pm_WI1, pm_WI2, pm_WI3, pm_WI4, pm_WI5, pm_WV, pm_WW, pm_WX, pb_B51, pm_if, pm_QI_at, pm_QL_at, pm_QV_at, pm_QR_at, pm_QR_at0, pm_QR_at1, Nat.reduceSub, Nat.reduceAdd, List.replicate_zero, List.replicate_succ, true_and, and_true, true_or, or_true, and_self, reduceIte, Nat.reduceEqDiff, Nat.reduceLT, Nat.reduceLeDiff, Nat.reduceMul, false_and, and_false, reduceCtorEq, false_or, or_false, not_true_eq_false, not_false_eq_true, true_implies, false_implies, implies_true, lf_10, eq_self, Int32.reduceLT, Int32.reduceLE, Int32.reduceAdd, Int32.reduceSub, Int32.reduceDiv, Int32.reduceMul, pm_same, pm_i_wI, pm_l_wL, pm_l_wM, pm_oR_rf, pm_oQ_rf, sh_k5 hS, nI_1, pm_wI_wI, sw_e, LQ1, LQ2, hp5, hr5, hkD]
    exact h0 hv
theorem rd51_100_3 {G : pm_G} {d : Nat} {S0 S : pm_S} {D r n : Nat} {W : Nat → Nat} {L : gx_L} {q : Int32 → pm_S → Prop} (hd : 6 ≤ d) (hS0 : Sh S0) (hd0 : dl S0 D W) (hr : rs S0 D W n S r L) {h : Int32} {s : Nat} {v : Value} (hl : L.2.2.length < r) (hs : s < 16) (h1 : ∀ x m S', gx_num (gx_b (pm_i S0 6) n) 0 2 r = (x, some m) → rs S0 D W n S' x (L.1, L.2.1, L.2.2 ++ [gx_st 3 s m]) → q 1 S') (h0 : gx_num (gx_b (pm_i S0 6) n) 0 2 r = (r, none) → q 0 S) : pm_W G d 51 (pm_QI q) 100 [.ref 5, .int 3, .int h, .int (nI s), v] [] S 0 0 := by
  have hS := hr.sh hS0
  have hdl := hr.todl hd0
  have ht := hr.text hd0
  have hr3 := hr.2.2.1
  have hn := hr3.2.2.2.1
  have hpn := hr3.2.2.1
  have hp5 : pm_i S 5 2 = nI r := hr3.1
  have hr5 : pm_r S 5 3 = some D := hdl.1
  have hkD : pm_k S D = 5 := hdl.2.1
  have rB : gx_b (pm_i S 6) n = gx_b (pm_i S0 6) n := by rw [ht]
  refine pm_wb_ok pb_c51 2 100 0 _ _ _ _ _ ?_
  try simp only [pm_WI0, pm_WI1, pm_WI2, pm_WI3, pm_WI4, pm_WI5, pm_WV, pm_WW, pm_WX, pb_B51, pm_if, pm_QI_at, pm_QL_at, pm_QV_at, pm_QR_at, pm_QR_at0, pm_QR_at1, Nat.reduceSub, Nat.reduceAdd, List.replicate_zero, List.replicate_succ, true_and, and_true, true_or, or_true, and_self, reduceIte, Nat.reduceEqDiff, Nat.reduceLT, Nat.reduceLeDiff, Nat.reduceMul, false_and, and_false, reduceCtorEq, false_or, or_false, not_true_eq_false, not_false_eq_true, true_implies, false_implies, implies_true, lf_10, eq_self, Int32.reduceLT, Int32.reduceLE, Int32.reduceAdd, Int32.reduceSub, Int32.reduceDiv, Int32.reduceMul, pm_same, pm_i_wI, pm_l_wL, pm_l_wM, pm_oR_rf, pm_oQ_rf, sh_k5 hS, nI_1, pm_wI_wI, sw_e, LQ1, LQ2, hp5, hr5, hkD]
  refine ⟨by omega, rd_53_3 ⟨by omega, sh_k5 hS, rd_48_02 (n := n) hS hr3 (fun x m hv1 hv2 hv3 hv4 => ?_) (fun hv => ?_)⟩⟩ <;> rw [rB] at *
  · have hm0 : ¬ nI m < 0 := nI_pos (by omega)
    have hge : 0 ≤ nI m := nI_pos' (by omega)
    try simp only [pm_WV, pm_WW, true_and, and_true, true_or, or_true, and_self, reduceIte, Nat.reduceEqDiff, Nat.reduceLT, Nat.reduceLeDiff, Nat.reduceMul, false_and, and_false, reduceCtorEq, false_or, or_false, not_true_eq_false, not_false_eq_true, true_implies, false_implies, implies_true, lf_10, eq_self, Int32.reduceLT, Int32.reduceLE, Int32.reduceAdd, Int32.reduceSub, Int32.reduceDiv, Int32.reduceMul, pm_same, pm_i_wI, pm_l_wL, pm_l_wM, pm_oR_rf, pm_oQ_rf, sh_k5 hS, nI_1, pm_wI_wI, sw_e, LQ1, LQ2]
    refine pm_wb_ok pb_c51 1 118 0 _ _ _ _ _ ?_
    try simp only [pm_WI0, pm_WI1, pm_WI2, pm_WI3, pm_WI4, pm_WI5, pm_WV, pm_WW, pm_WX, pb_B51, pm_if, pm_QI_at, pm_QL_at, pm_QV_at, pm_QR_at, pm_QR_at0, pm_QR_at1, Nat.reduceSub, Nat.reduceAdd, List.replicate_zero, List.replicate_succ, true_and, and_true, true_or, or_true, and_self, reduceIte, Nat.reduceEqDiff, Nat.reduceLT, Nat.reduceLeDiff, Nat.reduceMul, false_and, and_false, reduceCtorEq, false_or, or_false, not_true_eq_false, not_false_eq_true, true_implies, false_implies, implies_true, lf_10, eq_self, Int32.reduceLT, Int32.reduceLE, Int32.reduceAdd, Int32.reduceSub, Int32.reduceDiv, Int32.reduceMul, pm_same, pm_i_wI, pm_l_wL, pm_l_wM, pm_oR_rf, pm_oQ_rf, sh_k5 hS, nI_1, pm_wI_wI, sw_e, LQ1, LQ2, hp5, hr5, hkD, hge]
    exact rd51_127_3 hd hS0 hd0 (hr.mv hd0 hv3) (by omega) hs (by omega) (fun S' hS' => h1 x m S' hv1 hS')
  · try simp only [pm_WV, pm_WW, true_and, and_true, true_or, or_true, and_self, reduceIte, Nat.reduceEqDiff, Nat.reduceLT, Nat.reduceLeDiff, Nat.reduceMul, false_and, and_false, reduceCtorEq, false_or, or_false, not_true_eq_false, not_false_eq_true, true_implies, false_implies, implies_true, lf_10, eq_self, Int32.reduceLT, Int32.reduceLE, Int32.reduceAdd, Int32.reduceSub, Int32.reduceDiv, Int32.reduceMul, pm_same, pm_i_wI, pm_l_wL, pm_l_wM, pm_oR_rf, pm_oQ_rf, sh_k5 hS, nI_1, pm_wI_wI, sw_e, LQ1, LQ2]
    refine pm_wb_ok pb_c51 3 118 0 _ _ _ _ _ ?_
    try simp only [pm_WI0, pm_WI1, pm_WI2, pm_WI3, pm_WI4, pm_WI5, pm_WV, pm_WW, pm_WX, pb_B51, pm_if, pm_QI_at, pm_QL_at, pm_QV_at, pm_QR_at, pm_QR_at0, pm_QR_at1, Nat.reduceSub, Nat.reduceAdd, List.replicate_zero, List.replicate_succ, true_and, and_true, true_or, or_true, and_self, reduceIte, Nat.reduceEqDiff, Nat.reduceLT, Nat.reduceLeDiff, Nat.reduceMul, false_and, and_false, reduceCtorEq, false_or, or_false, not_true_eq_false, not_false_eq_true, true_implies, false_implies, implies_true, lf_10, eq_self, Int32.reduceLT, Int32.reduceLE, Int32.reduceAdd, Int32.reduceSub, Int32.reduceDiv, Int32.reduceMul, pm_same, pm_i_wI, pm_l_wL, pm_l_wM, pm_oR_rf, pm_oQ_rf, sh_k5 hS, nI_1, pm_wI_wI, sw_e, LQ1, LQ2, hp5, hr5, hkD]
    exact h0 hv
theorem rd51_100_4 {G : pm_G} {d : Nat} {S0 S : pm_S} {D r n : Nat} {W : Nat → Nat} {L : gx_L} {q : Int32 → pm_S → Prop} (hd : 6 ≤ d) (hS0 : Sh S0) (hd0 : dl S0 D W) (hr : rs S0 D W n S r L) {h : Int32} {s : Nat} {v : Value} (hl : L.2.2.length < r) (hs : s < 16) (h1 : ∀ x m S', gx_num (gx_b (pm_i S0 6) n) 0 4 r = (x, some m) → rs S0 D W n S' x (L.1, L.2.1, L.2.2 ++ [gx_st 4 s m]) → q 1 S') (h0 : gx_num (gx_b (pm_i S0 6) n) 0 4 r = (r, none) → q 0 S) : pm_W G d 51 (pm_QI q) 100 [.ref 5, .int 4, .int h, .int (nI s), v] [] S 0 0 := by
  have hS := hr.sh hS0
  have hdl := hr.todl hd0
  have ht := hr.text hd0
  have hr3 := hr.2.2.1
  have hn := hr3.2.2.2.1
  have hpn := hr3.2.2.1
  have hp5 : pm_i S 5 2 = nI r := hr3.1
  have hr5 : pm_r S 5 3 = some D := hdl.1
  have hkD : pm_k S D = 5 := hdl.2.1
  have rB : gx_b (pm_i S 6) n = gx_b (pm_i S0 6) n := by rw [ht]
  refine pm_wb_ok pb_c51 2 100 0 _ _ _ _ _ ?_
  try simp only [pm_WI0, pm_WI1, pm_WI2, pm_WI3, pm_WI4, pm_WI5, pm_WV, pm_WW, pm_WX, pb_B51, pm_if, pm_QI_at, pm_QL_at, pm_QV_at, pm_QR_at, pm_QR_at0, pm_QR_at1, Nat.reduceSub, Nat.reduceAdd, List.replicate_zero, List.replicate_succ, true_and, and_true, true_or, or_true, and_self, reduceIte, Nat.reduceEqDiff, Nat.reduceLT, Nat.reduceLeDiff, Nat.reduceMul, false_and, and_false, reduceCtorEq, false_or, or_false, not_true_eq_false, not_false_eq_true, true_implies, false_implies, implies_true, lf_10, eq_self, Int32.reduceLT, Int32.reduceLE, Int32.reduceAdd, Int32.reduceSub, Int32.reduceDiv, Int32.reduceMul, pm_same, pm_i_wI, pm_l_wL, pm_l_wM, pm_oR_rf, pm_oQ_rf, sh_k5 hS, nI_1, pm_wI_wI, sw_e, LQ1, LQ2, hp5, hr5, hkD]
  refine ⟨by omega, rd_53_4 ⟨by omega, sh_k5 hS, rd_48_04 (n := n) hS hr3 (fun x m hv1 hv2 hv3 hv4 => ?_) (fun hv => ?_)⟩⟩ <;> rw [rB] at *
  · have hm0 : ¬ nI m < 0 := nI_pos (by omega)
    have hge : 0 ≤ nI m := nI_pos' (by omega)
    try simp only [pm_WV, pm_WW, true_and, and_true, true_or, or_true, and_self, reduceIte, Nat.reduceEqDiff, Nat.reduceLT, Nat.reduceLeDiff, Nat.reduceMul, false_and, and_false, reduceCtorEq, false_or, or_false, not_true_eq_false, not_false_eq_true, true_implies, false_implies, implies_true, lf_10, eq_self, Int32.reduceLT, Int32.reduceLE, Int32.reduceAdd, Int32.reduceSub, Int32.reduceDiv, Int32.reduceMul, pm_same, pm_i_wI, pm_l_wL, pm_l_wM, pm_oR_rf, pm_oQ_rf, sh_k5 hS, nI_1, pm_wI_wI, sw_e, LQ1, LQ2]
    refine pm_wb_ok pb_c51 1 118 0 _ _ _ _ _ ?_
    try simp only [pm_WI0, pm_WI1, pm_WI2, pm_WI3, pm_WI4, pm_WI5, pm_WV, pm_WW, pm_WX, pb_B51, pm_if, pm_QI_at, pm_QL_at, pm_QV_at, pm_QR_at, pm_QR_at0, pm_QR_at1, Nat.reduceSub, Nat.reduceAdd, List.replicate_zero, List.replicate_succ, true_and, and_true, true_or, or_true, and_self, reduceIte, Nat.reduceEqDiff, Nat.reduceLT, Nat.reduceLeDiff, Nat.reduceMul, false_and, and_false, reduceCtorEq, false_or, or_false, not_true_eq_false, not_false_eq_true, true_implies, false_implies, implies_true, lf_10, eq_self, Int32.reduceLT, Int32.reduceLE, Int32.reduceAdd, Int32.reduceSub, Int32.reduceDiv, Int32.reduceMul, pm_same, pm_i_wI, pm_l_wL, pm_l_wM, pm_oR_rf, pm_oQ_rf, sh_k5 hS, nI_1, pm_wI_wI, sw_e, LQ1, LQ2, hp5, hr5, hkD, hge]
    exact rd51_127_4 hd hS0 hd0 (hr.mv hd0 hv3) (by omega) hs (by omega) (fun S' hS' => h1 x m S' hv1 hS')
  · try simp only [pm_WV, pm_WW, true_and, and_true, true_or, or_true, and_self, reduceIte, Nat.reduceEqDiff, Nat.reduceLT, Nat.reduceLeDiff, Nat.reduceMul, false_and, and_false, reduceCtorEq, false_or, or_false, not_true_eq_false, not_false_eq_true, true_implies, false_implies, implies_true, lf_10, eq_self, Int32.reduceLT, Int32.reduceLE, Int32.reduceAdd, Int32.reduceSub, Int32.reduceDiv, Int32.reduceMul, pm_same, pm_i_wI, pm_l_wL, pm_l_wM, pm_oR_rf, pm_oQ_rf, sh_k5 hS, nI_1, pm_wI_wI, sw_e, LQ1, LQ2]
    refine pm_wb_ok pb_c51 3 118 0 _ _ _ _ _ ?_
    try simp only [pm_WI0, pm_WI1, pm_WI2, pm_WI3, pm_WI4, pm_WI5, pm_WV, pm_WW, pm_WX, pb_B51, pm_if, pm_QI_at, pm_QL_at, pm_QV_at, pm_QR_at, pm_QR_at0, pm_QR_at1, Nat.reduceSub, Nat.reduceAdd, List.replicate_zero, List.replicate_succ, true_and, and_true, true_or, or_true, and_self, reduceIte, Nat.reduceEqDiff, Nat.reduceLT, Nat.reduceLeDiff, Nat.reduceMul, false_and, and_false, reduceCtorEq, false_or, or_false, not_true_eq_false, not_false_eq_true, true_implies, false_implies, implies_true, lf_10, eq_self, Int32.reduceLT, Int32.reduceLE, Int32.reduceAdd, Int32.reduceSub, Int32.reduceDiv, Int32.reduceMul, pm_same, pm_i_wI, pm_l_wL, pm_l_wM, pm_oR_rf, pm_oQ_rf, sh_k5 hS, nI_1, pm_wI_wI, sw_e, LQ1, LQ2, hp5, hr5, hkD]
    exact h0 hv
theorem rd51_100_5 {G : pm_G} {d : Nat} {S0 S : pm_S} {D r n : Nat} {W : Nat → Nat} {L : gx_L} {q : Int32 → pm_S → Prop} (hd : 6 ≤ d) (hS0 : Sh S0) (hd0 : dl S0 D W) (hr : rs S0 D W n S r L) {h : Int32} {s : Nat} {v : Value} (hl : L.2.2.length < r) (hs : s < 16) (h1 : ∀ x m S', gx_num (gx_b (pm_i S0 6) n) 0 4 r = (x, some m) → rs S0 D W n S' x (L.1, L.2.1, L.2.2 ++ [gx_st 5 s m]) → q 1 S') (h0 : gx_num (gx_b (pm_i S0 6) n) 0 4 r = (r, none) → q 0 S) : pm_W G d 51 (pm_QI q) 100 [.ref 5, .int 5, .int h, .int (nI s), v] [] S 0 0 := by
  have hS := hr.sh hS0
  have hdl := hr.todl hd0
  have ht := hr.text hd0
  have hr3 := hr.2.2.1
  have hn := hr3.2.2.2.1
  have hpn := hr3.2.2.1
  have hp5 : pm_i S 5 2 = nI r := hr3.1
  have hr5 : pm_r S 5 3 = some D := hdl.1
  have hkD : pm_k S D = 5 := hdl.2.1
  have rB : gx_b (pm_i S 6) n = gx_b (pm_i S0 6) n := by rw [ht]
  refine pm_wb_ok pb_c51 2 100 0 _ _ _ _ _ ?_
  try simp only [pm_WI0, pm_WI1, pm_WI2, pm_WI3, pm_WI4, pm_WI5, pm_WV, pm_WW, pm_WX, pb_B51, pm_if, pm_QI_at, pm_QL_at, pm_QV_at, pm_QR_at, pm_QR_at0, pm_QR_at1, Nat.reduceSub, Nat.reduceAdd, List.replicate_zero, List.replicate_succ, true_and, and_true, true_or, or_true, and_self, reduceIte, Nat.reduceEqDiff, Nat.reduceLT, Nat.reduceLeDiff, Nat.reduceMul, false_and, and_false, reduceCtorEq, false_or, or_false, not_true_eq_false, not_false_eq_true, true_implies, false_implies, implies_true, lf_10, eq_self, Int32.reduceLT, Int32.reduceLE, Int32.reduceAdd, Int32.reduceSub, Int32.reduceDiv, Int32.reduceMul, pm_same, pm_i_wI, pm_l_wL, pm_l_wM, pm_oR_rf, pm_oQ_rf, sh_k5 hS, nI_1, pm_wI_wI, sw_e, LQ1, LQ2, hp5, hr5, hkD]
  refine ⟨by omega, rd_53_5 ⟨by omega, sh_k5 hS, rd_48_04 (n := n) hS hr3 (fun x m hv1 hv2 hv3 hv4 => ?_) (fun hv => ?_)⟩⟩ <;> rw [rB] at *
  · have hm0 : ¬ nI m < 0 := nI_pos (by omega)
    have hge : 0 ≤ nI m := nI_pos' (by omega)
    try simp only [pm_WV, pm_WW, true_and, and_true, true_or, or_true, and_self, reduceIte, Nat.reduceEqDiff, Nat.reduceLT, Nat.reduceLeDiff, Nat.reduceMul, false_and, and_false, reduceCtorEq, false_or, or_false, not_true_eq_false, not_false_eq_true, true_implies, false_implies, implies_true, lf_10, eq_self, Int32.reduceLT, Int32.reduceLE, Int32.reduceAdd, Int32.reduceSub, Int32.reduceDiv, Int32.reduceMul, pm_same, pm_i_wI, pm_l_wL, pm_l_wM, pm_oR_rf, pm_oQ_rf, sh_k5 hS, nI_1, pm_wI_wI, sw_e, LQ1, LQ2]
    refine pm_wb_ok pb_c51 1 118 0 _ _ _ _ _ ?_
    try simp only [pm_WI0, pm_WI1, pm_WI2, pm_WI3, pm_WI4, pm_WI5, pm_WV, pm_WW, pm_WX, pb_B51, pm_if, pm_QI_at, pm_QL_at, pm_QV_at, pm_QR_at, pm_QR_at0, pm_QR_at1, Nat.reduceSub, Nat.reduceAdd, List.replicate_zero, List.replicate_succ, true_and, and_true, true_or, or_true, and_self, reduceIte, Nat.reduceEqDiff, Nat.reduceLT, Nat.reduceLeDiff, Nat.reduceMul, false_and, and_false, reduceCtorEq, false_or, or_false, not_true_eq_false, not_false_eq_true, true_implies, false_implies, implies_true, lf_10, eq_self, Int32.reduceLT, Int32.reduceLE, Int32.reduceAdd, Int32.reduceSub, Int32.reduceDiv, Int32.reduceMul, pm_same, pm_i_wI, pm_l_wL, pm_l_wM, pm_oR_rf, pm_oQ_rf, sh_k5 hS, nI_1, pm_wI_wI, sw_e, LQ1, LQ2, hp5, hr5, hkD, hge]
    exact rd51_127_5 hd hS0 hd0 (hr.mv hd0 hv3) (by omega) hs (by omega) (fun S' hS' => h1 x m S' hv1 hS')
  · try simp only [pm_WV, pm_WW, true_and, and_true, true_or, or_true, and_self, reduceIte, Nat.reduceEqDiff, Nat.reduceLT, Nat.reduceLeDiff, Nat.reduceMul, false_and, and_false, reduceCtorEq, false_or, or_false, not_true_eq_false, not_false_eq_true, true_implies, false_implies, implies_true, lf_10, eq_self, Int32.reduceLT, Int32.reduceLE, Int32.reduceAdd, Int32.reduceSub, Int32.reduceDiv, Int32.reduceMul, pm_same, pm_i_wI, pm_l_wL, pm_l_wM, pm_oR_rf, pm_oQ_rf, sh_k5 hS, nI_1, pm_wI_wI, sw_e, LQ1, LQ2]
    refine pm_wb_ok pb_c51 3 118 0 _ _ _ _ _ ?_
    try simp only [pm_WI0, pm_WI1, pm_WI2, pm_WI3, pm_WI4, pm_WI5, pm_WV, pm_WW, pm_WX, pb_B51, pm_if, pm_QI_at, pm_QL_at, pm_QV_at, pm_QR_at, pm_QR_at0, pm_QR_at1, Nat.reduceSub, Nat.reduceAdd, List.replicate_zero, List.replicate_succ, true_and, and_true, true_or, or_true, and_self, reduceIte, Nat.reduceEqDiff, Nat.reduceLT, Nat.reduceLeDiff, Nat.reduceMul, false_and, and_false, reduceCtorEq, false_or, or_false, not_true_eq_false, not_false_eq_true, true_implies, false_implies, implies_true, lf_10, eq_self, Int32.reduceLT, Int32.reduceLE, Int32.reduceAdd, Int32.reduceSub, Int32.reduceDiv, Int32.reduceMul, pm_same, pm_i_wI, pm_l_wL, pm_l_wM, pm_oR_rf, pm_oQ_rf, sh_k5 hS, nI_1, pm_wI_wI, sw_e, LQ1, LQ2, hp5, hr5, hkD]
    exact h0 hv
theorem rd51_100_6 {G : pm_G} {d : Nat} {S0 S : pm_S} {D r n : Nat} {W : Nat → Nat} {L : gx_L} {q : Int32 → pm_S → Prop} (hd : 6 ≤ d) (hS0 : Sh S0) (hd0 : dl S0 D W) (hr : rs S0 D W n S r L) {h : Int32} {s : Nat} {v : Value} (hl : L.2.2.length < r) (hs : s < 16) (h1 : ∀ x m S', gx_num (gx_b (pm_i S0 6) n) 0 4 r = (x, some m) → rs S0 D W n S' x (L.1, L.2.1, L.2.2 ++ [gx_st 6 s m]) → q 1 S') (h0 : gx_num (gx_b (pm_i S0 6) n) 0 4 r = (r, none) → q 0 S) : pm_W G d 51 (pm_QI q) 100 [.ref 5, .int 6, .int h, .int (nI s), v] [] S 0 0 := by
  have hS := hr.sh hS0
  have hdl := hr.todl hd0
  have ht := hr.text hd0
  have hr3 := hr.2.2.1
  have hn := hr3.2.2.2.1
  have hpn := hr3.2.2.1
  have hp5 : pm_i S 5 2 = nI r := hr3.1
  have hr5 : pm_r S 5 3 = some D := hdl.1
  have hkD : pm_k S D = 5 := hdl.2.1
  have rB : gx_b (pm_i S 6) n = gx_b (pm_i S0 6) n := by rw [ht]
  refine pm_wb_ok pb_c51 2 100 0 _ _ _ _ _ ?_
  try simp only [pm_WI0, pm_WI1, pm_WI2, pm_WI3, pm_WI4, pm_WI5, pm_WV, pm_WW, pm_WX, pb_B51, pm_if, pm_QI_at, pm_QL_at, pm_QV_at, pm_QR_at, pm_QR_at0, pm_QR_at1, Nat.reduceSub, Nat.reduceAdd, List.replicate_zero, List.replicate_succ, true_and, and_true, true_or, or_true, and_self, reduceIte, Nat.reduceEqDiff, Nat.reduceLT, Nat.reduceLeDiff, Nat.reduceMul, false_and, and_false, reduceCtorEq, false_or, or_false, not_true_eq_false, not_false_eq_true, true_implies, false_implies, implies_true, lf_10, eq_self, Int32.reduceLT, Int32.reduceLE, Int32.reduceAdd, Int32.reduceSub, Int32.reduceDiv, Int32.reduceMul, pm_same, pm_i_wI, pm_l_wL, pm_l_wM, pm_oR_rf, pm_oQ_rf, sh_k5 hS, nI_1, pm_wI_wI, sw_e, LQ1, LQ2, hp5, hr5, hkD]
  refine ⟨by omega, rd_53_6 ⟨by omega, sh_k5 hS, rd_48_04 (n := n) hS hr3 (fun x m hv1 hv2 hv3 hv4 => ?_) (fun hv => ?_)⟩⟩ <;> rw [rB] at *
  · have hm0 : ¬ nI m < 0 := nI_pos (by omega)
    have hge : 0 ≤ nI m := nI_pos' (by omega)
    try simp only [pm_WV, pm_WW, true_and, and_true, true_or, or_true, and_self, reduceIte, Nat.reduceEqDiff, Nat.reduceLT, Nat.reduceLeDiff, Nat.reduceMul, false_and, and_false, reduceCtorEq, false_or, or_false, not_true_eq_false, not_false_eq_true, true_implies, false_implies, implies_true, lf_10, eq_self, Int32.reduceLT, Int32.reduceLE, Int32.reduceAdd, Int32.reduceSub, Int32.reduceDiv, Int32.reduceMul, pm_same, pm_i_wI, pm_l_wL, pm_l_wM, pm_oR_rf, pm_oQ_rf, sh_k5 hS, nI_1, pm_wI_wI, sw_e, LQ1, LQ2]
    refine pm_wb_ok pb_c51 1 118 0 _ _ _ _ _ ?_
    try simp only [pm_WI0, pm_WI1, pm_WI2, pm_WI3, pm_WI4, pm_WI5, pm_WV, pm_WW, pm_WX, pb_B51, pm_if, pm_QI_at, pm_QL_at, pm_QV_at, pm_QR_at, pm_QR_at0, pm_QR_at1, Nat.reduceSub, Nat.reduceAdd, List.replicate_zero, List.replicate_succ, true_and, and_true, true_or, or_true, and_self, reduceIte, Nat.reduceEqDiff, Nat.reduceLT, Nat.reduceLeDiff, Nat.reduceMul, false_and, and_false, reduceCtorEq, false_or, or_false, not_true_eq_false, not_false_eq_true, true_implies, false_implies, implies_true, lf_10, eq_self, Int32.reduceLT, Int32.reduceLE, Int32.reduceAdd, Int32.reduceSub, Int32.reduceDiv, Int32.reduceMul, pm_same, pm_i_wI, pm_l_wL, pm_l_wM, pm_oR_rf, pm_oQ_rf, sh_k5 hS, nI_1, pm_wI_wI, sw_e, LQ1, LQ2, hp5, hr5, hkD, hge]
    exact rd51_127_6 hd hS0 hd0 (hr.mv hd0 hv3) (by omega) hs (by omega) (fun S' hS' => h1 x m S' hv1 hS')
  · try simp only [pm_WV, pm_WW, true_and, and_true, true_or, or_true, and_self, reduceIte, Nat.reduceEqDiff, Nat.reduceLT, Nat.reduceLeDiff, Nat.reduceMul, false_and, and_false, reduceCtorEq, false_or, or_false, not_true_eq_false, not_false_eq_true, true_implies, false_implies, implies_true, lf_10, eq_self, Int32.reduceLT, Int32.reduceLE, Int32.reduceAdd, Int32.reduceSub, Int32.reduceDiv, Int32.reduceMul, pm_same, pm_i_wI, pm_l_wL, pm_l_wM, pm_oR_rf, pm_oQ_rf, sh_k5 hS, nI_1, pm_wI_wI, sw_e, LQ1, LQ2]
    refine pm_wb_ok pb_c51 3 118 0 _ _ _ _ _ ?_
    try simp only [pm_WI0, pm_WI1, pm_WI2, pm_WI3, pm_WI4, pm_WI5, pm_WV, pm_WW, pm_WX, pb_B51, pm_if, pm_QI_at, pm_QL_at, pm_QV_at, pm_QR_at, pm_QR_at0, pm_QR_at1, Nat.reduceSub, Nat.reduceAdd, List.replicate_zero, List.replicate_succ, true_and, and_true, true_or, or_true, and_self, reduceIte, Nat.reduceEqDiff, Nat.reduceLT, Nat.reduceLeDiff, Nat.reduceMul, false_and, and_false, reduceCtorEq, false_or, or_false, not_true_eq_false, not_false_eq_true, true_implies, false_implies, implies_true, lf_10, eq_self, Int32.reduceLT, Int32.reduceLE, Int32.reduceAdd, Int32.reduceSub, Int32.reduceDiv, Int32.reduceMul, pm_same, pm_i_wI, pm_l_wL, pm_l_wM, pm_oR_rf, pm_oQ_rf, sh_k5 hS, nI_1, pm_wI_wI, sw_e, LQ1, LQ2, hp5, hr5, hkD]
    exact h0 hv
theorem rd51_100_7 {G : pm_G} {d : Nat} {S0 S : pm_S} {D r n : Nat} {W : Nat → Nat} {L : gx_L} {q : Int32 → pm_S → Prop} (hd : 6 ≤ d) (hS0 : Sh S0) (hd0 : dl S0 D W) (hr : rs S0 D W n S r L) {h : Int32} {s : Nat} {v : Value} (hl : L.2.2.length < r) (hs : s < 16) (h1 : ∀ x m S', gx_num (gx_b (pm_i S0 6) n) 0 4 r = (x, some m) → rs S0 D W n S' x (L.1, L.2.1, L.2.2 ++ [gx_st 7 s m]) → q 1 S') (h0 : gx_num (gx_b (pm_i S0 6) n) 0 4 r = (r, none) → q 0 S) : pm_W G d 51 (pm_QI q) 100 [.ref 5, .int 7, .int h, .int (nI s), v] [] S 0 0 := by
  have hS := hr.sh hS0
  have hdl := hr.todl hd0
  have ht := hr.text hd0
  have hr3 := hr.2.2.1
  have hn := hr3.2.2.2.1
  have hpn := hr3.2.2.1
  have hp5 : pm_i S 5 2 = nI r := hr3.1
  have hr5 : pm_r S 5 3 = some D := hdl.1
  have hkD : pm_k S D = 5 := hdl.2.1
  have rB : gx_b (pm_i S 6) n = gx_b (pm_i S0 6) n := by rw [ht]
  refine pm_wb_ok pb_c51 2 100 0 _ _ _ _ _ ?_
  try simp only [pm_WI0, pm_WI1, pm_WI2, pm_WI3, pm_WI4, pm_WI5, pm_WV, pm_WW, pm_WX, pb_B51, pm_if, pm_QI_at, pm_QL_at, pm_QV_at, pm_QR_at, pm_QR_at0, pm_QR_at1, Nat.reduceSub, Nat.reduceAdd, List.replicate_zero, List.replicate_succ, true_and, and_true, true_or, or_true, and_self, reduceIte, Nat.reduceEqDiff, Nat.reduceLT, Nat.reduceLeDiff, Nat.reduceMul, false_and, and_false, reduceCtorEq, false_or, or_false, not_true_eq_false, not_false_eq_true, true_implies, false_implies, implies_true, lf_10, eq_self, Int32.reduceLT, Int32.reduceLE, Int32.reduceAdd, Int32.reduceSub, Int32.reduceDiv, Int32.reduceMul, pm_same, pm_i_wI, pm_l_wL, pm_l_wM, pm_oR_rf, pm_oQ_rf, sh_k5 hS, nI_1, pm_wI_wI, sw_e, LQ1, LQ2, hp5, hr5, hkD]
  refine ⟨by omega, rd_53_7 ⟨by omega, sh_k5 hS, rd_48_04 (n := n) hS hr3 (fun x m hv1 hv2 hv3 hv4 => ?_) (fun hv => ?_)⟩⟩ <;> rw [rB] at *
  · have hm0 : ¬ nI m < 0 := nI_pos (by omega)
    have hge : 0 ≤ nI m := nI_pos' (by omega)
    try simp only [pm_WV, pm_WW, true_and, and_true, true_or, or_true, and_self, reduceIte, Nat.reduceEqDiff, Nat.reduceLT, Nat.reduceLeDiff, Nat.reduceMul, false_and, and_false, reduceCtorEq, false_or, or_false, not_true_eq_false, not_false_eq_true, true_implies, false_implies, implies_true, lf_10, eq_self, Int32.reduceLT, Int32.reduceLE, Int32.reduceAdd, Int32.reduceSub, Int32.reduceDiv, Int32.reduceMul, pm_same, pm_i_wI, pm_l_wL, pm_l_wM, pm_oR_rf, pm_oQ_rf, sh_k5 hS, nI_1, pm_wI_wI, sw_e, LQ1, LQ2]
    refine pm_wb_ok pb_c51 1 118 0 _ _ _ _ _ ?_
    try simp only [pm_WI0, pm_WI1, pm_WI2, pm_WI3, pm_WI4, pm_WI5, pm_WV, pm_WW, pm_WX, pb_B51, pm_if, pm_QI_at, pm_QL_at, pm_QV_at, pm_QR_at, pm_QR_at0, pm_QR_at1, Nat.reduceSub, Nat.reduceAdd, List.replicate_zero, List.replicate_succ, true_and, and_true, true_or, or_true, and_self, reduceIte, Nat.reduceEqDiff, Nat.reduceLT, Nat.reduceLeDiff, Nat.reduceMul, false_and, and_false, reduceCtorEq, false_or, or_false, not_true_eq_false, not_false_eq_true, true_implies, false_implies, implies_true, lf_10, eq_self, Int32.reduceLT, Int32.reduceLE, Int32.reduceAdd, Int32.reduceSub, Int32.reduceDiv, Int32.reduceMul, pm_same, pm_i_wI, pm_l_wL, pm_l_wM, pm_oR_rf, pm_oQ_rf, sh_k5 hS, nI_1, pm_wI_wI, sw_e, LQ1, LQ2, hp5, hr5, hkD, hge]
    exact rd51_127_7 hd hS0 hd0 (hr.mv hd0 hv3) (by omega) hs (by omega) (fun S' hS' => h1 x m S' hv1 hS')
  · try simp only [pm_WV, pm_WW, true_and, and_true, true_or, or_true, and_self, reduceIte, Nat.reduceEqDiff, Nat.reduceLT, Nat.reduceLeDiff, Nat.reduceMul, false_and, and_false, reduceCtorEq, false_or, or_false, not_true_eq_false, not_false_eq_true, true_implies, false_implies, implies_true, lf_10, eq_self, Int32.reduceLT, Int32.reduceLE, Int32.reduceAdd, Int32.reduceSub, Int32.reduceDiv, Int32.reduceMul, pm_same, pm_i_wI, pm_l_wL, pm_l_wM, pm_oR_rf, pm_oQ_rf, sh_k5 hS, nI_1, pm_wI_wI, sw_e, LQ1, LQ2]
    refine pm_wb_ok pb_c51 3 118 0 _ _ _ _ _ ?_
    try simp only [pm_WI0, pm_WI1, pm_WI2, pm_WI3, pm_WI4, pm_WI5, pm_WV, pm_WW, pm_WX, pb_B51, pm_if, pm_QI_at, pm_QL_at, pm_QV_at, pm_QR_at, pm_QR_at0, pm_QR_at1, Nat.reduceSub, Nat.reduceAdd, List.replicate_zero, List.replicate_succ, true_and, and_true, true_or, or_true, and_self, reduceIte, Nat.reduceEqDiff, Nat.reduceLT, Nat.reduceLeDiff, Nat.reduceMul, false_and, and_false, reduceCtorEq, false_or, or_false, not_true_eq_false, not_false_eq_true, true_implies, false_implies, implies_true, lf_10, eq_self, Int32.reduceLT, Int32.reduceLE, Int32.reduceAdd, Int32.reduceSub, Int32.reduceDiv, Int32.reduceMul, pm_same, pm_i_wI, pm_l_wL, pm_l_wM, pm_oR_rf, pm_oQ_rf, sh_k5 hS, nI_1, pm_wI_wI, sw_e, LQ1, LQ2, hp5, hr5, hkD]
    exact h0 hv
theorem rd51_61_2 {G : pm_G} {d : Nat} {S0 S : pm_S} {D r n : Nat} {W : Nat → Nat} {L : gx_L} {q : Int32 → pm_S → Prop} (hd : 6 ≤ d) (hS0 : Sh S0) (hd0 : dl S0 D W) (hr : rs S0 D W n S r L) {h : Int32} {s : Nat} {v : Value} (hl : L.2.2.length < r) (hs : s < 16) (h1 : ∀ x e S', gx_cmp (gx_b (pm_i S0 6) n) 2 s 2 r = (x, some e) → rs S0 D W n S' x (L.1, L.2.1, L.2.2 ++ e) → q 1 S') (h0 : ∀ x S', gx_cmp (gx_b (pm_i S0 6) n) 2 s 2 r = (x, none) → rs S0 D W n S' x L → q 0 S') : pm_W G d 51 (pm_QI q) 61 [.ref 5, .int 2, .int h, .int (nI s), v] [] S 0 0 := by
  have hS := hr.sh hS0
  have hdl := hr.todl hd0
  have ht := hr.text hd0
  have hr3 := hr.2.2.1
  have hn := hr3.2.2.2.1
  have hpn := hr3.2.2.1
  have hp5 : pm_i S 5 2 = nI r := hr3.1
  have hr5 : pm_r S 5 3 = some D := hdl.1
  have hkD : pm_k S D = 5 := hdl.2.1
  have rB : gx_b (pm_i S 6) n = gx_b (pm_i S0 6) n := by rw [ht]
  refine pm_wb_ok pb_c51 2 61 0 _ _ _ _ _ ?_
  try simp only [pm_WI0, pm_WI1, pm_WI2, pm_WI3, pm_WI4, pm_WI5, pm_WV, pm_WW, pm_WX, pb_B51, pm_if, pm_QI_at, pm_QL_at, pm_QV_at, pm_QR_at, pm_QR_at0, pm_QR_at1, Nat.reduceSub, Nat.reduceAdd, List.replicate_zero, List.replicate_succ, true_and, and_true, true_or, or_true, and_self, reduceIte, Nat.reduceEqDiff, Nat.reduceLT, Nat.reduceLeDiff, Nat.reduceMul, false_and, and_false, reduceCtorEq, false_or, or_false, not_true_eq_false, not_false_eq_true, true_implies, false_implies, implies_true, lf_10, eq_self, Int32.reduceLT, Int32.reduceLE, Int32.reduceAdd, Int32.reduceSub, Int32.reduceDiv, Int32.reduceMul, pm_same, pm_i_wI, pm_l_wL, pm_l_wM, pm_oR_rf, pm_oQ_rf, sh_k5 hS, nI_1, pm_wI_wI, sw_e, LQ1, LQ2, hp5, hr5, hkD]
  refine ⟨by omega, rd_46 (c := 62) (n := n) hS hr3 (by omega) (fun y => ?_) (fun y => ?_)⟩ <;> rw [rB] at y
  · have hlt : r < n := gx_lt gx_b_eof y (by omega)
    have ec : gx_cmp (gx_b (pm_i S0 6) n) 2 s 2 r = gx_bd (gx_num (gx_b (pm_i S0 6) n) 0 2 (r + 1)) (fun n q => (q, some [gx_st 3 s n])) := by
      unfold gx_cmp; rw [if_neg (by omega), if_pos y]
    have hr2 := hr.mv hd0 (q := r + 1) (by omega)
    try simp only [pm_WV, pm_WW, true_and, and_true, true_or, or_true, and_self, reduceIte, Nat.reduceEqDiff, Nat.reduceLT, Nat.reduceLeDiff, Nat.reduceMul, false_and, and_false, reduceCtorEq, false_or, or_false, not_true_eq_false, not_false_eq_true, true_implies, false_implies, implies_true, lf_10, eq_self, Int32.reduceLT, Int32.reduceLE, Int32.reduceAdd, Int32.reduceSub, Int32.reduceDiv, Int32.reduceMul, pm_same, pm_i_wI, pm_l_wL, pm_l_wM, pm_oR_rf, pm_oQ_rf, sh_k5 hS, nI_1, pm_wI_wI, sw_e, LQ1, LQ2, pb_B51, pm_if, pm_QI_at, pm_QL_at, pm_QV_at, pm_QR_at, pm_QR_at0, pm_QR_at1, Nat.reduceSub, Nat.reduceAdd, List.replicate_zero, List.replicate_succ, pm_WI0, pm_WI1, pm_WI2, pm_WI3, pm_WI4, pm_WI5, pm_WV, pm_WW, pm_WX]
    exact rd51_100_3 hd hS0 hd0 hr2 (by omega) hs (fun x m S' hv hS' => h1 x _ S' (by rw [ec, gx_bd_some hv]) hS') (fun hv => h0 _ _ (by rw [ec, gx_bd_none hv]) hr2)
  · try simp only [pm_WV, pm_WW, true_and, and_true, true_or, or_true, and_self, reduceIte, Nat.reduceEqDiff, Nat.reduceLT, Nat.reduceLeDiff, Nat.reduceMul, false_and, and_false, reduceCtorEq, false_or, or_false, not_true_eq_false, not_false_eq_true, true_implies, false_implies, implies_true, lf_10, eq_self, Int32.reduceLT, Int32.reduceLE, Int32.reduceAdd, Int32.reduceSub, Int32.reduceDiv, Int32.reduceMul, pm_same, pm_i_wI, pm_l_wL, pm_l_wM, pm_oR_rf, pm_oQ_rf, sh_k5 hS, nI_1, pm_wI_wI, sw_e, LQ1, LQ2, pb_B51, pm_if, pm_QI_at, pm_QL_at, pm_QV_at, pm_QR_at, pm_QR_at0, pm_QR_at1, Nat.reduceSub, Nat.reduceAdd, List.replicate_zero, List.replicate_succ, pm_WI0, pm_WI1, pm_WI2, pm_WI3, pm_WI4, pm_WI5, pm_WV, pm_WW, pm_WX]
    refine pm_wb_ok pb_c51 1 81 0 _ _ _ _ _ ?_
    try simp only [pm_WI0, pm_WI1, pm_WI2, pm_WI3, pm_WI4, pm_WI5, pm_WV, pm_WW, pm_WX, pb_B51, pm_if, pm_QI_at, pm_QL_at, pm_QV_at, pm_QR_at, pm_QR_at0, pm_QR_at1, Nat.reduceSub, Nat.reduceAdd, List.replicate_zero, List.replicate_succ, true_and, and_true, true_or, or_true, and_self, reduceIte, Nat.reduceEqDiff, Nat.reduceLT, Nat.reduceLeDiff, Nat.reduceMul, false_and, and_false, reduceCtorEq, false_or, or_false, not_true_eq_false, not_false_eq_true, true_implies, false_implies, implies_true, lf_10, eq_self, Int32.reduceLT, Int32.reduceLE, Int32.reduceAdd, Int32.reduceSub, Int32.reduceDiv, Int32.reduceMul, pm_same, pm_i_wI, pm_l_wL, pm_l_wM, pm_oR_rf, pm_oQ_rf, sh_k5 hS, nI_1, pm_wI_wI, sw_e, LQ1, LQ2, hp5, hr5, hkD]
    refine ⟨by omega, rd_46 (c := 60) (n := n) hS hr3 (by omega) (fun y2 => ?_) (fun y2 => ?_)⟩ <;> rw [rB] at y2
    · have hlt : r < n := gx_lt gx_b_eof y2 (by omega)
      have ec : gx_cmp (gx_b (pm_i S0 6) n) 2 s 2 r = gx_bd (gx_num (gx_b (pm_i S0 6) n) 0 2 (r + 1)) (fun n q => (q, some [gx_st 2 s n])) := by
        unfold gx_cmp; rw [if_pos y2]
      have hr2 := hr.mv hd0 (q := r + 1) (by omega)
      try simp only [pm_WV, pm_WW, true_and, and_true, true_or, or_true, and_self, reduceIte, Nat.reduceEqDiff, Nat.reduceLT, Nat.reduceLeDiff, Nat.reduceMul, false_and, and_false, reduceCtorEq, false_or, or_false, not_true_eq_false, not_false_eq_true, true_implies, false_implies, implies_true, lf_10, eq_self, Int32.reduceLT, Int32.reduceLE, Int32.reduceAdd, Int32.reduceSub, Int32.reduceDiv, Int32.reduceMul, pm_same, pm_i_wI, pm_l_wL, pm_l_wM, pm_oR_rf, pm_oQ_rf, sh_k5 hS, nI_1, pm_wI_wI, sw_e, LQ1, LQ2, pb_B51, pm_if, pm_QI_at, pm_QL_at, pm_QV_at, pm_QR_at, pm_QR_at0, pm_QR_at1, Nat.reduceSub, Nat.reduceAdd, List.replicate_zero, List.replicate_succ, pm_WI0, pm_WI1, pm_WI2, pm_WI3, pm_WI4, pm_WI5, pm_WV, pm_WW, pm_WX]
      exact rd51_100_2 hd hS0 hd0 hr2 (by omega) hs (fun x m S' hv hS' => h1 x _ S' (by rw [ec, gx_bd_some hv]) hS') (fun hv => h0 _ _ (by rw [ec, gx_bd_none hv]) hr2)
    · try simp only [pm_WV, pm_WW, true_and, and_true, true_or, or_true, and_self, reduceIte, Nat.reduceEqDiff, Nat.reduceLT, Nat.reduceLeDiff, Nat.reduceMul, false_and, and_false, reduceCtorEq, false_or, or_false, not_true_eq_false, not_false_eq_true, true_implies, false_implies, implies_true, lf_10, eq_self, Int32.reduceLT, Int32.reduceLE, Int32.reduceAdd, Int32.reduceSub, Int32.reduceDiv, Int32.reduceMul, pm_same, pm_i_wI, pm_l_wL, pm_l_wM, pm_oR_rf, pm_oQ_rf, sh_k5 hS, nI_1, pm_wI_wI, sw_e, LQ1, LQ2, pb_B51, pm_if, pm_QI_at, pm_QL_at, pm_QV_at, pm_QR_at, pm_QR_at0, pm_QR_at1, Nat.reduceSub, Nat.reduceAdd, List.replicate_zero, List.replicate_succ, pm_WI0, pm_WI1, pm_WI2, pm_WI3, pm_WI4, pm_WI5, pm_WV, pm_WW, pm_WX]
      exact h0 r S (by unfold gx_cmp; rw [if_neg y2, if_neg y]) hr
theorem rd51_61_4 {G : pm_G} {d : Nat} {S0 S : pm_S} {D r n : Nat} {W : Nat → Nat} {L : gx_L} {q : Int32 → pm_S → Prop} (hd : 6 ≤ d) (hS0 : Sh S0) (hd0 : dl S0 D W) (hr : rs S0 D W n S r L) {h : Int32} {s : Nat} {v : Value} (hl : L.2.2.length < r) (hs : s < 16) (h1 : ∀ x e S', gx_cmp (gx_b (pm_i S0 6) n) 4 s 4 r = (x, some e) → rs S0 D W n S' x (L.1, L.2.1, L.2.2 ++ e) → q 1 S') (h0 : ∀ x S', gx_cmp (gx_b (pm_i S0 6) n) 4 s 4 r = (x, none) → rs S0 D W n S' x L → q 0 S') : pm_W G d 51 (pm_QI q) 61 [.ref 5, .int 4, .int h, .int (nI s), v] [] S 0 0 := by
  have hS := hr.sh hS0
  have hdl := hr.todl hd0
  have ht := hr.text hd0
  have hr3 := hr.2.2.1
  have hn := hr3.2.2.2.1
  have hpn := hr3.2.2.1
  have hp5 : pm_i S 5 2 = nI r := hr3.1
  have hr5 : pm_r S 5 3 = some D := hdl.1
  have hkD : pm_k S D = 5 := hdl.2.1
  have rB : gx_b (pm_i S 6) n = gx_b (pm_i S0 6) n := by rw [ht]
  refine pm_wb_ok pb_c51 2 61 0 _ _ _ _ _ ?_
  try simp only [pm_WI0, pm_WI1, pm_WI2, pm_WI3, pm_WI4, pm_WI5, pm_WV, pm_WW, pm_WX, pb_B51, pm_if, pm_QI_at, pm_QL_at, pm_QV_at, pm_QR_at, pm_QR_at0, pm_QR_at1, Nat.reduceSub, Nat.reduceAdd, List.replicate_zero, List.replicate_succ, true_and, and_true, true_or, or_true, and_self, reduceIte, Nat.reduceEqDiff, Nat.reduceLT, Nat.reduceLeDiff, Nat.reduceMul, false_and, and_false, reduceCtorEq, false_or, or_false, not_true_eq_false, not_false_eq_true, true_implies, false_implies, implies_true, lf_10, eq_self, Int32.reduceLT, Int32.reduceLE, Int32.reduceAdd, Int32.reduceSub, Int32.reduceDiv, Int32.reduceMul, pm_same, pm_i_wI, pm_l_wL, pm_l_wM, pm_oR_rf, pm_oQ_rf, sh_k5 hS, nI_1, pm_wI_wI, sw_e, LQ1, LQ2, hp5, hr5, hkD]
  refine ⟨by omega, rd_46 (c := 62) (n := n) hS hr3 (by omega) (fun y => ?_) (fun y => ?_)⟩ <;> rw [rB] at y
  · have hlt : r < n := gx_lt gx_b_eof y (by omega)
    have ec : gx_cmp (gx_b (pm_i S0 6) n) 4 s 4 r = gx_bd (gx_num (gx_b (pm_i S0 6) n) 0 4 (r + 1)) (fun n q => (q, some [gx_st 5 s n])) := by
      unfold gx_cmp; rw [if_neg (by omega), if_pos y]
    have hr2 := hr.mv hd0 (q := r + 1) (by omega)
    try simp only [pm_WV, pm_WW, true_and, and_true, true_or, or_true, and_self, reduceIte, Nat.reduceEqDiff, Nat.reduceLT, Nat.reduceLeDiff, Nat.reduceMul, false_and, and_false, reduceCtorEq, false_or, or_false, not_true_eq_false, not_false_eq_true, true_implies, false_implies, implies_true, lf_10, eq_self, Int32.reduceLT, Int32.reduceLE, Int32.reduceAdd, Int32.reduceSub, Int32.reduceDiv, Int32.reduceMul, pm_same, pm_i_wI, pm_l_wL, pm_l_wM, pm_oR_rf, pm_oQ_rf, sh_k5 hS, nI_1, pm_wI_wI, sw_e, LQ1, LQ2, pb_B51, pm_if, pm_QI_at, pm_QL_at, pm_QV_at, pm_QR_at, pm_QR_at0, pm_QR_at1, Nat.reduceSub, Nat.reduceAdd, List.replicate_zero, List.replicate_succ, pm_WI0, pm_WI1, pm_WI2, pm_WI3, pm_WI4, pm_WI5, pm_WV, pm_WW, pm_WX]
    exact rd51_100_5 hd hS0 hd0 hr2 (by omega) hs (fun x m S' hv hS' => h1 x _ S' (by rw [ec, gx_bd_some hv]) hS') (fun hv => h0 _ _ (by rw [ec, gx_bd_none hv]) hr2)
  · try simp only [pm_WV, pm_WW, true_and, and_true, true_or, or_true, and_self, reduceIte, Nat.reduceEqDiff, Nat.reduceLT, Nat.reduceLeDiff, Nat.reduceMul, false_and, and_false, reduceCtorEq, false_or, or_false, not_true_eq_false, not_false_eq_true, true_implies, false_implies, implies_true, lf_10, eq_self, Int32.reduceLT, Int32.reduceLE, Int32.reduceAdd, Int32.reduceSub, Int32.reduceDiv, Int32.reduceMul, pm_same, pm_i_wI, pm_l_wL, pm_l_wM, pm_oR_rf, pm_oQ_rf, sh_k5 hS, nI_1, pm_wI_wI, sw_e, LQ1, LQ2, pb_B51, pm_if, pm_QI_at, pm_QL_at, pm_QV_at, pm_QR_at, pm_QR_at0, pm_QR_at1, Nat.reduceSub, Nat.reduceAdd, List.replicate_zero, List.replicate_succ, pm_WI0, pm_WI1, pm_WI2, pm_WI3, pm_WI4, pm_WI5, pm_WV, pm_WW, pm_WX]
    refine pm_wb_ok pb_c51 1 81 0 _ _ _ _ _ ?_
    try simp only [pm_WI0, pm_WI1, pm_WI2, pm_WI3, pm_WI4, pm_WI5, pm_WV, pm_WW, pm_WX, pb_B51, pm_if, pm_QI_at, pm_QL_at, pm_QV_at, pm_QR_at, pm_QR_at0, pm_QR_at1, Nat.reduceSub, Nat.reduceAdd, List.replicate_zero, List.replicate_succ, true_and, and_true, true_or, or_true, and_self, reduceIte, Nat.reduceEqDiff, Nat.reduceLT, Nat.reduceLeDiff, Nat.reduceMul, false_and, and_false, reduceCtorEq, false_or, or_false, not_true_eq_false, not_false_eq_true, true_implies, false_implies, implies_true, lf_10, eq_self, Int32.reduceLT, Int32.reduceLE, Int32.reduceAdd, Int32.reduceSub, Int32.reduceDiv, Int32.reduceMul, pm_same, pm_i_wI, pm_l_wL, pm_l_wM, pm_oR_rf, pm_oQ_rf, sh_k5 hS, nI_1, pm_wI_wI, sw_e, LQ1, LQ2, hp5, hr5, hkD]
    refine ⟨by omega, rd_46 (c := 60) (n := n) hS hr3 (by omega) (fun y2 => ?_) (fun y2 => ?_)⟩ <;> rw [rB] at y2
    · have hlt : r < n := gx_lt gx_b_eof y2 (by omega)
      have ec : gx_cmp (gx_b (pm_i S0 6) n) 4 s 4 r = gx_bd (gx_num (gx_b (pm_i S0 6) n) 0 4 (r + 1)) (fun n q => (q, some [gx_st 4 s n])) := by
        unfold gx_cmp; rw [if_pos y2]
      have hr2 := hr.mv hd0 (q := r + 1) (by omega)
      try simp only [pm_WV, pm_WW, true_and, and_true, true_or, or_true, and_self, reduceIte, Nat.reduceEqDiff, Nat.reduceLT, Nat.reduceLeDiff, Nat.reduceMul, false_and, and_false, reduceCtorEq, false_or, or_false, not_true_eq_false, not_false_eq_true, true_implies, false_implies, implies_true, lf_10, eq_self, Int32.reduceLT, Int32.reduceLE, Int32.reduceAdd, Int32.reduceSub, Int32.reduceDiv, Int32.reduceMul, pm_same, pm_i_wI, pm_l_wL, pm_l_wM, pm_oR_rf, pm_oQ_rf, sh_k5 hS, nI_1, pm_wI_wI, sw_e, LQ1, LQ2, pb_B51, pm_if, pm_QI_at, pm_QL_at, pm_QV_at, pm_QR_at, pm_QR_at0, pm_QR_at1, Nat.reduceSub, Nat.reduceAdd, List.replicate_zero, List.replicate_succ, pm_WI0, pm_WI1, pm_WI2, pm_WI3, pm_WI4, pm_WI5, pm_WV, pm_WW, pm_WX]
      exact rd51_100_4 hd hS0 hd0 hr2 (by omega) hs (fun x m S' hv hS' => h1 x _ S' (by rw [ec, gx_bd_some hv]) hS') (fun hv => h0 _ _ (by rw [ec, gx_bd_none hv]) hr2)
    · try simp only [pm_WV, pm_WW, true_and, and_true, true_or, or_true, and_self, reduceIte, Nat.reduceEqDiff, Nat.reduceLT, Nat.reduceLeDiff, Nat.reduceMul, false_and, and_false, reduceCtorEq, false_or, or_false, not_true_eq_false, not_false_eq_true, true_implies, false_implies, implies_true, lf_10, eq_self, Int32.reduceLT, Int32.reduceLE, Int32.reduceAdd, Int32.reduceSub, Int32.reduceDiv, Int32.reduceMul, pm_same, pm_i_wI, pm_l_wL, pm_l_wM, pm_oR_rf, pm_oQ_rf, sh_k5 hS, nI_1, pm_wI_wI, sw_e, LQ1, LQ2, pb_B51, pm_if, pm_QI_at, pm_QL_at, pm_QV_at, pm_QR_at, pm_QR_at0, pm_QR_at1, Nat.reduceSub, Nat.reduceAdd, List.replicate_zero, List.replicate_succ, pm_WI0, pm_WI1, pm_WI2, pm_WI3, pm_WI4, pm_WI5, pm_WV, pm_WW, pm_WX]
      exact h0 r S (by unfold gx_cmp; rw [if_neg y2, if_neg y]) hr
theorem rd51_61_6 {G : pm_G} {d : Nat} {S0 S : pm_S} {D r n : Nat} {W : Nat → Nat} {L : gx_L} {q : Int32 → pm_S → Prop} (hd : 6 ≤ d) (hS0 : Sh S0) (hd0 : dl S0 D W) (hr : rs S0 D W n S r L) {h : Int32} {s : Nat} {v : Value} (hl : L.2.2.length < r) (hs : s < 16) (h1 : ∀ x e S', gx_cmp (gx_b (pm_i S0 6) n) 6 s 4 r = (x, some e) → rs S0 D W n S' x (L.1, L.2.1, L.2.2 ++ e) → q 1 S') (h0 : ∀ x S', gx_cmp (gx_b (pm_i S0 6) n) 6 s 4 r = (x, none) → rs S0 D W n S' x L → q 0 S') : pm_W G d 51 (pm_QI q) 61 [.ref 5, .int 6, .int h, .int (nI s), v] [] S 0 0 := by
  have hS := hr.sh hS0
  have hdl := hr.todl hd0
  have ht := hr.text hd0
  have hr3 := hr.2.2.1
  have hn := hr3.2.2.2.1
  have hpn := hr3.2.2.1
  have hp5 : pm_i S 5 2 = nI r := hr3.1
  have hr5 : pm_r S 5 3 = some D := hdl.1
  have hkD : pm_k S D = 5 := hdl.2.1
  have rB : gx_b (pm_i S 6) n = gx_b (pm_i S0 6) n := by rw [ht]
  refine pm_wb_ok pb_c51 2 61 0 _ _ _ _ _ ?_
  try simp only [pm_WI0, pm_WI1, pm_WI2, pm_WI3, pm_WI4, pm_WI5, pm_WV, pm_WW, pm_WX, pb_B51, pm_if, pm_QI_at, pm_QL_at, pm_QV_at, pm_QR_at, pm_QR_at0, pm_QR_at1, Nat.reduceSub, Nat.reduceAdd, List.replicate_zero, List.replicate_succ, true_and, and_true, true_or, or_true, and_self, reduceIte, Nat.reduceEqDiff, Nat.reduceLT, Nat.reduceLeDiff, Nat.reduceMul, false_and, and_false, reduceCtorEq, false_or, or_false, not_true_eq_false, not_false_eq_true, true_implies, false_implies, implies_true, lf_10, eq_self, Int32.reduceLT, Int32.reduceLE, Int32.reduceAdd, Int32.reduceSub, Int32.reduceDiv, Int32.reduceMul, pm_same, pm_i_wI, pm_l_wL, pm_l_wM, pm_oR_rf, pm_oQ_rf, sh_k5 hS, nI_1, pm_wI_wI, sw_e, LQ1, LQ2, hp5, hr5, hkD]
  refine ⟨by omega, rd_46 (c := 62) (n := n) hS hr3 (by omega) (fun y => ?_) (fun y => ?_)⟩ <;> rw [rB] at y
  · have hlt : r < n := gx_lt gx_b_eof y (by omega)
    have ec : gx_cmp (gx_b (pm_i S0 6) n) 6 s 4 r = gx_bd (gx_num (gx_b (pm_i S0 6) n) 0 4 (r + 1)) (fun n q => (q, some [gx_st 7 s n])) := by
      unfold gx_cmp; rw [if_neg (by omega), if_pos y]
    have hr2 := hr.mv hd0 (q := r + 1) (by omega)
    try simp only [pm_WV, pm_WW, true_and, and_true, true_or, or_true, and_self, reduceIte, Nat.reduceEqDiff, Nat.reduceLT, Nat.reduceLeDiff, Nat.reduceMul, false_and, and_false, reduceCtorEq, false_or, or_false, not_true_eq_false, not_false_eq_true, true_implies, false_implies, implies_true, lf_10, eq_self, Int32.reduceLT, Int32.reduceLE, Int32.reduceAdd, Int32.reduceSub, Int32.reduceDiv, Int32.reduceMul, pm_same, pm_i_wI, pm_l_wL, pm_l_wM, pm_oR_rf, pm_oQ_rf, sh_k5 hS, nI_1, pm_wI_wI, sw_e, LQ1, LQ2, pb_B51, pm_if, pm_QI_at, pm_QL_at, pm_QV_at, pm_QR_at, pm_QR_at0, pm_QR_at1, Nat.reduceSub, Nat.reduceAdd, List.replicate_zero, List.replicate_succ, pm_WI0, pm_WI1, pm_WI2, pm_WI3, pm_WI4, pm_WI5, pm_WV, pm_WW, pm_WX]
    exact rd51_100_7 hd hS0 hd0 hr2 (by omega) hs (fun x m S' hv hS' => h1 x _ S' (by rw [ec, gx_bd_some hv]) hS') (fun hv => h0 _ _ (by rw [ec, gx_bd_none hv]) hr2)
  · try simp only [pm_WV, pm_WW, true_and, and_true, true_or, or_true, and_self, reduceIte, Nat.reduceEqDiff, Nat.reduceLT, Nat.reduceLeDiff, Nat.reduceMul, false_and, and_false, reduceCtorEq, false_or, or_false, not_true_eq_false, not_false_eq_true, true_implies, false_implies, implies_true, lf_10, eq_self, Int32.reduceLT, Int32.reduceLE, Int32.reduceAdd, Int32.reduceSub, Int32.reduceDiv, Int32.reduceMul, pm_same, pm_i_wI, pm_l_wL, pm_l_wM, pm_oR_rf, pm_oQ_rf, sh_k5 hS, nI_1, pm_wI_wI, sw_e, LQ1, LQ2, pb_B51, pm_if, pm_QI_at, pm_QL_at, pm_QV_at, pm_QR_at, pm_QR_at0, pm_QR_at1, Nat.reduceSub, Nat.reduceAdd, List.replicate_zero, List.replicate_succ, pm_WI0, pm_WI1, pm_WI2, pm_WI3, pm_WI4, pm_WI5, pm_WV, pm_WW, pm_WX]
    refine pm_wb_ok pb_c51 1 81 0 _ _ _ _ _ ?_
    try simp only [pm_WI0, pm_WI1, pm_WI2, pm_WI3, pm_WI4, pm_WI5, pm_WV, pm_WW, pm_WX, pb_B51, pm_if, pm_QI_at, pm_QL_at, pm_QV_at, pm_QR_at, pm_QR_at0, pm_QR_at1, Nat.reduceSub, Nat.reduceAdd, List.replicate_zero, List.replicate_succ, true_and, and_true, true_or, or_true, and_self, reduceIte, Nat.reduceEqDiff, Nat.reduceLT, Nat.reduceLeDiff, Nat.reduceMul, false_and, and_false, reduceCtorEq, false_or, or_false, not_true_eq_false, not_false_eq_true, true_implies, false_implies, implies_true, lf_10, eq_self, Int32.reduceLT, Int32.reduceLE, Int32.reduceAdd, Int32.reduceSub, Int32.reduceDiv, Int32.reduceMul, pm_same, pm_i_wI, pm_l_wL, pm_l_wM, pm_oR_rf, pm_oQ_rf, sh_k5 hS, nI_1, pm_wI_wI, sw_e, LQ1, LQ2, hp5, hr5, hkD]
    refine ⟨by omega, rd_46 (c := 60) (n := n) hS hr3 (by omega) (fun y2 => ?_) (fun y2 => ?_)⟩ <;> rw [rB] at y2
    · have hlt : r < n := gx_lt gx_b_eof y2 (by omega)
      have ec : gx_cmp (gx_b (pm_i S0 6) n) 6 s 4 r = gx_bd (gx_num (gx_b (pm_i S0 6) n) 0 4 (r + 1)) (fun n q => (q, some [gx_st 6 s n])) := by
        unfold gx_cmp; rw [if_pos y2]
      have hr2 := hr.mv hd0 (q := r + 1) (by omega)
      try simp only [pm_WV, pm_WW, true_and, and_true, true_or, or_true, and_self, reduceIte, Nat.reduceEqDiff, Nat.reduceLT, Nat.reduceLeDiff, Nat.reduceMul, false_and, and_false, reduceCtorEq, false_or, or_false, not_true_eq_false, not_false_eq_true, true_implies, false_implies, implies_true, lf_10, eq_self, Int32.reduceLT, Int32.reduceLE, Int32.reduceAdd, Int32.reduceSub, Int32.reduceDiv, Int32.reduceMul, pm_same, pm_i_wI, pm_l_wL, pm_l_wM, pm_oR_rf, pm_oQ_rf, sh_k5 hS, nI_1, pm_wI_wI, sw_e, LQ1, LQ2, pb_B51, pm_if, pm_QI_at, pm_QL_at, pm_QV_at, pm_QR_at, pm_QR_at0, pm_QR_at1, Nat.reduceSub, Nat.reduceAdd, List.replicate_zero, List.replicate_succ, pm_WI0, pm_WI1, pm_WI2, pm_WI3, pm_WI4, pm_WI5, pm_WV, pm_WW, pm_WX]
      exact rd51_100_6 hd hS0 hd0 hr2 (by omega) hs (fun x m S' hv hS' => h1 x _ S' (by rw [ec, gx_bd_some hv]) hS') (fun hv => h0 _ _ (by rw [ec, gx_bd_none hv]) hr2)
    · try simp only [pm_WV, pm_WW, true_and, and_true, true_or, or_true, and_self, reduceIte, Nat.reduceEqDiff, Nat.reduceLT, Nat.reduceLeDiff, Nat.reduceMul, false_and, and_false, reduceCtorEq, false_or, or_false, not_true_eq_false, not_false_eq_true, true_implies, false_implies, implies_true, lf_10, eq_self, Int32.reduceLT, Int32.reduceLE, Int32.reduceAdd, Int32.reduceSub, Int32.reduceDiv, Int32.reduceMul, pm_same, pm_i_wI, pm_l_wL, pm_l_wM, pm_oR_rf, pm_oQ_rf, sh_k5 hS, nI_1, pm_wI_wI, sw_e, LQ1, LQ2, pb_B51, pm_if, pm_QI_at, pm_QL_at, pm_QV_at, pm_QR_at, pm_QR_at0, pm_QR_at1, Nat.reduceSub, Nat.reduceAdd, List.replicate_zero, List.replicate_succ, pm_WI0, pm_WI1, pm_WI2, pm_WI3, pm_WI4, pm_WI5, pm_WV, pm_WW, pm_WX]
      exact h0 r S (by unfold gx_cmp; rw [if_neg y2, if_neg y]) hr
set_option maxRecDepth 20000 in
theorem rd_51 {G : pm_G} {d : Nat} {S0 S : pm_S} {D r n : Nat} {W : Nat → Nat} {L : gx_L} {q : Int32 → pm_S → Prop} (hd : 6 ≤ d) (hS0 : Sh S0) (hd0 : dl S0 D W) (hr : rs S0 D W n S r L) (hl : L.2.2.length ≤ r) (h1 : ∀ x e S', gx_test (gx_b (pm_i S0 6) n) r = (x, some e) → rs S0 D W n S' x (L.1, L.2.1, L.2.2 ++ e) → q 1 S') (h0 : ∀ x S', gx_test (gx_b (pm_i S0 6) n) r = (x, none) → rs S0 D W n S' x L → q 0 S') : pm_CI G d 51 [.ref 5] S q := by
  have hS := hr.sh hS0
  have hdl := hr.todl hd0
  have ht := hr.text hd0
  have hr3 := hr.2.2.1
  have hn := hr3.2.2.2.1
  have hpn := hr3.2.2.1
  have hp5 : pm_i S 5 2 = nI r := hr3.1
  have hr5 : pm_r S 5 3 = some D := hdl.1
  have hkD : pm_k S D = 5 := hdl.2.1
  have rB : gx_b (pm_i S 6) n = gx_b (pm_i S0 6) n := by rw [ht]
  have hle := gx_b_le hr3 r
  refine pm_goI 51 1 pb_c51 (by decide) (Nat.le_of_ble_eq_true rfl) rfl ?_
  try simp only [show pm_mL 51 = 5 from rfl, pm_WI0, pm_WI1, pm_WI2, pm_WI3, pm_WI4, pm_WI5, pm_WV, pm_WW, pm_WX, pb_B51, pm_if, pm_QI_at, pm_QL_at, pm_QV_at, pm_QR_at, pm_QR_at0, pm_QR_at1, Nat.reduceSub, Nat.reduceAdd, List.replicate_zero, List.replicate_succ, true_and, and_true, true_or, or_true, and_self, reduceIte, Nat.reduceEqDiff, Nat.reduceLT, Nat.reduceLeDiff, Nat.reduceMul, false_and, and_false, reduceCtorEq, false_or, or_false, not_true_eq_false, not_false_eq_true, true_implies, false_implies, implies_true, lf_10, eq_self, Int32.reduceLT, Int32.reduceLE, Int32.reduceAdd, Int32.reduceSub, Int32.reduceDiv, Int32.reduceMul, pm_same, pm_i_wI, pm_l_wL, pm_l_wM, pm_oR_rf, pm_oQ_rf, sh_k5 hS, nI_1, pm_wI_wI, sw_e, LQ1, LQ2, hp5, hr5, hkD]
  refine ⟨by omega, rd_44 hS hr3 ⟨by omega, rd_52 hle ?_⟩⟩
  rw [rB]
  by_cases y116 : gx_b (pm_i S0 6) n r = 116
  · have ec : gx_test (gx_b (pm_i S0 6) n) r = gx_bd (gx_num (gx_b (pm_i S0 6) n) 0 1 (r + 1)) (fun n q => (q, some [gx_st 0 0 n])) := by
      unfold gx_test; rw [if_pos y116]
    have hlt : r < n := gx_lt gx_b_eof y116 (by omega)
    have hr2 := hr.mv hd0 (q := r + 1) (by omega)
    have hS2 := hr2.sh hS0
    have rB2 : gx_b (pm_i (pm_wI S 5 2 (nI (r + 1))) 6) n = gx_b (pm_i S0 6) n := by rw [rd_B, rB]
    rw [show tk (gx_b (pm_i S0 6) n r) = 0 from by rw [y116]; rfl]
    try simp only [pm_WV, pm_WW, true_and, and_true, true_or, or_true, and_self, reduceIte, Nat.reduceEqDiff, Nat.reduceLT, Nat.reduceLeDiff, Nat.reduceMul, false_and, and_false, reduceCtorEq, false_or, or_false, not_true_eq_false, not_false_eq_true, true_implies, false_implies, implies_true, lf_10, eq_self, Int32.reduceLT, Int32.reduceLE, Int32.reduceAdd, Int32.reduceSub, Int32.reduceDiv, Int32.reduceMul, pm_same, pm_i_wI, pm_l_wL, pm_l_wM, pm_oR_rf, pm_oQ_rf, sh_k5 hS, nI_1, pm_wI_wI, sw_e, LQ1, LQ2, pb_B51, pm_if, pm_QI_at, pm_QL_at, pm_QV_at, pm_QR_at, pm_QR_at0, pm_QR_at1, Nat.reduceSub, Nat.reduceAdd, List.replicate_zero, List.replicate_succ, pm_WI0, pm_WI1, pm_WI2, pm_WI3, pm_WI4, pm_WI5, pm_WV, pm_WW, pm_WX]
    refine pm_wb_ok pb_c51 6 14 0 _ _ _ _ _ ?_
    try simp only [pm_WI0, pm_WI1, pm_WI2, pm_WI3, pm_WI4, pm_WI5, pm_WV, pm_WW, pm_WX, pb_B51, pm_if, pm_QI_at, pm_QL_at, pm_QV_at, pm_QR_at, pm_QR_at0, pm_QR_at1, Nat.reduceSub, Nat.reduceAdd, List.replicate_zero, List.replicate_succ, true_and, and_true, true_or, or_true, and_self, reduceIte, Nat.reduceEqDiff, Nat.reduceLT, Nat.reduceLeDiff, Nat.reduceMul, false_and, and_false, reduceCtorEq, false_or, or_false, not_true_eq_false, not_false_eq_true, true_implies, false_implies, implies_true, lf_10, eq_self, Int32.reduceLT, Int32.reduceLE, Int32.reduceAdd, Int32.reduceSub, Int32.reduceDiv, Int32.reduceMul, pm_same, pm_i_wI, pm_l_wL, pm_l_wM, pm_oR_rf, pm_oQ_rf, sh_k5 hS, nI_1, pm_wI_wI, sw_e, LQ1, LQ2, hp5, hr5, hkD]
    exact rd51_100_0 (s := 0) hd hS0 hd0 hr2 (by omega) (by omega) (fun x m S' hv hS' => h1 x _ S' (by rw [ec, gx_bd_some hv]) hS') (fun hv => h0 _ _ (by rw [ec, gx_bd_none hv]) hr2)
  ·
    by_cases y97 : gx_b (pm_i S0 6) n r = 97
    · have ec : gx_test (gx_b (pm_i S0 6) n) r = gx_bd (gx_num (gx_b (pm_i S0 6) n) 1 1 (r + 1)) (fun s q => (q, some [gx_st 1 s 0])) := by
        unfold gx_test; rw [if_neg y116, if_pos y97]
      have hlt : r < n := gx_lt gx_b_eof y97 (by omega)
      have hr2 := hr.mv hd0 (q := r + 1) (by omega)
      have hS2 := hr2.sh hS0
      have rB2 : gx_b (pm_i (pm_wI S 5 2 (nI (r + 1))) 6) n = gx_b (pm_i S0 6) n := by rw [rd_B, rB]
      rw [show tk (gx_b (pm_i S0 6) n r) = 1 from by rw [y97]; rfl]
      try simp only [pm_WV, pm_WW, true_and, and_true, true_or, or_true, and_self, reduceIte, Nat.reduceEqDiff, Nat.reduceLT, Nat.reduceLeDiff, Nat.reduceMul, false_and, and_false, reduceCtorEq, false_or, or_false, not_true_eq_false, not_false_eq_true, true_implies, false_implies, implies_true, lf_10, eq_self, Int32.reduceLT, Int32.reduceLE, Int32.reduceAdd, Int32.reduceSub, Int32.reduceDiv, Int32.reduceMul, pm_same, pm_i_wI, pm_l_wL, pm_l_wM, pm_oR_rf, pm_oQ_rf, sh_k5 hS, nI_1, pm_wI_wI, sw_e, LQ1, LQ2, pb_B51, pm_if, pm_QI_at, pm_QL_at, pm_QV_at, pm_QR_at, pm_QR_at0, pm_QR_at1, Nat.reduceSub, Nat.reduceAdd, List.replicate_zero, List.replicate_succ, pm_WI0, pm_WI1, pm_WI2, pm_WI3, pm_WI4, pm_WI5, pm_WV, pm_WW, pm_WX]
      refine pm_wb_ok pb_c51 5 14 0 _ _ _ _ _ ?_
      try simp only [pm_WI0, pm_WI1, pm_WI2, pm_WI3, pm_WI4, pm_WI5, pm_WV, pm_WW, pm_WX, pb_B51, pm_if, pm_QI_at, pm_QL_at, pm_QV_at, pm_QR_at, pm_QR_at0, pm_QR_at1, Nat.reduceSub, Nat.reduceAdd, List.replicate_zero, List.replicate_succ, true_and, and_true, true_or, or_true, and_self, reduceIte, Nat.reduceEqDiff, Nat.reduceLT, Nat.reduceLeDiff, Nat.reduceMul, false_and, and_false, reduceCtorEq, false_or, or_false, not_true_eq_false, not_false_eq_true, true_implies, false_implies, implies_true, lf_10, eq_self, Int32.reduceLT, Int32.reduceLE, Int32.reduceAdd, Int32.reduceSub, Int32.reduceDiv, Int32.reduceMul, pm_same, pm_i_wI, pm_l_wL, pm_l_wM, pm_oR_rf, pm_oQ_rf, sh_k5 hS, nI_1, pm_wI_wI, sw_e, LQ1, LQ2, hp5, hr5, hkD]
      refine ⟨by omega, rd_48_11 (n := n) hS2 hr2.2.2.1 (fun x s hv1 hv2 hv3 hv4 => ?_) (fun hv => ?_)⟩ <;> rw [rB2] at *
      · have hge : 0 ≤ nI s := nI_pos' (by omega)
        try simp only [pm_WV, pm_WW, true_and, and_true, true_or, or_true, and_self, reduceIte, Nat.reduceEqDiff, Nat.reduceLT, Nat.reduceLeDiff, Nat.reduceMul, false_and, and_false, reduceCtorEq, false_or, or_false, not_true_eq_false, not_false_eq_true, true_implies, false_implies, implies_true, lf_10, eq_self, Int32.reduceLT, Int32.reduceLE, Int32.reduceAdd, Int32.reduceSub, Int32.reduceDiv, Int32.reduceMul, pm_same, pm_i_wI, pm_l_wL, pm_l_wM, pm_oR_rf, pm_oQ_rf, sh_k5 hS, nI_1, pm_wI_wI, sw_e, LQ1, LQ2, pb_B51, pm_if, pm_QI_at, pm_QL_at, pm_QV_at, pm_QR_at, pm_QR_at0, pm_QR_at1, Nat.reduceSub, Nat.reduceAdd, List.replicate_zero, List.replicate_succ, pm_WI0, pm_WI1, pm_WI2, pm_WI3, pm_WI4, pm_WI5, pm_WV, pm_WW, pm_WX, hge]
        exact rd51_100_1 hd hS0 hd0 (hr.mv hd0 hv3) (by omega) (by omega) (fun S' hS' => h1 x _ S' (by rw [ec, gx_bd_some hv1]) hS')
      · try simp only [pm_WV, pm_WW, true_and, and_true, true_or, or_true, and_self, reduceIte, Nat.reduceEqDiff, Nat.reduceLT, Nat.reduceLeDiff, Nat.reduceMul, false_and, and_false, reduceCtorEq, false_or, or_false, not_true_eq_false, not_false_eq_true, true_implies, false_implies, implies_true, lf_10, eq_self, Int32.reduceLT, Int32.reduceLE, Int32.reduceAdd, Int32.reduceSub, Int32.reduceDiv, Int32.reduceMul, pm_same, pm_i_wI, pm_l_wL, pm_l_wM, pm_oR_rf, pm_oQ_rf, sh_k5 hS, nI_1, pm_wI_wI, sw_e, LQ1, LQ2, pb_B51, pm_if, pm_QI_at, pm_QL_at, pm_QV_at, pm_QR_at, pm_QR_at0, pm_QR_at1, Nat.reduceSub, Nat.reduceAdd, List.replicate_zero, List.replicate_succ, pm_WI0, pm_WI1, pm_WI2, pm_WI3, pm_WI4, pm_WI5, pm_WV, pm_WW, pm_WX]
        exact h0 _ _ (by rw [ec, gx_bd_none hv]) hr2
    ·
      by_cases y119 : gx_b (pm_i S0 6) n r = 119
      · have ec : gx_test (gx_b (pm_i S0 6) n) r = gx_bd (gx_num (gx_b (pm_i S0 6) n) 1 1 (r + 1)) (fun s q => gx_cmp (gx_b (pm_i S0 6) n) 2 s 2 q) := by
          unfold gx_test; rw [if_neg y116, if_neg y97, if_pos y119]
        have hlt : r < n := gx_lt gx_b_eof y119 (by omega)
        have hr2 := hr.mv hd0 (q := r + 1) (by omega)
        have hS2 := hr2.sh hS0
        have rB2 : gx_b (pm_i (pm_wI S 5 2 (nI (r + 1))) 6) n = gx_b (pm_i S0 6) n := by rw [rd_B, rB]
        rw [show tk (gx_b (pm_i S0 6) n r) = 2 from by rw [y119]; rfl]
        try simp only [pm_WV, pm_WW, true_and, and_true, true_or, or_true, and_self, reduceIte, Nat.reduceEqDiff, Nat.reduceLT, Nat.reduceLeDiff, Nat.reduceMul, false_and, and_false, reduceCtorEq, false_or, or_false, not_true_eq_false, not_false_eq_true, true_implies, false_implies, implies_true, lf_10, eq_self, Int32.reduceLT, Int32.reduceLE, Int32.reduceAdd, Int32.reduceSub, Int32.reduceDiv, Int32.reduceMul, pm_same, pm_i_wI, pm_l_wL, pm_l_wM, pm_oR_rf, pm_oQ_rf, sh_k5 hS, nI_1, pm_wI_wI, sw_e, LQ1, LQ2, pb_B51, pm_if, pm_QI_at, pm_QL_at, pm_QV_at, pm_QR_at, pm_QR_at0, pm_QR_at1, Nat.reduceSub, Nat.reduceAdd, List.replicate_zero, List.replicate_succ, pm_WI0, pm_WI1, pm_WI2, pm_WI3, pm_WI4, pm_WI5, pm_WV, pm_WW, pm_WX]
        refine pm_wb_ok pb_c51 4 14 0 _ _ _ _ _ ?_
        try simp only [pm_WI0, pm_WI1, pm_WI2, pm_WI3, pm_WI4, pm_WI5, pm_WV, pm_WW, pm_WX, pb_B51, pm_if, pm_QI_at, pm_QL_at, pm_QV_at, pm_QR_at, pm_QR_at0, pm_QR_at1, Nat.reduceSub, Nat.reduceAdd, List.replicate_zero, List.replicate_succ, true_and, and_true, true_or, or_true, and_self, reduceIte, Nat.reduceEqDiff, Nat.reduceLT, Nat.reduceLeDiff, Nat.reduceMul, false_and, and_false, reduceCtorEq, false_or, or_false, not_true_eq_false, not_false_eq_true, true_implies, false_implies, implies_true, lf_10, eq_self, Int32.reduceLT, Int32.reduceLE, Int32.reduceAdd, Int32.reduceSub, Int32.reduceDiv, Int32.reduceMul, pm_same, pm_i_wI, pm_l_wL, pm_l_wM, pm_oR_rf, pm_oQ_rf, sh_k5 hS, nI_1, pm_wI_wI, sw_e, LQ1, LQ2, hp5, hr5, hkD]
        refine ⟨by omega, rd_48_11 (n := n) hS2 hr2.2.2.1 (fun x s hv1 hv2 hv3 hv4 => ?_) (fun hv => ?_)⟩ <;> rw [rB2] at *
        · have hge : 0 ≤ nI s := nI_pos' (by omega)
          try simp only [pm_WV, pm_WW, true_and, and_true, true_or, or_true, and_self, reduceIte, Nat.reduceEqDiff, Nat.reduceLT, Nat.reduceLeDiff, Nat.reduceMul, false_and, and_false, reduceCtorEq, false_or, or_false, not_true_eq_false, not_false_eq_true, true_implies, false_implies, implies_true, lf_10, eq_self, Int32.reduceLT, Int32.reduceLE, Int32.reduceAdd, Int32.reduceSub, Int32.reduceDiv, Int32.reduceMul, pm_same, pm_i_wI, pm_l_wL, pm_l_wM, pm_oR_rf, pm_oQ_rf, sh_k5 hS, nI_1, pm_wI_wI, sw_e, LQ1, LQ2, pb_B51, pm_if, pm_QI_at, pm_QL_at, pm_QV_at, pm_QR_at, pm_QR_at0, pm_QR_at1, Nat.reduceSub, Nat.reduceAdd, List.replicate_zero, List.replicate_succ, pm_WI0, pm_WI1, pm_WI2, pm_WI3, pm_WI4, pm_WI5, pm_WV, pm_WW, pm_WX, hge]
          exact rd51_61_2 hd hS0 hd0 (hr.mv hd0 hv3) (by omega) (by omega) (fun x2 e S' hv hS' => h1 x2 e S' (by rw [ec, gx_bd_some hv1, hv]) hS') (fun x2 S' hv hS' => h0 x2 S' (by rw [ec, gx_bd_some hv1, hv]) hS')
        · try simp only [pm_WV, pm_WW, true_and, and_true, true_or, or_true, and_self, reduceIte, Nat.reduceEqDiff, Nat.reduceLT, Nat.reduceLeDiff, Nat.reduceMul, false_and, and_false, reduceCtorEq, false_or, or_false, not_true_eq_false, not_false_eq_true, true_implies, false_implies, implies_true, lf_10, eq_self, Int32.reduceLT, Int32.reduceLE, Int32.reduceAdd, Int32.reduceSub, Int32.reduceDiv, Int32.reduceMul, pm_same, pm_i_wI, pm_l_wL, pm_l_wM, pm_oR_rf, pm_oQ_rf, sh_k5 hS, nI_1, pm_wI_wI, sw_e, LQ1, LQ2, pb_B51, pm_if, pm_QI_at, pm_QL_at, pm_QV_at, pm_QR_at, pm_QR_at0, pm_QR_at1, Nat.reduceSub, Nat.reduceAdd, List.replicate_zero, List.replicate_succ, pm_WI0, pm_WI1, pm_WI2, pm_WI3, pm_WI4, pm_WI5, pm_WV, pm_WW, pm_WX]
          exact h0 _ _ (by rw [ec, gx_bd_none hv]) hr2
      ·
        by_cases y108 : gx_b (pm_i S0 6) n r = 108
        · have ec : gx_test (gx_b (pm_i S0 6) n) r = gx_cmp (gx_b (pm_i S0 6) n) 4 0 4 (r + 1) := by
            unfold gx_test; rw [if_neg y116, if_neg y97, if_neg y119, if_pos y108]
          have hlt : r < n := gx_lt gx_b_eof y108 (by omega)
          have hr2 := hr.mv hd0 (q := r + 1) (by omega)
          have hS2 := hr2.sh hS0
          have rB2 : gx_b (pm_i (pm_wI S 5 2 (nI (r + 1))) 6) n = gx_b (pm_i S0 6) n := by rw [rd_B, rB]
          rw [show tk (gx_b (pm_i S0 6) n r) = 4 from by rw [y108]; rfl]
          try simp only [pm_WV, pm_WW, true_and, and_true, true_or, or_true, and_self, reduceIte, Nat.reduceEqDiff, Nat.reduceLT, Nat.reduceLeDiff, Nat.reduceMul, false_and, and_false, reduceCtorEq, false_or, or_false, not_true_eq_false, not_false_eq_true, true_implies, false_implies, implies_true, lf_10, eq_self, Int32.reduceLT, Int32.reduceLE, Int32.reduceAdd, Int32.reduceSub, Int32.reduceDiv, Int32.reduceMul, pm_same, pm_i_wI, pm_l_wL, pm_l_wM, pm_oR_rf, pm_oQ_rf, sh_k5 hS, nI_1, pm_wI_wI, sw_e, LQ1, LQ2, pb_B51, pm_if, pm_QI_at, pm_QL_at, pm_QV_at, pm_QR_at, pm_QR_at0, pm_QR_at1, Nat.reduceSub, Nat.reduceAdd, List.replicate_zero, List.replicate_succ, pm_WI0, pm_WI1, pm_WI2, pm_WI3, pm_WI4, pm_WI5, pm_WV, pm_WW, pm_WX]
          refine pm_wb_ok pb_c51 5 14 0 _ _ _ _ _ ?_
          try simp only [pm_WI0, pm_WI1, pm_WI2, pm_WI3, pm_WI4, pm_WI5, pm_WV, pm_WW, pm_WX, pb_B51, pm_if, pm_QI_at, pm_QL_at, pm_QV_at, pm_QR_at, pm_QR_at0, pm_QR_at1, Nat.reduceSub, Nat.reduceAdd, List.replicate_zero, List.replicate_succ, true_and, and_true, true_or, or_true, and_self, reduceIte, Nat.reduceEqDiff, Nat.reduceLT, Nat.reduceLeDiff, Nat.reduceMul, false_and, and_false, reduceCtorEq, false_or, or_false, not_true_eq_false, not_false_eq_true, true_implies, false_implies, implies_true, lf_10, eq_self, Int32.reduceLT, Int32.reduceLE, Int32.reduceAdd, Int32.reduceSub, Int32.reduceDiv, Int32.reduceMul, pm_same, pm_i_wI, pm_l_wL, pm_l_wM, pm_oR_rf, pm_oQ_rf, sh_k5 hS, nI_1, pm_wI_wI, sw_e, LQ1, LQ2, hp5, hr5, hkD]
          exact rd51_61_4 (s := 0) hd hS0 hd0 hr2 (by omega) (by omega) (fun x e S' hv hS' => h1 x e S' (by rw [ec, hv]) hS') (fun x S' hv hS' => h0 x S' (by rw [ec, hv]) hS')
        ·
          by_cases y100 : gx_b (pm_i S0 6) n r = 100
          · have ec : gx_test (gx_b (pm_i S0 6) n) r = gx_cmp (gx_b (pm_i S0 6) n) 6 0 4 (r + 1) := by
              unfold gx_test; rw [if_neg y116, if_neg y97, if_neg y119, if_neg y108, if_pos y100]
            have hlt : r < n := gx_lt gx_b_eof y100 (by omega)
            have hr2 := hr.mv hd0 (q := r + 1) (by omega)
            have hS2 := hr2.sh hS0
            have rB2 : gx_b (pm_i (pm_wI S 5 2 (nI (r + 1))) 6) n = gx_b (pm_i S0 6) n := by rw [rd_B, rB]
            rw [show tk (gx_b (pm_i S0 6) n r) = 6 from by rw [y100]; rfl]
            try simp only [pm_WV, pm_WW, true_and, and_true, true_or, or_true, and_self, reduceIte, Nat.reduceEqDiff, Nat.reduceLT, Nat.reduceLeDiff, Nat.reduceMul, false_and, and_false, reduceCtorEq, false_or, or_false, not_true_eq_false, not_false_eq_true, true_implies, false_implies, implies_true, lf_10, eq_self, Int32.reduceLT, Int32.reduceLE, Int32.reduceAdd, Int32.reduceSub, Int32.reduceDiv, Int32.reduceMul, pm_same, pm_i_wI, pm_l_wL, pm_l_wM, pm_oR_rf, pm_oQ_rf, sh_k5 hS, nI_1, pm_wI_wI, sw_e, LQ1, LQ2, pb_B51, pm_if, pm_QI_at, pm_QL_at, pm_QV_at, pm_QR_at, pm_QR_at0, pm_QR_at1, Nat.reduceSub, Nat.reduceAdd, List.replicate_zero, List.replicate_succ, pm_WI0, pm_WI1, pm_WI2, pm_WI3, pm_WI4, pm_WI5, pm_WV, pm_WW, pm_WX]
            refine pm_wb_ok pb_c51 5 14 0 _ _ _ _ _ ?_
            try simp only [pm_WI0, pm_WI1, pm_WI2, pm_WI3, pm_WI4, pm_WI5, pm_WV, pm_WW, pm_WX, pb_B51, pm_if, pm_QI_at, pm_QL_at, pm_QV_at, pm_QR_at, pm_QR_at0, pm_QR_at1, Nat.reduceSub, Nat.reduceAdd, List.replicate_zero, List.replicate_succ, true_and, and_true, true_or, or_true, and_self, reduceIte, Nat.reduceEqDiff, Nat.reduceLT, Nat.reduceLeDiff, Nat.reduceMul, false_and, and_false, reduceCtorEq, false_or, or_false, not_true_eq_false, not_false_eq_true, true_implies, false_implies, implies_true, lf_10, eq_self, Int32.reduceLT, Int32.reduceLE, Int32.reduceAdd, Int32.reduceSub, Int32.reduceDiv, Int32.reduceMul, pm_same, pm_i_wI, pm_l_wL, pm_l_wM, pm_oR_rf, pm_oQ_rf, sh_k5 hS, nI_1, pm_wI_wI, sw_e, LQ1, LQ2, hp5, hr5, hkD]
            exact rd51_61_6 (s := 0) hd hS0 hd0 hr2 (by omega) (by omega) (fun x e S' hv hS' => h1 x e S' (by rw [ec, hv]) hS') (fun x S' hv hS' => h0 x S' (by rw [ec, hv]) hS')
          ·
            have ek : tk (gx_b (pm_i S0 6) n r) = -1 := by unfold tk; rw [if_neg y97, if_neg y100, if_neg y108, if_neg y116, if_neg y119]
            rw [ek]
            try simp only [pm_WV, pm_WW, true_and, and_true, true_or, or_true, and_self, reduceIte, Nat.reduceEqDiff, Nat.reduceLT, Nat.reduceLeDiff, Nat.reduceMul, false_and, and_false, reduceCtorEq, false_or, or_false, not_true_eq_false, not_false_eq_true, true_implies, false_implies, implies_true, lf_10, eq_self, Int32.reduceLT, Int32.reduceLE, Int32.reduceAdd, Int32.reduceSub, Int32.reduceDiv, Int32.reduceMul, pm_same, pm_i_wI, pm_l_wL, pm_l_wM, pm_oR_rf, pm_oQ_rf, sh_k5 hS, nI_1, pm_wI_wI, sw_e, LQ1, LQ2, pb_B51, pm_if, pm_QI_at, pm_QL_at, pm_QV_at, pm_QR_at, pm_QR_at0, pm_QR_at1, Nat.reduceSub, Nat.reduceAdd, List.replicate_zero, List.replicate_succ, pm_WI0, pm_WI1, pm_WI2, pm_WI3, pm_WI4, pm_WI5, pm_WV, pm_WW, pm_WX]
            exact h0 r S (by unfold gx_test; rw [if_neg y116, if_neg y97, if_neg y119, if_neg y108, if_neg y100]) hr
theorem LQ4 : (((97 : Int32) = 0) = False) ∧ (((98 : Int32) = 0) = False) ∧ (((99 : Int32) = 0) = False) ∧ (((100 : Int32) = 0) = False) ∧ (((101 : Int32) = 0) = False) ∧ (((102 : Int32) = 0) = False) ∧ (((103 : Int32) = 0) = False) ∧ (((104 : Int32) = 0) = False) ∧ (((105 : Int32) = 0) = False) ∧ (((106 : Int32) = 0) = False) ∧ (((107 : Int32) = 0) = False) ∧ (((108 : Int32) = 0) = False) ∧ (((109 : Int32) = 0) = False) ∧ (((110 : Int32) = 0) = False) ∧ (((111 : Int32) = 0) = False) ∧ (((112 : Int32) = 0) = False) ∧ (((113 : Int32) = 0) = False) ∧ (((114 : Int32) = 0) = False) ∧ (((115 : Int32) = 0) = False) ∧ (((116 : Int32) = 0) = False) ∧ (((117 : Int32) = 0) = False) ∧ (((118 : Int32) = 0) = False) ∧ (((119 : Int32) = 0) = False) ∧ (((120 : Int32) = 0) = False) ∧ (((121 : Int32) = 0) = False) ∧ (((122 : Int32) = 0) = False) := ⟨eq_false (by decide), eq_false (by decide), eq_false (by decide), eq_false (by decide), eq_false (by decide), eq_false (by decide), eq_false (by decide), eq_false (by decide), eq_false (by decide), eq_false (by decide), eq_false (by decide), eq_false (by decide), eq_false (by decide), eq_false (by decide), eq_false (by decide), eq_false (by decide), eq_false (by decide), eq_false (by decide), eq_false (by decide), eq_false (by decide), eq_false (by decide), eq_false (by decide), eq_false (by decide), eq_false (by decide), eq_false (by decide), eq_false (by decide)⟩
/-! THE MODEL'S READER: a base state with its place, its fault and its depth -/
def mst (S : pm_S) (a x o : Int32) : pm_S := pm_wI (pm_wI (pm_wI S 59 46 a) 59 48 x) 59 49 o
section MST
variable {S : pm_S} {a x o v : Int32}
theorem mst_w49 : pm_wI (mst S a x o) 59 49 v = mst S a x v := by unfold mst; rw [pm_wI_wI]
theorem mst_w48 : pm_wI (mst S a x o) 59 48 v = mst S a v o := by unfold mst; rw [pm_wI_comm (q := 59) (k := 48) (by decide), pm_wI_wI]
theorem mst_w46 : pm_wI (mst S a x o) 59 46 v = mst S v x o := by unfold mst; rw [pm_wI_comm (q := 59) (k := 46) (by decide), pm_wI_comm (S := pm_wI S 59 46 a) (q := 59) (k := 46) (by decide), pm_wI_wI]
theorem mst_46 : pm_i (mst S a x o) 59 46 = a := by unfold mst; simp [pm_i_wI]
theorem mst_48 : pm_i (mst S a x o) 59 48 = x := by unfold mst; simp [pm_i_wI]
theorem mst_49 : pm_i (mst S a x o) 59 49 = o := by unfold mst; simp [pm_i_wI]
theorem mst_k : pm_k (mst S a x o) = pm_k S := rfl
theorem mst_z : pm_z (mst S a x o) = pm_z S := rfl
theorem mst_r : pm_r (mst S a x o) = pm_r S := rfl
theorem mst_n : pm_n (mst S a x o) = pm_n S := rfl
theorem mst_l : pm_l (mst S a x o) = pm_l S := rfl
theorem mst_sh (h : Sh S) : Sh (mst S a x o) := h
theorem mst_row {p : Nat} (h : p ≠ 59) : pm_i (mst S a x o) p = pm_i S p := by unfold mst; rw [pm_i_wI_ne h, pm_i_wI_ne h, pm_i_wI_ne h]
theorem mst_f {j : Nat} (h : j ≠ 46 ∧ j ≠ 48 ∧ j ≠ 49) : pm_i (mst S a x o) 59 j = pm_i S 59 j := by
  unfold mst; rw [pm_i_wI, if_neg (by omega), pm_i_wI, if_neg (by omega), pm_i_wI, if_neg (by omega)]
theorem mst_sc : sc S (mst S a x o) := by
  unfold mst
  exact ((sc.rf.wI (by unfold sc_q; omega)).wI (by unfold sc_q; omega)).wI (by unfold sc_q; omega)
theorem mst_R60 : pm_i (mst S a x o) 60 = pm_i S 60 := mst_row (by decide)
theorem mst_R62 : pm_i (mst S a x o) 62 = pm_i S 62 := mst_row (by decide)
theorem mst_R63 : pm_i (mst S a x o) 63 = pm_i S 63 := mst_row (by decide)
theorem mst_R64 : pm_i (mst S a x o) 64 = pm_i S 64 := mst_row (by decide)
theorem mst_R65 : pm_i (mst S a x o) 65 = pm_i S 65 := mst_row (by decide)
theorem mst_R66 : pm_i (mst S a x o) 66 = pm_i S 66 := mst_row (by decide)
theorem mst_R67 : pm_i (mst S a x o) 67 = pm_i S 67 := mst_row (by decide)
theorem mst_R68 : pm_i (mst S a x o) 68 = pm_i S 68 := mst_row (by decide)
theorem mst_R69 : pm_i (mst S a x o) 69 = pm_i S 69 := mst_row (by decide)
theorem mst_R70 : pm_i (mst S a x o) 70 = pm_i S 70 := mst_row (by decide)
theorem mst_R71 : pm_i (mst S a x o) 71 = pm_i S 71 := mst_row (by decide)
theorem mst_R72 : pm_i (mst S a x o) 72 = pm_i S 72 := mst_row (by decide)
theorem mst_R73 : pm_i (mst S a x o) 73 = pm_i S 73 := mst_row (by decide)
theorem mst_R74 : pm_i (mst S a x o) 74 = pm_i S 74 := mst_row (by decide)
theorem mst_R75 : pm_i (mst S a x o) 75 = pm_i S 75 := mst_row (by decide)
theorem mst_R76 : pm_i (mst S a x o) 76 = pm_i S 76 := mst_row (by decide)
theorem mst_R77 : pm_i (mst S a x o) 77 = pm_i S 77 := mst_row (by decide)
theorem mst_R78 : pm_i (mst S a x o) 78 = pm_i S 78 := mst_row (by decide)
theorem mst_R79 : pm_i (mst S a x o) 79 = pm_i S 79 := mst_row (by decide)
theorem mst_R80 : pm_i (mst S a x o) 80 = pm_i S 80 := mst_row (by decide)
theorem mst_R81 : pm_i (mst S a x o) 81 = pm_i S 81 := mst_row (by decide)
theorem mst_R82 : pm_i (mst S a x o) 82 = pm_i S 82 := mst_row (by decide)
theorem mst_R83 : pm_i (mst S a x o) 83 = pm_i S 83 := mst_row (by decide)
theorem mst_R84 : pm_i (mst S a x o) 84 = pm_i S 84 := mst_row (by decide)
theorem mst_R85 : pm_i (mst S a x o) 85 = pm_i S 85 := mst_row (by decide)
theorem mst_R86 : pm_i (mst S a x o) 86 = pm_i S 86 := mst_row (by decide)
theorem mst_R87 : pm_i (mst S a x o) 87 = pm_i S 87 := mst_row (by decide)
theorem mst_R88 : pm_i (mst S a x o) 88 = pm_i S 88 := mst_row (by decide)
theorem mst_R95 : pm_i (mst S a x o) 95 = pm_i S 95 := mst_row (by decide)
theorem mst_R96 : pm_i (mst S a x o) 96 = pm_i S 96 := mst_row (by decide)
theorem mst_R97 : pm_i (mst S a x o) 97 = pm_i S 97 := mst_row (by decide)
theorem mst_F0 : pm_i (mst S a x o) 59 0 = pm_i S 59 0 := mst_f (by decide)
theorem mst_F2 : pm_i (mst S a x o) 59 2 = pm_i S 59 2 := mst_f (by decide)
theorem mst_F18 : pm_i (mst S a x o) 59 18 = pm_i S 59 18 := mst_f (by decide)
theorem mst_F24 : pm_i (mst S a x o) 59 24 = pm_i S 59 24 := mst_f (by decide)
theorem mst_F31 : pm_i (mst S a x o) 59 31 = pm_i S 59 31 := mst_f (by decide)
theorem mst_F26 : pm_i (mst S a x o) 59 26 = pm_i S 59 26 := mst_f (by decide)
theorem mst_F45 : pm_i (mst S a x o) 59 45 = pm_i S 59 45 := mst_f (by decide)
theorem mst_F47 : pm_i (mst S a x o) 59 47 = pm_i S 59 47 := mst_f (by decide)
theorem mst_F50 : pm_i (mst S a x o) 59 50 = pm_i S 59 50 := mst_f (by decide)
theorem mst_F51 : pm_i (mst S a x o) 59 51 = pm_i S 59 51 := mst_f (by decide)
theorem mst_F52 : pm_i (mst S a x o) 59 52 = pm_i S 59 52 := mst_f (by decide)
theorem mst_F53 : pm_i (mst S a x o) 59 53 = pm_i S 59 53 := mst_f (by decide)
theorem mst_F54 : pm_i (mst S a x o) 59 54 = pm_i S 59 54 := mst_f (by decide)
theorem mst_F55 : pm_i (mst S a x o) 59 55 = pm_i S 59 55 := mst_f (by decide)
theorem mst_F56 : pm_i (mst S a x o) 59 56 = pm_i S 59 56 := mst_f (by decide)
theorem mst_F57 : pm_i (mst S a x o) 59 57 = pm_i S 59 57 := mst_f (by decide)
theorem mst_F58 : pm_i (mst S a x o) 59 58 = pm_i S 59 58 := mst_f (by decide)
theorem mst_F59 : pm_i (mst S a x o) 59 59 = pm_i S 59 59 := mst_f (by decide)
theorem mst_F60 : pm_i (mst S a x o) 59 60 = pm_i S 59 60 := mst_f (by decide)
theorem mst_F61 : pm_i (mst S a x o) 59 61 = pm_i S 59 61 := mst_f (by decide)
theorem mst_F62 : pm_i (mst S a x o) 59 62 = pm_i S 59 62 := mst_f (by decide)
theorem mst_F63 : pm_i (mst S a x o) 59 63 = pm_i S 59 63 := mst_f (by decide)
end MST
/-- the text that is read: THE TEXT, or that of a LAW -/
def mrc (S : pm_S) (f : Nat → Int32) (n : Nat) : Prop := pm_i S 59 47 = nI n ∧ n ≤ 160 ∧ (∀ k, k < n → iv_in (f k) 0 255) ∧ ((pm_i S 59 45 = -1 ∧ f = pm_i S 80) ∨ ∃ l, l < 12 ∧ pm_i S 59 45 = nI (160 * l) ∧ f = iv_txt S l)
theorem mrc.at {S : pm_S} {f : Nat → Int32} {n k : Nat} (h : mrc S f n) (hk : k < n) : f k = nI (gx_b f n k) ∧ gx_b f n k < 256 := by
  have h5 := h.2.2.1 k hk
  have e : gx_b f n k = (f k).toNatClampNeg := by unfold gx_b; rw [if_pos hk]
  refine ⟨by rw [e]; exact iv_nn h5.1, ?_⟩
  rw [e]; have := iv_le (n := 255) 255 h5.2 (by decide); omega
theorem mrc.le {S : pm_S} {f : Nat → Int32} {n : Nat} (h : mrc S f n) (k : Nat) : gx_b f n k ≤ 256 := by
  by_cases hk : k < n
  · have := (h.at hk).2; omega
  · rw [gx_b_end (by omega)]; omega
def un {α : Type} (r : gx_R α) : gx_R Unit := (r.1, r.2.map (fun _ => ()))
def ms (S : pm_S) (o : Nat) (r : gx_R Unit) : pm_S := mst S (nI r.1) (match r.2 with
  | none => nI r.1
  | some _ => -1) (nI o)
def vo (r : gx_R Nat) : Int32 := match r.2 with
  | none => 0
  | some v => nI v
theorem un_some {α : Type} {p : Nat} {a : α} : un (p, some a) = (p, some ()) := rfl
theorem un_none {α : Type} {p : Nat} : un ((p, none) : gx_R α) = (p, none) := rfl
theorem un_un {r : gx_R Unit} : un r = r := by
  obtain ⟨p, _ | ⟨⟩⟩ := r <;> rfl
theorem gx_bd_un {α β : Type} {r : gx_R α} {f : Nat → gx_R β} : gx_bd (un r) (fun _ p => f p) = gx_bd r (fun _ p => f p) := by
  obtain ⟨p, _ | a⟩ := r <;> rfl
theorem mr_181 {G : pm_G} {d : Nat} {S : pm_S} {f : Nat → Int32} {n : Nat} {p : Nat} {x o : Int32} {q : Int32 → pm_S → Prop} (hS : Sh S) (hm : mrc S f n) (hp : p ≤ n) (h : q (sg (gx_b f n p)) (mst S (nI p) x o)) : pm_CI G d 181 [.ref 59] (mst S (nI p) x o) q := by
  obtain ⟨m1, m2, m3, m4⟩ := id hm
  refine pm_goI 181 40 pb_c181 (by decide) (Nat.le_of_ble_eq_true rfl) rfl ?_
  try simp only [show pm_mL 181 = 1 from rfl, pm_WI0, pm_WI1, pm_WI2, pm_WI3, pm_WI4, pm_WI5, pm_WV, pm_WW, pm_WX, pb_B181, pm_if, pm_QI_at, pm_QL_at, pm_QV_at, pm_QR_at, pm_QR_at0, pm_QR_at1, Nat.reduceSub, Nat.reduceAdd, List.replicate_zero, List.replicate_succ, true_and, and_true, true_or, or_true, and_self, reduceIte, Nat.reduceEqDiff, Nat.reduceLT, Nat.reduceLeDiff, Nat.reduceMul, false_and, and_false, reduceCtorEq, false_or, or_false, not_true_eq_false, not_false_eq_true, true_implies, false_implies, implies_true, lf_10, eq_self, Int32.reduceLT, Int32.reduceLE, Int32.reduceAdd, Int32.reduceSub, pm_same, pm_i_wI, pm_l_wL, pm_l_wM, pm_oR_rf, pm_oQ_rf, sh_k59 hS, sh_r59_25 hS, sh_k80 hS, sh_z80 hS, sh_r59_27 hS, sh_k81 hS, sh_z81 hS, mst_w46, mst_w48, mst_w49, mst_46, mst_48, mst_49, mst_k, mst_z, mst_r, mst_n, mst_l, mst_R62, mst_R64, mst_R65, mst_R66, mst_R67, mst_R78, mst_R80, mst_R81, mst_F18, mst_F24, mst_F45, mst_F47, mst_F50, mst_F51, nI_1, LQ1, LQ2, LQ4, m1]
  refine ⟨fun z => ?_, fun z => ?_⟩
  · have : n ≤ p := (nI_leI (by omega) (by omega)).mp z
    unfold sg at h
    rw [gx_b_end this, if_pos rfl] at h; exact h
  · have hpn : p < n := by
      by_cases h1 : p < n
      · exact h1
      · exact absurd (nI_le (by omega) (by omega)) z
    obtain ⟨e2, e3⟩ := hm.at hpn
    unfold sg at h
    rw [if_neg (by omega), ← e2] at h
    rcases m4 with ⟨b1, b2⟩ | ⟨l, b0, b1, b2⟩
    · rw [b1]
      refine ⟨fun y => absurd y (by decide), fun _ => ⟨vp_in_nI (by omega) (by decide), ?_⟩⟩
      rw [nI_clamp (by omega), ← b2]; exact h
    · rw [b1]
      refine ⟨fun _ => ?_, fun y => absurd (nI_pos' (by omega)) y⟩
      rw [nI_add, nI_clamp (by omega)]
      refine ⟨vp_in_nI (by omega) (by decide), ?_⟩
      rw [b2] at h; exact h
theorem mr_187l {G : pm_G} {d : Nat} {S : pm_S} {a o : Int32} {q : Int32 → pm_S → Prop} (hS : Sh S) (h : q 0 (mst S a a o)) : pm_CI G d 187 [.ref 59] (mst S a (-1) o) q := by
  refine pm_goI 187 40 pb_c187 (by decide) (Nat.le_of_ble_eq_true rfl) rfl ?_
  try simp only [show pm_mL 187 = 1 from rfl, pm_WI0, pm_WI1, pm_WI2, pm_WI3, pm_WI4, pm_WI5, pm_WV, pm_WW, pm_WX, pb_B187, pm_if, pm_QI_at, pm_QL_at, pm_QV_at, pm_QR_at, pm_QR_at0, pm_QR_at1, Nat.reduceSub, Nat.reduceAdd, List.replicate_zero, List.replicate_succ, true_and, and_true, true_or, or_true, and_self, reduceIte, Nat.reduceEqDiff, Nat.reduceLT, Nat.reduceLeDiff, Nat.reduceMul, false_and, and_false, reduceCtorEq, false_or, or_false, not_true_eq_false, not_false_eq_true, true_implies, false_implies, implies_true, lf_10, eq_self, Int32.reduceLT, Int32.reduceLE, Int32.reduceAdd, Int32.reduceSub, pm_same, pm_i_wI, pm_l_wL, pm_l_wM, pm_oR_rf, pm_oQ_rf, sh_k59 hS, sh_r59_25 hS, sh_k80 hS, sh_z80 hS, sh_r59_27 hS, sh_k81 hS, sh_z81 hS, mst_w46, mst_w48, mst_w49, mst_46, mst_48, mst_49, mst_k, mst_z, mst_r, mst_n, mst_l, mst_R62, mst_R64, mst_R65, mst_R66, mst_R67, mst_R78, mst_R80, mst_R81, mst_F18, mst_F24, mst_F45, mst_F47, mst_F50, mst_F51, nI_1, LQ1, LQ2, LQ4]
  exact h
theorem mr_187f {G : pm_G} {d : Nat} {S : pm_S} {a o : Int32} {p : Nat} {q : Int32 → pm_S → Prop} (hS : Sh S) (hp : p < 2 ^ 31) (h : q 0 (mst S a (nI p) o)) : pm_CI G d 187 [.ref 59] (mst S a (nI p) o) q := by
  have hx : 0 ≤ nI p := nI_pos' hp
  refine pm_goI 187 40 pb_c187 (by decide) (Nat.le_of_ble_eq_true rfl) rfl ?_
  try simp only [show pm_mL 187 = 1 from rfl, pm_WI0, pm_WI1, pm_WI2, pm_WI3, pm_WI4, pm_WI5, pm_WV, pm_WW, pm_WX, pb_B187, pm_if, pm_QI_at, pm_QL_at, pm_QV_at, pm_QR_at, pm_QR_at0, pm_QR_at1, Nat.reduceSub, Nat.reduceAdd, List.replicate_zero, List.replicate_succ, true_and, and_true, true_or, or_true, and_self, reduceIte, Nat.reduceEqDiff, Nat.reduceLT, Nat.reduceLeDiff, Nat.reduceMul, false_and, and_false, reduceCtorEq, false_or, or_false, not_true_eq_false, not_false_eq_true, true_implies, false_implies, implies_true, lf_10, eq_self, Int32.reduceLT, Int32.reduceLE, Int32.reduceAdd, Int32.reduceSub, pm_same, pm_i_wI, pm_l_wL, pm_l_wM, pm_oR_rf, pm_oQ_rf, sh_k59 hS, sh_r59_25 hS, sh_k80 hS, sh_z80 hS, sh_r59_27 hS, sh_k81 hS, sh_z81 hS, mst_w46, mst_w48, mst_w49, mst_46, mst_48, mst_49, mst_k, mst_z, mst_r, mst_n, mst_l, mst_R62, mst_R64, mst_R65, mst_R66, mst_R67, mst_R78, mst_R80, mst_R81, mst_F18, mst_F24, mst_F45, mst_F47, mst_F50, mst_F51, nI_1, LQ1, LQ2, LQ4, hx]
  exact h
theorem sg_nc {S : pm_S} {f : Nat → Int32} {n p c : Nat} (hm : mrc S f n) (hc : c < 256) : sg (gx_b f n p) = nI c ↔ gx_b f n p = c := sg_is (hm.le p) hc
theorem mr_186l {G : pm_G} {d : Nat} {S : pm_S} {f : Nat → Int32} {n : Nat} {p c : Nat} {o : Int32} {q : Int32 → pm_S → Prop} (hd : 2 ≤ d) (hS : Sh S) (hm : mrc S f n) (hp : p ≤ n) (hc : c < 256) (h1 : gx_b f n p = c → q 1 (mst S (nI (p + 1)) (-1) o)) (h0 : ¬ gx_b f n p = c → q 0 (mst S (nI p) (-1) o)) : pm_CI G d 186 [.ref 59, .int (nI c)] (mst S (nI p) (-1) o) q := by
  refine pm_goI 186 40 pb_c186 (by decide) (Nat.le_of_ble_eq_true rfl) rfl ?_
  try simp only [show pm_mL 186 = 2 from rfl, pm_WI0, pm_WI1, pm_WI2, pm_WI3, pm_WI4, pm_WI5, pm_WV, pm_WW, pm_WX, pb_B186, pm_if, pm_QI_at, pm_QL_at, pm_QV_at, pm_QR_at, pm_QR_at0, pm_QR_at1, Nat.reduceSub, Nat.reduceAdd, List.replicate_zero, List.replicate_succ, true_and, and_true, true_or, or_true, and_self, reduceIte, Nat.reduceEqDiff, Nat.reduceLT, Nat.reduceLeDiff, Nat.reduceMul, false_and, and_false, reduceCtorEq, false_or, or_false, not_true_eq_false, not_false_eq_true, true_implies, false_implies, implies_true, lf_10, eq_self, Int32.reduceLT, Int32.reduceLE, Int32.reduceAdd, Int32.reduceSub, pm_same, pm_i_wI, pm_l_wL, pm_l_wM, pm_oR_rf, pm_oQ_rf, sh_k59 hS, sh_r59_25 hS, sh_k80 hS, sh_z80 hS, sh_r59_27 hS, sh_k81 hS, sh_z81 hS, mst_w46, mst_w48, mst_w49, mst_46, mst_48, mst_49, mst_k, mst_z, mst_r, mst_n, mst_l, mst_R62, mst_R64, mst_R65, mst_R66, mst_R67, mst_R78, mst_R80, mst_R81, mst_F18, mst_F24, mst_F45, mst_F47, mst_F50, mst_F51, nI_1, LQ1, LQ2, LQ4]
  refine ⟨by omega, mr_181 hS hm hp ⟨fun z => ?_, fun z => ?_⟩⟩ <;> rw [sg_nc hm hc] at z
  · try simp only [pm_WV, pm_WW, true_and, and_true, true_or, or_true, and_self, reduceIte, Nat.reduceEqDiff, Nat.reduceLT, Nat.reduceLeDiff, Nat.reduceMul, false_and, and_false, reduceCtorEq, false_or, or_false, not_true_eq_false, not_false_eq_true, true_implies, false_implies, implies_true, lf_10, eq_self, Int32.reduceLT, Int32.reduceLE, Int32.reduceAdd, Int32.reduceSub, pm_same, pm_i_wI, pm_l_wL, pm_l_wM, pm_oR_rf, pm_oQ_rf, sh_k59 hS, sh_r59_25 hS, sh_k80 hS, sh_z80 hS, sh_r59_27 hS, sh_k81 hS, sh_z81 hS, mst_w46, mst_w48, mst_w49, mst_46, mst_48, mst_49, mst_k, mst_z, mst_r, mst_n, mst_l, mst_R62, mst_R64, mst_R65, mst_R66, mst_R67, mst_R78, mst_R80, mst_R81, mst_F18, mst_F24, mst_F45, mst_F47, mst_F50, mst_F51, nI_1, LQ1, LQ2, LQ4]
    exact h1 z
  · exact h0 z
theorem mr_186f {G : pm_G} {d : Nat} {S : pm_S} {p r : Nat} {c a o : Int32} {q : Int32 → pm_S → Prop} (hS : Sh S) (hp : r < 2 ^ 31) (h0 : q 0 (mst S a (nI r) o)) : pm_CI G d 186 [.ref 59, .int c] (mst S a (nI r) o) q := by
  have hx : 0 ≤ nI r := nI_pos' hp
  refine pm_goI 186 40 pb_c186 (by decide) (Nat.le_of_ble_eq_true rfl) rfl ?_
  try simp only [show pm_mL 186 = 2 from rfl, pm_WI0, pm_WI1, pm_WI2, pm_WI3, pm_WI4, pm_WI5, pm_WV, pm_WW, pm_WX, pb_B186, pm_if, pm_QI_at, pm_QL_at, pm_QV_at, pm_QR_at, pm_QR_at0, pm_QR_at1, Nat.reduceSub, Nat.reduceAdd, List.replicate_zero, List.replicate_succ, true_and, and_true, true_or, or_true, and_self, reduceIte, Nat.reduceEqDiff, Nat.reduceLT, Nat.reduceLeDiff, Nat.reduceMul, false_and, and_false, reduceCtorEq, false_or, or_false, not_true_eq_false, not_false_eq_true, true_implies, false_implies, implies_true, lf_10, eq_self, Int32.reduceLT, Int32.reduceLE, Int32.reduceAdd, Int32.reduceSub, pm_same, pm_i_wI, pm_l_wL, pm_l_wM, pm_oR_rf, pm_oQ_rf, sh_k59 hS, sh_r59_25 hS, sh_k80 hS, sh_z80 hS, sh_r59_27 hS, sh_k81 hS, sh_z81 hS, mst_w46, mst_w48, mst_w49, mst_46, mst_48, mst_49, mst_k, mst_z, mst_r, mst_n, mst_l, mst_R62, mst_R64, mst_R65, mst_R66, mst_R67, mst_R78, mst_R80, mst_R81, mst_F18, mst_F24, mst_F45, mst_F47, mst_F50, mst_F51, nI_1, LQ1, LQ2, LQ4, hx]
  exact h0
theorem mr_185 {G : pm_G} {d : Nat} {S : pm_S} {f : Nat → Int32} {n : Nat} {o : Nat} {r : gx_R Unit} {c : Nat} {q : pm_S → Prop} (hd : 3 ≤ d) (hS : Sh S) (hm : mrc S f n) (hr : r.1 ≤ n) (hc : c < 256) (h : q (ms S o (gx_bd r (fun _ p => gx_w (gx_b f n) [c] p)))) : pm_CV G d 185 [.ref 59, .int (nI c)] (ms S o r) q := by
  have hn := hm.2.1
  obtain ⟨p, _ | u⟩ := r
  · try simp only [ms, gx_bd] at *
    refine pm_goV 185 40 pb_c185 (by decide) (Nat.le_of_ble_eq_true rfl) rfl ?_
    try simp only [show pm_mL 185 = 3 from rfl, pm_WI0, pm_WI1, pm_WI2, pm_WI3, pm_WI4, pm_WI5, pm_WV, pm_WW, pm_WX, pb_B185, pm_if, pm_QI_at, pm_QL_at, pm_QV_at, pm_QR_at, pm_QR_at0, pm_QR_at1, Nat.reduceSub, Nat.reduceAdd, List.replicate_zero, List.replicate_succ, true_and, and_true, true_or, or_true, and_self, reduceIte, Nat.reduceEqDiff, Nat.reduceLT, Nat.reduceLeDiff, Nat.reduceMul, false_and, and_false, reduceCtorEq, false_or, or_false, not_true_eq_false, not_false_eq_true, true_implies, false_implies, implies_true, lf_10, eq_self, Int32.reduceLT, Int32.reduceLE, Int32.reduceAdd, Int32.reduceSub, pm_same, pm_i_wI, pm_l_wL, pm_l_wM, pm_oR_rf, pm_oQ_rf, sh_k59 hS, sh_r59_25 hS, sh_k80 hS, sh_z80 hS, sh_r59_27 hS, sh_k81 hS, sh_z81 hS, mst_w46, mst_w48, mst_w49, mst_46, mst_48, mst_49, mst_k, mst_z, mst_r, mst_n, mst_l, mst_R62, mst_R64, mst_R65, mst_R66, mst_R67, mst_R78, mst_R80, mst_R81, mst_F18, mst_F24, mst_F45, mst_F47, mst_F50, mst_F51, nI_1, LQ1, LQ2, LQ4]
    exact ⟨by omega, mr_186f hS (p := 0) (by omega) ⟨fun _ => ⟨by omega, sh_k59 hS, mr_187f hS (by omega) h⟩, fun z => absurd rfl z⟩⟩
  · try simp only [ms, gx_bd, gx_w] at *
    refine pm_goV 185 40 pb_c185 (by decide) (Nat.le_of_ble_eq_true rfl) rfl ?_
    try simp only [show pm_mL 185 = 3 from rfl, pm_WI0, pm_WI1, pm_WI2, pm_WI3, pm_WI4, pm_WI5, pm_WV, pm_WW, pm_WX, pb_B185, pm_if, pm_QI_at, pm_QL_at, pm_QV_at, pm_QR_at, pm_QR_at0, pm_QR_at1, Nat.reduceSub, Nat.reduceAdd, List.replicate_zero, List.replicate_succ, true_and, and_true, true_or, or_true, and_self, reduceIte, Nat.reduceEqDiff, Nat.reduceLT, Nat.reduceLeDiff, Nat.reduceMul, false_and, and_false, reduceCtorEq, false_or, or_false, not_true_eq_false, not_false_eq_true, true_implies, false_implies, implies_true, lf_10, eq_self, Int32.reduceLT, Int32.reduceLE, Int32.reduceAdd, Int32.reduceSub, pm_same, pm_i_wI, pm_l_wL, pm_l_wM, pm_oR_rf, pm_oQ_rf, sh_k59 hS, sh_r59_25 hS, sh_k80 hS, sh_z80 hS, sh_r59_27 hS, sh_k81 hS, sh_z81 hS, mst_w46, mst_w48, mst_w49, mst_46, mst_48, mst_49, mst_k, mst_z, mst_r, mst_n, mst_l, mst_R62, mst_R64, mst_R65, mst_R66, mst_R67, mst_R78, mst_R80, mst_R81, mst_F18, mst_F24, mst_F45, mst_F47, mst_F50, mst_F51, nI_1, LQ1, LQ2, LQ4]
    refine ⟨by omega, mr_186l (by omega) hS hm hr hc (fun y => ⟨fun z => absurd z (by decide), fun _ => ?_⟩) (fun y => ⟨fun _ => ⟨by omega, sh_k59 hS, mr_187l hS ?_⟩, fun z => absurd rfl z⟩)⟩
    · rw [if_pos y] at h; exact h
    · rw [if_neg y] at h; exact h
def dg (L : Int64) (i : Nat) : Int32 := ((L >>> ((nI (55 - 5 * i)).toInt64 &&& 63)) &&& 31).toInt32
def wk (L : Int64) (cs : List Nat) : Prop := ∀ i, i < 12 → (dg L i = 0 ∧ cs.getD i 0 = 0) ∨ (¬ dg L i = 0 ∧ 97 + dg L i - 1 = nI (cs.getD i 0) ∧ 0 < cs.getD i 0 ∧ cs.getD i 0 < 256)
def wz (cs : List Nat) : List Nat := cs.filter (fun c => decide (0 < c))
theorem gx_w_app {B : Nat → Nat} : ∀ (l m : List Nat) (p : Nat), gx_w B (l ++ m) p = gx_bd (gx_w B l p) (fun _ p => gx_w B m p)
  | [], m, p => rfl
  | c :: l, m, p => by
    show gx_w B (c :: (l ++ m)) p = _
    try simp only [gx_w]
    by_cases h : B p = c
    · rw [if_pos h, if_pos h]; exact gx_w_app l m (p + 1)
    · rw [if_neg h, if_neg h]; rfl
theorem gx_w_le {B : Nat → Nat} {n : Nat} (hB : ∀ i, n ≤ i → B i = 256) : ∀ (l : List Nat) (p : Nat), p ≤ n → (∀ c, c ∈ l → c < 256) → (gx_w B l p).1 ≤ n ∧ p ≤ (gx_w B l p).1
  | [], p, hp, _ => ⟨hp, Nat.le_refl _⟩
  | c :: l, p, hp, hc => by
    try simp only [gx_w]
    by_cases h : B p = c
    · rw [if_pos h]
      have := gx_lt hB h (hc c List.mem_cons_self)
      have h2 := gx_w_le hB l (p + 1) (by omega) (fun c hc2 => hc c (List.mem_cons_of_mem _ hc2))
      exact ⟨h2.1, by omega⟩
    · rw [if_neg h]; exact ⟨hp, Nat.le_refl _⟩
theorem gx_bd_le {α β : Type} {n : Nat} {r : gx_R α} {f : α → Nat → gx_R β} (hr : r.1 ≤ n) (hf : ∀ a p, p ≤ n → (f a p).1 ≤ n) : (gx_bd r f).1 ≤ n := by
  obtain ⟨p, _ | a⟩ := r
  · exact hr
  · exact hf a p hr
theorem wz_lt {L : Int64} {cs : List Nat} (hk : wk L cs) (hl : cs.length = 12) {m : List Nat} (hm : ∀ c, c ∈ m → c ∈ cs) : ∀ c, c ∈ wz m → c < 256 := fun c hc => by
  have h1 := hm c (List.mem_filter.mp hc).1
  obtain ⟨i, hi, e⟩ := List.mem_iff_getElem.mp h1
  have e2 : cs.getD i 0 = c := by rw [List.getD_eq_getElem?_getD, List.getElem?_eq_getElem hi]; exact e
  rcases hk i (by omega) with h2 | h2
  · omega
  · omega
theorem mr_184 {G : pm_G} {d : Nat} {S : pm_S} {f : Nat → Int32} {n : Nat} {o : Nat} {r : gx_R Unit} {L : Int64} {cs : List Nat} {q : pm_S → Prop} (hd : 4 ≤ d) (hS : Sh S) (hm : mrc S f n) (hr : r.1 ≤ n) (hl : cs.length = 12) (hk : wk L cs) (h : q (ms S o (gx_bd r (fun _ p => gx_w (gx_b f n) (wz cs) p)))) : pm_CV G d 184 [.ref 59, .long L] (ms S o r) q := by
  have hn := hm.2.1
  have key : ∀ k i r0, i + k = 12 → r0.1 ≤ n → q (ms S o (gx_bd r0 (fun _ p => gx_w (gx_b f n) (wz (cs.drop i)) p))) → ∀ X, pm_W G d 184 (pm_QV q) 3 [.ref 59, .long L, .float 0, .int (nI 55 - nI (5 * i)), X] [] (ms S o r0) 0 0 := by
    intro k
    induction k with
    | zero =>
      intro i r0 hi hr0 hq X
      have h12 : i = 12 := by omega
      subst h12
      rw [List.drop_of_length_le (by omega)] at hq
      have hneg : nI 55 - nI (5 * 12) < 0 := by decide
      have e0 : gx_bd r0 (fun _ p => gx_w (gx_b f n) (wz []) p) = r0 := by obtain ⟨p, _ | ⟨⟩⟩ := r0 <;> rfl
      rw [e0] at hq
      have kk : pm_k (ms S o r0) = pm_k S := rfl
      refine pm_wb_ok pb_c184 4 3 0 _ _ _ _ _ ?_
      try simp only [pm_WI0, pm_WI1, pm_WI2, pm_WI3, pm_WI4, pm_WI5, pm_WV, pm_WW, pm_WX, pb_B184, pm_if, pm_QI_at, pm_QL_at, pm_QV_at, pm_QR_at, pm_QR_at0, pm_QR_at1, Nat.reduceSub, Nat.reduceAdd, List.replicate_zero, List.replicate_succ, true_and, and_true, true_or, or_true, and_self, reduceIte, Nat.reduceEqDiff, Nat.reduceLT, Nat.reduceLeDiff, Nat.reduceMul, false_and, and_false, reduceCtorEq, false_or, or_false, not_true_eq_false, not_false_eq_true, true_implies, false_implies, implies_true, lf_10, eq_self, Int32.reduceLT, Int32.reduceLE, Int32.reduceAdd, Int32.reduceSub, pm_same, pm_i_wI, pm_l_wL, pm_l_wM, pm_oR_rf, pm_oQ_rf, sh_k59 hS, sh_r59_25 hS, sh_k80 hS, sh_z80 hS, sh_r59_27 hS, sh_k81 hS, sh_z81 hS, mst_w46, mst_w48, mst_w49, mst_46, mst_48, mst_49, mst_k, mst_z, mst_r, mst_n, mst_l, mst_R62, mst_R64, mst_R65, mst_R66, mst_R67, mst_R78, mst_R80, mst_R81, mst_F18, mst_F24, mst_F45, mst_F47, mst_F50, mst_F51, nI_1, LQ1, LQ2, LQ4, hneg, kk]
      exact hq
    | succ k ih =>
      intro i r0 hi hr0 hq X
      have hge : ¬ nI 55 - nI (5 * i) < 0 := by rw [pk_sub (by omega)]; exact nI_pos (by omega)
      have e55 : nI 55 - nI (5 * i) = nI (55 - 5 * i) := pk_sub (by omega)
      have nxt : nI 55 - nI (5 * i) + -5 = nI 55 - nI (5 * (i + 1)) := by
        rw [show (-5 : Int32) = -(nI 5) from rfl, show nI (5 * (i + 1)) = nI (5 * i) + nI 5 from by rw [nI_add]; rfl]
        lia
      have kk : pm_k (ms S o r0) = pm_k S := rfl
      have hdrop : cs.drop i = cs.getD i 0 :: cs.drop (i + 1) := by
        rw [List.drop_eq_getElem_cons (by omega), List.getD_eq_getElem?_getD, List.getElem?_eq_getElem (by omega)]; rfl
      have e1 : dg L i = ((L >>> ((nI 55 - nI (5 * i)).toInt64 &&& 63)) &&& 31).toInt32 := by unfold dg; rw [e55]
      refine pm_wb_ok pb_c184 2 3 0 _ _ _ _ _ ?_
      try simp only [pm_WI0, pm_WI1, pm_WI2, pm_WI3, pm_WI4, pm_WI5, pm_WV, pm_WW, pm_WX, pb_B184, pm_if, pm_QI_at, pm_QL_at, pm_QV_at, pm_QR_at, pm_QR_at0, pm_QR_at1, Nat.reduceSub, Nat.reduceAdd, List.replicate_zero, List.replicate_succ, true_and, and_true, true_or, or_true, and_self, reduceIte, Nat.reduceEqDiff, Nat.reduceLT, Nat.reduceLeDiff, Nat.reduceMul, false_and, and_false, reduceCtorEq, false_or, or_false, not_true_eq_false, not_false_eq_true, true_implies, false_implies, implies_true, lf_10, eq_self, Int32.reduceLT, Int32.reduceLE, Int32.reduceAdd, Int32.reduceSub, pm_same, pm_i_wI, pm_l_wL, pm_l_wM, pm_oR_rf, pm_oQ_rf, sh_k59 hS, sh_r59_25 hS, sh_k80 hS, sh_z80 hS, sh_r59_27 hS, sh_k81 hS, sh_z81 hS, mst_w46, mst_w48, mst_w49, mst_46, mst_48, mst_49, mst_k, mst_z, mst_r, mst_n, mst_l, mst_R62, mst_R64, mst_R65, mst_R66, mst_R67, mst_R78, mst_R80, mst_R81, mst_F18, mst_F24, mst_F45, mst_F47, mst_F50, mst_F51, nI_1, LQ1, LQ2, LQ4, hge, kk, ← e1]
      rcases hk i (by omega) with ⟨c1, c2⟩ | ⟨c1, c2, c3, c4⟩
      · refine ⟨fun _ => ?_, fun z => absurd c1 z⟩
        rw [c1, nxt]
        refine ih (i + 1) r0 (by omega) hr0 ?_ _
        rw [hdrop] at hq
        unfold wz at hq
        rw [List.filter_cons_of_neg (by rw [c2]; decide)] at hq
        exact hq
      · refine ⟨fun z => absurd z c1, fun _ => ⟨by omega, ?_⟩⟩
        rw [c2]
        refine mr_185 (by omega) hS hm hr0 c4 ?_
        try simp only [pm_WV, pm_WW, true_and, and_true, true_or, or_true, and_self, reduceIte, Nat.reduceEqDiff, Nat.reduceLT, Nat.reduceLeDiff, Nat.reduceMul, false_and, and_false, reduceCtorEq, false_or, or_false, not_true_eq_false, not_false_eq_true, true_implies, false_implies, implies_true, lf_10, eq_self, Int32.reduceLT, Int32.reduceLE, Int32.reduceAdd, Int32.reduceSub, pm_same, pm_i_wI, pm_l_wL, pm_l_wM, pm_oR_rf, pm_oQ_rf, sh_k59 hS, sh_r59_25 hS, sh_k80 hS, sh_z80 hS, sh_r59_27 hS, sh_k81 hS, sh_z81 hS, mst_w46, mst_w48, mst_w49, mst_46, mst_48, mst_49, mst_k, mst_z, mst_r, mst_n, mst_l, mst_R62, mst_R64, mst_R65, mst_R66, mst_R67, mst_R78, mst_R80, mst_R81, mst_F18, mst_F24, mst_F45, mst_F47, mst_F50, mst_F51, nI_1, LQ1, LQ2, LQ4, pb_B184, pm_if, pm_QI_at, pm_QL_at, pm_QV_at, pm_QR_at, pm_QR_at0, pm_QR_at1, Nat.reduceSub, Nat.reduceAdd, List.replicate_zero, List.replicate_succ, pm_WI0, pm_WI1, pm_WI2, pm_WI3, pm_WI4, pm_WI5, pm_WV, pm_WW, pm_WX, nxt, kk]
        refine ih (i + 1) _ (by omega) (gx_bd_le hr0 (fun _ p hp => (gx_w_le gx_b_eof [cs.getD i 0] p hp (fun c hc => by rw [List.mem_singleton.mp hc]; exact c4)).1)) ?_ _
        rw [hdrop] at hq
        unfold wz at hq
        rw [List.filter_cons_of_pos (by simpa using c3)] at hq
        rw [gx_bd_assoc]
        have : ∀ p, gx_w (gx_b f n) (cs.getD i 0 :: wz (cs.drop (i + 1))) p = gx_bd (gx_w (gx_b f n) [cs.getD i 0] p) (fun _ p => gx_w (gx_b f n) (wz (cs.drop (i + 1))) p) := fun p => gx_w_app [_] _ p
        unfold wz at this
        try simp only [this] at hq
        exact hq
  refine pm_goV 184 1 pb_c184 (by decide) (Nat.le_of_ble_eq_true rfl) rfl ?_
  try simp only [show pm_mL 184 = 5 from rfl, pm_WI0, pm_WI1, pm_WI2, pm_WI3, pm_WI4, pm_WI5, pm_WV, pm_WW, pm_WX, pb_B184, pm_if, pm_QI_at, pm_QL_at, pm_QV_at, pm_QR_at, pm_QR_at0, pm_QR_at1, Nat.reduceSub, Nat.reduceAdd, List.replicate_zero, List.replicate_succ, true_and, and_true, true_or, or_true, and_self, reduceIte, Nat.reduceEqDiff, Nat.reduceLT, Nat.reduceLeDiff, Nat.reduceMul, false_and, and_false, reduceCtorEq, false_or, or_false, not_true_eq_false, not_false_eq_true, true_implies, false_implies, implies_true, lf_10, eq_self, Int32.reduceLT, Int32.reduceLE, Int32.reduceAdd, Int32.reduceSub, pm_same, pm_i_wI, pm_l_wL, pm_l_wM, pm_oR_rf, pm_oQ_rf, sh_k59 hS, sh_r59_25 hS, sh_k80 hS, sh_z80 hS, sh_r59_27 hS, sh_k81 hS, sh_z81 hS, mst_w46, mst_w48, mst_w49, mst_46, mst_48, mst_49, mst_k, mst_z, mst_r, mst_n, mst_l, mst_R62, mst_R64, mst_R65, mst_R66, mst_R67, mst_R78, mst_R80, mst_R81, mst_F18, mst_F24, mst_F45, mst_F47, mst_F50, mst_F51, nI_1, LQ1, LQ2, LQ4]
  have := key 12 0 r (by omega) hr (by rw [List.drop_zero]; exact h) (.float 0)
  exact this
theorem mr_183_owe {G : pm_G} {d : Nat} {S : pm_S} {q : Int64 → pm_S → Prop} (h : q 16101 S) : pm_CL G d 183 [.int 111, .int 119, .int 101, .int 0, .int 0] S q := by
  refine pm_goL 183 20 pb_c183 (by decide) (Nat.le_of_ble_eq_true rfl) rfl ?_
  try simp only [show pm_mL 183 = 7 from rfl, pm_WI0, pm_WI1, pm_WI2, pm_WI3, pm_WI4, pm_WI5, pm_WV, pm_WW, pm_WX, pb_B183, pm_if, pm_QI_at, pm_QL_at, pm_QV_at, pm_QR_at, pm_QR_at0, pm_QR_at1, Nat.reduceSub, Nat.reduceAdd, List.replicate_zero, List.replicate_succ, true_and, and_true, true_or, or_true, and_self, reduceIte, Nat.reduceEqDiff, Nat.reduceLT, Nat.reduceLeDiff, Nat.reduceMul, false_and, and_false, reduceCtorEq, false_or, or_false, not_true_eq_false, not_false_eq_true, true_implies, false_implies, implies_true, lf_10, eq_self, Int32.reduceLT, Int32.reduceLE, Int32.reduceAdd, Int32.reduceSub, pm_same, pm_i_wI, pm_l_wL, pm_l_wM, pm_oR_rf, pm_oQ_rf, LQ1, LQ2, LQ4]
  refine cast (congrArg (fun v => q v S) ?_) h
  decide
theorem wk_owe : wk 16101 [0, 0, 0, 0, 0, 0, 0, 0, 0, 111, 119, 101] := by unfold wk; decide
theorem wz_owe : wz [0, 0, 0, 0, 0, 0, 0, 0, 0, 111, 119, 101] = [111, 119, 101] := by decide
theorem mr_183_unles {G : pm_G} {d : Nat} {S : pm_S} {q : Int64 → pm_S → Prop} (h : q 22491315 S) : pm_CL G d 183 [.int 117, .int 110, .int 108, .int 101, .int 115] S q := by
  refine pm_goL 183 20 pb_c183 (by decide) (Nat.le_of_ble_eq_true rfl) rfl ?_
  try simp only [show pm_mL 183 = 7 from rfl, pm_WI0, pm_WI1, pm_WI2, pm_WI3, pm_WI4, pm_WI5, pm_WV, pm_WW, pm_WX, pb_B183, pm_if, pm_QI_at, pm_QL_at, pm_QV_at, pm_QR_at, pm_QR_at0, pm_QR_at1, Nat.reduceSub, Nat.reduceAdd, List.replicate_zero, List.replicate_succ, true_and, and_true, true_or, or_true, and_self, reduceIte, Nat.reduceEqDiff, Nat.reduceLT, Nat.reduceLeDiff, Nat.reduceMul, false_and, and_false, reduceCtorEq, false_or, or_false, not_true_eq_false, not_false_eq_true, true_implies, false_implies, implies_true, lf_10, eq_self, Int32.reduceLT, Int32.reduceLE, Int32.reduceAdd, Int32.reduceSub, pm_same, pm_i_wI, pm_l_wL, pm_l_wM, pm_oR_rf, pm_oQ_rf, LQ1, LQ2, LQ4]
  refine cast (congrArg (fun v => q v S) ?_) h
  decide
theorem wk_unles : wk 22491315 [0, 0, 0, 0, 0, 0, 0, 117, 110, 108, 101, 115] := by unfold wk; decide
theorem wz_unles : wz [0, 0, 0, 0, 0, 0, 0, 117, 110, 108, 101, 115] = [117, 110, 108, 101, 115] := by decide
theorem mr_183_if {G : pm_G} {d : Nat} {S : pm_S} {q : Int64 → pm_S → Prop} (h : q 294 S) : pm_CL G d 183 [.int 105, .int 102, .int 0, .int 0, .int 0] S q := by
  refine pm_goL 183 20 pb_c183 (by decide) (Nat.le_of_ble_eq_true rfl) rfl ?_
  try simp only [show pm_mL 183 = 7 from rfl, pm_WI0, pm_WI1, pm_WI2, pm_WI3, pm_WI4, pm_WI5, pm_WV, pm_WW, pm_WX, pb_B183, pm_if, pm_QI_at, pm_QL_at, pm_QV_at, pm_QR_at, pm_QR_at0, pm_QR_at1, Nat.reduceSub, Nat.reduceAdd, List.replicate_zero, List.replicate_succ, true_and, and_true, true_or, or_true, and_self, reduceIte, Nat.reduceEqDiff, Nat.reduceLT, Nat.reduceLeDiff, Nat.reduceMul, false_and, and_false, reduceCtorEq, false_or, or_false, not_true_eq_false, not_false_eq_true, true_implies, false_implies, implies_true, lf_10, eq_self, Int32.reduceLT, Int32.reduceLE, Int32.reduceAdd, Int32.reduceSub, pm_same, pm_i_wI, pm_l_wL, pm_l_wM, pm_oR_rf, pm_oQ_rf, LQ1, LQ2, LQ4]
  refine cast (congrArg (fun v => q v S) ?_) h
  decide
theorem wk_if : wk 294 [0, 0, 0, 0, 0, 0, 0, 0, 0, 0, 105, 102] := by unfold wk; decide
theorem wz_if : wz [0, 0, 0, 0, 0, 0, 0, 0, 0, 0, 105, 102] = [105, 102] := by decide
theorem mr_183_limit {G : pm_G} {d : Nat} {S : pm_S} {q : Int64 → pm_S → Prop} (h : q 12891444 S) : pm_CL G d 183 [.int 108, .int 105, .int 109, .int 105, .int 116] S q := by
  refine pm_goL 183 20 pb_c183 (by decide) (Nat.le_of_ble_eq_true rfl) rfl ?_
  try simp only [show pm_mL 183 = 7 from rfl, pm_WI0, pm_WI1, pm_WI2, pm_WI3, pm_WI4, pm_WI5, pm_WV, pm_WW, pm_WX, pb_B183, pm_if, pm_QI_at, pm_QL_at, pm_QV_at, pm_QR_at, pm_QR_at0, pm_QR_at1, Nat.reduceSub, Nat.reduceAdd, List.replicate_zero, List.replicate_succ, true_and, and_true, true_or, or_true, and_self, reduceIte, Nat.reduceEqDiff, Nat.reduceLT, Nat.reduceLeDiff, Nat.reduceMul, false_and, and_false, reduceCtorEq, false_or, or_false, not_true_eq_false, not_false_eq_true, true_implies, false_implies, implies_true, lf_10, eq_self, Int32.reduceLT, Int32.reduceLE, Int32.reduceAdd, Int32.reduceSub, pm_same, pm_i_wI, pm_l_wL, pm_l_wM, pm_oR_rf, pm_oQ_rf, LQ1, LQ2, LQ4]
  refine cast (congrArg (fun v => q v S) ?_) h
  decide
theorem wk_limit : wk 12891444 [0, 0, 0, 0, 0, 0, 0, 108, 105, 109, 105, 116] := by unfold wk; decide
theorem wz_limit : wz [0, 0, 0, 0, 0, 0, 0, 108, 105, 109, 105, 116] = [108, 105, 109, 105, 116] := by decide
theorem mr_183_answe {G : pm_G} {d : Nat} {S : pm_S} {q : Int64 → pm_S → Prop} (h : q 1527525 S) : pm_CL G d 183 [.int 97, .int 110, .int 115, .int 119, .int 101] S q := by
  refine pm_goL 183 20 pb_c183 (by decide) (Nat.le_of_ble_eq_true rfl) rfl ?_
  try simp only [show pm_mL 183 = 7 from rfl, pm_WI0, pm_WI1, pm_WI2, pm_WI3, pm_WI4, pm_WI5, pm_WV, pm_WW, pm_WX, pb_B183, pm_if, pm_QI_at, pm_QL_at, pm_QV_at, pm_QR_at, pm_QR_at0, pm_QR_at1, Nat.reduceSub, Nat.reduceAdd, List.replicate_zero, List.replicate_succ, true_and, and_true, true_or, or_true, and_self, reduceIte, Nat.reduceEqDiff, Nat.reduceLT, Nat.reduceLeDiff, Nat.reduceMul, false_and, and_false, reduceCtorEq, false_or, or_false, not_true_eq_false, not_false_eq_true, true_implies, false_implies, implies_true, lf_10, eq_self, Int32.reduceLT, Int32.reduceLE, Int32.reduceAdd, Int32.reduceSub, pm_same, pm_i_wI, pm_l_wL, pm_l_wM, pm_oR_rf, pm_oQ_rf, LQ1, LQ2, LQ4]
  refine cast (congrArg (fun v => q v S) ?_) h
  decide
theorem wk_answe : wk 1527525 [0, 0, 0, 0, 0, 0, 0, 97, 110, 115, 119, 101] := by unfold wk; decide
theorem wz_answe : wz [0, 0, 0, 0, 0, 0, 0, 97, 110, 115, 119, 101] = [97, 110, 115, 119, 101] := by decide
theorem mr_183_r {G : pm_G} {d : Nat} {S : pm_S} {q : Int64 → pm_S → Prop} (h : q 18 S) : pm_CL G d 183 [.int 114, .int 0, .int 0, .int 0, .int 0] S q := by
  refine pm_goL 183 20 pb_c183 (by decide) (Nat.le_of_ble_eq_true rfl) rfl ?_
  try simp only [show pm_mL 183 = 7 from rfl, pm_WI0, pm_WI1, pm_WI2, pm_WI3, pm_WI4, pm_WI5, pm_WV, pm_WW, pm_WX, pb_B183, pm_if, pm_QI_at, pm_QL_at, pm_QV_at, pm_QR_at, pm_QR_at0, pm_QR_at1, Nat.reduceSub, Nat.reduceAdd, List.replicate_zero, List.replicate_succ, true_and, and_true, true_or, or_true, and_self, reduceIte, Nat.reduceEqDiff, Nat.reduceLT, Nat.reduceLeDiff, Nat.reduceMul, false_and, and_false, reduceCtorEq, false_or, or_false, not_true_eq_false, not_false_eq_true, true_implies, false_implies, implies_true, lf_10, eq_self, Int32.reduceLT, Int32.reduceLE, Int32.reduceAdd, Int32.reduceSub, pm_same, pm_i_wI, pm_l_wL, pm_l_wM, pm_oR_rf, pm_oQ_rf, LQ1, LQ2, LQ4]
  refine cast (congrArg (fun v => q v S) ?_) h
  decide
theorem wk_r : wk 18 [0, 0, 0, 0, 0, 0, 0, 0, 0, 0, 0, 114] := by unfold wk; decide
theorem wz_r : wz [0, 0, 0, 0, 0, 0, 0, 0, 0, 0, 0, 114] = [114] := by decide
theorem mr_183_cap {G : pm_G} {d : Nat} {S : pm_S} {q : Int64 → pm_S → Prop} (h : q 3120 S) : pm_CL G d 183 [.int 99, .int 97, .int 112, .int 0, .int 0] S q := by
  refine pm_goL 183 20 pb_c183 (by decide) (Nat.le_of_ble_eq_true rfl) rfl ?_
  try simp only [show pm_mL 183 = 7 from rfl, pm_WI0, pm_WI1, pm_WI2, pm_WI3, pm_WI4, pm_WI5, pm_WV, pm_WW, pm_WX, pb_B183, pm_if, pm_QI_at, pm_QL_at, pm_QV_at, pm_QR_at, pm_QR_at0, pm_QR_at1, Nat.reduceSub, Nat.reduceAdd, List.replicate_zero, List.replicate_succ, true_and, and_true, true_or, or_true, and_self, reduceIte, Nat.reduceEqDiff, Nat.reduceLT, Nat.reduceLeDiff, Nat.reduceMul, false_and, and_false, reduceCtorEq, false_or, or_false, not_true_eq_false, not_false_eq_true, true_implies, false_implies, implies_true, lf_10, eq_self, Int32.reduceLT, Int32.reduceLE, Int32.reduceAdd, Int32.reduceSub, pm_same, pm_i_wI, pm_l_wL, pm_l_wM, pm_oR_rf, pm_oQ_rf, LQ1, LQ2, LQ4]
  refine cast (congrArg (fun v => q v S) ?_) h
  decide
theorem wk_cap : wk 3120 [0, 0, 0, 0, 0, 0, 0, 0, 0, 99, 97, 112] := by unfold wk; decide
theorem wz_cap : wz [0, 0, 0, 0, 0, 0, 0, 0, 0, 99, 97, 112] = [99, 97, 112] := by decide
theorem mr_183_few {G : pm_G} {d : Nat} {S : pm_S} {q : Int64 → pm_S → Prop} (h : q 6327 S) : pm_CL G d 183 [.int 102, .int 101, .int 119, .int 0, .int 0] S q := by
  refine pm_goL 183 20 pb_c183 (by decide) (Nat.le_of_ble_eq_true rfl) rfl ?_
  try simp only [show pm_mL 183 = 7 from rfl, pm_WI0, pm_WI1, pm_WI2, pm_WI3, pm_WI4, pm_WI5, pm_WV, pm_WW, pm_WX, pb_B183, pm_if, pm_QI_at, pm_QL_at, pm_QV_at, pm_QR_at, pm_QR_at0, pm_QR_at1, Nat.reduceSub, Nat.reduceAdd, List.replicate_zero, List.replicate_succ, true_and, and_true, true_or, or_true, and_self, reduceIte, Nat.reduceEqDiff, Nat.reduceLT, Nat.reduceLeDiff, Nat.reduceMul, false_and, and_false, reduceCtorEq, false_or, or_false, not_true_eq_false, not_false_eq_true, true_implies, false_implies, implies_true, lf_10, eq_self, Int32.reduceLT, Int32.reduceLE, Int32.reduceAdd, Int32.reduceSub, pm_same, pm_i_wI, pm_l_wL, pm_l_wM, pm_oR_rf, pm_oQ_rf, LQ1, LQ2, LQ4]
  refine cast (congrArg (fun v => q v S) ?_) h
  decide
theorem wk_few : wk 6327 [0, 0, 0, 0, 0, 0, 0, 0, 0, 102, 101, 119] := by unfold wk; decide
theorem wz_few : wz [0, 0, 0, 0, 0, 0, 0, 0, 0, 102, 101, 119] = [102, 101, 119] := by decide
theorem mr_183_scale {G : pm_G} {d : Nat} {S : pm_S} {q : Int64 → pm_S → Prop} (h : q 20022661 S) : pm_CL G d 183 [.int 115, .int 99, .int 97, .int 108, .int 101] S q := by
  refine pm_goL 183 20 pb_c183 (by decide) (Nat.le_of_ble_eq_true rfl) rfl ?_
  try simp only [show pm_mL 183 = 7 from rfl, pm_WI0, pm_WI1, pm_WI2, pm_WI3, pm_WI4, pm_WI5, pm_WV, pm_WW, pm_WX, pb_B183, pm_if, pm_QI_at, pm_QL_at, pm_QV_at, pm_QR_at, pm_QR_at0, pm_QR_at1, Nat.reduceSub, Nat.reduceAdd, List.replicate_zero, List.replicate_succ, true_and, and_true, true_or, or_true, and_self, reduceIte, Nat.reduceEqDiff, Nat.reduceLT, Nat.reduceLeDiff, Nat.reduceMul, false_and, and_false, reduceCtorEq, false_or, or_false, not_true_eq_false, not_false_eq_true, true_implies, false_implies, implies_true, lf_10, eq_self, Int32.reduceLT, Int32.reduceLE, Int32.reduceAdd, Int32.reduceSub, pm_same, pm_i_wI, pm_l_wL, pm_l_wM, pm_oR_rf, pm_oQ_rf, LQ1, LQ2, LQ4]
  refine cast (congrArg (fun v => q v S) ?_) h
  decide
theorem wk_scale : wk 20022661 [0, 0, 0, 0, 0, 0, 0, 115, 99, 97, 108, 101] := by unfold wk; decide
theorem wz_scale : wz [0, 0, 0, 0, 0, 0, 0, 115, 99, 97, 108, 101] = [115, 99, 97, 108, 101] := by decide
theorem mr_183_ate {G : pm_G} {d : Nat} {S : pm_S} {q : Int64 → pm_S → Prop} (h : q 1669 S) : pm_CL G d 183 [.int 97, .int 116, .int 101, .int 0, .int 0] S q := by
  refine pm_goL 183 20 pb_c183 (by decide) (Nat.le_of_ble_eq_true rfl) rfl ?_
  try simp only [show pm_mL 183 = 7 from rfl, pm_WI0, pm_WI1, pm_WI2, pm_WI3, pm_WI4, pm_WI5, pm_WV, pm_WW, pm_WX, pb_B183, pm_if, pm_QI_at, pm_QL_at, pm_QV_at, pm_QR_at, pm_QR_at0, pm_QR_at1, Nat.reduceSub, Nat.reduceAdd, List.replicate_zero, List.replicate_succ, true_and, and_true, true_or, or_true, and_self, reduceIte, Nat.reduceEqDiff, Nat.reduceLT, Nat.reduceLeDiff, Nat.reduceMul, false_and, and_false, reduceCtorEq, false_or, or_false, not_true_eq_false, not_false_eq_true, true_implies, false_implies, implies_true, lf_10, eq_self, Int32.reduceLT, Int32.reduceLE, Int32.reduceAdd, Int32.reduceSub, pm_same, pm_i_wI, pm_l_wL, pm_l_wM, pm_oR_rf, pm_oQ_rf, LQ1, LQ2, LQ4]
  refine cast (congrArg (fun v => q v S) ?_) h
  decide
theorem wk_ate : wk 1669 [0, 0, 0, 0, 0, 0, 0, 0, 0, 97, 116, 101] := by unfold wk; decide
theorem wz_ate : wz [0, 0, 0, 0, 0, 0, 0, 0, 0, 97, 116, 101] = [97, 116, 101] := by decide
theorem mr_183_each {G : pm_G} {d : Nat} {S : pm_S} {q : Int64 → pm_S → Prop} (h : q 164968 S) : pm_CL G d 183 [.int 101, .int 97, .int 99, .int 104, .int 0] S q := by
  refine pm_goL 183 20 pb_c183 (by decide) (Nat.le_of_ble_eq_true rfl) rfl ?_
  try simp only [show pm_mL 183 = 7 from rfl, pm_WI0, pm_WI1, pm_WI2, pm_WI3, pm_WI4, pm_WI5, pm_WV, pm_WW, pm_WX, pb_B183, pm_if, pm_QI_at, pm_QL_at, pm_QV_at, pm_QR_at, pm_QR_at0, pm_QR_at1, Nat.reduceSub, Nat.reduceAdd, List.replicate_zero, List.replicate_succ, true_and, and_true, true_or, or_true, and_self, reduceIte, Nat.reduceEqDiff, Nat.reduceLT, Nat.reduceLeDiff, Nat.reduceMul, false_and, and_false, reduceCtorEq, false_or, or_false, not_true_eq_false, not_false_eq_true, true_implies, false_implies, implies_true, lf_10, eq_self, Int32.reduceLT, Int32.reduceLE, Int32.reduceAdd, Int32.reduceSub, pm_same, pm_i_wI, pm_l_wL, pm_l_wM, pm_oR_rf, pm_oQ_rf, LQ1, LQ2, LQ4]
  refine cast (congrArg (fun v => q v S) ?_) h
  decide
theorem wk_each : wk 164968 [0, 0, 0, 0, 0, 0, 0, 0, 101, 97, 99, 104] := by unfold wk; decide
theorem wz_each : wz [0, 0, 0, 0, 0, 0, 0, 0, 101, 97, 99, 104] = [101, 97, 99, 104] := by decide
theorem sg_dig {b : Nat} (hb : b ≤ 256) : (sg b < 48 ↔ ¬ 48 ≤ b ∨ b = 256) ∧ (57 < sg b ↔ 57 < b ∧ ¬ b = 256) ∧ (sg b < 49 ↔ ¬ 49 ≤ b ∨ b = 256) ∧ (sg b ≤ 57 ↔ b ≤ 57 ∨ b = 256) := by
  unfold sg
  by_cases h : b = 256
  · rw [if_pos h]; subst h; decide
  · rw [if_neg h, show (48 : Int32) = nI 48 from rfl, show (57 : Int32) = nI 57 from rfl, show (49 : Int32) = nI 49 from rfl, nI_ltI (by omega) (by omega), nI_ltI (by omega) (by omega), nI_ltI (by omega) (by omega), nI_leI (by omega) (by omega)]
    omega
theorem mr_190 {G : pm_G} {d : Nat} {S : pm_S} {f : Nat → Int32} {n : Nat} {p : Nat} {x o : Int32} {q : Int32 → pm_S → Prop} (hd : 2 ≤ d) (hS : Sh S) (hm : mrc S f n) (hp : p ≤ n) (h1 : 48 ≤ gx_b f n p ∧ gx_b f n p ≤ 57 → q 1 (mst S (nI p) x o)) (h0 : ¬ (48 ≤ gx_b f n p ∧ gx_b f n p ≤ 57) → q 0 (mst S (nI p) x o)) : pm_CI G d 190 [.ref 59] (mst S (nI p) x o) q := by
  obtain ⟨s1, s2, s3, s4⟩ := sg_dig (hm.le p)
  refine pm_goI 190 40 pb_c190 (by decide) (Nat.le_of_ble_eq_true rfl) rfl ?_
  try simp only [show pm_mL 190 = 1 from rfl, pm_WI0, pm_WI1, pm_WI2, pm_WI3, pm_WI4, pm_WI5, pm_WV, pm_WW, pm_WX, pb_B190, pm_if, pm_QI_at, pm_QL_at, pm_QV_at, pm_QR_at, pm_QR_at0, pm_QR_at1, Nat.reduceSub, Nat.reduceAdd, List.replicate_zero, List.replicate_succ, true_and, and_true, true_or, or_true, and_self, reduceIte, Nat.reduceEqDiff, Nat.reduceLT, Nat.reduceLeDiff, Nat.reduceMul, false_and, and_false, reduceCtorEq, false_or, or_false, not_true_eq_false, not_false_eq_true, true_implies, false_implies, implies_true, lf_10, eq_self, Int32.reduceLT, Int32.reduceLE, Int32.reduceAdd, Int32.reduceSub, pm_same, pm_i_wI, pm_l_wL, pm_l_wM, pm_oR_rf, pm_oQ_rf, sh_k59 hS, sh_r59_25 hS, sh_k80 hS, sh_z80 hS, sh_r59_27 hS, sh_k81 hS, sh_z81 hS, mst_w46, mst_w48, mst_w49, mst_46, mst_48, mst_49, mst_k, mst_z, mst_r, mst_n, mst_l, mst_R62, mst_R64, mst_R65, mst_R66, mst_R67, mst_R78, mst_R80, mst_R81, mst_F18, mst_F24, mst_F45, mst_F47, mst_F50, mst_F51, nI_1, LQ1, LQ2, LQ4]
  refine ⟨by omega, mr_181 hS hm hp ⟨fun z => h0 (by rw [s1] at z; omega), fun z => ⟨by omega, sh_k59 hS, mr_181 hS hm hp ⟨fun y => h0 (by rw [s2] at y; omega), fun y => h1 (by rw [s1] at z; rw [s2] at y; omega)⟩⟩⟩⟩
theorem mr_188 {G : pm_G} {d : Nat} {S : pm_S} {f : Nat → Int32} {n : Nat} {o : Nat} {r : gx_R Unit} {q : Int32 → pm_S → Prop} (hd : 3 ≤ d) (hS : Sh S) (hm : mrc S f n) (hr : r.1 ≤ n) (h : q (vo (gx_bd r (fun _ p => gx_num (gx_b f n) 1 1 p))) (ms S o (un (gx_bd r (fun _ p => gx_num (gx_b f n) 1 1 p))))) : pm_CI G d 188 [.ref 59] (ms S o r) q := by
  have hn := hm.2.1
  obtain ⟨m1, m2, m3, m4⟩ := id hm
  obtain ⟨p, _ | u⟩ := r
  · try simp only [ms, gx_bd, un_none, vo] at *
    have hx : 0 ≤ nI p := nI_pos' (by omega)
    refine pm_goI 188 40 pb_c188 (by decide) (Nat.le_of_ble_eq_true rfl) rfl ?_
    try simp only [show pm_mL 188 = 1 from rfl, pm_WI0, pm_WI1, pm_WI2, pm_WI3, pm_WI4, pm_WI5, pm_WV, pm_WW, pm_WX, pb_B188, pm_if, pm_QI_at, pm_QL_at, pm_QV_at, pm_QR_at, pm_QR_at0, pm_QR_at1, Nat.reduceSub, Nat.reduceAdd, List.replicate_zero, List.replicate_succ, true_and, and_true, true_or, or_true, and_self, reduceIte, Nat.reduceEqDiff, Nat.reduceLT, Nat.reduceLeDiff, Nat.reduceMul, false_and, and_false, reduceCtorEq, false_or, or_false, not_true_eq_false, not_false_eq_true, true_implies, false_implies, implies_true, lf_10, eq_self, Int32.reduceLT, Int32.reduceLE, Int32.reduceAdd, Int32.reduceSub, pm_same, pm_i_wI, pm_l_wL, pm_l_wM, pm_oR_rf, pm_oQ_rf, sh_k59 hS, sh_r59_25 hS, sh_k80 hS, sh_z80 hS, sh_r59_27 hS, sh_k81 hS, sh_z81 hS, mst_w46, mst_w48, mst_w49, mst_46, mst_48, mst_49, mst_k, mst_z, mst_r, mst_n, mst_l, mst_R62, mst_R64, mst_R65, mst_R66, mst_R67, mst_R78, mst_R80, mst_R81, mst_F18, mst_F24, mst_F45, mst_F47, mst_F50, mst_F51, nI_1, LQ1, LQ2, LQ4, hx]
    exact ⟨by omega, mr_187f hS (by omega) h⟩
  · simp only at hr
    have hp : p ≤ n := hr
    obtain ⟨s1, s2, s3, s4⟩ := sg_dig (hm.le p)
    have no : ¬ (49 ≤ gx_b f n p ∧ gx_b f n p ≤ 57) → q 0 (mst S (nI p) (nI p) (nI o)) := fun z => by
      try simp only [gx_bd, gx_num_none (B := gx_b f n) (least := 1) (most := 1) (p := p) (by omega)] at h
      exact h
    have yes : 49 ≤ gx_b f n p ∧ gx_b f n p ≤ 57 → q (nI (gx_b f n p - 48)) (mst S (nI (p + 1)) (-1) (nI o)) := fun z => by
      try simp only [gx_bd, gx_num_some (B := gx_b f n) (least := 1) (most := 1) (p := p) (by omega)] at h
      exact h
    try simp only [ms]
    refine pm_goI 188 40 pb_c188 (by decide) (Nat.le_of_ble_eq_true rfl) rfl ?_
    try simp only [show pm_mL 188 = 1 from rfl, pm_WI0, pm_WI1, pm_WI2, pm_WI3, pm_WI4, pm_WI5, pm_WV, pm_WW, pm_WX, pb_B188, pm_if, pm_QI_at, pm_QL_at, pm_QV_at, pm_QR_at, pm_QR_at0, pm_QR_at1, Nat.reduceSub, Nat.reduceAdd, List.replicate_zero, List.replicate_succ, true_and, and_true, true_or, or_true, and_self, reduceIte, Nat.reduceEqDiff, Nat.reduceLT, Nat.reduceLeDiff, Nat.reduceMul, false_and, and_false, reduceCtorEq, false_or, or_false, not_true_eq_false, not_false_eq_true, true_implies, false_implies, implies_true, lf_10, eq_self, Int32.reduceLT, Int32.reduceLE, Int32.reduceAdd, Int32.reduceSub, pm_same, pm_i_wI, pm_l_wL, pm_l_wM, pm_oR_rf, pm_oQ_rf, sh_k59 hS, sh_r59_25 hS, sh_k80 hS, sh_z80 hS, sh_r59_27 hS, sh_k81 hS, sh_z81 hS, mst_w46, mst_w48, mst_w49, mst_46, mst_48, mst_49, mst_k, mst_z, mst_r, mst_n, mst_l, mst_R62, mst_R64, mst_R65, mst_R66, mst_R67, mst_R78, mst_R80, mst_R81, mst_F18, mst_F24, mst_F45, mst_F47, mst_F50, mst_F51, nI_1, LQ1, LQ2, LQ4]
    refine ⟨by omega, mr_181 hS hm hp ⟨fun z => ⟨by omega, sh_k59 hS, mr_187l hS (no (by rw [s3] at z; omega))⟩, fun z => ⟨by omega, sh_k59 hS, mr_181 hS hm hp ⟨fun y => ?_, fun y => ⟨by omega, sh_k59 hS, mr_187l hS (no (by rw [s4] at y; omega))⟩⟩⟩⟩⟩
    have hb : 49 ≤ gx_b f n p ∧ gx_b f n p ≤ 57 := by rw [s3] at z; rw [s4] at y; omega
    have hpn : p < n := gx_lt (B := gx_b f n) gx_b_eof rfl (by omega)
    obtain ⟨e2, e3⟩ := hm.at hpn
    have hy := yes hb
    have e48 : nI (gx_b f n p) - 48 = nI (gx_b f n p - 48) := (rd_dig e3).2.2.1 (by omega)
    try simp only [pm_WV, pm_WW, true_and, and_true, true_or, or_true, and_self, reduceIte, Nat.reduceEqDiff, Nat.reduceLT, Nat.reduceLeDiff, Nat.reduceMul, false_and, and_false, reduceCtorEq, false_or, or_false, not_true_eq_false, not_false_eq_true, true_implies, false_implies, implies_true, lf_10, eq_self, Int32.reduceLT, Int32.reduceLE, Int32.reduceAdd, Int32.reduceSub, pm_same, pm_i_wI, pm_l_wL, pm_l_wM, pm_oR_rf, pm_oQ_rf, sh_k59 hS, sh_r59_25 hS, sh_k80 hS, sh_z80 hS, sh_r59_27 hS, sh_k81 hS, sh_z81 hS, mst_w46, mst_w48, mst_w49, mst_46, mst_48, mst_49, mst_k, mst_z, mst_r, mst_n, mst_l, mst_R62, mst_R64, mst_R65, mst_R66, mst_R67, mst_R78, mst_R80, mst_R81, mst_F18, mst_F24, mst_F45, mst_F47, mst_F50, mst_F51, nI_1, LQ1, LQ2, LQ4]
    rcases m4 with ⟨b1, b2⟩ | ⟨l, b0, b1, b2⟩
    · rw [b1]
      refine ⟨fun y => absurd y (by decide), fun _ => ?_⟩
      rw [nI_pred]
      refine ⟨vp_in_nI (by omega) (by decide), ?_⟩
      rw [nI_clamp (by omega), ← b2, e2, e48]; exact hy
    · rw [b1]
      refine ⟨fun _ => ?_, fun y => absurd (nI_pos' (by omega)) y⟩
      rw [nI_add, show 160 * l + (p + 1) = (160 * l + p) + 1 from by omega, nI_pred, nI_clamp (by omega)]
      refine ⟨vp_in_nI (by omega) (by decide), ?_⟩
      have e2' : pm_i S 81 (160 * l + p) = nI (gx_b f n p) := by rw [← e2, b2]; rfl
      rw [e2', e48]; exact hy
theorem mr_189 {G : pm_G} {d : Nat} {S : pm_S} {f : Nat → Int32} {n : Nat} {o : Nat} {r : gx_R Unit} {most : Nat} {q : Int32 → pm_S → Prop} (hd : 4 ≤ d) (hS : Sh S) (hm : mrc S f n) (hr : r.1 ≤ n) (hmo : 1 ≤ most) (hmo4 : most ≤ 4) (h : q (vo (gx_bd r (fun _ p => gx_num (gx_b f n) 0 most p))) (ms S o (un (gx_bd r (fun _ p => gx_num (gx_b f n) 0 most p))))) : pm_CI G d 189 [.ref 59, .int (nI most)] (ms S o r) q := by
  have hn := hm.2.1
  obtain ⟨p, _ | u⟩ := r
  · try simp only [ms, gx_bd, un_none, vo] at *
    have hx : 0 ≤ nI p := nI_pos' (by omega)
    refine pm_goI 189 40 pb_c189 (by decide) (Nat.le_of_ble_eq_true rfl) rfl ?_
    try simp only [show pm_mL 189 = 4 from rfl, pm_WI0, pm_WI1, pm_WI2, pm_WI3, pm_WI4, pm_WI5, pm_WV, pm_WW, pm_WX, pb_B189, pm_if, pm_QI_at, pm_QL_at, pm_QV_at, pm_QR_at, pm_QR_at0, pm_QR_at1, Nat.reduceSub, Nat.reduceAdd, List.replicate_zero, List.replicate_succ, true_and, and_true, true_or, or_true, and_self, reduceIte, Nat.reduceEqDiff, Nat.reduceLT, Nat.reduceLeDiff, Nat.reduceMul, false_and, and_false, reduceCtorEq, false_or, or_false, not_true_eq_false, not_false_eq_true, true_implies, false_implies, implies_true, lf_10, eq_self, Int32.reduceLT, Int32.reduceLE, Int32.reduceAdd, Int32.reduceSub, pm_same, pm_i_wI, pm_l_wL, pm_l_wM, pm_oR_rf, pm_oQ_rf, sh_k59 hS, sh_r59_25 hS, sh_k80 hS, sh_z80 hS, sh_r59_27 hS, sh_k81 hS, sh_z81 hS, mst_w46, mst_w48, mst_w49, mst_46, mst_48, mst_49, mst_k, mst_z, mst_r, mst_n, mst_l, mst_R62, mst_R64, mst_R65, mst_R66, mst_R67, mst_R78, mst_R80, mst_R81, mst_F18, mst_F24, mst_F45, mst_F47, mst_F50, mst_F51, nI_1, LQ1, LQ2, LQ4, hx]
    exact ⟨by omega, mr_187f hS (by omega) h⟩
  · simp only at hr
    have hp : p ≤ n := hr
    have no : ¬ (48 ≤ gx_b f n p ∧ gx_b f n p ≤ 57) → q 0 (mst S (nI p) (nI p) (nI o)) := fun z => by
      try simp only [gx_bd, gx_num_none (B := gx_b f n) (least := 0) (most := most) (p := p) (by omega)] at h
      exact h
    have yes : 48 ≤ gx_b f n p ∧ gx_b f n p ≤ 57 → q (nI (gx_nm (gx_b f n) most p 0).2) (mst S (nI (gx_nm (gx_b f n) most p 0).1) (-1) (nI o)) := fun z => by
      try simp only [gx_bd, gx_num_some (B := gx_b f n) (least := 0) (most := most) (p := p) (by omega)] at h
      obtain ⟨k, rfl⟩ : ∃ k, most = k + 1 := ⟨most - 1, by omega⟩
      rw [gx_nm_yes z, Nat.mul_zero, Nat.zero_add]
      try simp only [Nat.add_sub_cancel] at h
      exact h
    have key : ∀ k j p' v, j + k = most → p' ≤ n → v < 10 ^ j → (q (nI (gx_nm (gx_b f n) k p' v).2) (mst S (nI (gx_nm (gx_b f n) k p' v).1) (-1) (nI o))) → pm_W G d 189 (pm_QI q) 23 [.ref 59, .int (nI most), .int (nI v), .int (nI j)] [] (mst S (nI p') (-1) (nI o)) 0 0 := by
      intro k
      induction k with
      | zero =>
        intro j p' v hj hp' hv hq
        have hjm : j = most := by omega
        subst hjm
        refine pm_wb_ok pb_c189 3 23 0 _ _ _ _ _ ?_
        try simp only [pm_WI0, pm_WI1, pm_WI2, pm_WI3, pm_WI4, pm_WI5, pm_WV, pm_WW, pm_WX, pb_B189, pm_if, pm_QI_at, pm_QL_at, pm_QV_at, pm_QR_at, pm_QR_at0, pm_QR_at1, Nat.reduceSub, Nat.reduceAdd, List.replicate_zero, List.replicate_succ, true_and, and_true, true_or, or_true, and_self, reduceIte, Nat.reduceEqDiff, Nat.reduceLT, Nat.reduceLeDiff, Nat.reduceMul, false_and, and_false, reduceCtorEq, false_or, or_false, not_true_eq_false, not_false_eq_true, true_implies, false_implies, implies_true, lf_10, eq_self, Int32.reduceLT, Int32.reduceLE, Int32.reduceAdd, Int32.reduceSub, pm_same, pm_i_wI, pm_l_wL, pm_l_wM, pm_oR_rf, pm_oQ_rf, sh_k59 hS, sh_r59_25 hS, sh_k80 hS, sh_z80 hS, sh_r59_27 hS, sh_k81 hS, sh_z81 hS, mst_w46, mst_w48, mst_w49, mst_46, mst_48, mst_49, mst_k, mst_z, mst_r, mst_n, mst_l, mst_R62, mst_R64, mst_R65, mst_R66, mst_R67, mst_R78, mst_R80, mst_R81, mst_F18, mst_F24, mst_F45, mst_F47, mst_F50, mst_F51, nI_1, LQ1, LQ2, LQ4, Int32.le_refl]
        exact hq
      | succ k ih =>
        intro j p' v hj hp' hv hq
        have hle : ¬ nI most ≤ nI j := nI_ge (by omega) (by omega)
        have hv4 : v < 10000 := Nat.lt_of_lt_of_le hv (by have : 10 ^ j ≤ 10 ^ 4 := Nat.pow_le_pow_right (by omega) (by omega); omega)
        refine pm_wb_ok pb_c189 3 23 0 _ _ _ _ _ ?_
        try simp only [pm_WI0, pm_WI1, pm_WI2, pm_WI3, pm_WI4, pm_WI5, pm_WV, pm_WW, pm_WX, pb_B189, pm_if, pm_QI_at, pm_QL_at, pm_QV_at, pm_QR_at, pm_QR_at0, pm_QR_at1, Nat.reduceSub, Nat.reduceAdd, List.replicate_zero, List.replicate_succ, true_and, and_true, true_or, or_true, and_self, reduceIte, Nat.reduceEqDiff, Nat.reduceLT, Nat.reduceLeDiff, Nat.reduceMul, false_and, and_false, reduceCtorEq, false_or, or_false, not_true_eq_false, not_false_eq_true, true_implies, false_implies, implies_true, lf_10, eq_self, Int32.reduceLT, Int32.reduceLE, Int32.reduceAdd, Int32.reduceSub, pm_same, pm_i_wI, pm_l_wL, pm_l_wM, pm_oR_rf, pm_oQ_rf, sh_k59 hS, sh_r59_25 hS, sh_k80 hS, sh_z80 hS, sh_r59_27 hS, sh_k81 hS, sh_z81 hS, mst_w46, mst_w48, mst_w49, mst_46, mst_48, mst_49, mst_k, mst_z, mst_r, mst_n, mst_l, mst_R62, mst_R64, mst_R65, mst_R66, mst_R67, mst_R78, mst_R80, mst_R81, mst_F18, mst_F24, mst_F45, mst_F47, mst_F50, mst_F51, nI_1, LQ1, LQ2, LQ4, hle]
        refine ⟨by omega, mr_190 (by omega) hS hm hp' (fun hb => ⟨fun z => absurd z (by decide), fun _ => ⟨by omega, sh_k59 hS, mr_181 hS hm hp' ?_⟩⟩) (fun hb => ⟨fun _ => ?_, fun z => absurd rfl z⟩)⟩
        · have hpn : p' < n := gx_lt (B := gx_b f n) gx_b_eof rfl (by omega)
          obtain ⟨e2, e3⟩ := hm.at hpn
          have es : sg (gx_b f n p') = nI (gx_b f n p') := by unfold sg; rw [if_neg (by omega)]
          rw [gx_nm_yes hb] at hq
          have ev : 10 * nI v + sg (gx_b f n p') - 48 = nI (10 * v + (gx_b f n p' - 48)) := by
            rw [es, show (10 : Int32) = nI 10 from rfl, pk_mul, nI_add, show (48 : Int32) = nI 48 from rfl, pk_sub (by omega)]
            congr 1; omega
          try simp only [pm_WV, pm_WW, true_and, and_true, true_or, or_true, and_self, reduceIte, Nat.reduceEqDiff, Nat.reduceLT, Nat.reduceLeDiff, Nat.reduceMul, false_and, and_false, reduceCtorEq, false_or, or_false, not_true_eq_false, not_false_eq_true, true_implies, false_implies, implies_true, lf_10, eq_self, Int32.reduceLT, Int32.reduceLE, Int32.reduceAdd, Int32.reduceSub, pm_same, pm_i_wI, pm_l_wL, pm_l_wM, pm_oR_rf, pm_oQ_rf, sh_k59 hS, sh_r59_25 hS, sh_k80 hS, sh_z80 hS, sh_r59_27 hS, sh_k81 hS, sh_z81 hS, mst_w46, mst_w48, mst_w49, mst_46, mst_48, mst_49, mst_k, mst_z, mst_r, mst_n, mst_l, mst_R62, mst_R64, mst_R65, mst_R66, mst_R67, mst_R78, mst_R80, mst_R81, mst_F18, mst_F24, mst_F45, mst_F47, mst_F50, mst_F51, nI_1, LQ1, LQ2, LQ4]
          rw [ev]
          exact ih (j + 1) (p' + 1) _ (by omega) (by omega) (by rw [Nat.pow_succ]; omega) hq
        · rw [gx_nm_no hb] at hq
          exact hq
    try simp only [ms]
    refine pm_goI 189 1 pb_c189 (by decide) (Nat.le_of_ble_eq_true rfl) rfl ?_
    try simp only [show pm_mL 189 = 4 from rfl, pm_WI0, pm_WI1, pm_WI2, pm_WI3, pm_WI4, pm_WI5, pm_WV, pm_WW, pm_WX, pb_B189, pm_if, pm_QI_at, pm_QL_at, pm_QV_at, pm_QR_at, pm_QR_at0, pm_QR_at1, Nat.reduceSub, Nat.reduceAdd, List.replicate_zero, List.replicate_succ, true_and, and_true, true_or, or_true, and_self, reduceIte, Nat.reduceEqDiff, Nat.reduceLT, Nat.reduceLeDiff, Nat.reduceMul, false_and, and_false, reduceCtorEq, false_or, or_false, not_true_eq_false, not_false_eq_true, true_implies, false_implies, implies_true, lf_10, eq_self, Int32.reduceLT, Int32.reduceLE, Int32.reduceAdd, Int32.reduceSub, pm_same, pm_i_wI, pm_l_wL, pm_l_wM, pm_oR_rf, pm_oQ_rf, sh_k59 hS, sh_r59_25 hS, sh_k80 hS, sh_z80 hS, sh_r59_27 hS, sh_k81 hS, sh_z81 hS, mst_w46, mst_w48, mst_w49, mst_46, mst_48, mst_49, mst_k, mst_z, mst_r, mst_n, mst_l, mst_R62, mst_R64, mst_R65, mst_R66, mst_R67, mst_R78, mst_R80, mst_R81, mst_F18, mst_F24, mst_F45, mst_F47, mst_F50, mst_F51, nI_1, LQ1, LQ2, LQ4]
    refine ⟨by omega, mr_190 (by omega) hS hm hp (fun hb => ⟨fun z => absurd z (by decide), fun _ => ?_⟩) (fun hb => ⟨fun _ => ?_, fun z => absurd rfl z⟩)⟩
    · refine pm_wb_ok pb_c189 1 19 0 _ _ _ _ _ ?_
      try simp only [pm_WI0, pm_WI1, pm_WI2, pm_WI3, pm_WI4, pm_WI5, pm_WV, pm_WW, pm_WX, pb_B189, pm_if, pm_QI_at, pm_QL_at, pm_QV_at, pm_QR_at, pm_QR_at0, pm_QR_at1, Nat.reduceSub, Nat.reduceAdd, List.replicate_zero, List.replicate_succ, true_and, and_true, true_or, or_true, and_self, reduceIte, Nat.reduceEqDiff, Nat.reduceLT, Nat.reduceLeDiff, Nat.reduceMul, false_and, and_false, reduceCtorEq, false_or, or_false, not_true_eq_false, not_false_eq_true, true_implies, false_implies, implies_true, lf_10, eq_self, Int32.reduceLT, Int32.reduceLE, Int32.reduceAdd, Int32.reduceSub, pm_same, pm_i_wI, pm_l_wL, pm_l_wM, pm_oR_rf, pm_oQ_rf, sh_k59 hS, sh_r59_25 hS, sh_k80 hS, sh_z80 hS, sh_r59_27 hS, sh_k81 hS, sh_z81 hS, mst_w46, mst_w48, mst_w49, mst_46, mst_48, mst_49, mst_k, mst_z, mst_r, mst_n, mst_l, mst_R62, mst_R64, mst_R65, mst_R66, mst_R67, mst_R78, mst_R80, mst_R81, mst_F18, mst_F24, mst_F45, mst_F47, mst_F50, mst_F51, nI_1, LQ1, LQ2, LQ4]
      exact key most 0 p 0 (by omega) hp (by omega) (yes hb)
    · refine pm_wb_ok pb_c189 2 14 0 _ _ _ _ _ ?_
      try simp only [pm_WI0, pm_WI1, pm_WI2, pm_WI3, pm_WI4, pm_WI5, pm_WV, pm_WW, pm_WX, pb_B189, pm_if, pm_QI_at, pm_QL_at, pm_QV_at, pm_QR_at, pm_QR_at0, pm_QR_at1, Nat.reduceSub, Nat.reduceAdd, List.replicate_zero, List.replicate_succ, true_and, and_true, true_or, or_true, and_self, reduceIte, Nat.reduceEqDiff, Nat.reduceLT, Nat.reduceLeDiff, Nat.reduceMul, false_and, and_false, reduceCtorEq, false_or, or_false, not_true_eq_false, not_false_eq_true, true_implies, false_implies, implies_true, lf_10, eq_self, Int32.reduceLT, Int32.reduceLE, Int32.reduceAdd, Int32.reduceSub, pm_same, pm_i_wI, pm_l_wL, pm_l_wM, pm_oR_rf, pm_oQ_rf, sh_k59 hS, sh_r59_25 hS, sh_k80 hS, sh_z80 hS, sh_r59_27 hS, sh_k81 hS, sh_z81 hS, mst_w46, mst_w48, mst_w49, mst_46, mst_48, mst_49, mst_k, mst_z, mst_r, mst_n, mst_l, mst_R62, mst_R64, mst_R65, mst_R66, mst_R67, mst_R78, mst_R80, mst_R81, mst_F18, mst_F24, mst_F45, mst_F47, mst_F50, mst_F51, nI_1, LQ1, LQ2, LQ4]
      exact ⟨by omega, mr_187l hS (no hb)⟩
theorem ms_k {S : pm_S} {o : Nat} {r : gx_R Unit} : pm_k (ms S o r) = pm_k S := rfl
theorem ms_z {S : pm_S} {o : Nat} {r : gx_R Unit} : pm_z (ms S o r) = pm_z S := rfl
theorem ms_r {S : pm_S} {o : Nat} {r : gx_R Unit} : pm_r (ms S o r) = pm_r S := rfl
theorem ms_49 {S : pm_S} {o : Nat} {r : gx_R Unit} : pm_i (ms S o r) 59 49 = nI o := mst_49
theorem ms_w49 {S : pm_S} {o o' : Nat} {r : gx_R Unit} : pm_wI (ms S o r) 59 49 (nI o') = ms S o' r := mst_w49
theorem ms_row {S : pm_S} {o p : Nat} {r : gx_R Unit} (h : p ≠ 59) : pm_i (ms S o r) p = pm_i S p := mst_row h
theorem ms_f {S : pm_S} {o j : Nat} {r : gx_R Unit} (h : j ≠ 46 ∧ j ≠ 48 ∧ j ≠ 49) : pm_i (ms S o r) 59 j = pm_i S 59 j := mst_f h
theorem ms_sc {S : pm_S} {o : Nat} {r : gx_R Unit} : sc S (ms S o r) := mst_sc
theorem bI01 (b : Bool) : bI b = 0 ∨ bI b = 1 := by cases b <;> simp [bI]
theorem hv1 {t : Nat → Bool} {x : Nat} (h : x % 16 < 8) : gx_hv t [x] = t x := (ev_one h).1
theorem un_bd1 {α : Type} {r : gx_R Nat} {f : Nat → α} : un (gx_bd r (fun m q => (q, some (f m)))) = un r := by
  obtain ⟨p, _ | v⟩ := r <;> rfl
theorem ms_R60 {S : pm_S} {o : Nat} {r : gx_R Unit} : pm_i (ms S o r) 60 = pm_i S 60 := ms_row (by decide)
theorem ms_R62 {S : pm_S} {o : Nat} {r : gx_R Unit} : pm_i (ms S o r) 62 = pm_i S 62 := ms_row (by decide)
theorem ms_R63 {S : pm_S} {o : Nat} {r : gx_R Unit} : pm_i (ms S o r) 63 = pm_i S 63 := ms_row (by decide)
theorem ms_R64 {S : pm_S} {o : Nat} {r : gx_R Unit} : pm_i (ms S o r) 64 = pm_i S 64 := ms_row (by decide)
theorem ms_R65 {S : pm_S} {o : Nat} {r : gx_R Unit} : pm_i (ms S o r) 65 = pm_i S 65 := ms_row (by decide)
theorem ms_R66 {S : pm_S} {o : Nat} {r : gx_R Unit} : pm_i (ms S o r) 66 = pm_i S 66 := ms_row (by decide)
theorem ms_R67 {S : pm_S} {o : Nat} {r : gx_R Unit} : pm_i (ms S o r) 67 = pm_i S 67 := ms_row (by decide)
theorem ms_R68 {S : pm_S} {o : Nat} {r : gx_R Unit} : pm_i (ms S o r) 68 = pm_i S 68 := ms_row (by decide)
theorem ms_R69 {S : pm_S} {o : Nat} {r : gx_R Unit} : pm_i (ms S o r) 69 = pm_i S 69 := ms_row (by decide)
theorem ms_R70 {S : pm_S} {o : Nat} {r : gx_R Unit} : pm_i (ms S o r) 70 = pm_i S 70 := ms_row (by decide)
theorem ms_R71 {S : pm_S} {o : Nat} {r : gx_R Unit} : pm_i (ms S o r) 71 = pm_i S 71 := ms_row (by decide)
theorem ms_R72 {S : pm_S} {o : Nat} {r : gx_R Unit} : pm_i (ms S o r) 72 = pm_i S 72 := ms_row (by decide)
theorem ms_R73 {S : pm_S} {o : Nat} {r : gx_R Unit} : pm_i (ms S o r) 73 = pm_i S 73 := ms_row (by decide)
theorem ms_R74 {S : pm_S} {o : Nat} {r : gx_R Unit} : pm_i (ms S o r) 74 = pm_i S 74 := ms_row (by decide)
theorem ms_R75 {S : pm_S} {o : Nat} {r : gx_R Unit} : pm_i (ms S o r) 75 = pm_i S 75 := ms_row (by decide)
theorem ms_R76 {S : pm_S} {o : Nat} {r : gx_R Unit} : pm_i (ms S o r) 76 = pm_i S 76 := ms_row (by decide)
theorem ms_R77 {S : pm_S} {o : Nat} {r : gx_R Unit} : pm_i (ms S o r) 77 = pm_i S 77 := ms_row (by decide)
theorem ms_R78 {S : pm_S} {o : Nat} {r : gx_R Unit} : pm_i (ms S o r) 78 = pm_i S 78 := ms_row (by decide)
theorem ms_R79 {S : pm_S} {o : Nat} {r : gx_R Unit} : pm_i (ms S o r) 79 = pm_i S 79 := ms_row (by decide)
theorem ms_R80 {S : pm_S} {o : Nat} {r : gx_R Unit} : pm_i (ms S o r) 80 = pm_i S 80 := ms_row (by decide)
theorem ms_R81 {S : pm_S} {o : Nat} {r : gx_R Unit} : pm_i (ms S o r) 81 = pm_i S 81 := ms_row (by decide)
theorem ms_R82 {S : pm_S} {o : Nat} {r : gx_R Unit} : pm_i (ms S o r) 82 = pm_i S 82 := ms_row (by decide)
theorem ms_R83 {S : pm_S} {o : Nat} {r : gx_R Unit} : pm_i (ms S o r) 83 = pm_i S 83 := ms_row (by decide)
theorem ms_R84 {S : pm_S} {o : Nat} {r : gx_R Unit} : pm_i (ms S o r) 84 = pm_i S 84 := ms_row (by decide)
theorem ms_R85 {S : pm_S} {o : Nat} {r : gx_R Unit} : pm_i (ms S o r) 85 = pm_i S 85 := ms_row (by decide)
theorem ms_R86 {S : pm_S} {o : Nat} {r : gx_R Unit} : pm_i (ms S o r) 86 = pm_i S 86 := ms_row (by decide)
theorem ms_R87 {S : pm_S} {o : Nat} {r : gx_R Unit} : pm_i (ms S o r) 87 = pm_i S 87 := ms_row (by decide)
theorem ms_R88 {S : pm_S} {o : Nat} {r : gx_R Unit} : pm_i (ms S o r) 88 = pm_i S 88 := ms_row (by decide)
theorem ms_R95 {S : pm_S} {o : Nat} {r : gx_R Unit} : pm_i (ms S o r) 95 = pm_i S 95 := ms_row (by decide)
theorem ms_R96 {S : pm_S} {o : Nat} {r : gx_R Unit} : pm_i (ms S o r) 96 = pm_i S 96 := ms_row (by decide)
theorem ms_R97 {S : pm_S} {o : Nat} {r : gx_R Unit} : pm_i (ms S o r) 97 = pm_i S 97 := ms_row (by decide)
theorem ms_F0 {S : pm_S} {o : Nat} {r : gx_R Unit} : pm_i (ms S o r) 59 0 = pm_i S 59 0 := ms_f (by decide)
theorem ms_F2 {S : pm_S} {o : Nat} {r : gx_R Unit} : pm_i (ms S o r) 59 2 = pm_i S 59 2 := ms_f (by decide)
theorem ms_F18 {S : pm_S} {o : Nat} {r : gx_R Unit} : pm_i (ms S o r) 59 18 = pm_i S 59 18 := ms_f (by decide)
theorem ms_F24 {S : pm_S} {o : Nat} {r : gx_R Unit} : pm_i (ms S o r) 59 24 = pm_i S 59 24 := ms_f (by decide)
theorem ms_F31 {S : pm_S} {o : Nat} {r : gx_R Unit} : pm_i (ms S o r) 59 31 = pm_i S 59 31 := ms_f (by decide)
theorem ms_F26 {S : pm_S} {o : Nat} {r : gx_R Unit} : pm_i (ms S o r) 59 26 = pm_i S 59 26 := ms_f (by decide)
theorem ms_F45 {S : pm_S} {o : Nat} {r : gx_R Unit} : pm_i (ms S o r) 59 45 = pm_i S 59 45 := ms_f (by decide)
theorem ms_F47 {S : pm_S} {o : Nat} {r : gx_R Unit} : pm_i (ms S o r) 59 47 = pm_i S 59 47 := ms_f (by decide)
theorem ms_F50 {S : pm_S} {o : Nat} {r : gx_R Unit} : pm_i (ms S o r) 59 50 = pm_i S 59 50 := ms_f (by decide)
theorem ms_F51 {S : pm_S} {o : Nat} {r : gx_R Unit} : pm_i (ms S o r) 59 51 = pm_i S 59 51 := ms_f (by decide)
theorem ms_F52 {S : pm_S} {o : Nat} {r : gx_R Unit} : pm_i (ms S o r) 59 52 = pm_i S 59 52 := ms_f (by decide)
theorem ms_F53 {S : pm_S} {o : Nat} {r : gx_R Unit} : pm_i (ms S o r) 59 53 = pm_i S 59 53 := ms_f (by decide)
theorem ms_F54 {S : pm_S} {o : Nat} {r : gx_R Unit} : pm_i (ms S o r) 59 54 = pm_i S 59 54 := ms_f (by decide)
theorem ms_F55 {S : pm_S} {o : Nat} {r : gx_R Unit} : pm_i (ms S o r) 59 55 = pm_i S 59 55 := ms_f (by decide)
theorem ms_F56 {S : pm_S} {o : Nat} {r : gx_R Unit} : pm_i (ms S o r) 59 56 = pm_i S 59 56 := ms_f (by decide)
theorem ms_F57 {S : pm_S} {o : Nat} {r : gx_R Unit} : pm_i (ms S o r) 59 57 = pm_i S 59 57 := ms_f (by decide)
theorem ms_F58 {S : pm_S} {o : Nat} {r : gx_R Unit} : pm_i (ms S o r) 59 58 = pm_i S 59 58 := ms_f (by decide)
theorem ms_F59 {S : pm_S} {o : Nat} {r : gx_R Unit} : pm_i (ms S o r) 59 59 = pm_i S 59 59 := ms_f (by decide)
theorem ms_F60 {S : pm_S} {o : Nat} {r : gx_R Unit} : pm_i (ms S o r) 59 60 = pm_i S 59 60 := ms_f (by decide)
theorem ms_F61 {S : pm_S} {o : Nat} {r : gx_R Unit} : pm_i (ms S o r) 59 61 = pm_i S 59 61 := ms_f (by decide)
theorem ms_F62 {S : pm_S} {o : Nat} {r : gx_R Unit} : pm_i (ms S o r) 59 62 = pm_i S 59 62 := ms_f (by decide)
theorem ms_F63 {S : pm_S} {o : Nat} {r : gx_R Unit} : pm_i (ms S o r) 59 63 = pm_i S 59 63 := ms_f (by decide)
theorem mr_198t1 {G : pm_G} {d : Nat} {S : pm_S} {f : Nat → Int32} {n : Nat} {o most : Nat} {r : gx_R Unit} {v has : Int32} {q : Int32 → pm_S → Prop} (hd : 5 ≤ d) (hS : Sh S) (hm : mrc S f n) (hr : r.1 ≤ n) (hmo : 1 ≤ most) (hmo4 : most ≤ 4) (hhas : has = 0 ∨ has = 1) (h : ∀ b, (b = 0 ∨ b = 1) → (∀ m, (gx_bd r (fun _ p => gx_num (gx_b f n) 0 most p)).2 = some m → b = bI (decide (has = 1) && decide (v < nI m))) → q b (ms S o (un (gx_bd r (fun _ p => gx_num (gx_b f n) 0 most p))))) : pm_W G d 198 (pm_QI q) 19 [.ref 59, .int v, .int has, .int (nI most), .int 1, .float 0] [] (ms S o r) 0 0 := by
  refine pm_wb_ok pb_c198 4 19 0 _ _ _ _ _ ?_
  try simp only [pm_WI0, pm_WI1, pm_WI2, pm_WI3, pm_WI4, pm_WI5, pm_WV, pm_WW, pm_WX, pb_B198, pm_if, pm_QI_at, pm_QL_at, pm_QV_at, pm_QR_at, pm_QR_at0, pm_QR_at1, Nat.reduceSub, Nat.reduceAdd, List.replicate_zero, List.replicate_succ, true_and, and_true, true_or, or_true, and_self, reduceIte, Nat.reduceEqDiff, Nat.reduceLT, Nat.reduceLeDiff, Nat.reduceMul, false_and, and_false, reduceCtorEq, false_or, or_false, not_true_eq_false, not_false_eq_true, true_implies, false_implies, implies_true, lf_10, eq_self, Int32.reduceLT, Int32.reduceLE, Int32.reduceAdd, Int32.reduceSub, pm_same, pm_i_wI, pm_l_wL, pm_l_wM, pm_oR_rf, pm_oQ_rf, sh_k59 hS, sh_r59_25 hS, sh_k80 hS, sh_z80 hS, sh_r59_27 hS, sh_k81 hS, sh_z81 hS, mst_w46, mst_w48, mst_w49, mst_46, mst_48, mst_49, mst_k, mst_z, mst_r, mst_n, mst_l, mst_R62, mst_R64, mst_R65, mst_R66, mst_R67, mst_R78, mst_R80, mst_R81, mst_F18, mst_F24, mst_F45, mst_F47, mst_F50, mst_F51, nI_1, LQ1, LQ2, LQ4, LQ1, LQ2, ms_k, ms_z, ms_r, ms_49, ms_w49, ms_R62, ms_R64, ms_R65, ms_R66, ms_R67, ms_R75, ms_R76, ms_R77, ms_R78, ms_R79, ms_R80, ms_R81, ms_R95, ms_R96, ms_R97, ms_F0, ms_F2, ms_F18, ms_F24, ms_F31, ms_F26, ms_F45, ms_F47, ms_F50, ms_F51, ms_F52, ms_F53, ms_F54, ms_F55, ms_F56, ms_F57, ms_F58, ms_F59, ms_F60, ms_F61, ms_F62, ms_F63]
  refine ⟨by omega, mr_189 (by omega) hS hm hr hmo hmo4 ?_⟩
  generalize hR : gx_bd r (fun _ p => gx_num (gx_b f n) 0 most p) = R at h ⊢
  try simp only [pm_WV, pm_WW, true_and, and_true, true_or, or_true, and_self, reduceIte, Nat.reduceEqDiff, Nat.reduceLT, Nat.reduceLeDiff, Nat.reduceMul, false_and, and_false, reduceCtorEq, false_or, or_false, not_true_eq_false, not_false_eq_true, true_implies, false_implies, implies_true, lf_10, eq_self, Int32.reduceLT, Int32.reduceLE, Int32.reduceAdd, Int32.reduceSub, pm_same, pm_i_wI, pm_l_wL, pm_l_wM, pm_oR_rf, pm_oQ_rf, sh_k59 hS, sh_r59_25 hS, sh_k80 hS, sh_z80 hS, sh_r59_27 hS, sh_k81 hS, sh_z81 hS, mst_w46, mst_w48, mst_w49, mst_46, mst_48, mst_49, mst_k, mst_z, mst_r, mst_n, mst_l, mst_R62, mst_R64, mst_R65, mst_R66, mst_R67, mst_R78, mst_R80, mst_R81, mst_F18, mst_F24, mst_F45, mst_F47, mst_F50, mst_F51, nI_1, LQ1, LQ2, LQ4, LQ1, LQ2, ms_k, ms_z, ms_r, ms_49, ms_w49, ms_R62, ms_R64, ms_R65, ms_R66, ms_R67, ms_R75, ms_R76, ms_R77, ms_R78, ms_R79, ms_R80, ms_R81, ms_R95, ms_R96, ms_R97, ms_F0, ms_F2, ms_F18, ms_F24, ms_F31, ms_F26, ms_F45, ms_F47, ms_F50, ms_F51, ms_F52, ms_F53, ms_F54, ms_F55, ms_F56, ms_F57, ms_F58, ms_F59, ms_F60, ms_F61, ms_F62, ms_F63]
  rcases hhas with rfl | rfl
  · refine ⟨fun _ => h 0 (Or.inl rfl) (fun m e => rfl), fun z => absurd rfl z⟩
  · refine ⟨fun z => absurd z (by decide), fun _ => ?_⟩
    obtain ⟨x, _ | m⟩ := R
    · refine ⟨fun _ => h 0 (Or.inl rfl) (fun m e => (by cases e)), fun _ => h 1 (Or.inr rfl) (fun m e => (by cases e))⟩
    · refine ⟨fun z => h 0 (Or.inl rfl) (fun m' e => ?_), fun z => h 1 (Or.inr rfl) (fun m' e => ?_)⟩ <;> cases e <;> simp only [vo] at z
      · have : ¬ (v < nI m) := by lia
        simp [this, bI]
      · have : (v < nI m) := by lia
        simp [this, bI]
theorem mr_198t0 {G : pm_G} {d : Nat} {S : pm_S} {f : Nat → Int32} {n : Nat} {o most : Nat} {r : gx_R Unit} {v has : Int32} {q : Int32 → pm_S → Prop} (hd : 5 ≤ d) (hS : Sh S) (hm : mrc S f n) (hr : r.1 ≤ n) (hmo : 1 ≤ most) (hmo4 : most ≤ 4) (hhas : has = 0 ∨ has = 1) (h : ∀ b, (b = 0 ∨ b = 1) → (∀ m, (gx_bd r (fun _ p => gx_num (gx_b f n) 0 most p)).2 = some m → b = bI (decide (has = 1) && decide (nI m < v))) → q b (ms S o (un (gx_bd r (fun _ p => gx_num (gx_b f n) 0 most p))))) : pm_W G d 198 (pm_QI q) 19 [.ref 59, .int v, .int has, .int (nI most), .int 0, .float 0] [] (ms S o r) 0 0 := by
  refine pm_wb_ok pb_c198 4 19 0 _ _ _ _ _ ?_
  try simp only [pm_WI0, pm_WI1, pm_WI2, pm_WI3, pm_WI4, pm_WI5, pm_WV, pm_WW, pm_WX, pb_B198, pm_if, pm_QI_at, pm_QL_at, pm_QV_at, pm_QR_at, pm_QR_at0, pm_QR_at1, Nat.reduceSub, Nat.reduceAdd, List.replicate_zero, List.replicate_succ, true_and, and_true, true_or, or_true, and_self, reduceIte, Nat.reduceEqDiff, Nat.reduceLT, Nat.reduceLeDiff, Nat.reduceMul, false_and, and_false, reduceCtorEq, false_or, or_false, not_true_eq_false, not_false_eq_true, true_implies, false_implies, implies_true, lf_10, eq_self, Int32.reduceLT, Int32.reduceLE, Int32.reduceAdd, Int32.reduceSub, pm_same, pm_i_wI, pm_l_wL, pm_l_wM, pm_oR_rf, pm_oQ_rf, sh_k59 hS, sh_r59_25 hS, sh_k80 hS, sh_z80 hS, sh_r59_27 hS, sh_k81 hS, sh_z81 hS, mst_w46, mst_w48, mst_w49, mst_46, mst_48, mst_49, mst_k, mst_z, mst_r, mst_n, mst_l, mst_R62, mst_R64, mst_R65, mst_R66, mst_R67, mst_R78, mst_R80, mst_R81, mst_F18, mst_F24, mst_F45, mst_F47, mst_F50, mst_F51, nI_1, LQ1, LQ2, LQ4, LQ1, LQ2, ms_k, ms_z, ms_r, ms_49, ms_w49, ms_R62, ms_R64, ms_R65, ms_R66, ms_R67, ms_R75, ms_R76, ms_R77, ms_R78, ms_R79, ms_R80, ms_R81, ms_R95, ms_R96, ms_R97, ms_F0, ms_F2, ms_F18, ms_F24, ms_F31, ms_F26, ms_F45, ms_F47, ms_F50, ms_F51, ms_F52, ms_F53, ms_F54, ms_F55, ms_F56, ms_F57, ms_F58, ms_F59, ms_F60, ms_F61, ms_F62, ms_F63]
  refine ⟨by omega, mr_189 (by omega) hS hm hr hmo hmo4 ?_⟩
  generalize hR : gx_bd r (fun _ p => gx_num (gx_b f n) 0 most p) = R at h ⊢
  try simp only [pm_WV, pm_WW, true_and, and_true, true_or, or_true, and_self, reduceIte, Nat.reduceEqDiff, Nat.reduceLT, Nat.reduceLeDiff, Nat.reduceMul, false_and, and_false, reduceCtorEq, false_or, or_false, not_true_eq_false, not_false_eq_true, true_implies, false_implies, implies_true, lf_10, eq_self, Int32.reduceLT, Int32.reduceLE, Int32.reduceAdd, Int32.reduceSub, pm_same, pm_i_wI, pm_l_wL, pm_l_wM, pm_oR_rf, pm_oQ_rf, sh_k59 hS, sh_r59_25 hS, sh_k80 hS, sh_z80 hS, sh_r59_27 hS, sh_k81 hS, sh_z81 hS, mst_w46, mst_w48, mst_w49, mst_46, mst_48, mst_49, mst_k, mst_z, mst_r, mst_n, mst_l, mst_R62, mst_R64, mst_R65, mst_R66, mst_R67, mst_R78, mst_R80, mst_R81, mst_F18, mst_F24, mst_F45, mst_F47, mst_F50, mst_F51, nI_1, LQ1, LQ2, LQ4, LQ1, LQ2, ms_k, ms_z, ms_r, ms_49, ms_w49, ms_R62, ms_R64, ms_R65, ms_R66, ms_R67, ms_R75, ms_R76, ms_R77, ms_R78, ms_R79, ms_R80, ms_R81, ms_R95, ms_R96, ms_R97, ms_F0, ms_F2, ms_F18, ms_F24, ms_F31, ms_F26, ms_F45, ms_F47, ms_F50, ms_F51, ms_F52, ms_F53, ms_F54, ms_F55, ms_F56, ms_F57, ms_F58, ms_F59, ms_F60, ms_F61, ms_F62, ms_F63]
  rcases hhas with rfl | rfl
  · refine ⟨fun _ => h 0 (Or.inl rfl) (fun m e => rfl), fun z => absurd rfl z⟩
  · refine ⟨fun z => absurd z (by decide), fun _ => ?_⟩
    obtain ⟨x, _ | m⟩ := R
    · refine ⟨fun _ => h 0 (Or.inl rfl) (fun m e => (by cases e)), fun _ => h 1 (Or.inr rfl) (fun m e => (by cases e))⟩
    · refine ⟨fun z => h 0 (Or.inl rfl) (fun m' e => ?_), fun z => h 1 (Or.inr rfl) (fun m' e => ?_)⟩ <;> cases e <;> simp only [vo] at z
      · have : ¬ (nI m < v) := by lia
        simp [this, bI]
      · have : (nI m < v) := by lia
        simp [this, bI]
theorem mr_198 {G : pm_G} {d : Nat} {S : pm_S} {f : Nat → Int32} {n : Nat} {t : Nat → Bool} {o k s most : Nat} {r : gx_R Unit} {v has : Int32} {q : Int32 → pm_S → Prop} (hd : 5 ≤ d) (hS : Sh S) (hm : mrc S f n) (hr : r.1 ≤ n) (hmo : 1 ≤ most) (hmo4 : most ≤ 4) (hhas : has = 0 ∨ has = 1) (hk : k < 7) (ht0 : ∀ m, m < 10 ^ most → t (gx_st k s m) = (decide (has = 1) && decide (v < nI m))) (ht1 : ∀ m, m < 10 ^ most → t (gx_st (k + 1) s m) = (decide (has = 1) && decide (nI m < v))) (h : ∀ b, (b = 0 ∨ b = 1) → (∀ e, (gx_bd r (fun _ p => gx_cmp (gx_b f n) k s most p)).2 = some e → b = bI (gx_hv t e)) → q b (ms S o (un (gx_bd r (fun _ p => gx_cmp (gx_b f n) k s most p))))) : pm_CI G d 198 [.ref 59, .int v, .int has, .int (nI most)] (ms S o r) q := by
  have hn := hm.2.1
  obtain ⟨p, _ | u⟩ := r
  · have hms : ms S o (p, none) = mst S (nI p) (nI p) (nI o) := rfl
    rw [hms]
    refine pm_goI 198 1 pb_c198 (by decide) (Nat.le_of_ble_eq_true rfl) rfl ?_
    try simp only [show pm_mL 198 = 6 from rfl, pm_WI0, pm_WI1, pm_WI2, pm_WI3, pm_WI4, pm_WI5, pm_WV, pm_WW, pm_WX, pb_B198, pm_if, pm_QI_at, pm_QL_at, pm_QV_at, pm_QR_at, pm_QR_at0, pm_QR_at1, Nat.reduceSub, Nat.reduceAdd, List.replicate_zero, List.replicate_succ, true_and, and_true, true_or, or_true, and_self, reduceIte, Nat.reduceEqDiff, Nat.reduceLT, Nat.reduceLeDiff, Nat.reduceMul, false_and, and_false, reduceCtorEq, false_or, or_false, not_true_eq_false, not_false_eq_true, true_implies, false_implies, implies_true, lf_10, eq_self, Int32.reduceLT, Int32.reduceLE, Int32.reduceAdd, Int32.reduceSub, pm_same, pm_i_wI, pm_l_wL, pm_l_wM, pm_oR_rf, pm_oQ_rf, sh_k59 hS, sh_r59_25 hS, sh_k80 hS, sh_z80 hS, sh_r59_27 hS, sh_k81 hS, sh_z81 hS, mst_w46, mst_w48, mst_w49, mst_46, mst_48, mst_49, mst_k, mst_z, mst_r, mst_n, mst_l, mst_R62, mst_R64, mst_R65, mst_R66, mst_R67, mst_R78, mst_R80, mst_R81, mst_F18, mst_F24, mst_F45, mst_F47, mst_F50, mst_F51, nI_1, LQ1, LQ2, LQ4, LQ1, LQ2, ms_k, ms_z, ms_r, ms_49, ms_w49, ms_R62, ms_R64, ms_R65, ms_R66, ms_R67, ms_R75, ms_R76, ms_R77, ms_R78, ms_R79, ms_R80, ms_R81, ms_R95, ms_R96, ms_R97, ms_F0, ms_F2, ms_F18, ms_F24, ms_F31, ms_F26, ms_F45, ms_F47, ms_F50, ms_F51, ms_F52, ms_F53, ms_F54, ms_F55, ms_F56, ms_F57, ms_F58, ms_F59, ms_F60, ms_F61, ms_F62, ms_F63]
    refine ⟨by omega, mr_186f (c := 60) hS (p := 0) (by omega) ?_⟩
    refine ⟨fun _ => ⟨by omega, sh_k59 hS, mr_185 (S := S) (o := o) (r := (p, none)) (c := 62) (by omega) hS hm hr (by omega) ?_⟩, fun z => absurd rfl z⟩
    exact mr_198t0 (r := (p, none)) hd hS hm hr hmo hmo4 hhas (fun b hb he => h b hb (fun e z => (by cases z)))
  · have hp : p ≤ n := hr
    have hms : ms S o (p, some u) = mst S (nI p) (-1) (nI o) := rfl
    rw [hms]
    refine pm_goI 198 1 pb_c198 (by decide) (Nat.le_of_ble_eq_true rfl) rfl ?_
    try simp only [show pm_mL 198 = 6 from rfl, pm_WI0, pm_WI1, pm_WI2, pm_WI3, pm_WI4, pm_WI5, pm_WV, pm_WW, pm_WX, pb_B198, pm_if, pm_QI_at, pm_QL_at, pm_QV_at, pm_QR_at, pm_QR_at0, pm_QR_at1, Nat.reduceSub, Nat.reduceAdd, List.replicate_zero, List.replicate_succ, true_and, and_true, true_or, or_true, and_self, reduceIte, Nat.reduceEqDiff, Nat.reduceLT, Nat.reduceLeDiff, Nat.reduceMul, false_and, and_false, reduceCtorEq, false_or, or_false, not_true_eq_false, not_false_eq_true, true_implies, false_implies, implies_true, lf_10, eq_self, Int32.reduceLT, Int32.reduceLE, Int32.reduceAdd, Int32.reduceSub, pm_same, pm_i_wI, pm_l_wL, pm_l_wM, pm_oR_rf, pm_oQ_rf, sh_k59 hS, sh_r59_25 hS, sh_k80 hS, sh_z80 hS, sh_r59_27 hS, sh_k81 hS, sh_z81 hS, mst_w46, mst_w48, mst_w49, mst_46, mst_48, mst_49, mst_k, mst_z, mst_r, mst_n, mst_l, mst_R62, mst_R64, mst_R65, mst_R66, mst_R67, mst_R78, mst_R80, mst_R81, mst_F18, mst_F24, mst_F45, mst_F47, mst_F50, mst_F51, nI_1, LQ1, LQ2, LQ4, LQ1, LQ2, ms_k, ms_z, ms_r, ms_49, ms_w49, ms_R62, ms_R64, ms_R65, ms_R66, ms_R67, ms_R75, ms_R76, ms_R77, ms_R78, ms_R79, ms_R80, ms_R81, ms_R95, ms_R96, ms_R97, ms_F0, ms_F2, ms_F18, ms_F24, ms_F31, ms_F26, ms_F45, ms_F47, ms_F50, ms_F51, ms_F52, ms_F53, ms_F54, ms_F55, ms_F56, ms_F57, ms_F58, ms_F59, ms_F60, ms_F61, ms_F62, ms_F63]
    refine ⟨by omega, mr_186l (c := 60) (by omega) hS hm hp (by omega) (fun y => ?_) (fun y => ?_)⟩
    · have hpn : p < n := gx_lt gx_b_eof y (by omega)
      have ec : gx_bd ((p, some u) : gx_R Unit) (fun _ p => gx_cmp (gx_b f n) k s most p) = gx_bd (gx_num (gx_b f n) 0 most (p + 1)) (fun m q => (q, some [gx_st k s m])) := by
        show gx_cmp (gx_b f n) k s most p = _
        unfold gx_cmp; rw [if_pos y]
      rw [ec] at h
      refine ⟨fun z => absurd z (by decide), fun _ => ?_⟩
      refine mr_198t1 (S := S) (o := o) (r := (p + 1, some ())) hd hS hm (by omega) hmo hmo4 hhas (fun b hb he => ?_)
      have := h b hb (fun e z => ?_)
      · rw [un_bd1] at this; exact this
      · show _ = _
        change (gx_bd (gx_num (gx_b f n) 0 most (p + 1)) _).2 = _ at z
        rcases gx_two (gx_num (gx_b f n) 0 most (p + 1)) with ⟨x, ex⟩ | ⟨x, m, ex⟩
        · rw [gx_bd_none ex] at z; cases z
        · rw [gx_bd_some ex] at z; cases z
          rw [he m (by show (gx_num (gx_b f n) 0 most (p + 1)).2 = _; rw [ex]), hv1 (by rw [gx_st_mod (by omega)]; omega), ht0 m (gx_num_ok gx_b_eof hmo ex).2.2]
    · refine ⟨fun _ => ⟨by omega, sh_k59 hS, mr_185 (S := S) (o := o) (r := (p, some ())) (c := 62) (by omega) hS hm hr (by omega) ?_⟩, fun z => absurd rfl z⟩
      have e2 : gx_bd ((p, some ()) : gx_R Unit) (fun _ p => gx_w (gx_b f n) [62] p) = if gx_b f n p = 62 then (p + 1, some ()) else (p, none) := rfl
      rw [e2]
      by_cases y2 : gx_b f n p = 62
      · have hpn : p < n := gx_lt gx_b_eof y2 (by omega)
        rw [if_pos y2]
        have ec : gx_bd ((p, some u) : gx_R Unit) (fun _ p => gx_cmp (gx_b f n) k s most p) = gx_bd (gx_num (gx_b f n) 0 most (p + 1)) (fun m q => (q, some [gx_st (k + 1) s m])) := by
          show gx_cmp (gx_b f n) k s most p = _
          unfold gx_cmp; rw [if_neg y, if_pos y2]
        rw [ec] at h
        refine mr_198t0 (S := S) (o := o) (r := (p + 1, some ())) hd hS hm (by omega) hmo hmo4 hhas (fun b hb he => ?_)
        have := h b hb (fun e z => ?_)
        · rw [un_bd1] at this; exact this
        · change (gx_bd (gx_num (gx_b f n) 0 most (p + 1)) _).2 = _ at z
          rcases gx_two (gx_num (gx_b f n) 0 most (p + 1)) with ⟨x, ex⟩ | ⟨x, m, ex⟩
          · rw [gx_bd_none ex] at z; cases z
          · rw [gx_bd_some ex] at z; cases z
            rw [he m (by show (gx_num (gx_b f n) 0 most (p + 1)).2 = _; rw [ex]), hv1 (by rw [gx_st_mod (by omega)]; omega), ht1 m (gx_num_ok gx_b_eof hmo ex).2.2]
      · rw [if_neg y2]
        have ec : gx_bd ((p, some u) : gx_R Unit) (fun _ p => gx_cmp (gx_b f n) k s most p) = (p, none) := by
          show gx_cmp (gx_b f n) k s most p = _
          unfold gx_cmp; rw [if_neg y, if_neg y2]
        rw [ec] at h
        exact mr_198t0 (S := S) (o := o) (r := (p, none)) hd hS hm hr hmo hmo4 hhas (fun b hb he => h b hb (fun e z => (by cases z)))
theorem tq_ok {S : pm_S} {t : Nat → Bool} (h18 : iv_c S 18 ≤ 40) (h : tq S t) : (pm_i S 59 50 = -1 ∧ t = fun _ => false) ∨ ∃ m, m < 40 ∧ m < iv_c S 18 ∧ pm_i S 59 50 = nI m ∧ t = tv S m (pm_i S 59 51) := by
  rcases h with h | ⟨m, a, b, c⟩
  · exact Or.inl h
  · exact Or.inr ⟨m, by omega, a, b, c⟩
theorem vo_some {p m : Nat} : vo (p, some m) = nI m := rfl
theorem vo_none {p : Nat} : vo ((p, none) : gx_R Nat) = 0 := rfl
theorem fa_lt {S : pm_S} {m : Nat} {s k : Int32} {a : Nat} (h : fa_l S m s k = some a) : a < iv_c S 24 := ac_f_lt h
theorem mr_194_116 {G : pm_G} {d : Nat} {S : pm_S} {f : Nat → Int32} {n : Nat} {t : Nat → Bool} {o p : Nat} {q : Int32 → pm_S → Prop} {X Y : Value} (hd : 6 ≤ d) (hS : Sh S) (hm : mrc S f n) (h18 : iv_c S 18 ≤ 40) (h24 : pm_i S 59 24 = nI (iv_c S 24)) (h24b : iv_c S 24 ≤ 150) (ht : tq S t) (hp : p ≤ n) (y : gx_b f n p = 116) (h : ∀ b, (b = 0 ∨ b = 1) → (∀ e, (gx_bd (gx_num (gx_b f n) 0 1 (p + 1)) (fun n q => (q, some [gx_st 0 0 n]))).2 = some e → b = bI (gx_hv t e)) → q b (ms S o (un (gx_bd (gx_num (gx_b f n) 0 1 (p + 1)) (fun n q => (q, some [gx_st 0 0 n])))))) : pm_W G d 194 (pm_QI q) 0 [.ref 59, .int 116, .float 0, .float 0] [] (mst S (nI p) (-1) (nI o)) 0 0 := by
  have hn := hm.2.1
  have hpn : p < n := gx_lt gx_b_eof y (by omega)
  rcases tq_ok h18 ht with ⟨t1, t2⟩ | ⟨m, m1, m2, m3, t2⟩
  · subst t2
    refine pm_wb_ok pb_c194 8 0 0 _ _ _ _ _ ?_
    try simp only [pm_WI0, pm_WI1, pm_WI2, pm_WI3, pm_WI4, pm_WI5, pm_WV, pm_WW, pm_WX, pb_B194, pm_if, pm_QI_at, pm_QL_at, pm_QV_at, pm_QR_at, pm_QR_at0, pm_QR_at1, Nat.reduceSub, Nat.reduceAdd, List.replicate_zero, List.replicate_succ, true_and, and_true, true_or, or_true, and_self, reduceIte, Nat.reduceEqDiff, Nat.reduceLT, Nat.reduceLeDiff, Nat.reduceMul, false_and, and_false, reduceCtorEq, false_or, or_false, not_true_eq_false, not_false_eq_true, true_implies, false_implies, implies_true, lf_10, eq_self, Int32.reduceLT, Int32.reduceLE, Int32.reduceAdd, Int32.reduceSub, pm_same, pm_i_wI, pm_l_wL, pm_l_wM, pm_oR_rf, pm_oQ_rf, sh_k59 hS, sh_r59_25 hS, sh_k80 hS, sh_z80 hS, sh_r59_27 hS, sh_k81 hS, sh_z81 hS, mst_w46, mst_w48, mst_w49, mst_46, mst_48, mst_49, mst_k, mst_z, mst_r, mst_n, mst_l, mst_R62, mst_R64, mst_R65, mst_R66, mst_R67, mst_R78, mst_R80, mst_R81, mst_F18, mst_F24, mst_F45, mst_F47, mst_F50, mst_F51, nI_1, LQ1, LQ2, LQ4, LQ1, LQ2, ms_k, ms_z, ms_r, ms_49, ms_w49, ms_R62, ms_R64, ms_R65, ms_R66, ms_R67, ms_R75, ms_R76, ms_R77, ms_R78, ms_R79, ms_R80, ms_R81, ms_R95, ms_R96, ms_R97, ms_F0, ms_F2, ms_F18, ms_F24, ms_F31, ms_F26, ms_F45, ms_F47, ms_F50, ms_F51, ms_F52, ms_F53, ms_F54, ms_F55, ms_F56, ms_F57, ms_F58, ms_F59, ms_F60, ms_F61, ms_F62, ms_F63, sh_r59_8 hS, sh_k65 hS, sh_z65 hS, sh_r59_10 hS, sh_k67 hS, sh_z67 hS, sh_r59_9 hS, sh_k66 hS, sh_z66 hS, sh_r59_22 hS, sh_k78 hS, sh_z78 hS, t1]
    refine ⟨by omega, mr_189 (S := S) (o := o) (r := (p + 1, some ())) (most := 1) (by omega) hS hm (by show p + 1 ≤ n; omega) (by omega) (by omega) ?_⟩
    try simp only [pm_WV, pm_WW, true_and, and_true, true_or, or_true, and_self, reduceIte, Nat.reduceEqDiff, Nat.reduceLT, Nat.reduceLeDiff, Nat.reduceMul, false_and, and_false, reduceCtorEq, false_or, or_false, not_true_eq_false, not_false_eq_true, true_implies, false_implies, implies_true, lf_10, eq_self, Int32.reduceLT, Int32.reduceLE, Int32.reduceAdd, Int32.reduceSub, pm_same, pm_i_wI, pm_l_wL, pm_l_wM, pm_oR_rf, pm_oQ_rf, sh_k59 hS, sh_r59_25 hS, sh_k80 hS, sh_z80 hS, sh_r59_27 hS, sh_k81 hS, sh_z81 hS, mst_w46, mst_w48, mst_w49, mst_46, mst_48, mst_49, mst_k, mst_z, mst_r, mst_n, mst_l, mst_R62, mst_R64, mst_R65, mst_R66, mst_R67, mst_R78, mst_R80, mst_R81, mst_F18, mst_F24, mst_F45, mst_F47, mst_F50, mst_F51, nI_1, LQ1, LQ2, LQ4, LQ1, LQ2, ms_k, ms_z, ms_r, ms_49, ms_w49, ms_R62, ms_R64, ms_R65, ms_R66, ms_R67, ms_R75, ms_R76, ms_R77, ms_R78, ms_R79, ms_R80, ms_R81, ms_R95, ms_R96, ms_R97, ms_F0, ms_F2, ms_F18, ms_F24, ms_F31, ms_F26, ms_F45, ms_F47, ms_F50, ms_F51, ms_F52, ms_F53, ms_F54, ms_F55, ms_F56, ms_F57, ms_F58, ms_F59, ms_F60, ms_F61, ms_F62, ms_F63, sh_r59_8 hS, sh_k65 hS, sh_z65 hS, sh_r59_10 hS, sh_k67 hS, sh_z67 hS, sh_r59_9 hS, sh_k66 hS, sh_z66 hS, sh_r59_22 hS, sh_k78 hS, sh_z78 hS, t1, pm_WI0, pm_WI1, pm_WI2, pm_WI3, pm_WI4, pm_WI5, pm_WV, pm_WW, pm_WX, pb_B194, pm_if, pm_QI_at, pm_QL_at, pm_QV_at, pm_QR_at, pm_QR_at0, pm_QR_at1, Nat.reduceSub, Nat.reduceAdd, List.replicate_zero, List.replicate_succ]
    have eR : gx_bd ((p + 1, some ()) : gx_R Unit) (fun _ p => gx_num (gx_b f n) 0 1 p) = gx_num (gx_b f n) 0 1 (p + 1) := rfl
    rw [eR]
    rcases gx_two (gx_num (gx_b f n) 0 1 (p + 1)) with ⟨x, ex⟩ | ⟨x, u, ex⟩
    · rw [ex]; rw [gx_bd_none ex] at h
      exact h 0 (Or.inl rfl) (fun e z => (by cases z))
    · rw [ex]; rw [gx_bd_some ex] at h
      refine h 0 (Or.inl rfl) (fun e z => ?_)
      cases z; rw [hv1 (by rw [gx_st_mod (by omega)]; omega)]; rfl
  · subst t2
    have hm0 : ¬ nI m < 0 := nI_pos (by omega)
    have hm1 : 0 ≤ nI m := nI_pos' (by omega)
    have hmv : vp_in (nI m) 40 := vp_in_nI m1 (by decide)
    refine pm_wb_ok pb_c194 8 0 0 _ _ _ _ _ ?_
    try simp only [pm_WI0, pm_WI1, pm_WI2, pm_WI3, pm_WI4, pm_WI5, pm_WV, pm_WW, pm_WX, pb_B194, pm_if, pm_QI_at, pm_QL_at, pm_QV_at, pm_QR_at, pm_QR_at0, pm_QR_at1, Nat.reduceSub, Nat.reduceAdd, List.replicate_zero, List.replicate_succ, true_and, and_true, true_or, or_true, and_self, reduceIte, Nat.reduceEqDiff, Nat.reduceLT, Nat.reduceLeDiff, Nat.reduceMul, false_and, and_false, reduceCtorEq, false_or, or_false, not_true_eq_false, not_false_eq_true, true_implies, false_implies, implies_true, lf_10, eq_self, Int32.reduceLT, Int32.reduceLE, Int32.reduceAdd, Int32.reduceSub, pm_same, pm_i_wI, pm_l_wL, pm_l_wM, pm_oR_rf, pm_oQ_rf, sh_k59 hS, sh_r59_25 hS, sh_k80 hS, sh_z80 hS, sh_r59_27 hS, sh_k81 hS, sh_z81 hS, mst_w46, mst_w48, mst_w49, mst_46, mst_48, mst_49, mst_k, mst_z, mst_r, mst_n, mst_l, mst_R62, mst_R64, mst_R65, mst_R66, mst_R67, mst_R78, mst_R80, mst_R81, mst_F18, mst_F24, mst_F45, mst_F47, mst_F50, mst_F51, nI_1, LQ1, LQ2, LQ4, LQ1, LQ2, ms_k, ms_z, ms_r, ms_49, ms_w49, ms_R62, ms_R64, ms_R65, ms_R66, ms_R67, ms_R75, ms_R76, ms_R77, ms_R78, ms_R79, ms_R80, ms_R81, ms_R95, ms_R96, ms_R97, ms_F0, ms_F2, ms_F18, ms_F24, ms_F31, ms_F26, ms_F45, ms_F47, ms_F50, ms_F51, ms_F52, ms_F53, ms_F54, ms_F55, ms_F56, ms_F57, ms_F58, ms_F59, ms_F60, ms_F61, ms_F62, ms_F63, sh_r59_8 hS, sh_k65 hS, sh_z65 hS, sh_r59_10 hS, sh_k67 hS, sh_z67 hS, sh_r59_9 hS, sh_k66 hS, sh_z66 hS, sh_r59_22 hS, sh_k78 hS, sh_z78 hS, m3, nI_clamp (show m < 2 ^ 31 by omega), hm0, hm1, hmv]
    refine ⟨by omega, mr_189 (S := S) (o := o) (r := (p + 1, some ())) (most := 1) (by omega) hS hm (by show p + 1 ≤ n; omega) (by omega) (by omega) ?_⟩
    try simp only [pm_WV, pm_WW, true_and, and_true, true_or, or_true, and_self, reduceIte, Nat.reduceEqDiff, Nat.reduceLT, Nat.reduceLeDiff, Nat.reduceMul, false_and, and_false, reduceCtorEq, false_or, or_false, not_true_eq_false, not_false_eq_true, true_implies, false_implies, implies_true, lf_10, eq_self, Int32.reduceLT, Int32.reduceLE, Int32.reduceAdd, Int32.reduceSub, pm_same, pm_i_wI, pm_l_wL, pm_l_wM, pm_oR_rf, pm_oQ_rf, sh_k59 hS, sh_r59_25 hS, sh_k80 hS, sh_z80 hS, sh_r59_27 hS, sh_k81 hS, sh_z81 hS, mst_w46, mst_w48, mst_w49, mst_46, mst_48, mst_49, mst_k, mst_z, mst_r, mst_n, mst_l, mst_R62, mst_R64, mst_R65, mst_R66, mst_R67, mst_R78, mst_R80, mst_R81, mst_F18, mst_F24, mst_F45, mst_F47, mst_F50, mst_F51, nI_1, LQ1, LQ2, LQ4, LQ1, LQ2, ms_k, ms_z, ms_r, ms_49, ms_w49, ms_R62, ms_R64, ms_R65, ms_R66, ms_R67, ms_R75, ms_R76, ms_R77, ms_R78, ms_R79, ms_R80, ms_R81, ms_R95, ms_R96, ms_R97, ms_F0, ms_F2, ms_F18, ms_F24, ms_F31, ms_F26, ms_F45, ms_F47, ms_F50, ms_F51, ms_F52, ms_F53, ms_F54, ms_F55, ms_F56, ms_F57, ms_F58, ms_F59, ms_F60, ms_F61, ms_F62, ms_F63, sh_r59_8 hS, sh_k65 hS, sh_z65 hS, sh_r59_10 hS, sh_k67 hS, sh_z67 hS, sh_r59_9 hS, sh_k66 hS, sh_z66 hS, sh_r59_22 hS, sh_k78 hS, sh_z78 hS, m3, nI_clamp (show m < 2 ^ 31 by omega), hm0, hm1, hmv, pm_WI0, pm_WI1, pm_WI2, pm_WI3, pm_WI4, pm_WI5, pm_WV, pm_WW, pm_WX, pb_B194, pm_if, pm_QI_at, pm_QL_at, pm_QV_at, pm_QR_at, pm_QR_at0, pm_QR_at1, Nat.reduceSub, Nat.reduceAdd, List.replicate_zero, List.replicate_succ]
    have eR : gx_bd ((p + 1, some ()) : gx_R Unit) (fun _ p => gx_num (gx_b f n) 0 1 p) = gx_num (gx_b f n) 0 1 (p + 1) := rfl
    rw [eR]
    rcases gx_two (gx_num (gx_b f n) 0 1 (p + 1)) with ⟨x, ex⟩ | ⟨x, u, ex⟩
    · rw [ex]; rw [gx_bd_none ex] at h
      exact ⟨fun _ => h 1 (Or.inr rfl) (fun e z => (by cases z)), fun _ => h 0 (Or.inl rfl) (fun e z => (by cases z))⟩
    · rw [ex]; rw [gx_bd_some ex] at h
      have hs := gx_st_s (k := 0) (s := 0) (m := u) (by omega) (by omega)
      have hmd := gx_st_mod (k := 0) (s := 0) (m := u) (by omega)
      have et : tv S m (pm_i S 59 51) (gx_st 0 0 u) = decide (pm_i S 65 m = nI u) := by unfold tv; rw [hmd, if_pos rfl, hs.2]
      refine ⟨fun z2 => h 1 (Or.inr rfl) (fun e z => ?_), fun z2 => h 0 (Or.inl rfl) (fun e z => ?_)⟩ <;> cases z <;> rw [hv1 (by rw [hmd]; omega), et] <;> simp only [vo] at z2 <;> simp [z2, bI]
theorem mr_194_97 {G : pm_G} {d : Nat} {S : pm_S} {f : Nat → Int32} {n : Nat} {t : Nat → Bool} {o p : Nat} {q : Int32 → pm_S → Prop} {X Y : Value} (hd : 6 ≤ d) (hS : Sh S) (hm : mrc S f n) (h18 : iv_c S 18 ≤ 40) (h24 : pm_i S 59 24 = nI (iv_c S 24)) (h24b : iv_c S 24 ≤ 150) (ht : tq S t) (hp : p ≤ n) (y : gx_b f n p = 97) (h : ∀ b, (b = 0 ∨ b = 1) → (∀ e, (gx_bd (gx_num (gx_b f n) 1 1 (p + 1)) (fun s q => (q, some [gx_st 1 s 0]))).2 = some e → b = bI (gx_hv t e)) → q b (ms S o (un (gx_bd (gx_num (gx_b f n) 1 1 (p + 1)) (fun s q => (q, some [gx_st 1 s 0])))))) : pm_W G d 194 (pm_QI q) 48 [.ref 59, .int 97, .float 0, .float 0] [] (mst S (nI p) (-1) (nI o)) 0 0 := by
  have hn := hm.2.1
  have hpn : p < n := gx_lt gx_b_eof y (by omega)
  rcases tq_ok h18 ht with ⟨t1, t2⟩ | ⟨m, m1, m2, m3, t2⟩
  · subst t2
    refine pm_wb_ok pb_c194 8 48 0 _ _ _ _ _ ?_
    try simp only [pm_WI0, pm_WI1, pm_WI2, pm_WI3, pm_WI4, pm_WI5, pm_WV, pm_WW, pm_WX, pb_B194, pm_if, pm_QI_at, pm_QL_at, pm_QV_at, pm_QR_at, pm_QR_at0, pm_QR_at1, Nat.reduceSub, Nat.reduceAdd, List.replicate_zero, List.replicate_succ, true_and, and_true, true_or, or_true, and_self, reduceIte, Nat.reduceEqDiff, Nat.reduceLT, Nat.reduceLeDiff, Nat.reduceMul, false_and, and_false, reduceCtorEq, false_or, or_false, not_true_eq_false, not_false_eq_true, true_implies, false_implies, implies_true, lf_10, eq_self, Int32.reduceLT, Int32.reduceLE, Int32.reduceAdd, Int32.reduceSub, pm_same, pm_i_wI, pm_l_wL, pm_l_wM, pm_oR_rf, pm_oQ_rf, sh_k59 hS, sh_r59_25 hS, sh_k80 hS, sh_z80 hS, sh_r59_27 hS, sh_k81 hS, sh_z81 hS, mst_w46, mst_w48, mst_w49, mst_46, mst_48, mst_49, mst_k, mst_z, mst_r, mst_n, mst_l, mst_R62, mst_R64, mst_R65, mst_R66, mst_R67, mst_R78, mst_R80, mst_R81, mst_F18, mst_F24, mst_F45, mst_F47, mst_F50, mst_F51, nI_1, LQ1, LQ2, LQ4, LQ1, LQ2, ms_k, ms_z, ms_r, ms_49, ms_w49, ms_R62, ms_R64, ms_R65, ms_R66, ms_R67, ms_R75, ms_R76, ms_R77, ms_R78, ms_R79, ms_R80, ms_R81, ms_R95, ms_R96, ms_R97, ms_F0, ms_F2, ms_F18, ms_F24, ms_F31, ms_F26, ms_F45, ms_F47, ms_F50, ms_F51, ms_F52, ms_F53, ms_F54, ms_F55, ms_F56, ms_F57, ms_F58, ms_F59, ms_F60, ms_F61, ms_F62, ms_F63, sh_r59_8 hS, sh_k65 hS, sh_z65 hS, sh_r59_10 hS, sh_k67 hS, sh_z67 hS, sh_r59_9 hS, sh_k66 hS, sh_z66 hS, sh_r59_22 hS, sh_k78 hS, sh_z78 hS, t1]
    refine ⟨by omega, mr_188 (S := S) (o := o) (r := (p + 1, some ())) (by omega) hS hm (by show p + 1 ≤ n; omega) ?_⟩
    try simp only [pm_WV, pm_WW, true_and, and_true, true_or, or_true, and_self, reduceIte, Nat.reduceEqDiff, Nat.reduceLT, Nat.reduceLeDiff, Nat.reduceMul, false_and, and_false, reduceCtorEq, false_or, or_false, not_true_eq_false, not_false_eq_true, true_implies, false_implies, implies_true, lf_10, eq_self, Int32.reduceLT, Int32.reduceLE, Int32.reduceAdd, Int32.reduceSub, pm_same, pm_i_wI, pm_l_wL, pm_l_wM, pm_oR_rf, pm_oQ_rf, sh_k59 hS, sh_r59_25 hS, sh_k80 hS, sh_z80 hS, sh_r59_27 hS, sh_k81 hS, sh_z81 hS, mst_w46, mst_w48, mst_w49, mst_46, mst_48, mst_49, mst_k, mst_z, mst_r, mst_n, mst_l, mst_R62, mst_R64, mst_R65, mst_R66, mst_R67, mst_R78, mst_R80, mst_R81, mst_F18, mst_F24, mst_F45, mst_F47, mst_F50, mst_F51, nI_1, LQ1, LQ2, LQ4, LQ1, LQ2, ms_k, ms_z, ms_r, ms_49, ms_w49, ms_R62, ms_R64, ms_R65, ms_R66, ms_R67, ms_R75, ms_R76, ms_R77, ms_R78, ms_R79, ms_R80, ms_R81, ms_R95, ms_R96, ms_R97, ms_F0, ms_F2, ms_F18, ms_F24, ms_F31, ms_F26, ms_F45, ms_F47, ms_F50, ms_F51, ms_F52, ms_F53, ms_F54, ms_F55, ms_F56, ms_F57, ms_F58, ms_F59, ms_F60, ms_F61, ms_F62, ms_F63, sh_r59_8 hS, sh_k65 hS, sh_z65 hS, sh_r59_10 hS, sh_k67 hS, sh_z67 hS, sh_r59_9 hS, sh_k66 hS, sh_z66 hS, sh_r59_22 hS, sh_k78 hS, sh_z78 hS, t1, pm_WI0, pm_WI1, pm_WI2, pm_WI3, pm_WI4, pm_WI5, pm_WV, pm_WW, pm_WX, pb_B194, pm_if, pm_QI_at, pm_QL_at, pm_QV_at, pm_QR_at, pm_QR_at0, pm_QR_at1, Nat.reduceSub, Nat.reduceAdd, List.replicate_zero, List.replicate_succ]
    have eR : gx_bd ((p + 1, some ()) : gx_R Unit) (fun _ p => gx_num (gx_b f n) 1 1 p) = gx_num (gx_b f n) 1 1 (p + 1) := rfl
    rw [eR]
    rcases gx_two (gx_num (gx_b f n) 1 1 (p + 1)) with ⟨x, ex⟩ | ⟨x, u, ex⟩
    · rw [ex]; rw [gx_bd_none ex] at h
      exact h 0 (Or.inl rfl) (fun e z => (by cases z))
    · rw [ex]; rw [gx_bd_some ex] at h
      refine h 0 (Or.inl rfl) (fun e z => ?_)
      cases z; rw [hv1 (by rw [gx_st_mod (by omega)]; omega)]; rfl
  · subst t2
    have hm0 : ¬ nI m < 0 := nI_pos (by omega)
    have hm1 : 0 ≤ nI m := nI_pos' (by omega)
    have hmv : vp_in (nI m) 40 := vp_in_nI m1 (by decide)
    refine pm_wb_ok pb_c194 8 48 0 _ _ _ _ _ ?_
    try simp only [pm_WI0, pm_WI1, pm_WI2, pm_WI3, pm_WI4, pm_WI5, pm_WV, pm_WW, pm_WX, pb_B194, pm_if, pm_QI_at, pm_QL_at, pm_QV_at, pm_QR_at, pm_QR_at0, pm_QR_at1, Nat.reduceSub, Nat.reduceAdd, List.replicate_zero, List.replicate_succ, true_and, and_true, true_or, or_true, and_self, reduceIte, Nat.reduceEqDiff, Nat.reduceLT, Nat.reduceLeDiff, Nat.reduceMul, false_and, and_false, reduceCtorEq, false_or, or_false, not_true_eq_false, not_false_eq_true, true_implies, false_implies, implies_true, lf_10, eq_self, Int32.reduceLT, Int32.reduceLE, Int32.reduceAdd, Int32.reduceSub, pm_same, pm_i_wI, pm_l_wL, pm_l_wM, pm_oR_rf, pm_oQ_rf, sh_k59 hS, sh_r59_25 hS, sh_k80 hS, sh_z80 hS, sh_r59_27 hS, sh_k81 hS, sh_z81 hS, mst_w46, mst_w48, mst_w49, mst_46, mst_48, mst_49, mst_k, mst_z, mst_r, mst_n, mst_l, mst_R62, mst_R64, mst_R65, mst_R66, mst_R67, mst_R78, mst_R80, mst_R81, mst_F18, mst_F24, mst_F45, mst_F47, mst_F50, mst_F51, nI_1, LQ1, LQ2, LQ4, LQ1, LQ2, ms_k, ms_z, ms_r, ms_49, ms_w49, ms_R62, ms_R64, ms_R65, ms_R66, ms_R67, ms_R75, ms_R76, ms_R77, ms_R78, ms_R79, ms_R80, ms_R81, ms_R95, ms_R96, ms_R97, ms_F0, ms_F2, ms_F18, ms_F24, ms_F31, ms_F26, ms_F45, ms_F47, ms_F50, ms_F51, ms_F52, ms_F53, ms_F54, ms_F55, ms_F56, ms_F57, ms_F58, ms_F59, ms_F60, ms_F61, ms_F62, ms_F63, sh_r59_8 hS, sh_k65 hS, sh_z65 hS, sh_r59_10 hS, sh_k67 hS, sh_z67 hS, sh_r59_9 hS, sh_k66 hS, sh_z66 hS, sh_r59_22 hS, sh_k78 hS, sh_z78 hS, m3, nI_clamp (show m < 2 ^ 31 by omega), hm0, hm1, hmv]
    refine ⟨by omega, mr_188 (S := S) (o := o) (r := (p + 1, some ())) (by omega) hS hm (by show p + 1 ≤ n; omega) ?_⟩
    try simp only [pm_WV, pm_WW, true_and, and_true, true_or, or_true, and_self, reduceIte, Nat.reduceEqDiff, Nat.reduceLT, Nat.reduceLeDiff, Nat.reduceMul, false_and, and_false, reduceCtorEq, false_or, or_false, not_true_eq_false, not_false_eq_true, true_implies, false_implies, implies_true, lf_10, eq_self, Int32.reduceLT, Int32.reduceLE, Int32.reduceAdd, Int32.reduceSub, pm_same, pm_i_wI, pm_l_wL, pm_l_wM, pm_oR_rf, pm_oQ_rf, sh_k59 hS, sh_r59_25 hS, sh_k80 hS, sh_z80 hS, sh_r59_27 hS, sh_k81 hS, sh_z81 hS, mst_w46, mst_w48, mst_w49, mst_46, mst_48, mst_49, mst_k, mst_z, mst_r, mst_n, mst_l, mst_R62, mst_R64, mst_R65, mst_R66, mst_R67, mst_R78, mst_R80, mst_R81, mst_F18, mst_F24, mst_F45, mst_F47, mst_F50, mst_F51, nI_1, LQ1, LQ2, LQ4, LQ1, LQ2, ms_k, ms_z, ms_r, ms_49, ms_w49, ms_R62, ms_R64, ms_R65, ms_R66, ms_R67, ms_R75, ms_R76, ms_R77, ms_R78, ms_R79, ms_R80, ms_R81, ms_R95, ms_R96, ms_R97, ms_F0, ms_F2, ms_F18, ms_F24, ms_F31, ms_F26, ms_F45, ms_F47, ms_F50, ms_F51, ms_F52, ms_F53, ms_F54, ms_F55, ms_F56, ms_F57, ms_F58, ms_F59, ms_F60, ms_F61, ms_F62, ms_F63, sh_r59_8 hS, sh_k65 hS, sh_z65 hS, sh_r59_10 hS, sh_k67 hS, sh_z67 hS, sh_r59_9 hS, sh_k66 hS, sh_z66 hS, sh_r59_22 hS, sh_k78 hS, sh_z78 hS, m3, nI_clamp (show m < 2 ^ 31 by omega), hm0, hm1, hmv, pm_WI0, pm_WI1, pm_WI2, pm_WI3, pm_WI4, pm_WI5, pm_WV, pm_WW, pm_WX, pb_B194, pm_if, pm_QI_at, pm_QL_at, pm_QV_at, pm_QR_at, pm_QR_at0, pm_QR_at1, Nat.reduceSub, Nat.reduceAdd, List.replicate_zero, List.replicate_succ]
    have eR : gx_bd ((p + 1, some ()) : gx_R Unit) (fun _ p => gx_num (gx_b f n) 1 1 p) = gx_num (gx_b f n) 1 1 (p + 1) := rfl
    rw [eR]
    refine ⟨by omega, ac_195 (n := iv_c S 24) (by omega) (show Sh _ from hS) (by simp only [ms_F24]; exact h24) h24b ?_⟩
    try simp only [pm_WV, pm_WW, true_and, and_true, true_or, or_true, and_self, reduceIte, Nat.reduceEqDiff, Nat.reduceLT, Nat.reduceLeDiff, Nat.reduceMul, false_and, and_false, reduceCtorEq, false_or, or_false, not_true_eq_false, not_false_eq_true, true_implies, false_implies, implies_true, lf_10, eq_self, Int32.reduceLT, Int32.reduceLE, Int32.reduceAdd, Int32.reduceSub, pm_same, pm_i_wI, pm_l_wL, pm_l_wM, pm_oR_rf, pm_oQ_rf, sh_k59 hS, sh_r59_25 hS, sh_k80 hS, sh_z80 hS, sh_r59_27 hS, sh_k81 hS, sh_z81 hS, mst_w46, mst_w48, mst_w49, mst_46, mst_48, mst_49, mst_k, mst_z, mst_r, mst_n, mst_l, mst_R62, mst_R64, mst_R65, mst_R66, mst_R67, mst_R78, mst_R80, mst_R81, mst_F18, mst_F24, mst_F45, mst_F47, mst_F50, mst_F51, nI_1, LQ1, LQ2, LQ4, LQ1, LQ2, ms_k, ms_z, ms_r, ms_49, ms_w49, ms_R62, ms_R64, ms_R65, ms_R66, ms_R67, ms_R75, ms_R76, ms_R77, ms_R78, ms_R79, ms_R80, ms_R81, ms_R95, ms_R96, ms_R97, ms_F0, ms_F2, ms_F18, ms_F24, ms_F31, ms_F26, ms_F45, ms_F47, ms_F50, ms_F51, ms_F52, ms_F53, ms_F54, ms_F55, ms_F56, ms_F57, ms_F58, ms_F59, ms_F60, ms_F61, ms_F62, ms_F63, sh_r59_8 hS, sh_k65 hS, sh_z65 hS, sh_r59_10 hS, sh_k67 hS, sh_z67 hS, sh_r59_9 hS, sh_k66 hS, sh_z66 hS, sh_r59_22 hS, sh_k78 hS, sh_z78 hS, m3, nI_clamp (show m < 2 ^ 31 by omega), hm0, hm1, hmv, pm_WI0, pm_WI1, pm_WI2, pm_WI3, pm_WI4, pm_WI5, pm_WV, pm_WW, pm_WX, pb_B194, pm_if, pm_QI_at, pm_QL_at, pm_QV_at, pm_QR_at, pm_QR_at0, pm_QR_at1, Nat.reduceSub, Nat.reduceAdd, List.replicate_zero, List.replicate_succ]
    change (oI (fa_f S m (vo (gx_num (gx_b f n) 1 1 (p + 1))) (pm_i S 59 51)) < 0 → _) ∧ (¬ oI (fa_f S m (vo (gx_num (gx_b f n) 1 1 (p + 1))) (pm_i S 59 51)) < 0 → _)
    rcases gx_two (gx_num (gx_b f n) 1 1 (p + 1)) with ⟨x, ex⟩ | ⟨x, u, ex⟩
    · rw [ex]; rw [gx_bd_none ex] at h
      exact ⟨fun _ => h 0 (Or.inl rfl) (fun e z => (by cases z)), fun _ => h 1 (Or.inr rfl) (fun e z => (by cases z))⟩
    · have hu := (gx_num_ok gx_b_eof (by omega) ex).2.2
      rw [ex]; rw [gx_bd_some ex] at h
      have hs := gx_st_s (k := 1) (s := u) (m := 0) (by omega) (by omega)
      have hmd := gx_st_mod (k := 1) (s := u) (m := 0) (by omega)
      have et : tv S m (pm_i S 59 51) (gx_st 1 u 0) = (fa_f S m (nI u) (pm_i S 59 51)).isSome := by unfold tv; rw [hmd, if_neg (by omega), if_pos rfl, hs.1]
      try simp only [vo]
      refine ⟨fun z2 => h 0 (Or.inl rfl) (fun e z => ?_), fun z2 => h 1 (Or.inr rfl) (fun e z => ?_)⟩ <;> cases z <;> rw [hv1 (by rw [hmd]; omega), et]
      · cases ha : fa_f S m (nI u) (pm_i S 59 51) with
        | none => rfl
        | some a =>
          rw [ha] at z2
          have := ac_f_lt ha
          exact absurd z2 (nI_pos (by omega))
      · cases ha : fa_f S m (nI u) (pm_i S 59 51) with
        | none => rw [ha] at z2; exact absurd (show (-1 : Int32) < 0 by decide) z2
        | some a => rfl
theorem mr_194_119 {G : pm_G} {d : Nat} {S : pm_S} {f : Nat → Int32} {n : Nat} {t : Nat → Bool} {o p : Nat} {q : Int32 → pm_S → Prop} {X Y : Value} (hd : 6 ≤ d) (hS : Sh S) (hm : mrc S f n) (h18 : iv_c S 18 ≤ 40) (h24 : pm_i S 59 24 = nI (iv_c S 24)) (h24b : iv_c S 24 ≤ 150) (ht : tq S t) (hp : p ≤ n) (y : gx_b f n p = 119) (h : ∀ b, (b = 0 ∨ b = 1) → (∀ e, (gx_bd (gx_num (gx_b f n) 1 1 (p + 1)) (fun s q => gx_cmp (gx_b f n) 2 s 2 q)).2 = some e → b = bI (gx_hv t e)) → q b (ms S o (un (gx_bd (gx_num (gx_b f n) 1 1 (p + 1)) (fun s q => gx_cmp (gx_b f n) 2 s 2 q))))) : pm_W G d 194 (pm_QI q) 98 [.ref 59, .int 119, .float 0, .float 0] [] (mst S (nI p) (-1) (nI o)) 0 0 := by
  have hn := hm.2.1
  have hpn : p < n := gx_lt gx_b_eof y (by omega)
  rcases tq_ok h18 ht with ⟨t1, t2⟩ | ⟨m, m1, m2, m3, t2⟩
  · subst t2
    refine pm_wb_ok pb_c194 8 98 0 _ _ _ _ _ ?_
    try simp only [pm_WI0, pm_WI1, pm_WI2, pm_WI3, pm_WI4, pm_WI5, pm_WV, pm_WW, pm_WX, pb_B194, pm_if, pm_QI_at, pm_QL_at, pm_QV_at, pm_QR_at, pm_QR_at0, pm_QR_at1, Nat.reduceSub, Nat.reduceAdd, List.replicate_zero, List.replicate_succ, true_and, and_true, true_or, or_true, and_self, reduceIte, Nat.reduceEqDiff, Nat.reduceLT, Nat.reduceLeDiff, Nat.reduceMul, false_and, and_false, reduceCtorEq, false_or, or_false, not_true_eq_false, not_false_eq_true, true_implies, false_implies, implies_true, lf_10, eq_self, Int32.reduceLT, Int32.reduceLE, Int32.reduceAdd, Int32.reduceSub, pm_same, pm_i_wI, pm_l_wL, pm_l_wM, pm_oR_rf, pm_oQ_rf, sh_k59 hS, sh_r59_25 hS, sh_k80 hS, sh_z80 hS, sh_r59_27 hS, sh_k81 hS, sh_z81 hS, mst_w46, mst_w48, mst_w49, mst_46, mst_48, mst_49, mst_k, mst_z, mst_r, mst_n, mst_l, mst_R62, mst_R64, mst_R65, mst_R66, mst_R67, mst_R78, mst_R80, mst_R81, mst_F18, mst_F24, mst_F45, mst_F47, mst_F50, mst_F51, nI_1, LQ1, LQ2, LQ4, LQ1, LQ2, ms_k, ms_z, ms_r, ms_49, ms_w49, ms_R62, ms_R64, ms_R65, ms_R66, ms_R67, ms_R75, ms_R76, ms_R77, ms_R78, ms_R79, ms_R80, ms_R81, ms_R95, ms_R96, ms_R97, ms_F0, ms_F2, ms_F18, ms_F24, ms_F31, ms_F26, ms_F45, ms_F47, ms_F50, ms_F51, ms_F52, ms_F53, ms_F54, ms_F55, ms_F56, ms_F57, ms_F58, ms_F59, ms_F60, ms_F61, ms_F62, ms_F63, sh_r59_8 hS, sh_k65 hS, sh_z65 hS, sh_r59_10 hS, sh_k67 hS, sh_z67 hS, sh_r59_9 hS, sh_k66 hS, sh_z66 hS, sh_r59_22 hS, sh_k78 hS, sh_z78 hS, t1]
    refine ⟨by omega, mr_188 (S := S) (o := o) (r := (p + 1, some ())) (by omega) hS hm (by show p + 1 ≤ n; omega) ?_⟩
    try simp only [pm_WV, pm_WW, true_and, and_true, true_or, or_true, and_self, reduceIte, Nat.reduceEqDiff, Nat.reduceLT, Nat.reduceLeDiff, Nat.reduceMul, false_and, and_false, reduceCtorEq, false_or, or_false, not_true_eq_false, not_false_eq_true, true_implies, false_implies, implies_true, lf_10, eq_self, Int32.reduceLT, Int32.reduceLE, Int32.reduceAdd, Int32.reduceSub, pm_same, pm_i_wI, pm_l_wL, pm_l_wM, pm_oR_rf, pm_oQ_rf, sh_k59 hS, sh_r59_25 hS, sh_k80 hS, sh_z80 hS, sh_r59_27 hS, sh_k81 hS, sh_z81 hS, mst_w46, mst_w48, mst_w49, mst_46, mst_48, mst_49, mst_k, mst_z, mst_r, mst_n, mst_l, mst_R62, mst_R64, mst_R65, mst_R66, mst_R67, mst_R78, mst_R80, mst_R81, mst_F18, mst_F24, mst_F45, mst_F47, mst_F50, mst_F51, nI_1, LQ1, LQ2, LQ4, LQ1, LQ2, ms_k, ms_z, ms_r, ms_49, ms_w49, ms_R62, ms_R64, ms_R65, ms_R66, ms_R67, ms_R75, ms_R76, ms_R77, ms_R78, ms_R79, ms_R80, ms_R81, ms_R95, ms_R96, ms_R97, ms_F0, ms_F2, ms_F18, ms_F24, ms_F31, ms_F26, ms_F45, ms_F47, ms_F50, ms_F51, ms_F52, ms_F53, ms_F54, ms_F55, ms_F56, ms_F57, ms_F58, ms_F59, ms_F60, ms_F61, ms_F62, ms_F63, sh_r59_8 hS, sh_k65 hS, sh_z65 hS, sh_r59_10 hS, sh_k67 hS, sh_z67 hS, sh_r59_9 hS, sh_k66 hS, sh_z66 hS, sh_r59_22 hS, sh_k78 hS, sh_z78 hS, t1, pm_WI0, pm_WI1, pm_WI2, pm_WI3, pm_WI4, pm_WI5, pm_WV, pm_WW, pm_WX, pb_B194, pm_if, pm_QI_at, pm_QL_at, pm_QV_at, pm_QR_at, pm_QR_at0, pm_QR_at1, Nat.reduceSub, Nat.reduceAdd, List.replicate_zero, List.replicate_succ]
    have eR : gx_bd ((p + 1, some ()) : gx_R Unit) (fun _ p => gx_num (gx_b f n) 1 1 p) = gx_num (gx_b f n) 1 1 (p + 1) := rfl
    rw [eR]
    obtain ⟨SS, hSS, hS16⟩ : ∃ SS : Nat, (match (gx_num (gx_b f n) 1 1 (p + 1)).2 with
      | none => SS = 0
      | some u => u = SS) ∧ SS < 16 := by
      rcases gx_two (gx_num (gx_b f n) 1 1 (p + 1)) with ⟨x, ex⟩ | ⟨x, u, ex⟩ <;> rw [ex]
      · exact ⟨0, rfl, by omega⟩
      · have hu := (gx_num_ok gx_b_eof (by omega) ex).2.2
        exact ⟨u, rfl, by omega⟩
    have eV : vo (gx_num (gx_b f n) 1 1 (p + 1)) = nI SS := by
      rcases gx_two (gx_num (gx_b f n) 1 1 (p + 1)) with ⟨x, ex⟩ | ⟨x, u, ex⟩ <;> rw [ex] at hSS ⊢
      · simp only at hSS; subst hSS; rfl
      · simp only at hSS; subst hSS; rfl
    have hun : (un (gx_num (gx_b f n) 1 1 (p + 1))).1 ≤ n := by
      rcases gx_two (gx_num (gx_b f n) 1 1 (p + 1)) with ⟨x, ex⟩ | ⟨x, u, ex⟩
      · have := gx_num_no ex; rw [ex]; show x ≤ n; omega
      · have := gx_num_ok gx_b_eof (by omega) ex; rw [ex]; show x ≤ n; omega
    refine ⟨by omega, mr_198 (S := S) (t := fun _ => false) (o := o) (r := un (gx_num (gx_b f n) 1 1 (p + 1))) (k := 2) (s := SS) (most := 2) (by omega) hS hm hun (by omega) (by omega) (Or.inl rfl) (by omega) (fun _ _ => rfl) (fun _ _ => rfl) ?_⟩
    refine (fun b hb he => ?_)
    have hh := h b hb (fun e z => ?_)
    · refine ⟨hb, ?_⟩
      rw [show un (gx_bd (gx_num (gx_b f n) 1 1 (p + 1)) (fun s q => gx_cmp (gx_b f n) 2 s 2 q)) = un (gx_bd (un (gx_num (gx_b f n) 1 1 (p + 1))) (fun _ q => gx_cmp (gx_b f n) 2 SS 2 q)) from ?_] at hh
      · exact hh
      · rcases gx_two (gx_num (gx_b f n) 1 1 (p + 1)) with ⟨x, ex⟩ | ⟨x, u, ex⟩ <;> rw [ex]
        · rfl
        · try simp only [ex] at hSS
          subst hSS; rfl
    · refine he e ?_
      rcases gx_two (gx_num (gx_b f n) 1 1 (p + 1)) with ⟨x, ex⟩ | ⟨x, u, ex⟩ <;> rw [ex] at z ⊢
      · cases z
      · try simp only [ex] at hSS
        subst hSS; exact z
  · subst t2
    have hm0 : ¬ nI m < 0 := nI_pos (by omega)
    have hm1 : 0 ≤ nI m := nI_pos' (by omega)
    have hmv : vp_in (nI m) 40 := vp_in_nI m1 (by decide)
    refine pm_wb_ok pb_c194 8 98 0 _ _ _ _ _ ?_
    try simp only [pm_WI0, pm_WI1, pm_WI2, pm_WI3, pm_WI4, pm_WI5, pm_WV, pm_WW, pm_WX, pb_B194, pm_if, pm_QI_at, pm_QL_at, pm_QV_at, pm_QR_at, pm_QR_at0, pm_QR_at1, Nat.reduceSub, Nat.reduceAdd, List.replicate_zero, List.replicate_succ, true_and, and_true, true_or, or_true, and_self, reduceIte, Nat.reduceEqDiff, Nat.reduceLT, Nat.reduceLeDiff, Nat.reduceMul, false_and, and_false, reduceCtorEq, false_or, or_false, not_true_eq_false, not_false_eq_true, true_implies, false_implies, implies_true, lf_10, eq_self, Int32.reduceLT, Int32.reduceLE, Int32.reduceAdd, Int32.reduceSub, pm_same, pm_i_wI, pm_l_wL, pm_l_wM, pm_oR_rf, pm_oQ_rf, sh_k59 hS, sh_r59_25 hS, sh_k80 hS, sh_z80 hS, sh_r59_27 hS, sh_k81 hS, sh_z81 hS, mst_w46, mst_w48, mst_w49, mst_46, mst_48, mst_49, mst_k, mst_z, mst_r, mst_n, mst_l, mst_R62, mst_R64, mst_R65, mst_R66, mst_R67, mst_R78, mst_R80, mst_R81, mst_F18, mst_F24, mst_F45, mst_F47, mst_F50, mst_F51, nI_1, LQ1, LQ2, LQ4, LQ1, LQ2, ms_k, ms_z, ms_r, ms_49, ms_w49, ms_R62, ms_R64, ms_R65, ms_R66, ms_R67, ms_R75, ms_R76, ms_R77, ms_R78, ms_R79, ms_R80, ms_R81, ms_R95, ms_R96, ms_R97, ms_F0, ms_F2, ms_F18, ms_F24, ms_F31, ms_F26, ms_F45, ms_F47, ms_F50, ms_F51, ms_F52, ms_F53, ms_F54, ms_F55, ms_F56, ms_F57, ms_F58, ms_F59, ms_F60, ms_F61, ms_F62, ms_F63, sh_r59_8 hS, sh_k65 hS, sh_z65 hS, sh_r59_10 hS, sh_k67 hS, sh_z67 hS, sh_r59_9 hS, sh_k66 hS, sh_z66 hS, sh_r59_22 hS, sh_k78 hS, sh_z78 hS, m3, nI_clamp (show m < 2 ^ 31 by omega), hm0, hm1, hmv]
    refine ⟨by omega, mr_188 (S := S) (o := o) (r := (p + 1, some ())) (by omega) hS hm (by show p + 1 ≤ n; omega) ?_⟩
    try simp only [pm_WV, pm_WW, true_and, and_true, true_or, or_true, and_self, reduceIte, Nat.reduceEqDiff, Nat.reduceLT, Nat.reduceLeDiff, Nat.reduceMul, false_and, and_false, reduceCtorEq, false_or, or_false, not_true_eq_false, not_false_eq_true, true_implies, false_implies, implies_true, lf_10, eq_self, Int32.reduceLT, Int32.reduceLE, Int32.reduceAdd, Int32.reduceSub, pm_same, pm_i_wI, pm_l_wL, pm_l_wM, pm_oR_rf, pm_oQ_rf, sh_k59 hS, sh_r59_25 hS, sh_k80 hS, sh_z80 hS, sh_r59_27 hS, sh_k81 hS, sh_z81 hS, mst_w46, mst_w48, mst_w49, mst_46, mst_48, mst_49, mst_k, mst_z, mst_r, mst_n, mst_l, mst_R62, mst_R64, mst_R65, mst_R66, mst_R67, mst_R78, mst_R80, mst_R81, mst_F18, mst_F24, mst_F45, mst_F47, mst_F50, mst_F51, nI_1, LQ1, LQ2, LQ4, LQ1, LQ2, ms_k, ms_z, ms_r, ms_49, ms_w49, ms_R62, ms_R64, ms_R65, ms_R66, ms_R67, ms_R75, ms_R76, ms_R77, ms_R78, ms_R79, ms_R80, ms_R81, ms_R95, ms_R96, ms_R97, ms_F0, ms_F2, ms_F18, ms_F24, ms_F31, ms_F26, ms_F45, ms_F47, ms_F50, ms_F51, ms_F52, ms_F53, ms_F54, ms_F55, ms_F56, ms_F57, ms_F58, ms_F59, ms_F60, ms_F61, ms_F62, ms_F63, sh_r59_8 hS, sh_k65 hS, sh_z65 hS, sh_r59_10 hS, sh_k67 hS, sh_z67 hS, sh_r59_9 hS, sh_k66 hS, sh_z66 hS, sh_r59_22 hS, sh_k78 hS, sh_z78 hS, m3, nI_clamp (show m < 2 ^ 31 by omega), hm0, hm1, hmv, pm_WI0, pm_WI1, pm_WI2, pm_WI3, pm_WI4, pm_WI5, pm_WV, pm_WW, pm_WX, pb_B194, pm_if, pm_QI_at, pm_QL_at, pm_QV_at, pm_QR_at, pm_QR_at0, pm_QR_at1, Nat.reduceSub, Nat.reduceAdd, List.replicate_zero, List.replicate_succ]
    have eR : gx_bd ((p + 1, some ()) : gx_R Unit) (fun _ p => gx_num (gx_b f n) 1 1 p) = gx_num (gx_b f n) 1 1 (p + 1) := rfl
    rw [eR]
    obtain ⟨SS, hSS, hS16⟩ : ∃ SS : Nat, (match (gx_num (gx_b f n) 1 1 (p + 1)).2 with
      | none => SS = 0
      | some u => u = SS) ∧ SS < 16 := by
      rcases gx_two (gx_num (gx_b f n) 1 1 (p + 1)) with ⟨x, ex⟩ | ⟨x, u, ex⟩ <;> rw [ex]
      · exact ⟨0, rfl, by omega⟩
      · have hu := (gx_num_ok gx_b_eof (by omega) ex).2.2
        exact ⟨u, rfl, by omega⟩
    have eV : vo (gx_num (gx_b f n) 1 1 (p + 1)) = nI SS := by
      rcases gx_two (gx_num (gx_b f n) 1 1 (p + 1)) with ⟨x, ex⟩ | ⟨x, u, ex⟩ <;> rw [ex] at hSS ⊢
      · simp only at hSS; subst hSS; rfl
      · simp only at hSS; subst hSS; rfl
    have hun : (un (gx_num (gx_b f n) 1 1 (p + 1))).1 ≤ n := by
      rcases gx_two (gx_num (gx_b f n) 1 1 (p + 1)) with ⟨x, ex⟩ | ⟨x, u, ex⟩
      · have := gx_num_no ex; rw [ex]; show x ≤ n; omega
      · have := gx_num_ok gx_b_eof (by omega) ex; rw [ex]; show x ≤ n; omega
    rw [eV]
    refine ⟨by omega, ac_197 (n := iv_c S 24) (by omega) (show Sh _ from hS) (by simp only [ms_F24]; exact h24) h24b ?_⟩
    try simp only [pm_WV, pm_WW, true_and, and_true, true_or, or_true, and_self, reduceIte, Nat.reduceEqDiff, Nat.reduceLT, Nat.reduceLeDiff, Nat.reduceMul, false_and, and_false, reduceCtorEq, false_or, or_false, not_true_eq_false, not_false_eq_true, true_implies, false_implies, implies_true, lf_10, eq_self, Int32.reduceLT, Int32.reduceLE, Int32.reduceAdd, Int32.reduceSub, pm_same, pm_i_wI, pm_l_wL, pm_l_wM, pm_oR_rf, pm_oQ_rf, sh_k59 hS, sh_r59_25 hS, sh_k80 hS, sh_z80 hS, sh_r59_27 hS, sh_k81 hS, sh_z81 hS, mst_w46, mst_w48, mst_w49, mst_46, mst_48, mst_49, mst_k, mst_z, mst_r, mst_n, mst_l, mst_R62, mst_R64, mst_R65, mst_R66, mst_R67, mst_R78, mst_R80, mst_R81, mst_F18, mst_F24, mst_F45, mst_F47, mst_F50, mst_F51, nI_1, LQ1, LQ2, LQ4, LQ1, LQ2, ms_k, ms_z, ms_r, ms_49, ms_w49, ms_R62, ms_R64, ms_R65, ms_R66, ms_R67, ms_R75, ms_R76, ms_R77, ms_R78, ms_R79, ms_R80, ms_R81, ms_R95, ms_R96, ms_R97, ms_F0, ms_F2, ms_F18, ms_F24, ms_F31, ms_F26, ms_F45, ms_F47, ms_F50, ms_F51, ms_F52, ms_F53, ms_F54, ms_F55, ms_F56, ms_F57, ms_F58, ms_F59, ms_F60, ms_F61, ms_F62, ms_F63, sh_r59_8 hS, sh_k65 hS, sh_z65 hS, sh_r59_10 hS, sh_k67 hS, sh_z67 hS, sh_r59_9 hS, sh_k66 hS, sh_z66 hS, sh_r59_22 hS, sh_k78 hS, sh_z78 hS, m3, nI_clamp (show m < 2 ^ 31 by omega), hm0, hm1, hmv, pm_WI0, pm_WI1, pm_WI2, pm_WI3, pm_WI4, pm_WI5, pm_WV, pm_WW, pm_WX, pb_B194, pm_if, pm_QI_at, pm_QL_at, pm_QV_at, pm_QR_at, pm_QR_at0, pm_QR_at1, Nat.reduceSub, Nat.reduceAdd, List.replicate_zero, List.replicate_succ]
    have hst : ∀ (k : Nat), k < 8 → ∀ u, gx_st k SS u % 16 = k ∧ gx_st k SS u / 16 % 16 = SS ∧ gx_st k SS u / 256 = u := fun k hk u => ⟨gx_st_mod (by omega), gx_st_s (by omega) hS16⟩
    have e2 : ∀ u, tv S m (pm_i S 59 51) (gx_st 2 SS u) = tv_w S (fa_l S m (nI SS) (pm_i S 59 51)) true (nI u) := fun u => by
      obtain ⟨a1, a2, a3⟩ := hst 2 (by omega) u
      unfold tv; rw [a1, a2, a3]; rfl
    have e3 : ∀ u, tv S m (pm_i S 59 51) (gx_st (2 + 1) SS u) = tv_w S (fa_l S m (nI SS) (pm_i S 59 51)) false (nI u) := fun u => by
      obtain ⟨a1, a2, a3⟩ := hst 3 (by omega) u
      unfold tv; rw [a1, a2, a3]; rfl
    have hfa : ac_f (ac_m (pm_i S 75) (nI m) (ac_c (pm_i S 76) (pm_i S 79) (nI SS) (pm_i S 59 51))) (ac_bt (pm_i S 77) true) (List.range (iv_c S 24)) none = fa_l S m (nI SS) (pm_i S 59 51) := rfl
    rw [hfa]
    cases ha : fa_l S m (nI SS) (pm_i S 59 51) with
    | none =>
      try simp only [ha] at e2 e3
      refine ⟨fun z => absurd z (by decide), fun _ => ⟨fun _ => ⟨by omega, mr_198 (S := S) (t := tv S m (pm_i S 59 51)) (o := o) (r := un (gx_num (gx_b f n) 1 1 (p + 1))) (k := 2) (s := SS) (most := 2) (by omega) hS hm hun (by omega) (by omega) (Or.inl rfl) (by omega) (fun u _ => by rw [e2]; rfl) (fun u _ => by rw [e3]; rfl) ?_⟩, fun z => absurd (show (-1 : Int32) < 0 by decide) z⟩⟩
      refine (fun b hb he => ?_)
      have hh := h b hb (fun e z => ?_)
      · refine ⟨hb, ?_⟩
        rw [show un (gx_bd (gx_num (gx_b f n) 1 1 (p + 1)) (fun s q => gx_cmp (gx_b f n) 2 s 2 q)) = un (gx_bd (un (gx_num (gx_b f n) 1 1 (p + 1))) (fun _ q => gx_cmp (gx_b f n) 2 SS 2 q)) from ?_] at hh
        · exact hh
        · rcases gx_two (gx_num (gx_b f n) 1 1 (p + 1)) with ⟨x, ex⟩ | ⟨x, u, ex⟩ <;> rw [ex]
          · rfl
          · try simp only [ex] at hSS
            subst hSS; rfl
      · refine he e ?_
        rcases gx_two (gx_num (gx_b f n) 1 1 (p + 1)) with ⟨x, ex⟩ | ⟨x, u, ex⟩ <;> rw [ex] at z ⊢
        · cases z
        · try simp only [ex] at hSS
          subst hSS; exact z
    | some a =>
      have hal := fa_lt ha
      try simp only [ha] at e2 e3
      have hoi : oI (some a) = nI a := rfl
      rw [hoi, nI_clamp (by omega)]
      refine ⟨fun _ => ⟨vp_in_nI (by omega) (by decide), fun z => absurd z (nI_pos (by omega)), fun _ => ⟨by omega, mr_198 (S := S) (t := tv S m (pm_i S 59 51)) (o := o) (r := un (gx_num (gx_b f n) 1 1 (p + 1))) (k := 2) (s := SS) (most := 2) (by omega) hS hm hun (by omega) (by omega) (Or.inr rfl) (by omega) (fun u _ => by rw [e2]; rfl) (fun u _ => by rw [e3]; rfl) ?_⟩⟩, fun z => absurd (nI_pos' (by omega)) z⟩
      refine (fun b hb he => ?_)
      have hh := h b hb (fun e z => ?_)
      · refine ⟨hb, ?_⟩
        rw [show un (gx_bd (gx_num (gx_b f n) 1 1 (p + 1)) (fun s q => gx_cmp (gx_b f n) 2 s 2 q)) = un (gx_bd (un (gx_num (gx_b f n) 1 1 (p + 1))) (fun _ q => gx_cmp (gx_b f n) 2 SS 2 q)) from ?_] at hh
        · exact hh
        · rcases gx_two (gx_num (gx_b f n) 1 1 (p + 1)) with ⟨x, ex⟩ | ⟨x, u, ex⟩ <;> rw [ex]
          · rfl
          · try simp only [ex] at hSS
            subst hSS; rfl
      · refine he e ?_
        rcases gx_two (gx_num (gx_b f n) 1 1 (p + 1)) with ⟨x, ex⟩ | ⟨x, u, ex⟩ <;> rw [ex] at z ⊢
        · cases z
        · try simp only [ex] at hSS
          subst hSS; exact z
theorem mr_194_108 {G : pm_G} {d : Nat} {S : pm_S} {f : Nat → Int32} {n : Nat} {t : Nat → Bool} {o p : Nat} {q : Int32 → pm_S → Prop} {X Y : Value} (hd : 6 ≤ d) (hS : Sh S) (hm : mrc S f n) (h18 : iv_c S 18 ≤ 40) (h24 : pm_i S 59 24 = nI (iv_c S 24)) (h24b : iv_c S 24 ≤ 150) (ht : tq S t) (hp : p ≤ n) (y : gx_b f n p = 108) (h : ∀ b, (b = 0 ∨ b = 1) → (∀ e, (gx_cmp (gx_b f n) 4 0 4 (p + 1)).2 = some e → b = bI (gx_hv t e)) → q b (ms S o (un (gx_cmp (gx_b f n) 4 0 4 (p + 1))))) : pm_W G d 194 (pm_QI q) 173 [.ref 59, .int 108, .float 0, .float 0] [] (mst S (nI p) (-1) (nI o)) 0 0 := by
  have hn := hm.2.1
  have hpn : p < n := gx_lt gx_b_eof y (by omega)
  rcases tq_ok h18 ht with ⟨t1, t2⟩ | ⟨m, m1, m2, m3, t2⟩
  · subst t2
    refine pm_wb_ok pb_c194 8 173 0 _ _ _ _ _ ?_
    try simp only [pm_WI0, pm_WI1, pm_WI2, pm_WI3, pm_WI4, pm_WI5, pm_WV, pm_WW, pm_WX, pb_B194, pm_if, pm_QI_at, pm_QL_at, pm_QV_at, pm_QR_at, pm_QR_at0, pm_QR_at1, Nat.reduceSub, Nat.reduceAdd, List.replicate_zero, List.replicate_succ, true_and, and_true, true_or, or_true, and_self, reduceIte, Nat.reduceEqDiff, Nat.reduceLT, Nat.reduceLeDiff, Nat.reduceMul, false_and, and_false, reduceCtorEq, false_or, or_false, not_true_eq_false, not_false_eq_true, true_implies, false_implies, implies_true, lf_10, eq_self, Int32.reduceLT, Int32.reduceLE, Int32.reduceAdd, Int32.reduceSub, pm_same, pm_i_wI, pm_l_wL, pm_l_wM, pm_oR_rf, pm_oQ_rf, sh_k59 hS, sh_r59_25 hS, sh_k80 hS, sh_z80 hS, sh_r59_27 hS, sh_k81 hS, sh_z81 hS, mst_w46, mst_w48, mst_w49, mst_46, mst_48, mst_49, mst_k, mst_z, mst_r, mst_n, mst_l, mst_R62, mst_R64, mst_R65, mst_R66, mst_R67, mst_R78, mst_R80, mst_R81, mst_F18, mst_F24, mst_F45, mst_F47, mst_F50, mst_F51, nI_1, LQ1, LQ2, LQ4, LQ1, LQ2, ms_k, ms_z, ms_r, ms_49, ms_w49, ms_R62, ms_R64, ms_R65, ms_R66, ms_R67, ms_R75, ms_R76, ms_R77, ms_R78, ms_R79, ms_R80, ms_R81, ms_R95, ms_R96, ms_R97, ms_F0, ms_F2, ms_F18, ms_F24, ms_F31, ms_F26, ms_F45, ms_F47, ms_F50, ms_F51, ms_F52, ms_F53, ms_F54, ms_F55, ms_F56, ms_F57, ms_F58, ms_F59, ms_F60, ms_F61, ms_F62, ms_F63, sh_r59_8 hS, sh_k65 hS, sh_z65 hS, sh_r59_10 hS, sh_k67 hS, sh_z67 hS, sh_r59_9 hS, sh_k66 hS, sh_z66 hS, sh_r59_22 hS, sh_k78 hS, sh_z78 hS, t1]
    refine ⟨by omega, mr_198 (S := S) (t := fun _ => false) (o := o) (r := (p + 1, some ())) (k := 4) (s := 0) (most := 4) (by omega) hS hm (by show p + 1 ≤ n; omega) (by omega) (by omega) (Or.inl rfl) (by omega) (fun _ _ => rfl) (fun _ _ => rfl) (fun b hb he => ⟨hb, h b hb he⟩)⟩
  · subst t2
    have hm0 : ¬ nI m < 0 := nI_pos (by omega)
    have hm1 : 0 ≤ nI m := nI_pos' (by omega)
    have hmv : vp_in (nI m) 40 := vp_in_nI m1 (by decide)
    refine pm_wb_ok pb_c194 8 173 0 _ _ _ _ _ ?_
    try simp only [pm_WI0, pm_WI1, pm_WI2, pm_WI3, pm_WI4, pm_WI5, pm_WV, pm_WW, pm_WX, pb_B194, pm_if, pm_QI_at, pm_QL_at, pm_QV_at, pm_QR_at, pm_QR_at0, pm_QR_at1, Nat.reduceSub, Nat.reduceAdd, List.replicate_zero, List.replicate_succ, true_and, and_true, true_or, or_true, and_self, reduceIte, Nat.reduceEqDiff, Nat.reduceLT, Nat.reduceLeDiff, Nat.reduceMul, false_and, and_false, reduceCtorEq, false_or, or_false, not_true_eq_false, not_false_eq_true, true_implies, false_implies, implies_true, lf_10, eq_self, Int32.reduceLT, Int32.reduceLE, Int32.reduceAdd, Int32.reduceSub, pm_same, pm_i_wI, pm_l_wL, pm_l_wM, pm_oR_rf, pm_oQ_rf, sh_k59 hS, sh_r59_25 hS, sh_k80 hS, sh_z80 hS, sh_r59_27 hS, sh_k81 hS, sh_z81 hS, mst_w46, mst_w48, mst_w49, mst_46, mst_48, mst_49, mst_k, mst_z, mst_r, mst_n, mst_l, mst_R62, mst_R64, mst_R65, mst_R66, mst_R67, mst_R78, mst_R80, mst_R81, mst_F18, mst_F24, mst_F45, mst_F47, mst_F50, mst_F51, nI_1, LQ1, LQ2, LQ4, LQ1, LQ2, ms_k, ms_z, ms_r, ms_49, ms_w49, ms_R62, ms_R64, ms_R65, ms_R66, ms_R67, ms_R75, ms_R76, ms_R77, ms_R78, ms_R79, ms_R80, ms_R81, ms_R95, ms_R96, ms_R97, ms_F0, ms_F2, ms_F18, ms_F24, ms_F31, ms_F26, ms_F45, ms_F47, ms_F50, ms_F51, ms_F52, ms_F53, ms_F54, ms_F55, ms_F56, ms_F57, ms_F58, ms_F59, ms_F60, ms_F61, ms_F62, ms_F63, sh_r59_8 hS, sh_k65 hS, sh_z65 hS, sh_r59_10 hS, sh_k67 hS, sh_z67 hS, sh_r59_9 hS, sh_k66 hS, sh_z66 hS, sh_r59_22 hS, sh_k78 hS, sh_z78 hS, m3, nI_clamp (show m < 2 ^ 31 by omega), hm0, hm1, hmv]
    have hst : ∀ (k : Nat), k < 8 → ∀ u, gx_st k 0 u % 16 = k ∧ gx_st k 0 u / 256 = u := fun k hk u => ⟨gx_st_mod (by omega), (gx_st_s (by omega) (by omega)).2⟩
    have e2 : ∀ u, tv S m (pm_i S 59 51) (gx_st 4 0 u) = decide (pm_i S 67 m < nI u) := fun u => by
      obtain ⟨a1, a3⟩ := hst 4 (by omega) u
      unfold tv; rw [a1, a3]; rfl
    have e3 : ∀ u, tv S m (pm_i S 59 51) (gx_st (4 + 1) 0 u) = decide (nI u < pm_i S 67 m) := fun u => by
      obtain ⟨a1, a3⟩ := hst 5 (by omega) u
      unfold tv; rw [a1, a3]; rfl
    refine ⟨by omega, mr_198 (S := S) (t := tv S m (pm_i S 59 51)) (o := o) (r := (p + 1, some ())) (k := 4) (s := 0) (most := 4) (by omega) hS hm (by show p + 1 ≤ n; omega) (by omega) (by omega) (Or.inr rfl) (by omega) (fun u _ => by rw [e2]; simp) (fun u _ => by rw [e3]; simp) (fun b hb he => ⟨hb, h b hb he⟩)⟩
theorem mr_194_100 {G : pm_G} {d : Nat} {S : pm_S} {f : Nat → Int32} {n : Nat} {t : Nat → Bool} {o p : Nat} {q : Int32 → pm_S → Prop} {X Y : Value} (hd : 6 ≤ d) (hS : Sh S) (hm : mrc S f n) (h18 : iv_c S 18 ≤ 40) (h24 : pm_i S 59 24 = nI (iv_c S 24)) (h24b : iv_c S 24 ≤ 150) (ht : tq S t) (hp : p ≤ n) (y : gx_b f n p = 100) (h : ∀ b, (b = 0 ∨ b = 1) → (∀ e, (gx_cmp (gx_b f n) 6 0 4 (p + 1)).2 = some e → b = bI (gx_hv t e)) → q b (ms S o (un (gx_cmp (gx_b f n) 6 0 4 (p + 1))))) : pm_W G d 194 (pm_QI q) 227 [.ref 59, .int 100, .float 0, .float 0] [] (mst S (nI p) (-1) (nI o)) 0 0 := by
  have hn := hm.2.1
  have hpn : p < n := gx_lt gx_b_eof y (by omega)
  rcases tq_ok h18 ht with ⟨t1, t2⟩ | ⟨m, m1, m2, m3, t2⟩
  · subst t2
    refine pm_wb_ok pb_c194 8 227 0 _ _ _ _ _ ?_
    try simp only [pm_WI0, pm_WI1, pm_WI2, pm_WI3, pm_WI4, pm_WI5, pm_WV, pm_WW, pm_WX, pb_B194, pm_if, pm_QI_at, pm_QL_at, pm_QV_at, pm_QR_at, pm_QR_at0, pm_QR_at1, Nat.reduceSub, Nat.reduceAdd, List.replicate_zero, List.replicate_succ, true_and, and_true, true_or, or_true, and_self, reduceIte, Nat.reduceEqDiff, Nat.reduceLT, Nat.reduceLeDiff, Nat.reduceMul, false_and, and_false, reduceCtorEq, false_or, or_false, not_true_eq_false, not_false_eq_true, true_implies, false_implies, implies_true, lf_10, eq_self, Int32.reduceLT, Int32.reduceLE, Int32.reduceAdd, Int32.reduceSub, pm_same, pm_i_wI, pm_l_wL, pm_l_wM, pm_oR_rf, pm_oQ_rf, sh_k59 hS, sh_r59_25 hS, sh_k80 hS, sh_z80 hS, sh_r59_27 hS, sh_k81 hS, sh_z81 hS, mst_w46, mst_w48, mst_w49, mst_46, mst_48, mst_49, mst_k, mst_z, mst_r, mst_n, mst_l, mst_R62, mst_R64, mst_R65, mst_R66, mst_R67, mst_R78, mst_R80, mst_R81, mst_F18, mst_F24, mst_F45, mst_F47, mst_F50, mst_F51, nI_1, LQ1, LQ2, LQ4, LQ1, LQ2, ms_k, ms_z, ms_r, ms_49, ms_w49, ms_R62, ms_R64, ms_R65, ms_R66, ms_R67, ms_R75, ms_R76, ms_R77, ms_R78, ms_R79, ms_R80, ms_R81, ms_R95, ms_R96, ms_R97, ms_F0, ms_F2, ms_F18, ms_F24, ms_F31, ms_F26, ms_F45, ms_F47, ms_F50, ms_F51, ms_F52, ms_F53, ms_F54, ms_F55, ms_F56, ms_F57, ms_F58, ms_F59, ms_F60, ms_F61, ms_F62, ms_F63, sh_r59_8 hS, sh_k65 hS, sh_z65 hS, sh_r59_10 hS, sh_k67 hS, sh_z67 hS, sh_r59_9 hS, sh_k66 hS, sh_z66 hS, sh_r59_22 hS, sh_k78 hS, sh_z78 hS, t1]
    refine ⟨by omega, mr_198 (S := S) (t := fun _ => false) (o := o) (r := (p + 1, some ())) (k := 6) (s := 0) (most := 4) (by omega) hS hm (by show p + 1 ≤ n; omega) (by omega) (by omega) (Or.inl rfl) (by omega) (fun _ _ => rfl) (fun _ _ => rfl) (fun b hb he => ⟨hb, h b hb he⟩)⟩
  · subst t2
    have hm0 : ¬ nI m < 0 := nI_pos (by omega)
    have hm1 : 0 ≤ nI m := nI_pos' (by omega)
    have hmv : vp_in (nI m) 40 := vp_in_nI m1 (by decide)
    refine pm_wb_ok pb_c194 8 227 0 _ _ _ _ _ ?_
    try simp only [pm_WI0, pm_WI1, pm_WI2, pm_WI3, pm_WI4, pm_WI5, pm_WV, pm_WW, pm_WX, pb_B194, pm_if, pm_QI_at, pm_QL_at, pm_QV_at, pm_QR_at, pm_QR_at0, pm_QR_at1, Nat.reduceSub, Nat.reduceAdd, List.replicate_zero, List.replicate_succ, true_and, and_true, true_or, or_true, and_self, reduceIte, Nat.reduceEqDiff, Nat.reduceLT, Nat.reduceLeDiff, Nat.reduceMul, false_and, and_false, reduceCtorEq, false_or, or_false, not_true_eq_false, not_false_eq_true, true_implies, false_implies, implies_true, lf_10, eq_self, Int32.reduceLT, Int32.reduceLE, Int32.reduceAdd, Int32.reduceSub, pm_same, pm_i_wI, pm_l_wL, pm_l_wM, pm_oR_rf, pm_oQ_rf, sh_k59 hS, sh_r59_25 hS, sh_k80 hS, sh_z80 hS, sh_r59_27 hS, sh_k81 hS, sh_z81 hS, mst_w46, mst_w48, mst_w49, mst_46, mst_48, mst_49, mst_k, mst_z, mst_r, mst_n, mst_l, mst_R62, mst_R64, mst_R65, mst_R66, mst_R67, mst_R78, mst_R80, mst_R81, mst_F18, mst_F24, mst_F45, mst_F47, mst_F50, mst_F51, nI_1, LQ1, LQ2, LQ4, LQ1, LQ2, ms_k, ms_z, ms_r, ms_49, ms_w49, ms_R62, ms_R64, ms_R65, ms_R66, ms_R67, ms_R75, ms_R76, ms_R77, ms_R78, ms_R79, ms_R80, ms_R81, ms_R95, ms_R96, ms_R97, ms_F0, ms_F2, ms_F18, ms_F24, ms_F31, ms_F26, ms_F45, ms_F47, ms_F50, ms_F51, ms_F52, ms_F53, ms_F54, ms_F55, ms_F56, ms_F57, ms_F58, ms_F59, ms_F60, ms_F61, ms_F62, ms_F63, sh_r59_8 hS, sh_k65 hS, sh_z65 hS, sh_r59_10 hS, sh_k67 hS, sh_z67 hS, sh_r59_9 hS, sh_k66 hS, sh_z66 hS, sh_r59_22 hS, sh_k78 hS, sh_z78 hS, m3, nI_clamp (show m < 2 ^ 31 by omega), hm0, hm1, hmv]
    have hst : ∀ (k : Nat), k < 8 → ∀ u, gx_st k 0 u % 16 = k ∧ gx_st k 0 u / 256 = u := fun k hk u => ⟨gx_st_mod (by omega), (gx_st_s (by omega) (by omega)).2⟩
    have e2 : ∀ u, tv S m (pm_i S 59 51) (gx_st 6 0 u) = decide ((pm_i S 59 51 - pm_i S 66 m) < nI u) := fun u => by
      obtain ⟨a1, a3⟩ := hst 6 (by omega) u
      unfold tv; rw [a1, a3]; rfl
    have e3 : ∀ u, tv S m (pm_i S 59 51) (gx_st (6 + 1) 0 u) = decide (nI u < (pm_i S 59 51 - pm_i S 66 m)) := fun u => by
      obtain ⟨a1, a3⟩ := hst 7 (by omega) u
      unfold tv; rw [a1, a3]; rfl
    refine ⟨by omega, mr_198 (S := S) (t := tv S m (pm_i S 59 51)) (o := o) (r := (p + 1, some ())) (k := 6) (s := 0) (most := 4) (by omega) hS hm (by show p + 1 ≤ n; omega) (by omega) (by omega) (Or.inr rfl) (by omega) (fun u _ => by rw [e2]; simp) (fun u _ => by rw [e3]; simp) (fun b hb he => ⟨hb, h b hb he⟩)⟩
theorem mr_194 {G : pm_G} {d : Nat} {S : pm_S} {f : Nat → Int32} {n : Nat} {t : Nat → Bool} {o p : Nat} {q : Int32 → pm_S → Prop} (hd : 6 ≤ d) (hS : Sh S) (hm : mrc S f n) (h18 : iv_c S 18 ≤ 40) (h24 : pm_i S 59 24 = nI (iv_c S 24)) (h24b : iv_c S 24 ≤ 150) (ht : tq S t) (hp : p ≤ n) (h : ∀ b, (b = 0 ∨ b = 1) → (∀ e, (gx_test (gx_b f n) p).2 = some e → b = bI (gx_hv t e)) → q b (ms S o (un (gx_test (gx_b f n) p)))) : pm_CI G d 194 [.ref 59, .int (sg (gx_b f n p))] (ms S o (p, some ())) q := by
  have hn := hm.2.1
  have hle := hm.le p
  have hms : ms S o (p, some ()) = mst S (nI p) (-1) (nI o) := rfl
  by_cases y116 : gx_b f n p = 116
  · have ec : gx_test (gx_b f n) p = gx_bd (gx_num (gx_b f n) 0 1 (p + 1)) (fun n q => (q, some [gx_st 0 0 n])) := by
      unfold gx_test; rw [if_pos y116]
    rw [ec] at h
    have es : sg (gx_b f n p) = 116 := by rw [y116]; rfl
    rw [es, hms]
    refine pm_goI 194 0 pb_c194 (by decide) (Nat.le_of_ble_eq_true rfl) rfl ?_
    change pm_W G d 194 (pm_QI q) 0 [.ref 59, .int 116, .float 0, .float 0] [] (mst S (nI p) (-1) (nI o)) 0 0
    exact mr_194_116 (X := .null) (Y := .null) hd hS hm h18 h24 h24b ht hp y116 h
  ·
    by_cases y97 : gx_b f n p = 97
    · have ec : gx_test (gx_b f n) p = gx_bd (gx_num (gx_b f n) 1 1 (p + 1)) (fun s q => (q, some [gx_st 1 s 0])) := by
        unfold gx_test; rw [if_neg y116, if_pos y97]
      rw [ec] at h
      have es : sg (gx_b f n p) = 97 := by rw [y97]; rfl
      rw [es, hms]
      refine pm_goI 194 0 pb_c194 (by decide) (Nat.le_of_ble_eq_true rfl) rfl ?_
      change pm_W G d 194 (pm_QI q) 0 [.ref 59, .int 97, .float 0, .float 0] [] (mst S (nI p) (-1) (nI o)) 0 0
      refine pm_wb_ok pb_c194 1 0 0 _ _ _ _ _ ?_
      try simp only [pm_WI0, pm_WI1, pm_WI2, pm_WI3, pm_WI4, pm_WI5, pm_WV, pm_WW, pm_WX, pb_B194, pm_if, pm_QI_at, pm_QL_at, pm_QV_at, pm_QR_at, pm_QR_at0, pm_QR_at1, Nat.reduceSub, Nat.reduceAdd, List.replicate_zero, List.replicate_succ, true_and, and_true, true_or, or_true, and_self, reduceIte, Nat.reduceEqDiff, Nat.reduceLT, Nat.reduceLeDiff, Nat.reduceMul, false_and, and_false, reduceCtorEq, false_or, or_false, not_true_eq_false, not_false_eq_true, true_implies, false_implies, implies_true, lf_10, eq_self, Int32.reduceLT, Int32.reduceLE, Int32.reduceAdd, Int32.reduceSub, pm_same, pm_i_wI, pm_l_wL, pm_l_wM, pm_oR_rf, pm_oQ_rf, sh_k59 hS, sh_r59_25 hS, sh_k80 hS, sh_z80 hS, sh_r59_27 hS, sh_k81 hS, sh_z81 hS, mst_w46, mst_w48, mst_w49, mst_46, mst_48, mst_49, mst_k, mst_z, mst_r, mst_n, mst_l, mst_R62, mst_R64, mst_R65, mst_R66, mst_R67, mst_R78, mst_R80, mst_R81, mst_F18, mst_F24, mst_F45, mst_F47, mst_F50, mst_F51, nI_1, LQ1, LQ2, LQ4, LQ1, LQ2, ms_k, ms_z, ms_r, ms_49, ms_w49, ms_R62, ms_R64, ms_R65, ms_R66, ms_R67, ms_R75, ms_R76, ms_R77, ms_R78, ms_R79, ms_R80, ms_R81, ms_R95, ms_R96, ms_R97, ms_F0, ms_F2, ms_F18, ms_F24, ms_F31, ms_F26, ms_F45, ms_F47, ms_F50, ms_F51, ms_F52, ms_F53, ms_F54, ms_F55, ms_F56, ms_F57, ms_F58, ms_F59, ms_F60, ms_F61, ms_F62, ms_F63, sh_r59_8 hS, sh_k65 hS, sh_z65 hS, sh_r59_10 hS, sh_k67 hS, sh_z67 hS, sh_r59_9 hS, sh_k66 hS, sh_z66 hS, sh_r59_22 hS, sh_k78 hS, sh_z78 hS]
      exact mr_194_97 (X := .null) (Y := .null) hd hS hm h18 h24 h24b ht hp y97 h
    ·
      by_cases y119 : gx_b f n p = 119
      · have ec : gx_test (gx_b f n) p = gx_bd (gx_num (gx_b f n) 1 1 (p + 1)) (fun s q => gx_cmp (gx_b f n) 2 s 2 q) := by
          unfold gx_test; rw [if_neg y116, if_neg y97, if_pos y119]
        rw [ec] at h
        have es : sg (gx_b f n p) = 119 := by rw [y119]; rfl
        rw [es, hms]
        refine pm_goI 194 0 pb_c194 (by decide) (Nat.le_of_ble_eq_true rfl) rfl ?_
        change pm_W G d 194 (pm_QI q) 0 [.ref 59, .int 119, .float 0, .float 0] [] (mst S (nI p) (-1) (nI o)) 0 0
        refine pm_wb_ok pb_c194 2 0 0 _ _ _ _ _ ?_
        try simp only [pm_WI0, pm_WI1, pm_WI2, pm_WI3, pm_WI4, pm_WI5, pm_WV, pm_WW, pm_WX, pb_B194, pm_if, pm_QI_at, pm_QL_at, pm_QV_at, pm_QR_at, pm_QR_at0, pm_QR_at1, Nat.reduceSub, Nat.reduceAdd, List.replicate_zero, List.replicate_succ, true_and, and_true, true_or, or_true, and_self, reduceIte, Nat.reduceEqDiff, Nat.reduceLT, Nat.reduceLeDiff, Nat.reduceMul, false_and, and_false, reduceCtorEq, false_or, or_false, not_true_eq_false, not_false_eq_true, true_implies, false_implies, implies_true, lf_10, eq_self, Int32.reduceLT, Int32.reduceLE, Int32.reduceAdd, Int32.reduceSub, pm_same, pm_i_wI, pm_l_wL, pm_l_wM, pm_oR_rf, pm_oQ_rf, sh_k59 hS, sh_r59_25 hS, sh_k80 hS, sh_z80 hS, sh_r59_27 hS, sh_k81 hS, sh_z81 hS, mst_w46, mst_w48, mst_w49, mst_46, mst_48, mst_49, mst_k, mst_z, mst_r, mst_n, mst_l, mst_R62, mst_R64, mst_R65, mst_R66, mst_R67, mst_R78, mst_R80, mst_R81, mst_F18, mst_F24, mst_F45, mst_F47, mst_F50, mst_F51, nI_1, LQ1, LQ2, LQ4, LQ1, LQ2, ms_k, ms_z, ms_r, ms_49, ms_w49, ms_R62, ms_R64, ms_R65, ms_R66, ms_R67, ms_R75, ms_R76, ms_R77, ms_R78, ms_R79, ms_R80, ms_R81, ms_R95, ms_R96, ms_R97, ms_F0, ms_F2, ms_F18, ms_F24, ms_F31, ms_F26, ms_F45, ms_F47, ms_F50, ms_F51, ms_F52, ms_F53, ms_F54, ms_F55, ms_F56, ms_F57, ms_F58, ms_F59, ms_F60, ms_F61, ms_F62, ms_F63, sh_r59_8 hS, sh_k65 hS, sh_z65 hS, sh_r59_10 hS, sh_k67 hS, sh_z67 hS, sh_r59_9 hS, sh_k66 hS, sh_z66 hS, sh_r59_22 hS, sh_k78 hS, sh_z78 hS]
        exact mr_194_119 (X := .null) (Y := .null) hd hS hm h18 h24 h24b ht hp y119 h
      ·
        by_cases y108 : gx_b f n p = 108
        · have ec : gx_test (gx_b f n) p = gx_cmp (gx_b f n) 4 0 4 (p + 1) := by
            unfold gx_test; rw [if_neg y116, if_neg y97, if_neg y119, if_pos y108]
          rw [ec] at h
          have es : sg (gx_b f n p) = 108 := by rw [y108]; rfl
          rw [es, hms]
          refine pm_goI 194 0 pb_c194 (by decide) (Nat.le_of_ble_eq_true rfl) rfl ?_
          change pm_W G d 194 (pm_QI q) 0 [.ref 59, .int 108, .float 0, .float 0] [] (mst S (nI p) (-1) (nI o)) 0 0
          refine pm_wb_ok pb_c194 3 0 0 _ _ _ _ _ ?_
          try simp only [pm_WI0, pm_WI1, pm_WI2, pm_WI3, pm_WI4, pm_WI5, pm_WV, pm_WW, pm_WX, pb_B194, pm_if, pm_QI_at, pm_QL_at, pm_QV_at, pm_QR_at, pm_QR_at0, pm_QR_at1, Nat.reduceSub, Nat.reduceAdd, List.replicate_zero, List.replicate_succ, true_and, and_true, true_or, or_true, and_self, reduceIte, Nat.reduceEqDiff, Nat.reduceLT, Nat.reduceLeDiff, Nat.reduceMul, false_and, and_false, reduceCtorEq, false_or, or_false, not_true_eq_false, not_false_eq_true, true_implies, false_implies, implies_true, lf_10, eq_self, Int32.reduceLT, Int32.reduceLE, Int32.reduceAdd, Int32.reduceSub, pm_same, pm_i_wI, pm_l_wL, pm_l_wM, pm_oR_rf, pm_oQ_rf, sh_k59 hS, sh_r59_25 hS, sh_k80 hS, sh_z80 hS, sh_r59_27 hS, sh_k81 hS, sh_z81 hS, mst_w46, mst_w48, mst_w49, mst_46, mst_48, mst_49, mst_k, mst_z, mst_r, mst_n, mst_l, mst_R62, mst_R64, mst_R65, mst_R66, mst_R67, mst_R78, mst_R80, mst_R81, mst_F18, mst_F24, mst_F45, mst_F47, mst_F50, mst_F51, nI_1, LQ1, LQ2, LQ4, LQ1, LQ2, ms_k, ms_z, ms_r, ms_49, ms_w49, ms_R62, ms_R64, ms_R65, ms_R66, ms_R67, ms_R75, ms_R76, ms_R77, ms_R78, ms_R79, ms_R80, ms_R81, ms_R95, ms_R96, ms_R97, ms_F0, ms_F2, ms_F18, ms_F24, ms_F31, ms_F26, ms_F45, ms_F47, ms_F50, ms_F51, ms_F52, ms_F53, ms_F54, ms_F55, ms_F56, ms_F57, ms_F58, ms_F59, ms_F60, ms_F61, ms_F62, ms_F63, sh_r59_8 hS, sh_k65 hS, sh_z65 hS, sh_r59_10 hS, sh_k67 hS, sh_z67 hS, sh_r59_9 hS, sh_k66 hS, sh_z66 hS, sh_r59_22 hS, sh_k78 hS, sh_z78 hS]
          exact mr_194_108 (X := .null) (Y := .null) hd hS hm h18 h24 h24b ht hp y108 h
        ·
          by_cases y100 : gx_b f n p = 100
          · have ec : gx_test (gx_b f n) p = gx_cmp (gx_b f n) 6 0 4 (p + 1) := by
              unfold gx_test; rw [if_neg y116, if_neg y97, if_neg y119, if_neg y108, if_pos y100]
            rw [ec] at h
            have es : sg (gx_b f n p) = 100 := by rw [y100]; rfl
            rw [es, hms]
            refine pm_goI 194 0 pb_c194 (by decide) (Nat.le_of_ble_eq_true rfl) rfl ?_
            change pm_W G d 194 (pm_QI q) 0 [.ref 59, .int 100, .float 0, .float 0] [] (mst S (nI p) (-1) (nI o)) 0 0
            refine pm_wb_ok pb_c194 4 0 0 _ _ _ _ _ ?_
            try simp only [pm_WI0, pm_WI1, pm_WI2, pm_WI3, pm_WI4, pm_WI5, pm_WV, pm_WW, pm_WX, pb_B194, pm_if, pm_QI_at, pm_QL_at, pm_QV_at, pm_QR_at, pm_QR_at0, pm_QR_at1, Nat.reduceSub, Nat.reduceAdd, List.replicate_zero, List.replicate_succ, true_and, and_true, true_or, or_true, and_self, reduceIte, Nat.reduceEqDiff, Nat.reduceLT, Nat.reduceLeDiff, Nat.reduceMul, false_and, and_false, reduceCtorEq, false_or, or_false, not_true_eq_false, not_false_eq_true, true_implies, false_implies, implies_true, lf_10, eq_self, Int32.reduceLT, Int32.reduceLE, Int32.reduceAdd, Int32.reduceSub, pm_same, pm_i_wI, pm_l_wL, pm_l_wM, pm_oR_rf, pm_oQ_rf, sh_k59 hS, sh_r59_25 hS, sh_k80 hS, sh_z80 hS, sh_r59_27 hS, sh_k81 hS, sh_z81 hS, mst_w46, mst_w48, mst_w49, mst_46, mst_48, mst_49, mst_k, mst_z, mst_r, mst_n, mst_l, mst_R62, mst_R64, mst_R65, mst_R66, mst_R67, mst_R78, mst_R80, mst_R81, mst_F18, mst_F24, mst_F45, mst_F47, mst_F50, mst_F51, nI_1, LQ1, LQ2, LQ4, LQ1, LQ2, ms_k, ms_z, ms_r, ms_49, ms_w49, ms_R62, ms_R64, ms_R65, ms_R66, ms_R67, ms_R75, ms_R76, ms_R77, ms_R78, ms_R79, ms_R80, ms_R81, ms_R95, ms_R96, ms_R97, ms_F0, ms_F2, ms_F18, ms_F24, ms_F31, ms_F26, ms_F45, ms_F47, ms_F50, ms_F51, ms_F52, ms_F53, ms_F54, ms_F55, ms_F56, ms_F57, ms_F58, ms_F59, ms_F60, ms_F61, ms_F62, ms_F63, sh_r59_8 hS, sh_k65 hS, sh_z65 hS, sh_r59_10 hS, sh_k67 hS, sh_z67 hS, sh_r59_9 hS, sh_k66 hS, sh_z66 hS, sh_r59_22 hS, sh_k78 hS, sh_z78 hS]
            exact mr_194_100 (X := .null) (Y := .null) hd hS hm h18 h24 h24b ht hp y100 h
          ·
            have ec : gx_test (gx_b f n) p = (p, none) := by unfold gx_test; rw [if_neg y116, if_neg y97, if_neg y119, if_neg y108, if_neg y100]
            rw [ec] at h
            rw [hms]
            have nx : ∀ c, c < 256 → ¬ gx_b f n p = c → ¬ sg (gx_b f n p) = nI c := fun c hc y z => y ((sg_nc hm hc).mp z)
            have z116 : ¬ sg (gx_b f n p) = 116 := nx 116 (by omega) y116
            have z97 : ¬ sg (gx_b f n p) = 97 := nx 97 (by omega) y97
            have z119 : ¬ sg (gx_b f n p) = 119 := nx 119 (by omega) y119
            have z108 : ¬ sg (gx_b f n p) = 108 := nx 108 (by omega) y108
            have z100 : ¬ sg (gx_b f n p) = 100 := nx 100 (by omega) y100
            refine pm_goI 194 8 pb_c194 (by decide) (Nat.le_of_ble_eq_true rfl) rfl ?_
            try simp only [show pm_mL 194 = 4 from rfl, pm_WI0, pm_WI1, pm_WI2, pm_WI3, pm_WI4, pm_WI5, pm_WV, pm_WW, pm_WX, pb_B194, pm_if, pm_QI_at, pm_QL_at, pm_QV_at, pm_QR_at, pm_QR_at0, pm_QR_at1, Nat.reduceSub, Nat.reduceAdd, List.replicate_zero, List.replicate_succ, true_and, and_true, true_or, or_true, and_self, reduceIte, Nat.reduceEqDiff, Nat.reduceLT, Nat.reduceLeDiff, Nat.reduceMul, false_and, and_false, reduceCtorEq, false_or, or_false, not_true_eq_false, not_false_eq_true, true_implies, false_implies, implies_true, lf_10, eq_self, Int32.reduceLT, Int32.reduceLE, Int32.reduceAdd, Int32.reduceSub, pm_same, pm_i_wI, pm_l_wL, pm_l_wM, pm_oR_rf, pm_oQ_rf, sh_k59 hS, sh_r59_25 hS, sh_k80 hS, sh_z80 hS, sh_r59_27 hS, sh_k81 hS, sh_z81 hS, mst_w46, mst_w48, mst_w49, mst_46, mst_48, mst_49, mst_k, mst_z, mst_r, mst_n, mst_l, mst_R62, mst_R64, mst_R65, mst_R66, mst_R67, mst_R78, mst_R80, mst_R81, mst_F18, mst_F24, mst_F45, mst_F47, mst_F50, mst_F51, nI_1, LQ1, LQ2, LQ4, LQ1, LQ2, ms_k, ms_z, ms_r, ms_49, ms_w49, ms_R62, ms_R64, ms_R65, ms_R66, ms_R67, ms_R75, ms_R76, ms_R77, ms_R78, ms_R79, ms_R80, ms_R81, ms_R95, ms_R96, ms_R97, ms_F0, ms_F2, ms_F18, ms_F24, ms_F31, ms_F26, ms_F45, ms_F47, ms_F50, ms_F51, ms_F52, ms_F53, ms_F54, ms_F55, ms_F56, ms_F57, ms_F58, ms_F59, ms_F60, ms_F61, ms_F62, ms_F63, sh_r59_8 hS, sh_k65 hS, sh_z65 hS, sh_r59_10 hS, sh_k67 hS, sh_z67 hS, sh_r59_9 hS, sh_k66 hS, sh_z66 hS, sh_r59_22 hS, sh_k78 hS, sh_z78 hS, z116, z97, z119, z108, z100]
            exact ⟨by omega, mr_187l hS ⟨fun _ => h 0 (Or.inl rfl) (fun e z => (by cases z)), fun z => absurd (Int32.le_refl 0) z⟩⟩
/-! the model reads and judges E: F, T, E with k more ( and ! left -/
def mFC (G : pm_G) (S : pm_S) (f : Nat → Int32) (n : Nat) (t : Nat → Bool) (k : Nat) : Prop := ∀ (r : gx_R Unit) (q : Int32 → pm_S → Prop) (d : Nat), 7 + 3 * k ≤ d → r.1 ≤ n → (∀ b : Int32, (b = 0 ∨ b = 1) → (∀ e, (gx_bd r (fun _ p => gx_F (gx_b f n) 160 k p)).2 = some e → b = bI (gx_hv t e)) → q b (ms S (6 - k) (un (gx_bd r (fun _ p => gx_F (gx_b f n) 160 k p))))) → pm_CI G d 193 [.ref 59] (ms S (6 - k) r) q
def mBC (G : pm_G) (S : pm_S) (f : Nat → Int32) (n : Nat) (t : Nat → Bool) (k : Nat) : Prop := ∀ (r : gx_R Unit) (q : Int32 → pm_S → Prop) (d : Nat), 8 + 3 * k ≤ d → r.1 ≤ n → (∀ b : Int32, (b = 0 ∨ b = 1) → (∀ e, (gx_bd r (fun _ p => gx_TT (gx_F (gx_b f n) 160 k) (gx_b f n) 160 p)).2 = some e → b = bI (gx_hv t e)) → q b (ms S (6 - k) (un (gx_bd r (fun _ p => gx_TT (gx_F (gx_b f n) 160 k) (gx_b f n) 160 p))))) → pm_CI G d 192 [.ref 59] (ms S (6 - k) r) q
def mEC (G : pm_G) (S : pm_S) (f : Nat → Int32) (n : Nat) (t : Nat → Bool) (k : Nat) : Prop := ∀ (r : gx_R Unit) (q : Int32 → pm_S → Prop) (d : Nat), 9 + 3 * k ≤ d → r.1 ≤ n → (∀ b : Int32, (b = 0 ∨ b = 1) → (∀ e, (gx_bd r (fun _ p => gx_EE (gx_F (gx_b f n) 160 k) (gx_b f n) 160 p)).2 = some e → b = bI (gx_hv t e)) → q b (ms S (6 - k) (un (gx_bd r (fun _ p => gx_EE (gx_F (gx_b f n) 160 k) (gx_b f n) 160 p))))) → pm_CI G d 191 [.ref 59] (ms S (6 - k) r) q
theorem un_le {α : Type} {r : gx_R α} : (un r).1 = r.1 := rfl
theorem un_bds {r : gx_R (List Nat)} {f : List Nat → List Nat} : un (gx_bd r (fun s q => (q, some (f s)))) = un r := by
  obtain ⟨p, _ | v⟩ := r <;> rfl
theorem gx_ok_le {n p : Nat} {r : gx_R (List Nat)} (h : gx_ok n p r) : r.1 ≤ n := by
  obtain ⟨x, _ | s⟩ := r
  · exact (h.1 x rfl).2
  · exact (h.2 x s rfl).2.1
theorem mr_192f {G : pm_G} {S : pm_S} {k p : Nat} {v : Int32} {X : Value} {q : Int32 → pm_S → Prop} {d : Nat} (hd : 3 ≤ d) (hS : Sh S) (hp : p < 2 ^ 31) (hv : v = 0 ∨ v = 1) (h : q v (ms S k (p, none))) : pm_W G d 192 (pm_QI q) 5 [.ref 59, .int v, X] [] (ms S k (p, none)) 0 0 := by
  refine pm_wb_ok pb_c192 3 5 0 _ _ _ _ _ ?_
  try simp only [pm_WI0, pm_WI1, pm_WI2, pm_WI3, pm_WI4, pm_WI5, pm_WV, pm_WW, pm_WX, pb_B192, pm_if, pm_QI_at, pm_QL_at, pm_QV_at, pm_QR_at, pm_QR_at0, pm_QR_at1, Nat.reduceSub, Nat.reduceAdd, List.replicate_zero, List.replicate_succ, true_and, and_true, true_or, or_true, and_self, reduceIte, Nat.reduceEqDiff, Nat.reduceLT, Nat.reduceLeDiff, Nat.reduceMul, false_and, and_false, reduceCtorEq, false_or, or_false, not_true_eq_false, not_false_eq_true, true_implies, false_implies, implies_true, lf_10, eq_self, Int32.reduceLT, Int32.reduceLE, Int32.reduceAdd, Int32.reduceSub, pm_same, pm_i_wI, pm_l_wL, pm_l_wM, pm_oR_rf, pm_oQ_rf, sh_k59 hS, sh_r59_25 hS, sh_k80 hS, sh_z80 hS, sh_r59_27 hS, sh_k81 hS, sh_z81 hS, mst_w46, mst_w48, mst_w49, mst_46, mst_48, mst_49, mst_k, mst_z, mst_r, mst_n, mst_l, mst_R62, mst_R64, mst_R65, mst_R66, mst_R67, mst_R78, mst_R80, mst_R81, mst_F18, mst_F24, mst_F45, mst_F47, mst_F50, mst_F51, nI_1, LQ1, LQ2, LQ4, LQ1, LQ2, ms_k, ms_z, ms_r, ms_49, ms_w49, ms_R62, ms_R64, ms_R65, ms_R66, ms_R67, ms_R75, ms_R76, ms_R77, ms_R78, ms_R79, ms_R80, ms_R81, ms_R95, ms_R96, ms_R97, ms_F0, ms_F2, ms_F18, ms_F24, ms_F31, ms_F26, ms_F45, ms_F47, ms_F50, ms_F51, ms_F52, ms_F53, ms_F54, ms_F55, ms_F56, ms_F57, ms_F58, ms_F59, ms_F60, ms_F61, ms_F62, ms_F63, bI]
  refine ⟨by omega, mr_186f (c := 38) (p := 0) hS hp ?_⟩
  try simp only [pm_WV, pm_WW, true_and, and_true, true_or, or_true, and_self, reduceIte, Nat.reduceEqDiff, Nat.reduceLT, Nat.reduceLeDiff, Nat.reduceMul, false_and, and_false, reduceCtorEq, false_or, or_false, not_true_eq_false, not_false_eq_true, true_implies, false_implies, implies_true, lf_10, eq_self, Int32.reduceLT, Int32.reduceLE, Int32.reduceAdd, Int32.reduceSub, pm_same, pm_i_wI, pm_l_wL, pm_l_wM, pm_oR_rf, pm_oQ_rf, sh_k59 hS, sh_r59_25 hS, sh_k80 hS, sh_z80 hS, sh_r59_27 hS, sh_k81 hS, sh_z81 hS, mst_w46, mst_w48, mst_w49, mst_46, mst_48, mst_49, mst_k, mst_z, mst_r, mst_n, mst_l, mst_R62, mst_R64, mst_R65, mst_R66, mst_R67, mst_R78, mst_R80, mst_R81, mst_F18, mst_F24, mst_F45, mst_F47, mst_F50, mst_F51, nI_1, LQ1, LQ2, LQ4, LQ1, LQ2, ms_k, ms_z, ms_r, ms_49, ms_w49, ms_R62, ms_R64, ms_R65, ms_R66, ms_R67, ms_R75, ms_R76, ms_R77, ms_R78, ms_R79, ms_R80, ms_R81, ms_R95, ms_R96, ms_R97, ms_F0, ms_F2, ms_F18, ms_F24, ms_F31, ms_F26, ms_F45, ms_F47, ms_F50, ms_F51, ms_F52, ms_F53, ms_F54, ms_F55, ms_F56, ms_F57, ms_F58, ms_F59, ms_F60, ms_F61, ms_F62, ms_F63, pm_WI0, pm_WI1, pm_WI2, pm_WI3, pm_WI4, pm_WI5, pm_WV, pm_WW, pm_WX, pb_B192, pm_if, pm_QI_at, pm_QL_at, pm_QV_at, pm_QR_at, pm_QR_at0, pm_QR_at1, Nat.reduceSub, Nat.reduceAdd, List.replicate_zero, List.replicate_succ]
  first | exact ⟨hv, h⟩ | exact ⟨fun _ => ⟨hv, h⟩, fun z => absurd rfl z⟩
theorem mr_192k {G : pm_G} {S : pm_S} {f : Nat → Int32} {n : Nat} {t : Nat → Bool} {k : Nat} (hS : Sh S) (hm : mrc S f n) (h18 : iv_c S 18 ≤ 40) (h24 : pm_i S 59 24 = nI (iv_c S 24)) (h24b : iv_c S 24 ≤ 150) (ht : tq S t) (hsub : mFC G S f n t k) {q : Int32 → pm_S → Prop} {d : Nat} (hd : 8 + 3 * k ≤ d) : ∀ (g : Nat) (s : List Nat) (p : Nat) (X : Value), gx_ev t s (2 * k + 2) → p ≤ n → n < p + g → (∀ b : Int32, (b = 0 ∨ b = 1) → (∀ e, (gx_T (gx_F (gx_b f n) 160 k) (gx_b f n) g s p).2 = some e → b = bI (gx_hv t e)) → q b (ms S (6 - k) (un (gx_T (gx_F (gx_b f n) 160 k) (gx_b f n) g s p)))) → pm_W G d 192 (pm_QI q) 5 [.ref 59, .int (bI (gx_hv t s)), X] [] (ms S (6 - k) (p, some ())) 0 0 := by
  have hn := hm.2.1
  intro g
  induction g with
  | zero => intro s p X _ h1 h2; omega
  | succ g ih =>
    intro s p X hev hp hg h
    have hms : ms S (6 - k) (p, some ()) = mst S (nI p) (-1) (nI (6 - k)) := rfl
    rw [hms]
    refine pm_wb_ok pb_c192 4 5 0 _ _ _ _ _ ?_
    try simp only [pm_WI0, pm_WI1, pm_WI2, pm_WI3, pm_WI4, pm_WI5, pm_WV, pm_WW, pm_WX, pb_B192, pm_if, pm_QI_at, pm_QL_at, pm_QV_at, pm_QR_at, pm_QR_at0, pm_QR_at1, Nat.reduceSub, Nat.reduceAdd, List.replicate_zero, List.replicate_succ, true_and, and_true, true_or, or_true, and_self, reduceIte, Nat.reduceEqDiff, Nat.reduceLT, Nat.reduceLeDiff, Nat.reduceMul, false_and, and_false, reduceCtorEq, false_or, or_false, not_true_eq_false, not_false_eq_true, true_implies, false_implies, implies_true, lf_10, eq_self, Int32.reduceLT, Int32.reduceLE, Int32.reduceAdd, Int32.reduceSub, pm_same, pm_i_wI, pm_l_wL, pm_l_wM, pm_oR_rf, pm_oQ_rf, sh_k59 hS, sh_r59_25 hS, sh_k80 hS, sh_z80 hS, sh_r59_27 hS, sh_k81 hS, sh_z81 hS, mst_w46, mst_w48, mst_w49, mst_46, mst_48, mst_49, mst_k, mst_z, mst_r, mst_n, mst_l, mst_R62, mst_R64, mst_R65, mst_R66, mst_R67, mst_R78, mst_R80, mst_R81, mst_F18, mst_F24, mst_F45, mst_F47, mst_F50, mst_F51, nI_1, LQ1, LQ2, LQ4, LQ1, LQ2, ms_k, ms_z, ms_r, ms_49, ms_w49, ms_R62, ms_R64, ms_R65, ms_R66, ms_R67, ms_R75, ms_R76, ms_R77, ms_R78, ms_R79, ms_R80, ms_R81, ms_R95, ms_R96, ms_R97, ms_F0, ms_F2, ms_F18, ms_F24, ms_F31, ms_F26, ms_F45, ms_F47, ms_F50, ms_F51, ms_F52, ms_F53, ms_F54, ms_F55, ms_F56, ms_F57, ms_F58, ms_F59, ms_F60, ms_F61, ms_F62, ms_F63]
    refine ⟨by omega, mr_186l (c := 38) (by omega) hS hm hp (by omega) (fun y => ?_) (fun y => ?_)⟩
    · have hpn : p < n := gx_lt gx_b_eof y (by omega)
      refine ⟨fun z => absurd z (by decide), fun _ => ⟨by omega, sh_k59 hS, hsub (p + 1, some ()) _ (d - 1) (by omega) (by show p + 1 ≤ n; omega) (fun b hb he => ?_)⟩⟩
      have eR : gx_bd ((p + 1, some ()) : gx_R Unit) (fun _ p => gx_F (gx_b f n) 160 k p) = gx_F (gx_b f n) 160 k (p + 1) := rfl
      rw [eR] at he ⊢
      have hok := (gx_F_ok (B := gx_b f n) gx_b_eof 160 k (p + 1) (by omega))
      rcases gx_two (gx_F (gx_b f n) 160 k (p + 1)) with ⟨x, ex⟩ | ⟨x, r, ex⟩
      · have eG : gx_T (gx_F (gx_b f n) 160 k) (gx_b f n) (g + 1) s p = (x, none) := by
          rw [gx_T]
          rw [if_pos y, gx_bd_none ex]
        have hx := (hok.1 x ex).2
        rw [ex, un_none]
        have fin : ∀ v X, (v = 0 ∨ v = 1) → pm_W G d 192 (pm_QI q) 5 [.ref 59, .int v, X] [] (ms S (6 - k) (x, none)) 0 0 := fun v X hv => mr_192f (by omega) hS (by omega) hv (by
          have := h v hv (fun e z => (by rw [eG] at z; cases z))
          rw [eG] at this; exact this)
        rcases hb with rfl | rfl <;> cases gx_hv t s <;> simp only [bI, pm_WV, pm_WW, true_and, and_true, true_or, or_true, and_self, reduceIte, Nat.reduceEqDiff, Nat.reduceLT, Nat.reduceLeDiff, Nat.reduceMul, false_and, and_false, reduceCtorEq, false_or, or_false, not_true_eq_false, not_false_eq_true, true_implies, false_implies, implies_true, lf_10, eq_self, Int32.reduceLT, Int32.reduceLE, Int32.reduceAdd, Int32.reduceSub, pm_same, pm_i_wI, pm_l_wL, pm_l_wM, pm_oR_rf, pm_oQ_rf, sh_k59 hS, sh_r59_25 hS, sh_k80 hS, sh_z80 hS, sh_r59_27 hS, sh_k81 hS, sh_z81 hS, mst_w46, mst_w48, mst_w49, mst_46, mst_48, mst_49, mst_k, mst_z, mst_r, mst_n, mst_l, mst_R62, mst_R64, mst_R65, mst_R66, mst_R67, mst_R78, mst_R80, mst_R81, mst_F18, mst_F24, mst_F45, mst_F47, mst_F50, mst_F51, nI_1, LQ1, LQ2, LQ4, LQ1, LQ2, ms_k, ms_z, ms_r, ms_49, ms_w49, ms_R62, ms_R64, ms_R65, ms_R66, ms_R67, ms_R75, ms_R76, ms_R77, ms_R78, ms_R79, ms_R80, ms_R81, ms_R95, ms_R96, ms_R97, ms_F0, ms_F2, ms_F18, ms_F24, ms_F31, ms_F26, ms_F45, ms_F47, ms_F50, ms_F51, ms_F52, ms_F53, ms_F54, ms_F55, ms_F56, ms_F57, ms_F58, ms_F59, ms_F60, ms_F61, ms_F62, ms_F63, pm_WI0, pm_WI1, pm_WI2, pm_WI3, pm_WI4, pm_WI5, pm_WV, pm_WW, pm_WX, pb_B192, pm_if, pm_QI_at, pm_QL_at, pm_QV_at, pm_QR_at, pm_QR_at0, pm_QR_at1, Nat.reduceSub, Nat.reduceAdd, List.replicate_zero, List.replicate_succ] <;> exact fin _ _ (by first | exact Or.inl rfl | exact Or.inr rfl)
      · have hev2 := (ev_F 160 k _ _ _ ex)
        have hx := hok.2 x r ex
        have e2 := ev_and hev hev2 (by omega)
        have eG : gx_T (gx_F (gx_b f n) 160 k) (gx_b f n) (g + 1) s p = gx_T (gx_F (gx_b f n) 160 k) (gx_b f n) g (s ++ (r ++ [9])) x := by
          conv => lhs; rw [gx_T]
          rw [if_pos y, gx_bd_some ex]
        rw [eG] at h
        have hbb := he r (by rw [ex])
        rw [ex, un_some, hbb]
        have := ih (s ++ (r ++ [9])) x
        rw [e2.1] at this
        cases h1 : gx_hv t s <;> cases h2 : gx_hv t r <;> simp only [h1, h2, bI, Bool.and_self, Bool.and_false, Bool.and_true, Bool.or_self, Bool.or_false, Bool.or_true, Bool.false_and, Bool.true_and, Bool.false_or, Bool.true_or, Bool.false_eq_true, pm_WV, pm_WW, true_and, and_true, true_or, or_true, and_self, reduceIte, Nat.reduceEqDiff, Nat.reduceLT, Nat.reduceLeDiff, Nat.reduceMul, false_and, and_false, reduceCtorEq, false_or, or_false, not_true_eq_false, not_false_eq_true, true_implies, false_implies, implies_true, lf_10, eq_self, Int32.reduceLT, Int32.reduceLE, Int32.reduceAdd, Int32.reduceSub, pm_same, pm_i_wI, pm_l_wL, pm_l_wM, pm_oR_rf, pm_oQ_rf, sh_k59 hS, sh_r59_25 hS, sh_k80 hS, sh_z80 hS, sh_r59_27 hS, sh_k81 hS, sh_z81 hS, mst_w46, mst_w48, mst_w49, mst_46, mst_48, mst_49, mst_k, mst_z, mst_r, mst_n, mst_l, mst_R62, mst_R64, mst_R65, mst_R66, mst_R67, mst_R78, mst_R80, mst_R81, mst_F18, mst_F24, mst_F45, mst_F47, mst_F50, mst_F51, nI_1, LQ1, LQ2, LQ4, LQ1, LQ2, ms_k, ms_z, ms_r, ms_49, ms_w49, ms_R62, ms_R64, ms_R65, ms_R66, ms_R67, ms_R75, ms_R76, ms_R77, ms_R78, ms_R79, ms_R80, ms_R81, ms_R95, ms_R96, ms_R97, ms_F0, ms_F2, ms_F18, ms_F24, ms_F31, ms_F26, ms_F45, ms_F47, ms_F50, ms_F51, ms_F52, ms_F53, ms_F54, ms_F55, ms_F56, ms_F57, ms_F58, ms_F59, ms_F60, ms_F61, ms_F62, ms_F63, pm_WI0, pm_WI1, pm_WI2, pm_WI3, pm_WI4, pm_WI5, pm_WV, pm_WW, pm_WX, pb_B192, pm_if, pm_QI_at, pm_QL_at, pm_QV_at, pm_QR_at, pm_QR_at0, pm_QR_at1, Nat.reduceSub, Nat.reduceAdd, List.replicate_zero, List.replicate_succ] at this ⊢ <;> exact this _ e2.2 hx.2.1 (by omega) h
    · have eG : gx_T (gx_F (gx_b f n) 160 k) (gx_b f n) (g + 1) s p = (p, some s) := by
        rw [gx_T]
        rw [if_neg y]
      refine ⟨fun _ => ⟨bI01 _, ?_⟩, fun z => absurd rfl z⟩
      have := h _ (bI01 (gx_hv t s)) (fun e z => by rw [eG] at z; cases z; rfl)
      rw [eG] at this
      exact this
theorem mr_192 {G : pm_G} {S : pm_S} {f : Nat → Int32} {n : Nat} {t : Nat → Bool} {k : Nat} (hS : Sh S) (hm : mrc S f n) (h18 : iv_c S 18 ≤ 40) (h24 : pm_i S 59 24 = nI (iv_c S 24)) (h24b : iv_c S 24 ≤ 150) (ht : tq S t) (hsub : mFC G S f n t k) : mBC G S f n t k := by
  intro r q d hd hr h
  have hn := hm.2.1
  refine pm_goI 192 1 pb_c192 (by decide) (Nat.le_of_ble_eq_true rfl) rfl ?_
  try simp only [show pm_mL 192 = 3 from rfl, pm_WI0, pm_WI1, pm_WI2, pm_WI3, pm_WI4, pm_WI5, pm_WV, pm_WW, pm_WX, pb_B192, pm_if, pm_QI_at, pm_QL_at, pm_QV_at, pm_QR_at, pm_QR_at0, pm_QR_at1, Nat.reduceSub, Nat.reduceAdd, List.replicate_zero, List.replicate_succ, true_and, and_true, true_or, or_true, and_self, reduceIte, Nat.reduceEqDiff, Nat.reduceLT, Nat.reduceLeDiff, Nat.reduceMul, false_and, and_false, reduceCtorEq, false_or, or_false, not_true_eq_false, not_false_eq_true, true_implies, false_implies, implies_true, lf_10, eq_self, Int32.reduceLT, Int32.reduceLE, Int32.reduceAdd, Int32.reduceSub, pm_same, pm_i_wI, pm_l_wL, pm_l_wM, pm_oR_rf, pm_oQ_rf, sh_k59 hS, sh_r59_25 hS, sh_k80 hS, sh_z80 hS, sh_r59_27 hS, sh_k81 hS, sh_z81 hS, mst_w46, mst_w48, mst_w49, mst_46, mst_48, mst_49, mst_k, mst_z, mst_r, mst_n, mst_l, mst_R62, mst_R64, mst_R65, mst_R66, mst_R67, mst_R78, mst_R80, mst_R81, mst_F18, mst_F24, mst_F45, mst_F47, mst_F50, mst_F51, nI_1, LQ1, LQ2, LQ4, LQ1, LQ2, ms_k, ms_z, ms_r, ms_49, ms_w49, ms_R62, ms_R64, ms_R65, ms_R66, ms_R67, ms_R75, ms_R76, ms_R77, ms_R78, ms_R79, ms_R80, ms_R81, ms_R95, ms_R96, ms_R97, ms_F0, ms_F2, ms_F18, ms_F24, ms_F31, ms_F26, ms_F45, ms_F47, ms_F50, ms_F51, ms_F52, ms_F53, ms_F54, ms_F55, ms_F56, ms_F57, ms_F58, ms_F59, ms_F60, ms_F61, ms_F62, ms_F63]
  refine ⟨by omega, hsub r _ (d - 1) (by omega) hr (fun b hb he => ?_)⟩
  obtain ⟨p, _ | u⟩ := r
  · have e0 : un (gx_bd ((p, none) : gx_R Unit) (fun _ p => gx_F (gx_b f n) 160 k p)) = (p, none) := rfl
    rw [e0]
    exact mr_192f (by omega) hS (by have : p ≤ n := hr; omega) hb (h b hb (fun e z => (by cases z)))
  · have hp : p ≤ n := hr
    have eR : gx_bd ((p, some u) : gx_R Unit) (fun _ p => gx_F (gx_b f n) 160 k p) = gx_F (gx_b f n) 160 k p := rfl
    have eF : gx_bd ((p, some u) : gx_R Unit) (fun _ p => gx_TT (gx_F (gx_b f n) 160 k) (gx_b f n) 160 p) = gx_TT (gx_F (gx_b f n) 160 k) (gx_b f n) 160 p := rfl
    rw [eR] at he ⊢
    rw [eF] at h
    have hok := (gx_F_ok (B := gx_b f n) gx_b_eof 160 k p hp)
    rcases gx_two (gx_F (gx_b f n) 160 k p) with ⟨x, ex⟩ | ⟨x, s, ex⟩
    · have eG : gx_TT (gx_F (gx_b f n) 160 k) (gx_b f n) 160 p = (x, none) := by unfold gx_TT; rw [gx_bd_none ex]
      have hx := (hok.1 x ex).2
      rw [ex, un_none]
      refine mr_192f (by omega) hS (by omega) hb ?_
      have := h b hb (fun e z => (by rw [eG] at z; cases z))
      rw [eG] at this; exact this
    · have eG : gx_TT (gx_F (gx_b f n) 160 k) (gx_b f n) 160 p = gx_T (gx_F (gx_b f n) 160 k) (gx_b f n) 160 s x := by unfold gx_TT; rw [gx_bd_some ex]
      have hx := hok.2 x s ex
      rw [ex, un_some, he s (by rw [ex])]
      rw [eG] at h
      exact mr_192k hS hm h18 h24 h24b ht hsub hd 160 s x _ (ev_mono (ev_F 160 k _ _ _ ex) (by omega)) hx.2.1 (by omega) h
theorem mr_191f {G : pm_G} {S : pm_S} {k p : Nat} {v : Int32} {X : Value} {q : Int32 → pm_S → Prop} {d : Nat} (hd : 3 ≤ d) (hS : Sh S) (hp : p < 2 ^ 31) (hv : v = 0 ∨ v = 1) (h : q v (ms S k (p, none))) : pm_W G d 191 (pm_QI q) 5 [.ref 59, .int v, X] [] (ms S k (p, none)) 0 0 := by
  refine pm_wb_ok pb_c191 3 5 0 _ _ _ _ _ ?_
  try simp only [pm_WI0, pm_WI1, pm_WI2, pm_WI3, pm_WI4, pm_WI5, pm_WV, pm_WW, pm_WX, pb_B191, pm_if, pm_QI_at, pm_QL_at, pm_QV_at, pm_QR_at, pm_QR_at0, pm_QR_at1, Nat.reduceSub, Nat.reduceAdd, List.replicate_zero, List.replicate_succ, true_and, and_true, true_or, or_true, and_self, reduceIte, Nat.reduceEqDiff, Nat.reduceLT, Nat.reduceLeDiff, Nat.reduceMul, false_and, and_false, reduceCtorEq, false_or, or_false, not_true_eq_false, not_false_eq_true, true_implies, false_implies, implies_true, lf_10, eq_self, Int32.reduceLT, Int32.reduceLE, Int32.reduceAdd, Int32.reduceSub, pm_same, pm_i_wI, pm_l_wL, pm_l_wM, pm_oR_rf, pm_oQ_rf, sh_k59 hS, sh_r59_25 hS, sh_k80 hS, sh_z80 hS, sh_r59_27 hS, sh_k81 hS, sh_z81 hS, mst_w46, mst_w48, mst_w49, mst_46, mst_48, mst_49, mst_k, mst_z, mst_r, mst_n, mst_l, mst_R62, mst_R64, mst_R65, mst_R66, mst_R67, mst_R78, mst_R80, mst_R81, mst_F18, mst_F24, mst_F45, mst_F47, mst_F50, mst_F51, nI_1, LQ1, LQ2, LQ4, LQ1, LQ2, ms_k, ms_z, ms_r, ms_49, ms_w49, ms_R62, ms_R64, ms_R65, ms_R66, ms_R67, ms_R75, ms_R76, ms_R77, ms_R78, ms_R79, ms_R80, ms_R81, ms_R95, ms_R96, ms_R97, ms_F0, ms_F2, ms_F18, ms_F24, ms_F31, ms_F26, ms_F45, ms_F47, ms_F50, ms_F51, ms_F52, ms_F53, ms_F54, ms_F55, ms_F56, ms_F57, ms_F58, ms_F59, ms_F60, ms_F61, ms_F62, ms_F63, bI]
  refine ⟨by omega, mr_186f (c := 124) (p := 0) hS hp ?_⟩
  try simp only [pm_WV, pm_WW, true_and, and_true, true_or, or_true, and_self, reduceIte, Nat.reduceEqDiff, Nat.reduceLT, Nat.reduceLeDiff, Nat.reduceMul, false_and, and_false, reduceCtorEq, false_or, or_false, not_true_eq_false, not_false_eq_true, true_implies, false_implies, implies_true, lf_10, eq_self, Int32.reduceLT, Int32.reduceLE, Int32.reduceAdd, Int32.reduceSub, pm_same, pm_i_wI, pm_l_wL, pm_l_wM, pm_oR_rf, pm_oQ_rf, sh_k59 hS, sh_r59_25 hS, sh_k80 hS, sh_z80 hS, sh_r59_27 hS, sh_k81 hS, sh_z81 hS, mst_w46, mst_w48, mst_w49, mst_46, mst_48, mst_49, mst_k, mst_z, mst_r, mst_n, mst_l, mst_R62, mst_R64, mst_R65, mst_R66, mst_R67, mst_R78, mst_R80, mst_R81, mst_F18, mst_F24, mst_F45, mst_F47, mst_F50, mst_F51, nI_1, LQ1, LQ2, LQ4, LQ1, LQ2, ms_k, ms_z, ms_r, ms_49, ms_w49, ms_R62, ms_R64, ms_R65, ms_R66, ms_R67, ms_R75, ms_R76, ms_R77, ms_R78, ms_R79, ms_R80, ms_R81, ms_R95, ms_R96, ms_R97, ms_F0, ms_F2, ms_F18, ms_F24, ms_F31, ms_F26, ms_F45, ms_F47, ms_F50, ms_F51, ms_F52, ms_F53, ms_F54, ms_F55, ms_F56, ms_F57, ms_F58, ms_F59, ms_F60, ms_F61, ms_F62, ms_F63, pm_WI0, pm_WI1, pm_WI2, pm_WI3, pm_WI4, pm_WI5, pm_WV, pm_WW, pm_WX, pb_B191, pm_if, pm_QI_at, pm_QL_at, pm_QV_at, pm_QR_at, pm_QR_at0, pm_QR_at1, Nat.reduceSub, Nat.reduceAdd, List.replicate_zero, List.replicate_succ]
  first | exact ⟨hv, h⟩ | exact ⟨fun _ => ⟨hv, h⟩, fun z => absurd rfl z⟩
theorem mr_191k {G : pm_G} {S : pm_S} {f : Nat → Int32} {n : Nat} {t : Nat → Bool} {k : Nat} (hS : Sh S) (hm : mrc S f n) (h18 : iv_c S 18 ≤ 40) (h24 : pm_i S 59 24 = nI (iv_c S 24)) (h24b : iv_c S 24 ≤ 150) (ht : tq S t) (hsub : mBC G S f n t k) {q : Int32 → pm_S → Prop} {d : Nat} (hd : 9 + 3 * k ≤ d) : ∀ (g : Nat) (s : List Nat) (p : Nat) (X : Value), gx_ev t s (2 * k + 3) → p ≤ n → n < p + g → (∀ b : Int32, (b = 0 ∨ b = 1) → (∀ e, (gx_E (gx_F (gx_b f n) 160 k) (gx_b f n) 160 g s p).2 = some e → b = bI (gx_hv t e)) → q b (ms S (6 - k) (un (gx_E (gx_F (gx_b f n) 160 k) (gx_b f n) 160 g s p)))) → pm_W G d 191 (pm_QI q) 5 [.ref 59, .int (bI (gx_hv t s)), X] [] (ms S (6 - k) (p, some ())) 0 0 := by
  have hn := hm.2.1
  intro g
  induction g with
  | zero => intro s p X _ h1 h2; omega
  | succ g ih =>
    intro s p X hev hp hg h
    have hms : ms S (6 - k) (p, some ()) = mst S (nI p) (-1) (nI (6 - k)) := rfl
    rw [hms]
    refine pm_wb_ok pb_c191 4 5 0 _ _ _ _ _ ?_
    try simp only [pm_WI0, pm_WI1, pm_WI2, pm_WI3, pm_WI4, pm_WI5, pm_WV, pm_WW, pm_WX, pb_B191, pm_if, pm_QI_at, pm_QL_at, pm_QV_at, pm_QR_at, pm_QR_at0, pm_QR_at1, Nat.reduceSub, Nat.reduceAdd, List.replicate_zero, List.replicate_succ, true_and, and_true, true_or, or_true, and_self, reduceIte, Nat.reduceEqDiff, Nat.reduceLT, Nat.reduceLeDiff, Nat.reduceMul, false_and, and_false, reduceCtorEq, false_or, or_false, not_true_eq_false, not_false_eq_true, true_implies, false_implies, implies_true, lf_10, eq_self, Int32.reduceLT, Int32.reduceLE, Int32.reduceAdd, Int32.reduceSub, pm_same, pm_i_wI, pm_l_wL, pm_l_wM, pm_oR_rf, pm_oQ_rf, sh_k59 hS, sh_r59_25 hS, sh_k80 hS, sh_z80 hS, sh_r59_27 hS, sh_k81 hS, sh_z81 hS, mst_w46, mst_w48, mst_w49, mst_46, mst_48, mst_49, mst_k, mst_z, mst_r, mst_n, mst_l, mst_R62, mst_R64, mst_R65, mst_R66, mst_R67, mst_R78, mst_R80, mst_R81, mst_F18, mst_F24, mst_F45, mst_F47, mst_F50, mst_F51, nI_1, LQ1, LQ2, LQ4, LQ1, LQ2, ms_k, ms_z, ms_r, ms_49, ms_w49, ms_R62, ms_R64, ms_R65, ms_R66, ms_R67, ms_R75, ms_R76, ms_R77, ms_R78, ms_R79, ms_R80, ms_R81, ms_R95, ms_R96, ms_R97, ms_F0, ms_F2, ms_F18, ms_F24, ms_F31, ms_F26, ms_F45, ms_F47, ms_F50, ms_F51, ms_F52, ms_F53, ms_F54, ms_F55, ms_F56, ms_F57, ms_F58, ms_F59, ms_F60, ms_F61, ms_F62, ms_F63]
    refine ⟨by omega, mr_186l (c := 124) (by omega) hS hm hp (by omega) (fun y => ?_) (fun y => ?_)⟩
    · have hpn : p < n := gx_lt gx_b_eof y (by omega)
      refine ⟨fun z => absurd z (by decide), fun _ => ⟨by omega, sh_k59 hS, hsub (p + 1, some ()) _ (d - 1) (by omega) (by show p + 1 ≤ n; omega) (fun b hb he => ?_)⟩⟩
      have eR : gx_bd ((p + 1, some ()) : gx_R Unit) (fun _ p => gx_TT (gx_F (gx_b f n) 160 k) (gx_b f n) 160 p) = gx_TT (gx_F (gx_b f n) 160 k) (gx_b f n) 160 (p + 1) := rfl
      rw [eR] at he ⊢
      have hok := (gx_TT_ok (B := gx_b f n) (F := gx_F (gx_b f n) 160 k) gx_b_eof (fun p hp => gx_F_ok gx_b_eof 160 k p hp) 160 (p := p + 1) (by omega))
      rcases gx_two (gx_TT (gx_F (gx_b f n) 160 k) (gx_b f n) 160 (p + 1)) with ⟨x, ex⟩ | ⟨x, r, ex⟩
      · have eG : gx_E (gx_F (gx_b f n) 160 k) (gx_b f n) 160 (g + 1) s p = (x, none) := by
          rw [gx_E]
          rw [if_pos y, gx_bd_none ex]
        have hx := (hok.1 x ex).2
        rw [ex, un_none]
        have fin : ∀ v X, (v = 0 ∨ v = 1) → pm_W G d 191 (pm_QI q) 5 [.ref 59, .int v, X] [] (ms S (6 - k) (x, none)) 0 0 := fun v X hv => mr_191f (by omega) hS (by omega) hv (by
          have := h v hv (fun e z => (by rw [eG] at z; cases z))
          rw [eG] at this; exact this)
        rcases hb with rfl | rfl <;> cases gx_hv t s <;> simp only [bI, pm_WV, pm_WW, true_and, and_true, true_or, or_true, and_self, reduceIte, Nat.reduceEqDiff, Nat.reduceLT, Nat.reduceLeDiff, Nat.reduceMul, false_and, and_false, reduceCtorEq, false_or, or_false, not_true_eq_false, not_false_eq_true, true_implies, false_implies, implies_true, lf_10, eq_self, Int32.reduceLT, Int32.reduceLE, Int32.reduceAdd, Int32.reduceSub, pm_same, pm_i_wI, pm_l_wL, pm_l_wM, pm_oR_rf, pm_oQ_rf, sh_k59 hS, sh_r59_25 hS, sh_k80 hS, sh_z80 hS, sh_r59_27 hS, sh_k81 hS, sh_z81 hS, mst_w46, mst_w48, mst_w49, mst_46, mst_48, mst_49, mst_k, mst_z, mst_r, mst_n, mst_l, mst_R62, mst_R64, mst_R65, mst_R66, mst_R67, mst_R78, mst_R80, mst_R81, mst_F18, mst_F24, mst_F45, mst_F47, mst_F50, mst_F51, nI_1, LQ1, LQ2, LQ4, LQ1, LQ2, ms_k, ms_z, ms_r, ms_49, ms_w49, ms_R62, ms_R64, ms_R65, ms_R66, ms_R67, ms_R75, ms_R76, ms_R77, ms_R78, ms_R79, ms_R80, ms_R81, ms_R95, ms_R96, ms_R97, ms_F0, ms_F2, ms_F18, ms_F24, ms_F31, ms_F26, ms_F45, ms_F47, ms_F50, ms_F51, ms_F52, ms_F53, ms_F54, ms_F55, ms_F56, ms_F57, ms_F58, ms_F59, ms_F60, ms_F61, ms_F62, ms_F63, pm_WI0, pm_WI1, pm_WI2, pm_WI3, pm_WI4, pm_WI5, pm_WV, pm_WW, pm_WX, pb_B191, pm_if, pm_QI_at, pm_QL_at, pm_QV_at, pm_QR_at, pm_QR_at0, pm_QR_at1, Nat.reduceSub, Nat.reduceAdd, List.replicate_zero, List.replicate_succ] <;> exact fin _ _ (by first | exact Or.inl rfl | exact Or.inr rfl)
      · have hev2 := (ev_TT (fun p q s h => ev_F 160 k p q s h) ex)
        have hx := hok.2 x r ex
        have e2 := ev_or hev hev2 (by omega)
        have eG : gx_E (gx_F (gx_b f n) 160 k) (gx_b f n) 160 (g + 1) s p = gx_E (gx_F (gx_b f n) 160 k) (gx_b f n) 160 g (s ++ (r ++ [10])) x := by
          conv => lhs; rw [gx_E]
          rw [if_pos y, gx_bd_some ex]
        rw [eG] at h
        have hbb := he r (by rw [ex])
        rw [ex, un_some, hbb]
        have := ih (s ++ (r ++ [10])) x
        rw [e2.1] at this
        cases h1 : gx_hv t s <;> cases h2 : gx_hv t r <;> simp only [h1, h2, bI, Bool.and_self, Bool.and_false, Bool.and_true, Bool.or_self, Bool.or_false, Bool.or_true, Bool.false_and, Bool.true_and, Bool.false_or, Bool.true_or, Bool.false_eq_true, pm_WV, pm_WW, true_and, and_true, true_or, or_true, and_self, reduceIte, Nat.reduceEqDiff, Nat.reduceLT, Nat.reduceLeDiff, Nat.reduceMul, false_and, and_false, reduceCtorEq, false_or, or_false, not_true_eq_false, not_false_eq_true, true_implies, false_implies, implies_true, lf_10, eq_self, Int32.reduceLT, Int32.reduceLE, Int32.reduceAdd, Int32.reduceSub, pm_same, pm_i_wI, pm_l_wL, pm_l_wM, pm_oR_rf, pm_oQ_rf, sh_k59 hS, sh_r59_25 hS, sh_k80 hS, sh_z80 hS, sh_r59_27 hS, sh_k81 hS, sh_z81 hS, mst_w46, mst_w48, mst_w49, mst_46, mst_48, mst_49, mst_k, mst_z, mst_r, mst_n, mst_l, mst_R62, mst_R64, mst_R65, mst_R66, mst_R67, mst_R78, mst_R80, mst_R81, mst_F18, mst_F24, mst_F45, mst_F47, mst_F50, mst_F51, nI_1, LQ1, LQ2, LQ4, LQ1, LQ2, ms_k, ms_z, ms_r, ms_49, ms_w49, ms_R62, ms_R64, ms_R65, ms_R66, ms_R67, ms_R75, ms_R76, ms_R77, ms_R78, ms_R79, ms_R80, ms_R81, ms_R95, ms_R96, ms_R97, ms_F0, ms_F2, ms_F18, ms_F24, ms_F31, ms_F26, ms_F45, ms_F47, ms_F50, ms_F51, ms_F52, ms_F53, ms_F54, ms_F55, ms_F56, ms_F57, ms_F58, ms_F59, ms_F60, ms_F61, ms_F62, ms_F63, pm_WI0, pm_WI1, pm_WI2, pm_WI3, pm_WI4, pm_WI5, pm_WV, pm_WW, pm_WX, pb_B191, pm_if, pm_QI_at, pm_QL_at, pm_QV_at, pm_QR_at, pm_QR_at0, pm_QR_at1, Nat.reduceSub, Nat.reduceAdd, List.replicate_zero, List.replicate_succ] at this ⊢ <;> exact this _ e2.2 hx.2.1 (by omega) h
    · have eG : gx_E (gx_F (gx_b f n) 160 k) (gx_b f n) 160 (g + 1) s p = (p, some s) := by
        rw [gx_E]
        rw [if_neg y]
      refine ⟨fun _ => ⟨bI01 _, ?_⟩, fun z => absurd rfl z⟩
      have := h _ (bI01 (gx_hv t s)) (fun e z => by rw [eG] at z; cases z; rfl)
      rw [eG] at this
      exact this
theorem mr_191 {G : pm_G} {S : pm_S} {f : Nat → Int32} {n : Nat} {t : Nat → Bool} {k : Nat} (hS : Sh S) (hm : mrc S f n) (h18 : iv_c S 18 ≤ 40) (h24 : pm_i S 59 24 = nI (iv_c S 24)) (h24b : iv_c S 24 ≤ 150) (ht : tq S t) (hsub : mBC G S f n t k) : mEC G S f n t k := by
  intro r q d hd hr h
  have hn := hm.2.1
  refine pm_goI 191 1 pb_c191 (by decide) (Nat.le_of_ble_eq_true rfl) rfl ?_
  try simp only [show pm_mL 191 = 3 from rfl, pm_WI0, pm_WI1, pm_WI2, pm_WI3, pm_WI4, pm_WI5, pm_WV, pm_WW, pm_WX, pb_B191, pm_if, pm_QI_at, pm_QL_at, pm_QV_at, pm_QR_at, pm_QR_at0, pm_QR_at1, Nat.reduceSub, Nat.reduceAdd, List.replicate_zero, List.replicate_succ, true_and, and_true, true_or, or_true, and_self, reduceIte, Nat.reduceEqDiff, Nat.reduceLT, Nat.reduceLeDiff, Nat.reduceMul, false_and, and_false, reduceCtorEq, false_or, or_false, not_true_eq_false, not_false_eq_true, true_implies, false_implies, implies_true, lf_10, eq_self, Int32.reduceLT, Int32.reduceLE, Int32.reduceAdd, Int32.reduceSub, pm_same, pm_i_wI, pm_l_wL, pm_l_wM, pm_oR_rf, pm_oQ_rf, sh_k59 hS, sh_r59_25 hS, sh_k80 hS, sh_z80 hS, sh_r59_27 hS, sh_k81 hS, sh_z81 hS, mst_w46, mst_w48, mst_w49, mst_46, mst_48, mst_49, mst_k, mst_z, mst_r, mst_n, mst_l, mst_R62, mst_R64, mst_R65, mst_R66, mst_R67, mst_R78, mst_R80, mst_R81, mst_F18, mst_F24, mst_F45, mst_F47, mst_F50, mst_F51, nI_1, LQ1, LQ2, LQ4, LQ1, LQ2, ms_k, ms_z, ms_r, ms_49, ms_w49, ms_R62, ms_R64, ms_R65, ms_R66, ms_R67, ms_R75, ms_R76, ms_R77, ms_R78, ms_R79, ms_R80, ms_R81, ms_R95, ms_R96, ms_R97, ms_F0, ms_F2, ms_F18, ms_F24, ms_F31, ms_F26, ms_F45, ms_F47, ms_F50, ms_F51, ms_F52, ms_F53, ms_F54, ms_F55, ms_F56, ms_F57, ms_F58, ms_F59, ms_F60, ms_F61, ms_F62, ms_F63]
  refine ⟨by omega, hsub r _ (d - 1) (by omega) hr (fun b hb he => ?_)⟩
  obtain ⟨p, _ | u⟩ := r
  · have e0 : un (gx_bd ((p, none) : gx_R Unit) (fun _ p => gx_TT (gx_F (gx_b f n) 160 k) (gx_b f n) 160 p)) = (p, none) := rfl
    rw [e0]
    exact mr_191f (by omega) hS (by have : p ≤ n := hr; omega) hb (h b hb (fun e z => (by cases z)))
  · have hp : p ≤ n := hr
    have eR : gx_bd ((p, some u) : gx_R Unit) (fun _ p => gx_TT (gx_F (gx_b f n) 160 k) (gx_b f n) 160 p) = gx_TT (gx_F (gx_b f n) 160 k) (gx_b f n) 160 p := rfl
    have eF : gx_bd ((p, some u) : gx_R Unit) (fun _ p => gx_EE (gx_F (gx_b f n) 160 k) (gx_b f n) 160 p) = gx_EE (gx_F (gx_b f n) 160 k) (gx_b f n) 160 p := rfl
    rw [eR] at he ⊢
    rw [eF] at h
    have hok := (gx_TT_ok (B := gx_b f n) (F := gx_F (gx_b f n) 160 k) gx_b_eof (fun p hp => gx_F_ok gx_b_eof 160 k p hp) 160 (p := p) hp)
    rcases gx_two (gx_TT (gx_F (gx_b f n) 160 k) (gx_b f n) 160 p) with ⟨x, ex⟩ | ⟨x, s, ex⟩
    · have eG : gx_EE (gx_F (gx_b f n) 160 k) (gx_b f n) 160 p = (x, none) := by unfold gx_EE; rw [gx_bd_none ex]
      have hx := (hok.1 x ex).2
      rw [ex, un_none]
      refine mr_191f (by omega) hS (by omega) hb ?_
      have := h b hb (fun e z => (by rw [eG] at z; cases z))
      rw [eG] at this; exact this
    · have eG : gx_EE (gx_F (gx_b f n) 160 k) (gx_b f n) 160 p = gx_E (gx_F (gx_b f n) 160 k) (gx_b f n) 160 160 s x := by unfold gx_EE; rw [gx_bd_some ex]
      have hx := hok.2 x s ex
      rw [ex, un_some, he s (by rw [ex])]
      rw [eG] at h
      exact mr_191k hS hm h18 h24 h24b ht hsub hd 160 s x _ (ev_mono (ev_TT (fun p q s h => ev_F 160 k p q s h) ex) (by omega)) hx.2.1 (by omega) h
theorem mr_193f {G : pm_G} {S : pm_S} {o p : Nat} {q : Int32 → pm_S → Prop} {d : Nat} (hS : Sh S) (hp : p < 2 ^ 31) (h : q 0 (ms S o (p, none))) : pm_CI G d 193 [.ref 59] (ms S o (p, none)) q := by
  have hx : ¬ nI p < 0 := nI_pos hp
  have hms : ms S o (p, none) = mst S (nI p) (nI p) (nI o) := rfl
  rw [hms] at h ⊢
  refine pm_goI 193 40 pb_c193 (by decide) (Nat.le_of_ble_eq_true rfl) rfl ?_
  try simp only [show pm_mL 193 = 3 from rfl, pm_WI0, pm_WI1, pm_WI2, pm_WI3, pm_WI4, pm_WI5, pm_WV, pm_WW, pm_WX, pb_B193, pm_if, pm_QI_at, pm_QL_at, pm_QV_at, pm_QR_at, pm_QR_at0, pm_QR_at1, Nat.reduceSub, Nat.reduceAdd, List.replicate_zero, List.replicate_succ, true_and, and_true, true_or, or_true, and_self, reduceIte, Nat.reduceEqDiff, Nat.reduceLT, Nat.reduceLeDiff, Nat.reduceMul, false_and, and_false, reduceCtorEq, false_or, or_false, not_true_eq_false, not_false_eq_true, true_implies, false_implies, implies_true, lf_10, eq_self, Int32.reduceLT, Int32.reduceLE, Int32.reduceAdd, Int32.reduceSub, pm_same, pm_i_wI, pm_l_wL, pm_l_wM, pm_oR_rf, pm_oQ_rf, sh_k59 hS, sh_r59_25 hS, sh_k80 hS, sh_z80 hS, sh_r59_27 hS, sh_k81 hS, sh_z81 hS, mst_w46, mst_w48, mst_w49, mst_46, mst_48, mst_49, mst_k, mst_z, mst_r, mst_n, mst_l, mst_R62, mst_R64, mst_R65, mst_R66, mst_R67, mst_R78, mst_R80, mst_R81, mst_F18, mst_F24, mst_F45, mst_F47, mst_F50, mst_F51, nI_1, LQ1, LQ2, LQ4, LQ1, LQ2, ms_k, ms_z, ms_r, ms_49, ms_w49, ms_R62, ms_R64, ms_R65, ms_R66, ms_R67, ms_R75, ms_R76, ms_R77, ms_R78, ms_R79, ms_R80, ms_R81, ms_R95, ms_R96, ms_R97, ms_F0, ms_F2, ms_F18, ms_F24, ms_F31, ms_F26, ms_F45, ms_F47, ms_F50, ms_F51, ms_F52, ms_F53, ms_F54, ms_F55, ms_F56, ms_F57, ms_F58, ms_F59, ms_F60, ms_F61, ms_F62, ms_F63, hx]
  exact h
theorem mr_193t {G : pm_G} {S : pm_S} {f : Nat → Int32} {n : Nat} {t : Nat → Bool} {k : Nat} (hS : Sh S) (hm : mrc S f n) (h18 : iv_c S 18 ≤ 40) (h24 : pm_i S 59 24 = nI (iv_c S 24)) (h24b : iv_c S 24 ≤ 150) (ht : tq S t) {p : Nat} {q : Int32 → pm_S → Prop} {d : Nat} (hd : 7 ≤ d) (hp : p ≤ n) (y1 : ¬ gx_b f n p = 33) (y2 : ¬ gx_b f n p = 40) (h : ∀ b : Int32, (b = 0 ∨ b = 1) → (∀ e, (gx_test (gx_b f n) p).2 = some e → b = bI (gx_hv t e)) → q b (ms S k (un (gx_test (gx_b f n) p)))) : pm_CI G d 193 [.ref 59] (ms S k (p, some ())) q := by
  have hn := hm.2.1
  have hms : ms S k (p, some ()) = mst S (nI p) (-1) (nI k) := rfl
  have z1 : ¬ sg (gx_b f n p) = 33 := fun z => y1 ((sg_nc hm (c := 33) (by omega)).mp z)
  have z2 : ¬ sg (gx_b f n p) = 40 := fun z => y2 ((sg_nc hm (c := 40) (by omega)).mp z)
  rw [hms]
  refine pm_goI 193 1 pb_c193 (by decide) (Nat.le_of_ble_eq_true rfl) rfl ?_
  try simp only [show pm_mL 193 = 3 from rfl, pm_WI0, pm_WI1, pm_WI2, pm_WI3, pm_WI4, pm_WI5, pm_WV, pm_WW, pm_WX, pb_B193, pm_if, pm_QI_at, pm_QL_at, pm_QV_at, pm_QR_at, pm_QR_at0, pm_QR_at1, Nat.reduceSub, Nat.reduceAdd, List.replicate_zero, List.replicate_succ, true_and, and_true, true_or, or_true, and_self, reduceIte, Nat.reduceEqDiff, Nat.reduceLT, Nat.reduceLeDiff, Nat.reduceMul, false_and, and_false, reduceCtorEq, false_or, or_false, not_true_eq_false, not_false_eq_true, true_implies, false_implies, implies_true, lf_10, eq_self, Int32.reduceLT, Int32.reduceLE, Int32.reduceAdd, Int32.reduceSub, pm_same, pm_i_wI, pm_l_wL, pm_l_wM, pm_oR_rf, pm_oQ_rf, sh_k59 hS, sh_r59_25 hS, sh_k80 hS, sh_z80 hS, sh_r59_27 hS, sh_k81 hS, sh_z81 hS, mst_w46, mst_w48, mst_w49, mst_46, mst_48, mst_49, mst_k, mst_z, mst_r, mst_n, mst_l, mst_R62, mst_R64, mst_R65, mst_R66, mst_R67, mst_R78, mst_R80, mst_R81, mst_F18, mst_F24, mst_F45, mst_F47, mst_F50, mst_F51, nI_1, LQ1, LQ2, LQ4, LQ1, LQ2, ms_k, ms_z, ms_r, ms_49, ms_w49, ms_R62, ms_R64, ms_R65, ms_R66, ms_R67, ms_R75, ms_R76, ms_R77, ms_R78, ms_R79, ms_R80, ms_R81, ms_R95, ms_R96, ms_R97, ms_F0, ms_F2, ms_F18, ms_F24, ms_F31, ms_F26, ms_F45, ms_F47, ms_F50, ms_F51, ms_F52, ms_F53, ms_F54, ms_F55, ms_F56, ms_F57, ms_F58, ms_F59, ms_F60, ms_F61, ms_F62, ms_F63]
  refine pm_wb_ok pb_c193 3 9 0 _ _ _ _ _ ?_
  try simp only [pm_WI0, pm_WI1, pm_WI2, pm_WI3, pm_WI4, pm_WI5, pm_WV, pm_WW, pm_WX, pb_B193, pm_if, pm_QI_at, pm_QL_at, pm_QV_at, pm_QR_at, pm_QR_at0, pm_QR_at1, Nat.reduceSub, Nat.reduceAdd, List.replicate_zero, List.replicate_succ, true_and, and_true, true_or, or_true, and_self, reduceIte, Nat.reduceEqDiff, Nat.reduceLT, Nat.reduceLeDiff, Nat.reduceMul, false_and, and_false, reduceCtorEq, false_or, or_false, not_true_eq_false, not_false_eq_true, true_implies, false_implies, implies_true, lf_10, eq_self, Int32.reduceLT, Int32.reduceLE, Int32.reduceAdd, Int32.reduceSub, pm_same, pm_i_wI, pm_l_wL, pm_l_wM, pm_oR_rf, pm_oQ_rf, sh_k59 hS, sh_r59_25 hS, sh_k80 hS, sh_z80 hS, sh_r59_27 hS, sh_k81 hS, sh_z81 hS, mst_w46, mst_w48, mst_w49, mst_46, mst_48, mst_49, mst_k, mst_z, mst_r, mst_n, mst_l, mst_R62, mst_R64, mst_R65, mst_R66, mst_R67, mst_R78, mst_R80, mst_R81, mst_F18, mst_F24, mst_F45, mst_F47, mst_F50, mst_F51, nI_1, LQ1, LQ2, LQ4, LQ1, LQ2, ms_k, ms_z, ms_r, ms_49, ms_w49, ms_R62, ms_R64, ms_R65, ms_R66, ms_R67, ms_R75, ms_R76, ms_R77, ms_R78, ms_R79, ms_R80, ms_R81, ms_R95, ms_R96, ms_R97, ms_F0, ms_F2, ms_F18, ms_F24, ms_F31, ms_F26, ms_F45, ms_F47, ms_F50, ms_F51, ms_F52, ms_F53, ms_F54, ms_F55, ms_F56, ms_F57, ms_F58, ms_F59, ms_F60, ms_F61, ms_F62, ms_F63]
  refine ⟨by omega, mr_181 hS hm hp ?_⟩
  try simp only [pm_WV, pm_WW, true_and, and_true, true_or, or_true, and_self, reduceIte, Nat.reduceEqDiff, Nat.reduceLT, Nat.reduceLeDiff, Nat.reduceMul, false_and, and_false, reduceCtorEq, false_or, or_false, not_true_eq_false, not_false_eq_true, true_implies, false_implies, implies_true, lf_10, eq_self, Int32.reduceLT, Int32.reduceLE, Int32.reduceAdd, Int32.reduceSub, pm_same, pm_i_wI, pm_l_wL, pm_l_wM, pm_oR_rf, pm_oQ_rf, sh_k59 hS, sh_r59_25 hS, sh_k80 hS, sh_z80 hS, sh_r59_27 hS, sh_k81 hS, sh_z81 hS, mst_w46, mst_w48, mst_w49, mst_46, mst_48, mst_49, mst_k, mst_z, mst_r, mst_n, mst_l, mst_R62, mst_R64, mst_R65, mst_R66, mst_R67, mst_R78, mst_R80, mst_R81, mst_F18, mst_F24, mst_F45, mst_F47, mst_F50, mst_F51, nI_1, LQ1, LQ2, LQ4, LQ1, LQ2, ms_k, ms_z, ms_r, ms_49, ms_w49, ms_R62, ms_R64, ms_R65, ms_R66, ms_R67, ms_R75, ms_R76, ms_R77, ms_R78, ms_R79, ms_R80, ms_R81, ms_R95, ms_R96, ms_R97, ms_F0, ms_F2, ms_F18, ms_F24, ms_F31, ms_F26, ms_F45, ms_F47, ms_F50, ms_F51, ms_F52, ms_F53, ms_F54, ms_F55, ms_F56, ms_F57, ms_F58, ms_F59, ms_F60, ms_F61, ms_F62, ms_F63, pm_WI0, pm_WI1, pm_WI2, pm_WI3, pm_WI4, pm_WI5, pm_WV, pm_WW, pm_WX, pb_B193, pm_if, pm_QI_at, pm_QL_at, pm_QV_at, pm_QR_at, pm_QR_at0, pm_QR_at1, Nat.reduceSub, Nat.reduceAdd, List.replicate_zero, List.replicate_succ, z1, z2]
  exact ⟨by omega, mr_194 (o := k) (by omega) hS hm h18 h24 h24b ht hp (fun b hb he => ⟨hb, h b hb he⟩)⟩
theorem mr_193o {G : pm_G} {S : pm_S} {f : Nat → Int32} {n : Nat} {t : Nat → Bool} {p c : Nat} (hS : Sh S) (hm : mrc S f n) (h18 : iv_c S 18 ≤ 40) (h24 : pm_i S 59 24 = nI (iv_c S 24)) (h24b : iv_c S 24 ≤ 150) (ht : tq S t) {q : Int32 → pm_S → Prop} {d : Nat} (hd : 7 ≤ d) (hp : p ≤ n) (hc : c = 33 ∨ c = 40) (y : gx_b f n p = c) (h : q 0 (ms S 6 (p, none))) : pm_CI G d 193 [.ref 59] (ms S 6 (p, some ())) q := by
  have hn := hm.2.1
  have hms : ms S 6 (p, some ()) = mst S (nI p) (-1) 6 := rfl
  have h' : q 0 (mst S (nI p) (nI p) 6) := h
  rw [hms]
  refine pm_goI 193 1 pb_c193 (by decide) (Nat.le_of_ble_eq_true rfl) rfl ?_
  try simp only [show pm_mL 193 = 3 from rfl, pm_WI0, pm_WI1, pm_WI2, pm_WI3, pm_WI4, pm_WI5, pm_WV, pm_WW, pm_WX, pb_B193, pm_if, pm_QI_at, pm_QL_at, pm_QV_at, pm_QR_at, pm_QR_at0, pm_QR_at1, Nat.reduceSub, Nat.reduceAdd, List.replicate_zero, List.replicate_succ, true_and, and_true, true_or, or_true, and_self, reduceIte, Nat.reduceEqDiff, Nat.reduceLT, Nat.reduceLeDiff, Nat.reduceMul, false_and, and_false, reduceCtorEq, false_or, or_false, not_true_eq_false, not_false_eq_true, true_implies, false_implies, implies_true, lf_10, eq_self, Int32.reduceLT, Int32.reduceLE, Int32.reduceAdd, Int32.reduceSub, pm_same, pm_i_wI, pm_l_wL, pm_l_wM, pm_oR_rf, pm_oQ_rf, sh_k59 hS, sh_r59_25 hS, sh_k80 hS, sh_z80 hS, sh_r59_27 hS, sh_k81 hS, sh_z81 hS, mst_w46, mst_w48, mst_w49, mst_46, mst_48, mst_49, mst_k, mst_z, mst_r, mst_n, mst_l, mst_R62, mst_R64, mst_R65, mst_R66, mst_R67, mst_R78, mst_R80, mst_R81, mst_F18, mst_F24, mst_F45, mst_F47, mst_F50, mst_F51, nI_1, LQ1, LQ2, LQ4, LQ1, LQ2, ms_k, ms_z, ms_r, ms_49, ms_w49, ms_R62, ms_R64, ms_R65, ms_R66, ms_R67, ms_R75, ms_R76, ms_R77, ms_R78, ms_R79, ms_R80, ms_R81, ms_R95, ms_R96, ms_R97, ms_F0, ms_F2, ms_F18, ms_F24, ms_F31, ms_F26, ms_F45, ms_F47, ms_F50, ms_F51, ms_F52, ms_F53, ms_F54, ms_F55, ms_F56, ms_F57, ms_F58, ms_F59, ms_F60, ms_F61, ms_F62, ms_F63]
  rcases hc with rfl | rfl
  · have es : sg (gx_b f n p) = 33 := by rw [y]; rfl
    refine pm_wb_ok pb_c193 6 9 0 _ _ _ _ _ ?_
    try simp only [pm_WI0, pm_WI1, pm_WI2, pm_WI3, pm_WI4, pm_WI5, pm_WV, pm_WW, pm_WX, pb_B193, pm_if, pm_QI_at, pm_QL_at, pm_QV_at, pm_QR_at, pm_QR_at0, pm_QR_at1, Nat.reduceSub, Nat.reduceAdd, List.replicate_zero, List.replicate_succ, true_and, and_true, true_or, or_true, and_self, reduceIte, Nat.reduceEqDiff, Nat.reduceLT, Nat.reduceLeDiff, Nat.reduceMul, false_and, and_false, reduceCtorEq, false_or, or_false, not_true_eq_false, not_false_eq_true, true_implies, false_implies, implies_true, lf_10, eq_self, Int32.reduceLT, Int32.reduceLE, Int32.reduceAdd, Int32.reduceSub, pm_same, pm_i_wI, pm_l_wL, pm_l_wM, pm_oR_rf, pm_oQ_rf, sh_k59 hS, sh_r59_25 hS, sh_k80 hS, sh_z80 hS, sh_r59_27 hS, sh_k81 hS, sh_z81 hS, mst_w46, mst_w48, mst_w49, mst_46, mst_48, mst_49, mst_k, mst_z, mst_r, mst_n, mst_l, mst_R62, mst_R64, mst_R65, mst_R66, mst_R67, mst_R78, mst_R80, mst_R81, mst_F18, mst_F24, mst_F45, mst_F47, mst_F50, mst_F51, nI_1, LQ1, LQ2, LQ4, LQ1, LQ2, ms_k, ms_z, ms_r, ms_49, ms_w49, ms_R62, ms_R64, ms_R65, ms_R66, ms_R67, ms_R75, ms_R76, ms_R77, ms_R78, ms_R79, ms_R80, ms_R81, ms_R95, ms_R96, ms_R97, ms_F0, ms_F2, ms_F18, ms_F24, ms_F31, ms_F26, ms_F45, ms_F47, ms_F50, ms_F51, ms_F52, ms_F53, ms_F54, ms_F55, ms_F56, ms_F57, ms_F58, ms_F59, ms_F60, ms_F61, ms_F62, ms_F63]
    refine ⟨by omega, mr_181 hS hm hp ?_⟩
    try simp only [pm_WV, pm_WW, true_and, and_true, true_or, or_true, and_self, reduceIte, Nat.reduceEqDiff, Nat.reduceLT, Nat.reduceLeDiff, Nat.reduceMul, false_and, and_false, reduceCtorEq, false_or, or_false, not_true_eq_false, not_false_eq_true, true_implies, false_implies, implies_true, lf_10, eq_self, Int32.reduceLT, Int32.reduceLE, Int32.reduceAdd, Int32.reduceSub, pm_same, pm_i_wI, pm_l_wL, pm_l_wM, pm_oR_rf, pm_oQ_rf, sh_k59 hS, sh_r59_25 hS, sh_k80 hS, sh_z80 hS, sh_r59_27 hS, sh_k81 hS, sh_z81 hS, mst_w46, mst_w48, mst_w49, mst_46, mst_48, mst_49, mst_k, mst_z, mst_r, mst_n, mst_l, mst_R62, mst_R64, mst_R65, mst_R66, mst_R67, mst_R78, mst_R80, mst_R81, mst_F18, mst_F24, mst_F45, mst_F47, mst_F50, mst_F51, nI_1, LQ1, LQ2, LQ4, LQ1, LQ2, ms_k, ms_z, ms_r, ms_49, ms_w49, ms_R62, ms_R64, ms_R65, ms_R66, ms_R67, ms_R75, ms_R76, ms_R77, ms_R78, ms_R79, ms_R80, ms_R81, ms_R95, ms_R96, ms_R97, ms_F0, ms_F2, ms_F18, ms_F24, ms_F31, ms_F26, ms_F45, ms_F47, ms_F50, ms_F51, ms_F52, ms_F53, ms_F54, ms_F55, ms_F56, ms_F57, ms_F58, ms_F59, ms_F60, ms_F61, ms_F62, ms_F63, pm_WI0, pm_WI1, pm_WI2, pm_WI3, pm_WI4, pm_WI5, pm_WV, pm_WW, pm_WX, pb_B193, pm_if, pm_QI_at, pm_QL_at, pm_QV_at, pm_QR_at, pm_QR_at0, pm_QR_at1, Nat.reduceSub, Nat.reduceAdd, List.replicate_zero, List.replicate_succ, es]
    exact ⟨by omega, mr_187l hS ⟨fun _ => h', fun z => absurd (Int32.le_refl 0) z⟩⟩
  · have es : sg (gx_b f n p) = 40 := by rw [y]; rfl
    refine pm_wb_ok pb_c193 6 9 0 _ _ _ _ _ ?_
    try simp only [pm_WI0, pm_WI1, pm_WI2, pm_WI3, pm_WI4, pm_WI5, pm_WV, pm_WW, pm_WX, pb_B193, pm_if, pm_QI_at, pm_QL_at, pm_QV_at, pm_QR_at, pm_QR_at0, pm_QR_at1, Nat.reduceSub, Nat.reduceAdd, List.replicate_zero, List.replicate_succ, true_and, and_true, true_or, or_true, and_self, reduceIte, Nat.reduceEqDiff, Nat.reduceLT, Nat.reduceLeDiff, Nat.reduceMul, false_and, and_false, reduceCtorEq, false_or, or_false, not_true_eq_false, not_false_eq_true, true_implies, false_implies, implies_true, lf_10, eq_self, Int32.reduceLT, Int32.reduceLE, Int32.reduceAdd, Int32.reduceSub, pm_same, pm_i_wI, pm_l_wL, pm_l_wM, pm_oR_rf, pm_oQ_rf, sh_k59 hS, sh_r59_25 hS, sh_k80 hS, sh_z80 hS, sh_r59_27 hS, sh_k81 hS, sh_z81 hS, mst_w46, mst_w48, mst_w49, mst_46, mst_48, mst_49, mst_k, mst_z, mst_r, mst_n, mst_l, mst_R62, mst_R64, mst_R65, mst_R66, mst_R67, mst_R78, mst_R80, mst_R81, mst_F18, mst_F24, mst_F45, mst_F47, mst_F50, mst_F51, nI_1, LQ1, LQ2, LQ4, LQ1, LQ2, ms_k, ms_z, ms_r, ms_49, ms_w49, ms_R62, ms_R64, ms_R65, ms_R66, ms_R67, ms_R75, ms_R76, ms_R77, ms_R78, ms_R79, ms_R80, ms_R81, ms_R95, ms_R96, ms_R97, ms_F0, ms_F2, ms_F18, ms_F24, ms_F31, ms_F26, ms_F45, ms_F47, ms_F50, ms_F51, ms_F52, ms_F53, ms_F54, ms_F55, ms_F56, ms_F57, ms_F58, ms_F59, ms_F60, ms_F61, ms_F62, ms_F63]
    refine ⟨by omega, mr_181 hS hm hp ?_⟩
    try simp only [pm_WV, pm_WW, true_and, and_true, true_or, or_true, and_self, reduceIte, Nat.reduceEqDiff, Nat.reduceLT, Nat.reduceLeDiff, Nat.reduceMul, false_and, and_false, reduceCtorEq, false_or, or_false, not_true_eq_false, not_false_eq_true, true_implies, false_implies, implies_true, lf_10, eq_self, Int32.reduceLT, Int32.reduceLE, Int32.reduceAdd, Int32.reduceSub, pm_same, pm_i_wI, pm_l_wL, pm_l_wM, pm_oR_rf, pm_oQ_rf, sh_k59 hS, sh_r59_25 hS, sh_k80 hS, sh_z80 hS, sh_r59_27 hS, sh_k81 hS, sh_z81 hS, mst_w46, mst_w48, mst_w49, mst_46, mst_48, mst_49, mst_k, mst_z, mst_r, mst_n, mst_l, mst_R62, mst_R64, mst_R65, mst_R66, mst_R67, mst_R78, mst_R80, mst_R81, mst_F18, mst_F24, mst_F45, mst_F47, mst_F50, mst_F51, nI_1, LQ1, LQ2, LQ4, LQ1, LQ2, ms_k, ms_z, ms_r, ms_49, ms_w49, ms_R62, ms_R64, ms_R65, ms_R66, ms_R67, ms_R75, ms_R76, ms_R77, ms_R78, ms_R79, ms_R80, ms_R81, ms_R95, ms_R96, ms_R97, ms_F0, ms_F2, ms_F18, ms_F24, ms_F31, ms_F26, ms_F45, ms_F47, ms_F50, ms_F51, ms_F52, ms_F53, ms_F54, ms_F55, ms_F56, ms_F57, ms_F58, ms_F59, ms_F60, ms_F61, ms_F62, ms_F63, pm_WI0, pm_WI1, pm_WI2, pm_WI3, pm_WI4, pm_WI5, pm_WV, pm_WW, pm_WX, pb_B193, pm_if, pm_QI_at, pm_QL_at, pm_QV_at, pm_QR_at, pm_QR_at0, pm_QR_at1, Nat.reduceSub, Nat.reduceAdd, List.replicate_zero, List.replicate_succ, es]
    exact ⟨by omega, mr_187l hS ⟨fun _ => h', fun z => absurd (Int32.le_refl 0) z⟩⟩
theorem mr_193 {G : pm_G} {S : pm_S} {f : Nat → Int32} {n : Nat} {t : Nat → Bool} {k : Nat} (hS : Sh S) (hm : mrc S f n) (h18 : iv_c S 18 ≤ 40) (h24 : pm_i S 59 24 = nI (iv_c S 24)) (h24b : iv_c S 24 ≤ 150) (ht : tq S t) (hk : k < 6) (hF : mFC G S f n t k) (hE : mEC G S f n t k) : mFC G S f n t (k + 1) := by
  intro r q d hd hr h
  have hn := hm.2.1
  obtain ⟨p, _ | u⟩ := r
  · exact mr_193f hS (by have : p ≤ n := hr; omega) (h 0 (Or.inl rfl) (fun e z => (by cases z)))
  · have hp : p ≤ n := hr
    have eF : gx_bd ((p, some u) : gx_R Unit) (fun _ p => gx_F (gx_b f n) 160 (k + 1) p) = gx_F (gx_b f n) 160 (k + 1) p := rfl
    rw [eF] at h
    have ho : nI (6 - (k + 1)) + 1 = nI (6 - k) := by rw [nI_1]; congr 1; omega
    have ho2 : nI (6 - k) - 1 = nI (6 - (k + 1)) := by rw [← ho]; lia
    have ho6 : ¬ nI (6 - (k + 1)) = 6 := fun z => by
      have := (nI_eq (a := 6 - (k + 1)) (b := 6) (by omega) (by omega)).mp z
      omega
    have hms : ms S (6 - (k + 1)) (p, some u) = mst S (nI p) (-1) (nI (6 - (k + 1))) := rfl
    by_cases y1 : gx_b f n p = 33
    · have hpn : p < n := gx_lt gx_b_eof y1 (by omega)
      have ec : gx_F (gx_b f n) 160 (k + 1) p = gx_bd (gx_F (gx_b f n) 160 k (p + 1)) (fun s q => (q, some (s ++ [8]))) := by rw [gx_F, if_pos y1]
      rw [ec] at h
      have es : sg (gx_b f n p) = 33 := by rw [y1]; rfl
      rw [hms]
      refine pm_goI 193 1 pb_c193 (by decide) (Nat.le_of_ble_eq_true rfl) rfl ?_
      try simp only [show pm_mL 193 = 3 from rfl, pm_WI0, pm_WI1, pm_WI2, pm_WI3, pm_WI4, pm_WI5, pm_WV, pm_WW, pm_WX, pb_B193, pm_if, pm_QI_at, pm_QL_at, pm_QV_at, pm_QR_at, pm_QR_at0, pm_QR_at1, Nat.reduceSub, Nat.reduceAdd, List.replicate_zero, List.replicate_succ, true_and, and_true, true_or, or_true, and_self, reduceIte, Nat.reduceEqDiff, Nat.reduceLT, Nat.reduceLeDiff, Nat.reduceMul, false_and, and_false, reduceCtorEq, false_or, or_false, not_true_eq_false, not_false_eq_true, true_implies, false_implies, implies_true, lf_10, eq_self, Int32.reduceLT, Int32.reduceLE, Int32.reduceAdd, Int32.reduceSub, pm_same, pm_i_wI, pm_l_wL, pm_l_wM, pm_oR_rf, pm_oQ_rf, sh_k59 hS, sh_r59_25 hS, sh_k80 hS, sh_z80 hS, sh_r59_27 hS, sh_k81 hS, sh_z81 hS, mst_w46, mst_w48, mst_w49, mst_46, mst_48, mst_49, mst_k, mst_z, mst_r, mst_n, mst_l, mst_R62, mst_R64, mst_R65, mst_R66, mst_R67, mst_R78, mst_R80, mst_R81, mst_F18, mst_F24, mst_F45, mst_F47, mst_F50, mst_F51, nI_1, LQ1, LQ2, LQ4, LQ1, LQ2, ms_k, ms_z, ms_r, ms_49, ms_w49, ms_R62, ms_R64, ms_R65, ms_R66, ms_R67, ms_R75, ms_R76, ms_R77, ms_R78, ms_R79, ms_R80, ms_R81, ms_R95, ms_R96, ms_R97, ms_F0, ms_F2, ms_F18, ms_F24, ms_F31, ms_F26, ms_F45, ms_F47, ms_F50, ms_F51, ms_F52, ms_F53, ms_F54, ms_F55, ms_F56, ms_F57, ms_F58, ms_F59, ms_F60, ms_F61, ms_F62, ms_F63]
      refine pm_wb_ok pb_c193 8 9 0 _ _ _ _ _ ?_
      try simp only [pm_WI0, pm_WI1, pm_WI2, pm_WI3, pm_WI4, pm_WI5, pm_WV, pm_WW, pm_WX, pb_B193, pm_if, pm_QI_at, pm_QL_at, pm_QV_at, pm_QR_at, pm_QR_at0, pm_QR_at1, Nat.reduceSub, Nat.reduceAdd, List.replicate_zero, List.replicate_succ, true_and, and_true, true_or, or_true, and_self, reduceIte, Nat.reduceEqDiff, Nat.reduceLT, Nat.reduceLeDiff, Nat.reduceMul, false_and, and_false, reduceCtorEq, false_or, or_false, not_true_eq_false, not_false_eq_true, true_implies, false_implies, implies_true, lf_10, eq_self, Int32.reduceLT, Int32.reduceLE, Int32.reduceAdd, Int32.reduceSub, pm_same, pm_i_wI, pm_l_wL, pm_l_wM, pm_oR_rf, pm_oQ_rf, sh_k59 hS, sh_r59_25 hS, sh_k80 hS, sh_z80 hS, sh_r59_27 hS, sh_k81 hS, sh_z81 hS, mst_w46, mst_w48, mst_w49, mst_46, mst_48, mst_49, mst_k, mst_z, mst_r, mst_n, mst_l, mst_R62, mst_R64, mst_R65, mst_R66, mst_R67, mst_R78, mst_R80, mst_R81, mst_F18, mst_F24, mst_F45, mst_F47, mst_F50, mst_F51, nI_1, LQ1, LQ2, LQ4, LQ1, LQ2, ms_k, ms_z, ms_r, ms_49, ms_w49, ms_R62, ms_R64, ms_R65, ms_R66, ms_R67, ms_R75, ms_R76, ms_R77, ms_R78, ms_R79, ms_R80, ms_R81, ms_R95, ms_R96, ms_R97, ms_F0, ms_F2, ms_F18, ms_F24, ms_F31, ms_F26, ms_F45, ms_F47, ms_F50, ms_F51, ms_F52, ms_F53, ms_F54, ms_F55, ms_F56, ms_F57, ms_F58, ms_F59, ms_F60, ms_F61, ms_F62, ms_F63]
      refine ⟨by omega, mr_181 hS hm hp ?_⟩
      try simp only [pm_WV, pm_WW, true_and, and_true, true_or, or_true, and_self, reduceIte, Nat.reduceEqDiff, Nat.reduceLT, Nat.reduceLeDiff, Nat.reduceMul, false_and, and_false, reduceCtorEq, false_or, or_false, not_true_eq_false, not_false_eq_true, true_implies, false_implies, implies_true, lf_10, eq_self, Int32.reduceLT, Int32.reduceLE, Int32.reduceAdd, Int32.reduceSub, pm_same, pm_i_wI, pm_l_wL, pm_l_wM, pm_oR_rf, pm_oQ_rf, sh_k59 hS, sh_r59_25 hS, sh_k80 hS, sh_z80 hS, sh_r59_27 hS, sh_k81 hS, sh_z81 hS, mst_w46, mst_w48, mst_w49, mst_46, mst_48, mst_49, mst_k, mst_z, mst_r, mst_n, mst_l, mst_R62, mst_R64, mst_R65, mst_R66, mst_R67, mst_R78, mst_R80, mst_R81, mst_F18, mst_F24, mst_F45, mst_F47, mst_F50, mst_F51, nI_1, LQ1, LQ2, LQ4, LQ1, LQ2, ms_k, ms_z, ms_r, ms_49, ms_w49, ms_R62, ms_R64, ms_R65, ms_R66, ms_R67, ms_R75, ms_R76, ms_R77, ms_R78, ms_R79, ms_R80, ms_R81, ms_R95, ms_R96, ms_R97, ms_F0, ms_F2, ms_F18, ms_F24, ms_F31, ms_F26, ms_F45, ms_F47, ms_F50, ms_F51, ms_F52, ms_F53, ms_F54, ms_F55, ms_F56, ms_F57, ms_F58, ms_F59, ms_F60, ms_F61, ms_F62, ms_F63, pm_WI0, pm_WI1, pm_WI2, pm_WI3, pm_WI4, pm_WI5, pm_WV, pm_WW, pm_WX, pb_B193, pm_if, pm_QI_at, pm_QL_at, pm_QV_at, pm_QR_at, pm_QR_at0, pm_QR_at1, Nat.reduceSub, Nat.reduceAdd, List.replicate_zero, List.replicate_succ, es, ho6, ho]
      refine ⟨by omega, hF (p + 1, some ()) _ (d - 1) (by omega) (by show p + 1 ≤ n; omega) (fun b hb he => ?_)⟩
      have eR : gx_bd ((p + 1, some ()) : gx_R Unit) (fun _ p => gx_F (gx_b f n) 160 k p) = gx_F (gx_b f n) 160 k (p + 1) := rfl
      rw [eR] at he ⊢
      rw [un_bds] at h
      have hq : q (if b = 0 then 1 else 0) (ms S (6 - (k + 1)) (un (gx_F (gx_b f n) 160 k (p + 1)))) := by
        refine h _ (by split <;> simp) (fun e z => ?_)
        rcases gx_two (gx_F (gx_b f n) 160 k (p + 1)) with ⟨x, ex⟩ | ⟨x, s, ex⟩
        · rw [gx_bd_none ex] at z; cases z
        · rw [gx_bd_some ex] at z; cases z
          rw [(ev_not (ev_F 160 k _ _ _ ex)).1, he s (by rw [ex])]
          cases gx_hv t s <;> rfl
      rcases hb with rfl | rfl
      · try simp only [pm_WV, pm_WW, true_and, and_true, true_or, or_true, and_self, reduceIte, Nat.reduceEqDiff, Nat.reduceLT, Nat.reduceLeDiff, Nat.reduceMul, false_and, and_false, reduceCtorEq, false_or, or_false, not_true_eq_false, not_false_eq_true, true_implies, false_implies, implies_true, lf_10, eq_self, Int32.reduceLT, Int32.reduceLE, Int32.reduceAdd, Int32.reduceSub, pm_same, pm_i_wI, pm_l_wL, pm_l_wM, pm_oR_rf, pm_oQ_rf, sh_k59 hS, sh_r59_25 hS, sh_k80 hS, sh_z80 hS, sh_r59_27 hS, sh_k81 hS, sh_z81 hS, mst_w46, mst_w48, mst_w49, mst_46, mst_48, mst_49, mst_k, mst_z, mst_r, mst_n, mst_l, mst_R62, mst_R64, mst_R65, mst_R66, mst_R67, mst_R78, mst_R80, mst_R81, mst_F18, mst_F24, mst_F45, mst_F47, mst_F50, mst_F51, nI_1, LQ1, LQ2, LQ4, LQ1, LQ2, ms_k, ms_z, ms_r, ms_49, ms_w49, ms_R62, ms_R64, ms_R65, ms_R66, ms_R67, ms_R75, ms_R76, ms_R77, ms_R78, ms_R79, ms_R80, ms_R81, ms_R95, ms_R96, ms_R97, ms_F0, ms_F2, ms_F18, ms_F24, ms_F31, ms_F26, ms_F45, ms_F47, ms_F50, ms_F51, ms_F52, ms_F53, ms_F54, ms_F55, ms_F56, ms_F57, ms_F58, ms_F59, ms_F60, ms_F61, ms_F62, ms_F63, pm_WI0, pm_WI1, pm_WI2, pm_WI3, pm_WI4, pm_WI5, pm_WV, pm_WW, pm_WX, pb_B193, pm_if, pm_QI_at, pm_QL_at, pm_QV_at, pm_QR_at, pm_QR_at0, pm_QR_at1, Nat.reduceSub, Nat.reduceAdd, List.replicate_zero, List.replicate_succ, ho2] at hq ⊢
        exact hq
      · try simp only [pm_WV, pm_WW, true_and, and_true, true_or, or_true, and_self, reduceIte, Nat.reduceEqDiff, Nat.reduceLT, Nat.reduceLeDiff, Nat.reduceMul, false_and, and_false, reduceCtorEq, false_or, or_false, not_true_eq_false, not_false_eq_true, true_implies, false_implies, implies_true, lf_10, eq_self, Int32.reduceLT, Int32.reduceLE, Int32.reduceAdd, Int32.reduceSub, pm_same, pm_i_wI, pm_l_wL, pm_l_wM, pm_oR_rf, pm_oQ_rf, sh_k59 hS, sh_r59_25 hS, sh_k80 hS, sh_z80 hS, sh_r59_27 hS, sh_k81 hS, sh_z81 hS, mst_w46, mst_w48, mst_w49, mst_46, mst_48, mst_49, mst_k, mst_z, mst_r, mst_n, mst_l, mst_R62, mst_R64, mst_R65, mst_R66, mst_R67, mst_R78, mst_R80, mst_R81, mst_F18, mst_F24, mst_F45, mst_F47, mst_F50, mst_F51, nI_1, LQ1, LQ2, LQ4, LQ1, LQ2, ms_k, ms_z, ms_r, ms_49, ms_w49, ms_R62, ms_R64, ms_R65, ms_R66, ms_R67, ms_R75, ms_R76, ms_R77, ms_R78, ms_R79, ms_R80, ms_R81, ms_R95, ms_R96, ms_R97, ms_F0, ms_F2, ms_F18, ms_F24, ms_F31, ms_F26, ms_F45, ms_F47, ms_F50, ms_F51, ms_F52, ms_F53, ms_F54, ms_F55, ms_F56, ms_F57, ms_F58, ms_F59, ms_F60, ms_F61, ms_F62, ms_F63, pm_WI0, pm_WI1, pm_WI2, pm_WI3, pm_WI4, pm_WI5, pm_WV, pm_WW, pm_WX, pb_B193, pm_if, pm_QI_at, pm_QL_at, pm_QV_at, pm_QR_at, pm_QR_at0, pm_QR_at1, Nat.reduceSub, Nat.reduceAdd, List.replicate_zero, List.replicate_succ, ho2] at hq ⊢
        exact hq
    · by_cases y2 : gx_b f n p = 40
      · have hpn : p < n := gx_lt gx_b_eof y2 (by omega)
        have ec : gx_F (gx_b f n) 160 (k + 1) p = gx_bd (gx_EE (gx_F (gx_b f n) 160 k) (gx_b f n) 160 (p + 1)) (fun s q => if gx_b f n q = 41 then (q + 1, some s) else (q, none)) := by rw [gx_F, if_neg y1, if_pos y2]
        rw [ec] at h
        have es : sg (gx_b f n p) = 40 := by rw [y2]; rfl
        rw [hms]
        refine pm_goI 193 1 pb_c193 (by decide) (Nat.le_of_ble_eq_true rfl) rfl ?_
        try simp only [show pm_mL 193 = 3 from rfl, pm_WI0, pm_WI1, pm_WI2, pm_WI3, pm_WI4, pm_WI5, pm_WV, pm_WW, pm_WX, pb_B193, pm_if, pm_QI_at, pm_QL_at, pm_QV_at, pm_QR_at, pm_QR_at0, pm_QR_at1, Nat.reduceSub, Nat.reduceAdd, List.replicate_zero, List.replicate_succ, true_and, and_true, true_or, or_true, and_self, reduceIte, Nat.reduceEqDiff, Nat.reduceLT, Nat.reduceLeDiff, Nat.reduceMul, false_and, and_false, reduceCtorEq, false_or, or_false, not_true_eq_false, not_false_eq_true, true_implies, false_implies, implies_true, lf_10, eq_self, Int32.reduceLT, Int32.reduceLE, Int32.reduceAdd, Int32.reduceSub, pm_same, pm_i_wI, pm_l_wL, pm_l_wM, pm_oR_rf, pm_oQ_rf, sh_k59 hS, sh_r59_25 hS, sh_k80 hS, sh_z80 hS, sh_r59_27 hS, sh_k81 hS, sh_z81 hS, mst_w46, mst_w48, mst_w49, mst_46, mst_48, mst_49, mst_k, mst_z, mst_r, mst_n, mst_l, mst_R62, mst_R64, mst_R65, mst_R66, mst_R67, mst_R78, mst_R80, mst_R81, mst_F18, mst_F24, mst_F45, mst_F47, mst_F50, mst_F51, nI_1, LQ1, LQ2, LQ4, LQ1, LQ2, ms_k, ms_z, ms_r, ms_49, ms_w49, ms_R62, ms_R64, ms_R65, ms_R66, ms_R67, ms_R75, ms_R76, ms_R77, ms_R78, ms_R79, ms_R80, ms_R81, ms_R95, ms_R96, ms_R97, ms_F0, ms_F2, ms_F18, ms_F24, ms_F31, ms_F26, ms_F45, ms_F47, ms_F50, ms_F51, ms_F52, ms_F53, ms_F54, ms_F55, ms_F56, ms_F57, ms_F58, ms_F59, ms_F60, ms_F61, ms_F62, ms_F63]
        refine pm_wb_ok pb_c193 8 9 0 _ _ _ _ _ ?_
        try simp only [pm_WI0, pm_WI1, pm_WI2, pm_WI3, pm_WI4, pm_WI5, pm_WV, pm_WW, pm_WX, pb_B193, pm_if, pm_QI_at, pm_QL_at, pm_QV_at, pm_QR_at, pm_QR_at0, pm_QR_at1, Nat.reduceSub, Nat.reduceAdd, List.replicate_zero, List.replicate_succ, true_and, and_true, true_or, or_true, and_self, reduceIte, Nat.reduceEqDiff, Nat.reduceLT, Nat.reduceLeDiff, Nat.reduceMul, false_and, and_false, reduceCtorEq, false_or, or_false, not_true_eq_false, not_false_eq_true, true_implies, false_implies, implies_true, lf_10, eq_self, Int32.reduceLT, Int32.reduceLE, Int32.reduceAdd, Int32.reduceSub, pm_same, pm_i_wI, pm_l_wL, pm_l_wM, pm_oR_rf, pm_oQ_rf, sh_k59 hS, sh_r59_25 hS, sh_k80 hS, sh_z80 hS, sh_r59_27 hS, sh_k81 hS, sh_z81 hS, mst_w46, mst_w48, mst_w49, mst_46, mst_48, mst_49, mst_k, mst_z, mst_r, mst_n, mst_l, mst_R62, mst_R64, mst_R65, mst_R66, mst_R67, mst_R78, mst_R80, mst_R81, mst_F18, mst_F24, mst_F45, mst_F47, mst_F50, mst_F51, nI_1, LQ1, LQ2, LQ4, LQ1, LQ2, ms_k, ms_z, ms_r, ms_49, ms_w49, ms_R62, ms_R64, ms_R65, ms_R66, ms_R67, ms_R75, ms_R76, ms_R77, ms_R78, ms_R79, ms_R80, ms_R81, ms_R95, ms_R96, ms_R97, ms_F0, ms_F2, ms_F18, ms_F24, ms_F31, ms_F26, ms_F45, ms_F47, ms_F50, ms_F51, ms_F52, ms_F53, ms_F54, ms_F55, ms_F56, ms_F57, ms_F58, ms_F59, ms_F60, ms_F61, ms_F62, ms_F63]
        refine ⟨by omega, mr_181 hS hm hp ?_⟩
        try simp only [pm_WV, pm_WW, true_and, and_true, true_or, or_true, and_self, reduceIte, Nat.reduceEqDiff, Nat.reduceLT, Nat.reduceLeDiff, Nat.reduceMul, false_and, and_false, reduceCtorEq, false_or, or_false, not_true_eq_false, not_false_eq_true, true_implies, false_implies, implies_true, lf_10, eq_self, Int32.reduceLT, Int32.reduceLE, Int32.reduceAdd, Int32.reduceSub, pm_same, pm_i_wI, pm_l_wL, pm_l_wM, pm_oR_rf, pm_oQ_rf, sh_k59 hS, sh_r59_25 hS, sh_k80 hS, sh_z80 hS, sh_r59_27 hS, sh_k81 hS, sh_z81 hS, mst_w46, mst_w48, mst_w49, mst_46, mst_48, mst_49, mst_k, mst_z, mst_r, mst_n, mst_l, mst_R62, mst_R64, mst_R65, mst_R66, mst_R67, mst_R78, mst_R80, mst_R81, mst_F18, mst_F24, mst_F45, mst_F47, mst_F50, mst_F51, nI_1, LQ1, LQ2, LQ4, LQ1, LQ2, ms_k, ms_z, ms_r, ms_49, ms_w49, ms_R62, ms_R64, ms_R65, ms_R66, ms_R67, ms_R75, ms_R76, ms_R77, ms_R78, ms_R79, ms_R80, ms_R81, ms_R95, ms_R96, ms_R97, ms_F0, ms_F2, ms_F18, ms_F24, ms_F31, ms_F26, ms_F45, ms_F47, ms_F50, ms_F51, ms_F52, ms_F53, ms_F54, ms_F55, ms_F56, ms_F57, ms_F58, ms_F59, ms_F60, ms_F61, ms_F62, ms_F63, pm_WI0, pm_WI1, pm_WI2, pm_WI3, pm_WI4, pm_WI5, pm_WV, pm_WW, pm_WX, pb_B193, pm_if, pm_QI_at, pm_QL_at, pm_QV_at, pm_QR_at, pm_QR_at0, pm_QR_at1, Nat.reduceSub, Nat.reduceAdd, List.replicate_zero, List.replicate_succ, es, ho6, ho]
        refine ⟨by omega, hE (p + 1, some ()) _ (d - 1) (by omega) (by show p + 1 ≤ n; omega) (fun b hb he => ?_)⟩
        have eR : gx_bd ((p + 1, some ()) : gx_R Unit) (fun _ p => gx_EE (gx_F (gx_b f n) 160 k) (gx_b f n) 160 p) = gx_EE (gx_F (gx_b f n) 160 k) (gx_b f n) 160 (p + 1) := rfl
        rw [eR] at he ⊢
        have hok := gx_ok_le (gx_EE_ok (B := gx_b f n) (F := gx_F (gx_b f n) 160 k) gx_b_eof (fun p hp => gx_F_ok gx_b_eof 160 k p hp) 160 (p := p + 1) (by omega))
        have hq : q b (ms S (6 - (k + 1)) (gx_bd (un (gx_EE (gx_F (gx_b f n) 160 k) (gx_b f n) 160 (p + 1))) (fun _ p => gx_w (gx_b f n) [41] p))) := by
          have := h b hb (fun e z => ?_)
          · refine cast (congrArg (fun r => q b (ms S (6 - (k + 1)) r)) ?_) this
            rcases gx_two (gx_EE (gx_F (gx_b f n) 160 k) (gx_b f n) 160 (p + 1)) with ⟨x, ex⟩ | ⟨x, s, ex⟩
            · rw [ex]; rfl
            · rw [ex]
              show un (if gx_b f n x = 41 then (x + 1, some s) else (x, none)) = (if gx_b f n x = 41 then (x + 1, some ()) else (x, none))
              split <;> rfl
          · rcases gx_two (gx_EE (gx_F (gx_b f n) 160 k) (gx_b f n) 160 (p + 1)) with ⟨x, ex⟩ | ⟨x, s, ex⟩
            · rw [gx_bd_none ex] at z; cases z
            · rw [gx_bd_some ex] at z
              split at z
              · cases z; exact he s (by rw [ex])
              · cases z
        try simp only [pm_WV, pm_WW, true_and, and_true, true_or, or_true, and_self, reduceIte, Nat.reduceEqDiff, Nat.reduceLT, Nat.reduceLeDiff, Nat.reduceMul, false_and, and_false, reduceCtorEq, false_or, or_false, not_true_eq_false, not_false_eq_true, true_implies, false_implies, implies_true, lf_10, eq_self, Int32.reduceLT, Int32.reduceLE, Int32.reduceAdd, Int32.reduceSub, pm_same, pm_i_wI, pm_l_wL, pm_l_wM, pm_oR_rf, pm_oQ_rf, sh_k59 hS, sh_r59_25 hS, sh_k80 hS, sh_z80 hS, sh_r59_27 hS, sh_k81 hS, sh_z81 hS, mst_w46, mst_w48, mst_w49, mst_46, mst_48, mst_49, mst_k, mst_z, mst_r, mst_n, mst_l, mst_R62, mst_R64, mst_R65, mst_R66, mst_R67, mst_R78, mst_R80, mst_R81, mst_F18, mst_F24, mst_F45, mst_F47, mst_F50, mst_F51, nI_1, LQ1, LQ2, LQ4, LQ1, LQ2, ms_k, ms_z, ms_r, ms_49, ms_w49, ms_R62, ms_R64, ms_R65, ms_R66, ms_R67, ms_R75, ms_R76, ms_R77, ms_R78, ms_R79, ms_R80, ms_R81, ms_R95, ms_R96, ms_R97, ms_F0, ms_F2, ms_F18, ms_F24, ms_F31, ms_F26, ms_F45, ms_F47, ms_F50, ms_F51, ms_F52, ms_F53, ms_F54, ms_F55, ms_F56, ms_F57, ms_F58, ms_F59, ms_F60, ms_F61, ms_F62, ms_F63, pm_WI0, pm_WI1, pm_WI2, pm_WI3, pm_WI4, pm_WI5, pm_WV, pm_WW, pm_WX, pb_B193, pm_if, pm_QI_at, pm_QL_at, pm_QV_at, pm_QR_at, pm_QR_at0, pm_QR_at1, Nat.reduceSub, Nat.reduceAdd, List.replicate_zero, List.replicate_succ]
        refine ⟨by omega, mr_185 (c := 41) (by omega) hS hm hok (by omega) ?_⟩
        try simp only [pm_WV, pm_WW, true_and, and_true, true_or, or_true, and_self, reduceIte, Nat.reduceEqDiff, Nat.reduceLT, Nat.reduceLeDiff, Nat.reduceMul, false_and, and_false, reduceCtorEq, false_or, or_false, not_true_eq_false, not_false_eq_true, true_implies, false_implies, implies_true, lf_10, eq_self, Int32.reduceLT, Int32.reduceLE, Int32.reduceAdd, Int32.reduceSub, pm_same, pm_i_wI, pm_l_wL, pm_l_wM, pm_oR_rf, pm_oQ_rf, sh_k59 hS, sh_r59_25 hS, sh_k80 hS, sh_z80 hS, sh_r59_27 hS, sh_k81 hS, sh_z81 hS, mst_w46, mst_w48, mst_w49, mst_46, mst_48, mst_49, mst_k, mst_z, mst_r, mst_n, mst_l, mst_R62, mst_R64, mst_R65, mst_R66, mst_R67, mst_R78, mst_R80, mst_R81, mst_F18, mst_F24, mst_F45, mst_F47, mst_F50, mst_F51, nI_1, LQ1, LQ2, LQ4, LQ1, LQ2, ms_k, ms_z, ms_r, ms_49, ms_w49, ms_R62, ms_R64, ms_R65, ms_R66, ms_R67, ms_R75, ms_R76, ms_R77, ms_R78, ms_R79, ms_R80, ms_R81, ms_R95, ms_R96, ms_R97, ms_F0, ms_F2, ms_F18, ms_F24, ms_F31, ms_F26, ms_F45, ms_F47, ms_F50, ms_F51, ms_F52, ms_F53, ms_F54, ms_F55, ms_F56, ms_F57, ms_F58, ms_F59, ms_F60, ms_F61, ms_F62, ms_F63, pm_WI0, pm_WI1, pm_WI2, pm_WI3, pm_WI4, pm_WI5, pm_WV, pm_WW, pm_WX, pb_B193, pm_if, pm_QI_at, pm_QL_at, pm_QV_at, pm_QR_at, pm_QR_at0, pm_QR_at1, Nat.reduceSub, Nat.reduceAdd, List.replicate_zero, List.replicate_succ, ho2]
        first | exact ⟨hb, hq⟩ | exact hq
      · have ec : gx_F (gx_b f n) 160 (k + 1) p = gx_test (gx_b f n) p := by rw [gx_F, if_neg y1, if_neg y2]
        rw [ec] at h
        exact mr_193t hS hm h18 h24 h24b ht (by omega) hp y1 y2 h
theorem mr_193z {G : pm_G} {S : pm_S} {f : Nat → Int32} {n : Nat} {t : Nat → Bool} (hS : Sh S) (hm : mrc S f n) (h18 : iv_c S 18 ≤ 40) (h24 : pm_i S 59 24 = nI (iv_c S 24)) (h24b : iv_c S 24 ≤ 150) (ht : tq S t) : mFC G S f n t 0 := by
  intro r q d hd hr h
  have hn := hm.2.1
  obtain ⟨p, _ | u⟩ := r
  · exact mr_193f hS (by have : p ≤ n := hr; omega) (h 0 (Or.inl rfl) (fun e z => (by cases z)))
  · have hp : p ≤ n := hr
    have eF : gx_bd ((p, some u) : gx_R Unit) (fun _ p => gx_F (gx_b f n) 160 0 p) = gx_test (gx_b f n) p := rfl
    rw [eF] at h
    have no : ∀ c, c = 33 ∨ c = 40 → gx_b f n p = c → gx_test (gx_b f n) p = (p, none) := fun c hc y => by
      unfold gx_test
      rw [if_neg (by omega), if_neg (by omega), if_neg (by omega), if_neg (by omega), if_neg (by omega)]
    by_cases y1 : gx_b f n p = 33
    · refine mr_193o hS hm h18 h24 h24b ht (by omega) hp (Or.inl rfl) y1 ?_
      have := h 0 (Or.inl rfl) (fun e z => (by rw [no 33 (Or.inl rfl) y1] at z; cases z))
      rw [no 33 (Or.inl rfl) y1] at this; exact this
    · by_cases y2 : gx_b f n p = 40
      · refine mr_193o hS hm h18 h24 h24b ht (by omega) hp (Or.inr rfl) y2 ?_
        have := h 0 (Or.inl rfl) (fun e z => (by rw [no 40 (Or.inr rfl) y2] at z; cases z))
        rw [no 40 (Or.inr rfl) y2] at this; exact this
      · exact mr_193t hS hm h18 h24 h24b ht (by omega) hp y1 y2 h
theorem mr_all {G : pm_G} {S : pm_S} {f : Nat → Int32} {n : Nat} {t : Nat → Bool} (hS : Sh S) (hm : mrc S f n) (h18 : iv_c S 18 ≤ 40) (h24 : pm_i S 59 24 = nI (iv_c S 24)) (h24b : iv_c S 24 ≤ 150) (ht : tq S t) : ∀ k, k ≤ 6 → mFC G S f n t k ∧ mEC G S f n t k
  | 0, _ => by
    have h1 := mr_193z (G := G) hS hm h18 h24 h24b ht
    exact ⟨h1, mr_191 hS hm h18 h24 h24b ht (mr_192 hS hm h18 h24 h24b ht h1)⟩
  | k + 1, hk => by
    have ih := mr_all (G := G) hS hm h18 h24 h24b ht k (by omega)
    have h1 := mr_193 hS hm h18 h24 h24b ht (by omega) ih.1 ih.2
    exact ⟨h1, mr_191 hS hm h18 h24 h24b ht (mr_192 hS hm h18 h24 h24b ht h1)⟩
/-- the model reads an E -/
theorem mr_e {G : pm_G} {S : pm_S} {f : Nat → Int32} {n : Nat} {t : Nat → Bool} (hS : Sh S) (hm : mrc S f n) (h18 : iv_c S 18 ≤ 40) (h24 : pm_i S 59 24 = nI (iv_c S 24)) (h24b : iv_c S 24 ≤ 150) (ht : tq S t) {r : gx_R Unit} {q : Int32 → pm_S → Prop} {d : Nat} (hd : 27 ≤ d) (hr : r.1 ≤ n) (h : ∀ b : Int32, (b = 0 ∨ b = 1) → (∀ e, (gx_bd r (fun _ p => gx_e (gx_b f n) p)).2 = some e → b = bI (gx_hv t e)) → q b (ms S 0 (un (gx_bd r (fun _ p => gx_e (gx_b f n) p))))) : pm_CI G d 191 [.ref 59] (ms S 0 r) q := (mr_all (G := G) hS hm h18 h24 h24b ht 6 (by omega)).2 r q d (by omega) hr h
/-! A LAW as it was read: what its clauses say under tests -/
def gx_sub (l : List Nat) (a b : Nat) : List Nat := (l.drop a).take (b - a)
theorem gx_sub_app {l e : List Nat} {a b : Nat} (hb : b ≤ l.length) : gx_sub (l ++ e) a b = gx_sub l a b := by
  unfold gx_sub
  by_cases ha : a ≤ l.length
  · rw [List.drop_append_of_le_length ha, List.take_append_of_le_length (by rw [List.length_drop]; omega)]
  · rw [show b - a = 0 by omega]; simp
theorem gx_sub_new {l e : List Nat} : gx_sub (l ++ e) l.length (l.length + e.length) = e := by
  unfold gx_sub
  rw [List.drop_append_of_le_length (Nat.le_refl _), List.drop_length]; simp
theorem gx_sub_nil {l : List Nat} {a b : Nat} (h : b ≤ a) : gx_sub l a b = [] := by unfold gx_sub; rw [show b - a = 0 by omega]; simp
abbrev gx_O : Type := Nat × Nat × Nat × Nat × Nat
def gx_o0 : gx_O := (0, 0, 0, 0, 0)
def lo_h (t : Nat → Bool) (st : List Nat) (e : gx_O) : Bool := if e.2.2.1 = 0 then true else (gx_hv t (gx_sub st e.2.2.2.1 e.2.2.2.2) == decide (e.2.2.1 = 1))
def ld_reach (t : Nat → Bool) (L : gx_L) : Bool := gx_hv t (gx_sub L.2.2 (L.2.1 8) (L.2.1 9))
def lo_ok (t : Nat → Bool) (st : List Nat) (e : gx_O) : Prop := (1 ≤ e.1 ∧ e.1 ≤ 9) ∧ e.2.1 < 10000 ∧ e.2.2.1 ≤ 2 ∧ e.2.2.2.1 ≤ e.2.2.2.2 ∧ e.2.2.2.2 ≤ st.length ∧ (e.2.2.1 = 0 ∨ gx_ev t (gx_sub st e.2.2.2.1 e.2.2.2.2) 15)
def gx_wf (t : Nat → Bool) (L : gx_L) (c p : Nat) : Prop := (L.1.length ≤ c ∧ L.2.2.length ≤ p) ∧ (∀ e, e ∈ L.1 → lo_ok t L.2.2 e) ∧ (L.2.1 8 ≤ L.2.1 9 ∧ L.2.1 9 ≤ L.2.2.length ∧ (gx_sub L.2.2 (L.2.1 8) (L.2.1 9) = [] ∨ gx_ev t (gx_sub L.2.2 (L.2.1 8) (L.2.1 9)) 15)) ∧ (∀ f, 10 ≤ f → f ≤ 16 → L.2.1 f < 10000) ∧ 1 ≤ L.2.1 13 ∧ ∀ x, x ∈ L.2.2 → x < 2 ^ 22
theorem lo_h_app {t : Nat → Bool} {st e : List Nat} {x : gx_O} (h : lo_ok t st x) : lo_h t (st ++ e) x = lo_h t st x := by
  unfold lo_h; rw [gx_sub_app h.2.2.2.2.1]
theorem lo_ok_app {t : Nat → Bool} {st e : List Nat} {x : gx_O} (h : lo_ok t st x) : lo_ok t (st ++ e) x := by
  obtain ⟨a, b, c, d, f, g⟩ := h
  refine ⟨a, b, c, d, by rw [List.length_append]; omega, ?_⟩
  rw [gx_sub_app f]; exact g
theorem ld_reach_app {t : Nat → Bool} {L : gx_L} {e : List Nat} {O : List gx_O} {c p : Nat} (h : gx_wf t L c p) : ld_reach t (O, L.2.1, L.2.2 ++ e) = ld_reach t L := by
  unfold ld_reach; rw [gx_sub_app h.2.2.1.2.1]
theorem wf_0 {t : Nat → Bool} : gx_wf t gx_0 0 0 := by
  refine ⟨⟨Nat.le_refl _, Nat.le_refl _⟩, fun e he => absurd he List.not_mem_nil, ⟨Nat.le_refl _, Nat.le_refl _, Or.inl rfl⟩, ?_, by decide, fun x hx => absurd hx List.not_mem_nil⟩
  intro f h1 h2
  have : ∀ f, f ≤ 16 → 10 ≤ f → gx_0.2.1 f < 10000 := by decide
  exact this f h2 h1
theorem wf_mono {t : Nat → Bool} {L : gx_L} {c p c' p' : Nat} (h : gx_wf t L c p) (hc : c ≤ c') (hp : p ≤ p') : gx_wf t L c' p' := ⟨⟨by have := h.1.1; omega, by have := h.1.2; omega⟩, h.2⟩
/-- a number of the LAW is told anew -/
theorem wf_num {t : Nat → Bool} {L : gx_L} {c p f v : Nat} (h : gx_wf t L c p) (hf : 10 ≤ f) (hv : v < 10000) (h13 : f = 13 → 1 ≤ v) : gx_wf t (L.1, va_up L.2.1 f v, L.2.2) c p := by
  obtain ⟨a, b, d, e, g, i⟩ := h
  have e8 : va_up L.2.1 f v 8 = L.2.1 8 := by unfold va_up; rw [if_neg (by omega)]
  have e9 : va_up L.2.1 f v 9 = L.2.1 9 := by unfold va_up; rw [if_neg (by omega)]
  refine ⟨a, b, ?_, fun f' h1 h2 => ?_, ?_, i⟩
  · try simp only [e8, e9]; exact d
  · show va_up L.2.1 f v f' < 10000
    unfold va_up
    split
    · exact hv
    · exact e f' h1 h2
  · show 1 ≤ va_up L.2.1 f v 13
    unfold va_up
    split
    · rename_i h; exact h13 h.symm
    · exact g
/-- an owe more -/
theorem wf_owe {t : Nat → Bool} {L : gx_L} {c p p' s n wn : Nat} {e : List Nat} (h : gx_wf t L c p) (hs : 1 ≤ s ∧ s ≤ 9) (hn : n < 10000) (hwn : wn ≤ 2) (he : wn = 0 ∨ gx_ev t e 15) (hl : (L.2.2 ++ e).length ≤ p') (hx : ∀ x, x ∈ e → x < 2 ^ 22) : gx_wf t (L.1 ++ [(s, n, wn, L.2.2.length, L.2.2.length + e.length)], L.2.1, L.2.2 ++ e) (c + 1) p' := by
  obtain ⟨a, b, d, f, g, i⟩ := h
  refine ⟨⟨by simp; omega, hl⟩, fun x hx2 => ?_, ⟨d.1, by simp; omega, ?_⟩, f, g, fun x hx2 => ?_⟩
  · rcases List.mem_append.mp hx2 with h1 | h1
    · exact lo_ok_app (b x h1)
    · rw [List.mem_singleton.mp h1]
      refine ⟨hs, hn, hwn, by simp, by simp, ?_⟩
      show wn = 0 ∨ gx_ev t (gx_sub (L.2.2 ++ e) L.2.2.length (L.2.2.length + e.length)) 15
      rw [gx_sub_new]; exact he
  · show gx_sub (L.2.2 ++ e) (L.2.1 8) (L.2.1 9) = [] ∨ gx_ev t (gx_sub (L.2.2 ++ e) (L.2.1 8) (L.2.1 9)) 15
    rw [gx_sub_app d.2.1]; exact d.2.2
  · rcases List.mem_append.mp hx2 with h1 | h1
    · exact i x h1
    · exact hx x h1
/-- reach is told anew -/
theorem wf_reach {t : Nat → Bool} {L : gx_L} {c p p' : Nat} {e : List Nat} (h : gx_wf t L c p) (he : gx_ev t e 15) (hl : (L.2.2 ++ e).length ≤ p') (hx : ∀ x, x ∈ e → x < 2 ^ 22) : gx_wf t (L.1, va_up (va_up L.2.1 8 L.2.2.length) 9 (L.2.2.length + e.length), L.2.2 ++ e) c p' := by
  obtain ⟨a, b, d, f, g, i⟩ := h
  have e8 : va_up (va_up L.2.1 8 L.2.2.length) 9 (L.2.2.length + e.length) 8 = L.2.2.length := by simp [va_up]
  have e9 : va_up (va_up L.2.1 8 L.2.2.length) 9 (L.2.2.length + e.length) 9 = L.2.2.length + e.length := by simp [va_up]
  have ef : ∀ f, 10 ≤ f → va_up (va_up L.2.1 8 L.2.2.length) 9 (L.2.2.length + e.length) f = L.2.1 f := fun f h => by
    unfold va_up; rw [if_neg (by omega), if_neg (by omega)]
  refine ⟨⟨a.1, hl⟩, fun x hx2 => lo_ok_app (b x hx2), ?_, fun f' h1 h2 => ?_, ?_, fun x hx2 => ?_⟩
  · try simp only [e8, e9]
    refine ⟨by omega, by simp, Or.inr ?_⟩
    rw [gx_sub_new]; exact he
  · show va_up (va_up L.2.1 8 L.2.2.length) 9 (L.2.2.length + e.length) f' < 10000
    rw [ef f' h1]; exact f f' h1 h2
  · show 1 ≤ va_up (va_up L.2.1 8 L.2.2.length) 9 (L.2.2.length + e.length) 13
    rw [ef 13 (by omega)]; exact g
  · rcases List.mem_append.mp hx2 with h1 | h1
    · exact i x h1
    · exact hx x h1
theorem gx_nm_ge {B : Nat → Nat} : ∀ (k p v : Nat), v ≤ (gx_nm B k p v).2
  | 0, p, v => Nat.le_refl _
  | k + 1, p, v => by
    rw [gx_nm]
    split
    · exact Nat.le_trans (by omega) (gx_nm_ge k (p + 1) _)
    · exact Nat.le_refl _
theorem gx_num_ge' {B : Nat → Nat} {least most p q v : Nat} (h : gx_num B least most p = (q, some v)) : least ≤ v := by
  unfold gx_num at h
  split at h
  · cases h
    exact Nat.le_trans (by omega) (gx_nm_ge _ _ _)
  · cases h
section WFC
variable {t : Nat → Bool} {B : Nat → Nat} {n : Nat}
theorem gx_w_ok (hB : ∀ i, n ≤ i → B i = 256) {l : List Nat} {p q : Nat} {o : Option Unit} (hp : p ≤ n) (hl : ∀ c, c ∈ l → c < 256) (h : gx_w B l p = (q, o)) : p ≤ q ∧ q ≤ n := by
  have := gx_w_le hB l p hp hl
  rw [h] at this
  exact ⟨this.2, this.1⟩
theorem wf_one (hB : ∀ i, n ≤ i → B i = 256) {L L' : gx_L} {c p q f : Nat} {ws : List Nat} (h : gx_wf t L c p) (hp : p ≤ n) (hf : 10 ≤ f ∧ ¬ f = 13) (hl : ∀ c, c ∈ ws → c < 256) (e : gx_one B L f ws p = (q, some L')) : gx_wf t L' c q ∧ p ≤ q ∧ q ≤ n := by
  unfold gx_one at e
  rcases gx_two (gx_w B ws p) with ⟨x, ex⟩ | ⟨x, u, ex⟩
  · rw [gx_bd_none ex] at e; cases e
  · rw [gx_bd_some ex] at e
    have hx := gx_w_ok hB hp hl ex
    rcases gx_two (gx_num B 0 4 x) with ⟨y, ey⟩ | ⟨y, v, ey⟩
    · rw [gx_bd_none ey] at e; cases e
    · rw [gx_bd_some ey] at e
      obtain ⟨a, b, c'⟩ := gx_num_ok hB (by omega) ey
      cases e
      exact ⟨wf_num (wf_mono h (Nat.le_refl _) (by omega)) hf.1 c' (fun z => absurd z hf.2), by omega, b⟩
theorem gx_e_ok (hB : ∀ i, n ≤ i → B i = 256) {p : Nat} (hp : p ≤ n) : gx_ok n p (gx_e B p) := gx_EE_ok hB (fun p hp => gx_F_ok hB 160 6 p hp) 160 hp
theorem wf_clause (hB : ∀ i, n ≤ i → B i = 256) {L L' : gx_L} {c p q : Nat} (h : gx_wf t L c p) (hp : p ≤ n) (e : gx_clause B L p = (q, some L')) : gx_wf t L' (c + 1) q ∧ p ≤ q ∧ q ≤ n := by
  have up : ∀ {L' : gx_L} {q : Nat}, gx_wf t L' c q ∧ p ≤ q ∧ q ≤ n → gx_wf t L' (c + 1) q ∧ p ≤ q ∧ q ≤ n := fun z => ⟨wf_mono z.1 (by omega) (Nat.le_refl _), z.2⟩
  unfold gx_clause at e
  split at e
  · unfold gx_owe at e
    rcases gx_two (gx_w B [111, 119, 101, 32] p) with ⟨x, ex⟩ | ⟨x, u, ex⟩
    · rw [gx_bd_none ex] at e; cases e
    rw [gx_bd_some ex] at e
    have hx := gx_w_ok hB hp (by decide) ex
    rcases gx_two (gx_num B 1 1 x) with ⟨y, ey⟩ | ⟨y, s, ey⟩
    · rw [gx_bd_none ey] at e; cases e
    rw [gx_bd_some ey] at e
    obtain ⟨a1, a2, a3⟩ := gx_num_ok hB (by omega) ey
    have a4 := gx_num_ge' ey
    rcases gx_two (gx_w B [32] y) with ⟨x2, ex2⟩ | ⟨x2, u2, ex2⟩
    · rw [gx_bd_none ex2] at e; cases e
    rw [gx_bd_some ex2] at e
    have hx2 := gx_w_ok hB a2 (by decide) ex2
    rcases gx_two (gx_num B 0 4 x2) with ⟨z, ez⟩ | ⟨z, v, ez⟩
    · rw [gx_bd_none ez] at e; cases e
    rw [gx_bd_some ez] at e
    obtain ⟨b1, b2, b3⟩ := gx_num_ok hB (by omega) ez
    split at e
    · have hz : z < n := gx_lt hB (by assumption) (by omega)
      generalize hwd : (if B (z + 1) = 105 then gx_w B [105, 102, 32] (z + 1) else gx_w B [117, 110, 108, 101, 115, 115, 32] (z + 1)) = wd at e
      obtain ⟨x3, _ | u3⟩ := wd
      · rw [gx_bd_none rfl] at e; cases e
      rw [gx_bd_some rfl] at e
      have hx3 : z + 1 ≤ x3 ∧ x3 ≤ n := by
        split at hwd
        · exact gx_w_ok hB (by omega) (by decide) hwd
        · exact gx_w_ok hB (by omega) (by decide) hwd
      rcases gx_two (gx_e B x3) with ⟨y3, ey3⟩ | ⟨y3, E, ey3⟩
      · rw [gx_bd_none ey3] at e; cases e
      rw [gx_bd_some ey3] at e
      obtain ⟨c1, c2, c3, c4, c5⟩ := (gx_e_ok hB hx3.2).2 y3 E ey3
      have hll := h.1.2
      cases e
      exact ⟨wf_owe h ⟨a4, by omega⟩ b3 (by split <;> omega) (Or.inr (ev_e ey3)) (by simp; omega) c5, by omega, c2⟩
    · cases e
      have hll := h.1.2
      have := wf_owe (e := []) (wn := 0) (p' := q) h ⟨a4, by omega⟩ b3 (by omega) (Or.inl rfl) (by simp; omega) (fun x hx => absurd hx List.not_mem_nil)
      rw [List.append_nil] at this
      exact ⟨this, by omega, b2⟩
  · split at e
    · have hp1 : p < n := gx_lt hB (by assumption) (by omega)
      split at e
      · have := wf_one hB (wf_mono h (Nat.le_refl _) (show p ≤ p + 1 by omega)) (by omega) (by omega) (by decide) e
        exact up ⟨this.1, by omega, this.2.2⟩
      · unfold gx_reach at e
        rcases gx_two (gx_w B [101, 97, 99, 104, 32] (p + 1)) with ⟨x, ex⟩ | ⟨x, u, ex⟩
        · rw [gx_bd_none ex] at e; cases e
        rw [gx_bd_some ex] at e
        have hx := gx_w_ok hB (by omega) (by decide) ex
        rcases gx_two (gx_e B x) with ⟨y3, ey3⟩ | ⟨y3, E, ey3⟩
        · rw [gx_bd_none ey3] at e; cases e
        rw [gx_bd_some ey3] at e
        obtain ⟨c1, c2, c3, c4, c5⟩ := (gx_e_ok hB hx.2).2 y3 E ey3
        have hll := h.1.2
        cases e
        exact up ⟨wf_reach h (ev_e ey3) (by simp; omega) c5, by omega, c2⟩
    · split at e
      · unfold gx_scale at e
        rcases gx_two (gx_w B [115, 99, 97, 108, 101, 32] p) with ⟨x, ex⟩ | ⟨x, u, ex⟩
        · rw [gx_bd_none ex] at e; cases e
        rw [gx_bd_some ex] at e
        have hx := gx_w_ok hB hp (by decide) ex
        rcases gx_two (gx_num B 0 4 x) with ⟨y, ey⟩ | ⟨y, s, ey⟩
        · rw [gx_bd_none ey] at e; cases e
        rw [gx_bd_some ey] at e
        obtain ⟨a1, a2, a3⟩ := gx_num_ok hB (by omega) ey
        rcases gx_two (gx_w B [32] y) with ⟨x2, ex2⟩ | ⟨x2, u2, ex2⟩
        · rw [gx_bd_none ex2] at e; cases e
        rw [gx_bd_some ex2] at e
        have hx2 := gx_w_ok hB a2 (by decide) ex2
        rcases gx_two (gx_num B 1 4 x2) with ⟨z, ez⟩ | ⟨z, v, ez⟩
        · rw [gx_bd_none ez] at e; cases e
        rw [gx_bd_some ez] at e
        obtain ⟨b1, b2, b3⟩ := gx_num_ok hB (by omega) ez
        cases e
        refine up ⟨wf_num (wf_num (wf_mono h (Nat.le_refl _) (by omega)) (by omega) a3 (fun z => by omega)) (by omega) b3 (fun _ => gx_num_ge' ez), by omega, b2⟩
      · split at e
        · exact up (wf_one hB h hp (by omega) (by decide) e)
        · split at e
          · exact up (wf_one hB h hp (by omega) (by decide) e)
          · split at e
            · exact up (wf_one hB h hp (by omega) (by decide) e)
            · split at e
              · exact up (wf_one hB h hp (by omega) (by decide) e)
              · cases e
theorem wf_law (hB : ∀ i, n ≤ i → B i = 256) : ∀ (g : Nat) (L L' : gx_L) (c p q : Nat), gx_wf t L c p → p ≤ n → gx_law B n g L p = (q, some L') → gx_wf t L' (c + g) n
  | 0, L, L', c, p, q, h, hp, e => by cases e
  | g + 1, L, L', c, p, q, h, hp, e => by
    rw [gx_law] at e
    rcases gx_two (gx_clause B L p) with ⟨x, ex⟩ | ⟨x, L1, ex⟩
    · rw [gx_bd_none ex] at e; cases e
    rw [gx_bd_some ex] at e
    have hx := wf_clause hB h hp ex
    split at e
    · cases e; exact wf_mono hx.1 (by omega) hx.2.2
    · split at e
      · cases e
      · split at e
        · have hlt : x < n := gx_lt hB (by assumption) (by omega)
          have := wf_law hB g L1 L' (c + 1) (x + 1) q (wf_mono hx.1 (Nat.le_refl _) (by omega)) (by omega) e
          rw [show c + (g + 1) = c + 1 + g by omega]; exact this
        · cases e
end WFC
theorem wf_read {t : Nat → Bool} {f : Nat → Int32} {n p : Nat} {L : gx_L} (h : gx_read f n = (p, some L)) : gx_wf t L 10 n := by
  have := wf_law (t := t) gx_b_eof 10 gx_0 L 0 0 p wf_0 (Nat.zero_le _) h
  simpa using this
/-- the LAW of a number; none: without a LAW -/
def lawL (S : pm_S) (l : Option Nat) : gx_L := match l with
  | none => gx_0
  | some i => ((gx_read (iv_txt S i) (pm_i S 82 i).toNatClampNeg).2).getD gx_0
theorem lawL_me {S T : pm_S} (h : me S T) : lawL T = lawL S := by
  funext l
  cases l with
  | none => rfl
  | some i =>
    unfold lawL iv_txt
    rw [h.row (p := 81) (by omega) (by omega), h.row (p := 82) (by omega) (by omega)]
theorem lawL_wf {S : pm_S} (h : iv_MI S) {t : Nat → Bool} {l : Option Nat} (hl : ∀ i, l = some i → i < iv_c S 31) : gx_wf t (lawL S l) 10 160 := by
  cases l with
  | none => exact wf_mono wf_0 (by omega) (by omega)
  | some i =>
    obtain ⟨_, _, d3, _, p, L, e⟩ := h.2.2.2.2.1.2 i (hl i rfl)
    have e2 : lawL S (some i) = L := by unfold lawL; simp only [e]; rfl
    rw [e2]
    have h2 := iv_le (n := 160) 160 d3.2 (by decide)
    exact wf_mono (wf_read e) (Nat.le_refl _) h2
/-- which LAW is in force -/
def lwo (S : pm_S) (b k : Int32) : Option Nat := ac_f (fun l => decide (pm_i S 83 l = b ∧ ¬ k < pm_i S 84 l)) (ac_bt (pm_i S 84) true) (List.range (iv_c S 31)) none
theorem lwo_lt {S : pm_S} {b k : Int32} {i : Nat} (h : lwo S b k = some i) : i < iv_c S 31 := ac_f_lt h
theorem lwo_me {S T : pm_S} (h : me S T) (b k : Int32) : lwo T b k = lwo S b k := by
  unfold lwo; rw [h.row (p := 83) (by omega) (by omega), h.row (p := 84) (by omega) (by omega), h.c (f := 31) (by omega)]
/-! THE TEXT's E read by the class -/
def cPC (G : pm_G) (j : Nat) (S0 : pm_S) (D : Nat) (W : Nat → Nat) (n k dd : Nat) (R : Nat → gx_R (List Nat)) : Prop := ∀ (d : Nat) (S : pm_S) (p : Nat) (L : gx_L) (q : Int32 → pm_S → Prop), dd ≤ d → rs S0 D W n S p L → L.2.2.length ≤ p →
  (∀ x e S', R p = (x, some e) → rs S0 D W n S' x (L.1, L.2.1, L.2.2 ++ e) → q 1 S') → (∀ x e S', R p = (x, none) → rs S0 D W n S' x (L.1, L.2.1, L.2.2 ++ e) → e.length + p ≤ x → q 0 S') → pm_CI G d j [.ref 5, .int (nI (6 - k))] S q
def cFC (G : pm_G) (S0 : pm_S) (D : Nat) (W : Nat → Nat) (n k : Nat) : Prop := cPC G 50 S0 D W n k (7 + 2 * k) (fun p => gx_F (gx_b (pm_i S0 6) n) 160 k p)
def cEC (G : pm_G) (S0 : pm_S) (D : Nat) (W : Nat → Nat) (n k : Nat) : Prop := cPC G 49 S0 D W n k (8 + 2 * k) (fun p => gx_EE (gx_F (gx_b (pm_i S0 6) n) 160 k) (gx_b (pm_i S0 6) n) 160 p)
section CRD
variable {G : pm_G} {S0 : pm_S} {D n : Nat} {W : Nat → Nat}
theorem rs.L {S : pm_S} {p : Nat} {L L' : gx_L} (h : rs S0 D W n S p L) (e : L = L') : rs S0 D W n S p L' := by rw [← e]; exact h
theorem rs.l0 {S : pm_S} {p : Nat} {L : gx_L} (h : rs S0 D W n S p L) : rs S0 D W n S p (L.1, L.2.1, L.2.2 ++ []) := by rw [List.append_nil]; exact h
theorem rd50_80 (hS0 : Sh S0) (hd0 : dl S0 D W) {d : Nat} (hd : 2 ≤ d) {b : Int32} (hb : b = 0 ∨ b = 1) {v : Value} {j : Nat} (hj : j ≤ 6) {q : Int32 → pm_S → Prop} : ∀ (m i : Nat) (S : pm_S) (x : Nat) (L : gx_L), i + m = j → rs S0 D W n S x L → L.2.2.length + m ≤ 160 → (∀ S', rs S0 D W n S' x (L.1, L.2.1, L.2.2 ++ List.replicate m 8) → q b S') → pm_W G d 50 (pm_QI q) 80 [.ref 5, v, .int (nI j), .int b, .int (nI i)] [] S 0 0 := by
  intro m
  induction m with
  | zero =>
    intro i S x L hi hr hl h
    have hS := hr.sh hS0
    have hdl := hr.todl hd0
    have ht := hr.text hd0
    have hr3 := hr.2.2.1
    have hn := hr3.2.2.2.1
    have hpn := hr3.2.2.1
    have hr5 : pm_r S 5 3 = some D := hdl.1
    have hkD : pm_k S D = 5 := hdl.2.1
    have rB : gx_b (pm_i S 6) n = gx_b (pm_i S0 6) n := by rw [ht]
    have : i = j := by omega
    subst this
    refine pm_wb_ok pb_c50 3 80 0 _ _ _ _ _ ?_
    try simp only [pm_WI0, pm_WI1, pm_WI2, pm_WI3, pm_WI4, pm_WI5, pm_WV, pm_WW, pm_WX, pb_B50, pm_if, pm_QI_at, pm_QL_at, pm_QV_at, pm_QR_at, pm_QR_at0, pm_QR_at1, Nat.reduceSub, Nat.reduceAdd, List.replicate_zero, List.replicate_succ, true_and, and_true, true_or, or_true, and_self, reduceIte, Nat.reduceEqDiff, Nat.reduceLT, Nat.reduceLeDiff, Nat.reduceMul, false_and, and_false, reduceCtorEq, false_or, or_false, not_true_eq_false, not_false_eq_true, true_implies, false_implies, implies_true, lf_10, eq_self, Int32.reduceLT, Int32.reduceLE, Int32.reduceAdd, Int32.reduceSub, Int32.reduceDiv, Int32.reduceMul, pm_same, pm_i_wI, pm_l_wL, pm_l_wM, pm_oR_rf, pm_oQ_rf, sh_k5 hS, nI_1, sw_e, LQ1, LQ2, Int32.le_refl]
    exact ⟨hb, h S hr.l0⟩
  | succ m ih =>
    intro i S x L hi hr hl h
    have hS := hr.sh hS0
    have hdl := hr.todl hd0
    have ht := hr.text hd0
    have hr3 := hr.2.2.1
    have hn := hr3.2.2.2.1
    have hpn := hr3.2.2.1
    have hr5 : pm_r S 5 3 = some D := hdl.1
    have hkD : pm_k S D = 5 := hdl.2.1
    have rB : gx_b (pm_i S 6) n = gx_b (pm_i S0 6) n := by rw [ht]
    have hle : ¬ nI j ≤ nI i := nI_ge (by omega) (by omega)
    refine pm_wb_ok pb_c50 3 80 0 _ _ _ _ _ ?_
    try simp only [pm_WI0, pm_WI1, pm_WI2, pm_WI3, pm_WI4, pm_WI5, pm_WV, pm_WW, pm_WX, pb_B50, pm_if, pm_QI_at, pm_QL_at, pm_QV_at, pm_QR_at, pm_QR_at0, pm_QR_at1, Nat.reduceSub, Nat.reduceAdd, List.replicate_zero, List.replicate_succ, true_and, and_true, true_or, or_true, and_self, reduceIte, Nat.reduceEqDiff, Nat.reduceLT, Nat.reduceLeDiff, Nat.reduceMul, false_and, and_false, reduceCtorEq, false_or, or_false, not_true_eq_false, not_false_eq_true, true_implies, false_implies, implies_true, lf_10, eq_self, Int32.reduceLT, Int32.reduceLE, Int32.reduceAdd, Int32.reduceSub, Int32.reduceDiv, Int32.reduceMul, pm_same, pm_i_wI, pm_l_wL, pm_l_wM, pm_oR_rf, pm_oQ_rf, sh_k5 hS, nI_1, sw_e, LQ1, LQ2, hr5, hkD, hle]
    refine ⟨by omega, rd_38 (k := 8) (s := 0) (m := 0) hd0 hr (by omega) (by omega) (by omega) (by omega) (fun S' hS' => ?_)⟩
    refine ih (i + 1) S' x _ (by omega) hS' (by simp; omega) (fun S2 hS2 => h S2 (hS2.L ?_))
    show (L.1, L.2.1, (L.2.2 ++ [gx_st 8 0 0]) ++ List.replicate m 8) = (L.1, L.2.1, L.2.2 ++ List.replicate (m + 1) 8)
    rw [List.append_assoc]; rfl
theorem rd50_77 (hS0 : Sh S0) (hd0 : dl S0 D W) {d : Nat} (hd : 2 ≤ d) {b : Int32} (hb : b = 0 ∨ b = 1) {v u : Value} {j : Nat} (hj : j ≤ 6) {q : Int32 → pm_S → Prop} {S : pm_S} {x : Nat} {L : gx_L} (hr : rs S0 D W n S x L) (hl : L.2.2.length + j ≤ 160) (h : ∀ S', rs S0 D W n S' x (L.1, L.2.1, L.2.2 ++ List.replicate j 8) → q b S') : pm_W G d 50 (pm_QI q) 77 [.ref 5, v, .int (nI j), .int b, u] [] S 0 0 := by
  have hS := hr.sh hS0
  have hdl := hr.todl hd0
  have ht := hr.text hd0
  have hr3 := hr.2.2.1
  have hn := hr3.2.2.2.1
  have hpn := hr3.2.2.1
  have hr5 : pm_r S 5 3 = some D := hdl.1
  have hkD : pm_k S D = 5 := hdl.2.1
  have rB : gx_b (pm_i S 6) n = gx_b (pm_i S0 6) n := by rw [ht]
  refine pm_wb_ok pb_c50 1 77 0 _ _ _ _ _ ?_
  try simp only [pm_WI0, pm_WI1, pm_WI2, pm_WI3, pm_WI4, pm_WI5, pm_WV, pm_WW, pm_WX, pb_B50, pm_if, pm_QI_at, pm_QL_at, pm_QV_at, pm_QR_at, pm_QR_at0, pm_QR_at1, Nat.reduceSub, Nat.reduceAdd, List.replicate_zero, List.replicate_succ, true_and, and_true, true_or, or_true, and_self, reduceIte, Nat.reduceEqDiff, Nat.reduceLT, Nat.reduceLeDiff, Nat.reduceMul, false_and, and_false, reduceCtorEq, false_or, or_false, not_true_eq_false, not_false_eq_true, true_implies, false_implies, implies_true, lf_10, eq_self, Int32.reduceLT, Int32.reduceLE, Int32.reduceAdd, Int32.reduceSub, Int32.reduceDiv, Int32.reduceMul, pm_same, pm_i_wI, pm_l_wL, pm_l_wM, pm_oR_rf, pm_oQ_rf, sh_k5 hS, nI_1, sw_e, LQ1, LQ2]
  exact rd50_80 hS0 hd0 hd hb hj j 0 S x L (by omega) hr hl h
theorem rd50_72 (hS0 : Sh S0) (hd0 : dl S0 D W) {d : Nat} (hd : 7 ≤ d) {v u u2 : Value} {j : Nat} (hj : j ≤ 6) {q : Int32 → pm_S → Prop} {S : pm_S} {p : Nat} {L : gx_L} (hr : rs S0 D W n S p L) (hl : L.2.2.length + j ≤ p) (h1 : ∀ x e S', gx_test (gx_b (pm_i S0 6) n) p = (x, some e) → rs S0 D W n S' x (L.1, L.2.1, L.2.2 ++ (e ++ List.replicate j 8)) → q 1 S') (h0 : ∀ x e S', gx_test (gx_b (pm_i S0 6) n) p = (x, none) → rs S0 D W n S' x (L.1, L.2.1, L.2.2 ++ e) → e.length + p ≤ x + j → q 0 S') : pm_W G d 50 (pm_QI q) 72 [.ref 5, v, .int (nI j), u, u2] [] S 0 0 := by
  have hS := hr.sh hS0
  have hdl := hr.todl hd0
  have ht := hr.text hd0
  have hr3 := hr.2.2.1
  have hn := hr3.2.2.2.1
  have hpn := hr3.2.2.1
  have hr5 : pm_r S 5 3 = some D := hdl.1
  have hkD : pm_k S D = 5 := hdl.2.1
  have rB : gx_b (pm_i S 6) n = gx_b (pm_i S0 6) n := by rw [ht]
  have hok := gx_test_ok (B := gx_b (pm_i S0 6) n) gx_b_eof hpn
  refine pm_wb_ok pb_c50 1 72 0 _ _ _ _ _ ?_
  try simp only [pm_WI0, pm_WI1, pm_WI2, pm_WI3, pm_WI4, pm_WI5, pm_WV, pm_WW, pm_WX, pb_B50, pm_if, pm_QI_at, pm_QL_at, pm_QV_at, pm_QR_at, pm_QR_at0, pm_QR_at1, Nat.reduceSub, Nat.reduceAdd, List.replicate_zero, List.replicate_succ, true_and, and_true, true_or, or_true, and_self, reduceIte, Nat.reduceEqDiff, Nat.reduceLT, Nat.reduceLeDiff, Nat.reduceMul, false_and, and_false, reduceCtorEq, false_or, or_false, not_true_eq_false, not_false_eq_true, true_implies, false_implies, implies_true, lf_10, eq_self, Int32.reduceLT, Int32.reduceLE, Int32.reduceAdd, Int32.reduceSub, Int32.reduceDiv, Int32.reduceMul, pm_same, pm_i_wI, pm_l_wL, pm_l_wM, pm_oR_rf, pm_oQ_rf, sh_k5 hS, nI_1, sw_e, LQ1, LQ2]
  refine ⟨by omega, rd_51 (by omega) hS0 hd0 hr (by omega) (fun x e S' he hS' => ?_) (fun x S' he hS' => ?_)⟩
  · obtain ⟨a, b, c, dd, f⟩ := hok.2 x e he
    try simp only [pm_WV, pm_WW, true_and, and_true, true_or, or_true, and_self, reduceIte, Nat.reduceEqDiff, Nat.reduceLT, Nat.reduceLeDiff, Nat.reduceMul, false_and, and_false, reduceCtorEq, false_or, or_false, not_true_eq_false, not_false_eq_true, true_implies, false_implies, implies_true, lf_10, eq_self, Int32.reduceLT, Int32.reduceLE, Int32.reduceAdd, Int32.reduceSub, Int32.reduceDiv, Int32.reduceMul, pm_same, pm_i_wI, pm_l_wL, pm_l_wM, pm_oR_rf, pm_oQ_rf, sh_k5 hS, nI_1, sw_e, LQ1, LQ2, pm_WI0, pm_WI1, pm_WI2, pm_WI3, pm_WI4, pm_WI5, pm_WV, pm_WW, pm_WX, pb_B50, pm_if, pm_QI_at, pm_QL_at, pm_QV_at, pm_QR_at, pm_QR_at0, pm_QR_at1, Nat.reduceSub, Nat.reduceAdd, List.replicate_zero, List.replicate_succ]
    refine rd50_77 hS0 hd0 (by omega) (Or.inr rfl) hj hS' (by simp; omega) (fun S2 hS2 => h1 x e S2 he (hS2.L ?_))
    show (L.1, L.2.1, (L.2.2 ++ e) ++ List.replicate j 8) = _
    rw [List.append_assoc]
  · have := hok.1 x he
    try simp only [pm_WV, pm_WW, true_and, and_true, true_or, or_true, and_self, reduceIte, Nat.reduceEqDiff, Nat.reduceLT, Nat.reduceLeDiff, Nat.reduceMul, false_and, and_false, reduceCtorEq, false_or, or_false, not_true_eq_false, not_false_eq_true, true_implies, false_implies, implies_true, lf_10, eq_self, Int32.reduceLT, Int32.reduceLE, Int32.reduceAdd, Int32.reduceSub, Int32.reduceDiv, Int32.reduceMul, pm_same, pm_i_wI, pm_l_wL, pm_l_wM, pm_oR_rf, pm_oQ_rf, sh_k5 hS, nI_1, sw_e, LQ1, LQ2, pm_WI0, pm_WI1, pm_WI2, pm_WI3, pm_WI4, pm_WI5, pm_WV, pm_WW, pm_WX, pb_B50, pm_if, pm_QI_at, pm_QL_at, pm_QV_at, pm_QR_at, pm_QR_at0, pm_QR_at1, Nat.reduceSub, Nat.reduceAdd, List.replicate_zero, List.replicate_succ]
    exact rd50_77 hS0 hd0 (by omega) (Or.inl rfl) hj hS' (by omega) (fun S2 hS2 => h0 x _ S2 he hS2 (by simp; omega))
theorem rd50_25 (hS0 : Sh S0) (hd0 : dl S0 D W) {k : Nat} (hE : cEC G S0 D W n k) {d : Nat} (hd : 9 + 2 * k ≤ d) {u u2 : Value} {j wi : Nat} (hj : wi + j + (k + 1) = 6) {q : Int32 → pm_S → Prop} {S : pm_S} {p : Nat} {L : gx_L} (hr : rs S0 D W n S p L) (hl : L.2.2.length + j ≤ p) (y33 : ¬ gx_b (pm_i S0 6) n p = 33) (h1 : ∀ x e S', gx_F (gx_b (pm_i S0 6) n) 160 (k + 1) p = (x, some e) → rs S0 D W n S' x (L.1, L.2.1, L.2.2 ++ (e ++ List.replicate j 8)) → q 1 S') (h0 : ∀ x e S', gx_F (gx_b (pm_i S0 6) n) 160 (k + 1) p = (x, none) → rs S0 D W n S' x (L.1, L.2.1, L.2.2 ++ e) → e.length + p ≤ x + j → q 0 S') : pm_W G d 50 (pm_QI q) 25 [.ref 5, .int (nI wi), .int (nI j), u, u2] [] S 0 0 := by
  have hS := hr.sh hS0
  have hdl := hr.todl hd0
  have ht := hr.text hd0
  have hr3 := hr.2.2.1
  have hn := hr3.2.2.2.1
  have hpn := hr3.2.2.1
  have hr5 : pm_r S 5 3 = some D := hdl.1
  have hkD : pm_k S D = 5 := hdl.2.1
  have rB : gx_b (pm_i S 6) n = gx_b (pm_i S0 6) n := by rw [ht]
  have hle : ¬ (6 : Int32) ≤ nI (wi + j) := nI_ge (a := wi + j) (b := 6) (by omega) (by omega)
  have hwj : nI wi + nI j = nI (wi + j) := nI_add wi j
  have hwj1 : nI (wi + j) + 1 = nI (6 - k) := by rw [nI_1]; congr 1; omega
  refine pm_wb_ok pb_c50 1 25 0 _ _ _ _ _ ?_
  try simp only [pm_WI0, pm_WI1, pm_WI2, pm_WI3, pm_WI4, pm_WI5, pm_WV, pm_WW, pm_WX, pb_B50, pm_if, pm_QI_at, pm_QL_at, pm_QV_at, pm_QR_at, pm_QR_at0, pm_QR_at1, Nat.reduceSub, Nat.reduceAdd, List.replicate_zero, List.replicate_succ, true_and, and_true, true_or, or_true, and_self, reduceIte, Nat.reduceEqDiff, Nat.reduceLT, Nat.reduceLeDiff, Nat.reduceMul, false_and, and_false, reduceCtorEq, false_or, or_false, not_true_eq_false, not_false_eq_true, true_implies, false_implies, implies_true, lf_10, eq_self, Int32.reduceLT, Int32.reduceLE, Int32.reduceAdd, Int32.reduceSub, Int32.reduceDiv, Int32.reduceMul, pm_same, pm_i_wI, pm_l_wL, pm_l_wM, pm_oR_rf, pm_oQ_rf, sh_k5 hS, nI_1, sw_e, LQ1, LQ2, hwj, hle]
  refine ⟨by omega, rd_46 (c := 40) (n := n) hS hr3 (by omega) (fun y => ?_) (fun y => ?_)⟩ <;> rw [rB] at y
  · have hlt : p < n := gx_lt gx_b_eof y (by omega)
    have ec : gx_F (gx_b (pm_i S0 6) n) 160 (k + 1) p = gx_bd (gx_EE (gx_F (gx_b (pm_i S0 6) n) 160 k) (gx_b (pm_i S0 6) n) 160 (p + 1)) (fun s q => if gx_b (pm_i S0 6) n q = 41 then (q + 1, some s) else (q, none)) := by rw [gx_F, if_neg y33, if_pos y]
    have hr2 := hr.mv hd0 (q := p + 1) (by omega)
    rw [show wi + j + 1 = 6 - k from by omega]
    refine ⟨by omega, hE (d - 1) _ (p + 1) L _ (by omega) hr2 (by omega) (fun x e S' he hS' => ?_) (fun x e S' he hS' hle2 => ?_)⟩
    · have hok := (gx_EE_ok gx_b_eof (fun p hp => gx_F_ok gx_b_eof 160 k p hp) 160 (p := p + 1) (by omega)).2 x e he
      have hS2 := hS'.sh hS0
      have hrB2 : gx_b (pm_i S' 6) n = gx_b (pm_i S0 6) n := by rw [hS'.text hd0]
      rw [gx_bd_some he] at ec
      have hk5 : pm_k S' 5 = 6 := sh_k5 hS2
      try simp only [pm_WV, pm_WW, true_and, and_true, true_or, or_true, and_self, reduceIte, Nat.reduceEqDiff, Nat.reduceLT, Nat.reduceLeDiff, Nat.reduceMul, false_and, and_false, reduceCtorEq, false_or, or_false, not_true_eq_false, not_false_eq_true, true_implies, false_implies, implies_true, lf_10, eq_self, Int32.reduceLT, Int32.reduceLE, Int32.reduceAdd, Int32.reduceSub, Int32.reduceDiv, Int32.reduceMul, pm_same, pm_i_wI, pm_l_wL, pm_l_wM, pm_oR_rf, pm_oQ_rf, sh_k5 hS, nI_1, sw_e, LQ1, LQ2, pm_WI0, pm_WI1, pm_WI2, pm_WI3, pm_WI4, pm_WI5, pm_WV, pm_WW, pm_WX, pb_B50, pm_if, pm_QI_at, pm_QL_at, pm_QV_at, pm_QR_at, pm_QR_at0, pm_QR_at1, Nat.reduceSub, Nat.reduceAdd, List.replicate_zero, List.replicate_succ, hk5]
      refine ⟨by omega, rd_46 (c := 41) (n := n) hS2 hS'.2.2.1 (by omega) (fun y2 => ?_) (fun y2 => ?_)⟩ <;> rw [hrB2] at y2
      · have hlt2 : x < n := gx_lt gx_b_eof y2 (by omega)
        rw [if_pos y2] at ec
        try simp only [pm_WV, pm_WW, true_and, and_true, true_or, or_true, and_self, reduceIte, Nat.reduceEqDiff, Nat.reduceLT, Nat.reduceLeDiff, Nat.reduceMul, false_and, and_false, reduceCtorEq, false_or, or_false, not_true_eq_false, not_false_eq_true, true_implies, false_implies, implies_true, lf_10, eq_self, Int32.reduceLT, Int32.reduceLE, Int32.reduceAdd, Int32.reduceSub, Int32.reduceDiv, Int32.reduceMul, pm_same, pm_i_wI, pm_l_wL, pm_l_wM, pm_oR_rf, pm_oQ_rf, sh_k5 hS, nI_1, sw_e, LQ1, LQ2, pm_WI0, pm_WI1, pm_WI2, pm_WI3, pm_WI4, pm_WI5, pm_WV, pm_WW, pm_WX, pb_B50, pm_if, pm_QI_at, pm_QL_at, pm_QV_at, pm_QR_at, pm_QR_at0, pm_QR_at1, Nat.reduceSub, Nat.reduceAdd, List.replicate_zero, List.replicate_succ]
        refine rd50_77 hS0 hd0 (by omega) (Or.inr rfl) (by omega) (hS'.mv hd0 (q := x + 1) (by omega)) (by simp; omega) (fun S2 hS2 => h1 (x + 1) e S2 ec (hS2.L ?_))
        show (L.1, L.2.1, (L.2.2 ++ e) ++ List.replicate j 8) = _
        rw [List.append_assoc]
      · rw [if_neg y2] at ec
        try simp only [pm_WV, pm_WW, true_and, and_true, true_or, or_true, and_self, reduceIte, Nat.reduceEqDiff, Nat.reduceLT, Nat.reduceLeDiff, Nat.reduceMul, false_and, and_false, reduceCtorEq, false_or, or_false, not_true_eq_false, not_false_eq_true, true_implies, false_implies, implies_true, lf_10, eq_self, Int32.reduceLT, Int32.reduceLE, Int32.reduceAdd, Int32.reduceSub, Int32.reduceDiv, Int32.reduceMul, pm_same, pm_i_wI, pm_l_wL, pm_l_wM, pm_oR_rf, pm_oQ_rf, sh_k5 hS, nI_1, sw_e, LQ1, LQ2, pm_WI0, pm_WI1, pm_WI2, pm_WI3, pm_WI4, pm_WI5, pm_WV, pm_WW, pm_WX, pb_B50, pm_if, pm_QI_at, pm_QL_at, pm_QV_at, pm_QR_at, pm_QR_at0, pm_QR_at1, Nat.reduceSub, Nat.reduceAdd, List.replicate_zero, List.replicate_succ]
        refine rd50_77 hS0 hd0 (by omega) (Or.inl rfl) (by omega) hS' (by simp; omega) (fun S2 hS2 => h0 x (e ++ List.replicate j 8) S2 ec (hS2.L ?_) (by simp; omega))
        show (L.1, L.2.1, (L.2.2 ++ e) ++ List.replicate j 8) = _
        rw [List.append_assoc]
    · have hxn := ((gx_EE_ok gx_b_eof (fun p hp => gx_F_ok gx_b_eof 160 k p hp) 160 (p := p + 1) (by omega)).1 x he).2
      rw [gx_bd_none he] at ec
      try simp only [pm_WV, pm_WW, true_and, and_true, true_or, or_true, and_self, reduceIte, Nat.reduceEqDiff, Nat.reduceLT, Nat.reduceLeDiff, Nat.reduceMul, false_and, and_false, reduceCtorEq, false_or, or_false, not_true_eq_false, not_false_eq_true, true_implies, false_implies, implies_true, lf_10, eq_self, Int32.reduceLT, Int32.reduceLE, Int32.reduceAdd, Int32.reduceSub, Int32.reduceDiv, Int32.reduceMul, pm_same, pm_i_wI, pm_l_wL, pm_l_wM, pm_oR_rf, pm_oQ_rf, sh_k5 hS, nI_1, sw_e, LQ1, LQ2, pm_WI0, pm_WI1, pm_WI2, pm_WI3, pm_WI4, pm_WI5, pm_WV, pm_WW, pm_WX, pb_B50, pm_if, pm_QI_at, pm_QL_at, pm_QV_at, pm_QR_at, pm_QR_at0, pm_QR_at1, Nat.reduceSub, Nat.reduceAdd, List.replicate_zero, List.replicate_succ]
      refine rd50_77 hS0 hd0 (by omega) (Or.inl rfl) (by omega) hS' (by simp; omega) (fun S2 hS2 => h0 x (e ++ List.replicate j 8) S2 ec (hS2.L ?_) (by simp; omega))
      show (L.1, L.2.1, (L.2.2 ++ e) ++ List.replicate j 8) = _
      rw [List.append_assoc]
  · have ec : gx_F (gx_b (pm_i S0 6) n) 160 (k + 1) p = gx_test (gx_b (pm_i S0 6) n) p := by rw [gx_F, if_neg y33, if_neg y]
    rw [ec] at h1 h0
    try simp only [pm_WV, pm_WW, true_and, and_true, true_or, or_true, and_self, reduceIte, Nat.reduceEqDiff, Nat.reduceLT, Nat.reduceLeDiff, Nat.reduceMul, false_and, and_false, reduceCtorEq, false_or, or_false, not_true_eq_false, not_false_eq_true, true_implies, false_implies, implies_true, lf_10, eq_self, Int32.reduceLT, Int32.reduceLE, Int32.reduceAdd, Int32.reduceSub, Int32.reduceDiv, Int32.reduceMul, pm_same, pm_i_wI, pm_l_wL, pm_l_wM, pm_oR_rf, pm_oQ_rf, sh_k5 hS, nI_1, sw_e, LQ1, LQ2, pm_WI0, pm_WI1, pm_WI2, pm_WI3, pm_WI4, pm_WI5, pm_WV, pm_WW, pm_WX, pb_B50, pm_if, pm_QI_at, pm_QL_at, pm_QV_at, pm_QR_at, pm_QR_at0, pm_QR_at1, Nat.reduceSub, Nat.reduceAdd, List.replicate_zero, List.replicate_succ]
    exact rd50_72 hS0 hd0 (by omega) (by omega) hr hl h1 h0
theorem rd50_2 (hS0 : Sh S0) (hd0 : dl S0 D W) {wi : Nat} : ∀ (k : Nat), (∀ k', k' < k → cEC G S0 D W n k') → ∀ (d j : Nat) (S : pm_S) (p : Nat) (L : gx_L) (q : Int32 → pm_S → Prop) (u u2 : Value), 7 + 2 * k ≤ d → wi + j + k = 6 → rs S0 D W n S p L → L.2.2.length + j ≤ p → (∀ x e S', gx_F (gx_b (pm_i S0 6) n) 160 k p = (x, some e) → rs S0 D W n S' x (L.1, L.2.1, L.2.2 ++ (e ++ List.replicate j 8)) → q 1 S') → (∀ x e S', gx_F (gx_b (pm_i S0 6) n) 160 k p = (x, none) → rs S0 D W n S' x (L.1, L.2.1, L.2.2 ++ e) → e.length + p ≤ x + j → q 0 S') → pm_W G d 50 (pm_QI q) 2 [.ref 5, .int (nI wi), .int (nI j), u, u2] [] S 0 0 := by
  intro k
  induction k with
  | zero =>
    intro _ d j S p L q u u2 hd hj hr hl h1 h0
    have hS := hr.sh hS0
    have hdl := hr.todl hd0
    have ht := hr.text hd0
    have hr3 := hr.2.2.1
    have hn := hr3.2.2.2.1
    have hpn := hr3.2.2.1
    have hr5 : pm_r S 5 3 = some D := hdl.1
    have hkD : pm_k S D = 5 := hdl.2.1
    have rB : gx_b (pm_i S 6) n = gx_b (pm_i S0 6) n := by rw [ht]
    have hle : (6 : Int32) ≤ nI (wi + j) := nI_le (a := 6) (b := wi + j) (by omega) (by omega)
    have hwj : nI wi + nI j = nI (wi + j) := nI_add wi j
    refine pm_wb_ok pb_c50 1 2 0 _ _ _ _ _ ?_
    try simp only [pm_WI0, pm_WI1, pm_WI2, pm_WI3, pm_WI4, pm_WI5, pm_WV, pm_WW, pm_WX, pb_B50, pm_if, pm_QI_at, pm_QL_at, pm_QV_at, pm_QR_at, pm_QR_at0, pm_QR_at1, Nat.reduceSub, Nat.reduceAdd, List.replicate_zero, List.replicate_succ, true_and, and_true, true_or, or_true, and_self, reduceIte, Nat.reduceEqDiff, Nat.reduceLT, Nat.reduceLeDiff, Nat.reduceMul, false_and, and_false, reduceCtorEq, false_or, or_false, not_true_eq_false, not_false_eq_true, true_implies, false_implies, implies_true, lf_10, eq_self, Int32.reduceLT, Int32.reduceLE, Int32.reduceAdd, Int32.reduceSub, Int32.reduceDiv, Int32.reduceMul, pm_same, pm_i_wI, pm_l_wL, pm_l_wM, pm_oR_rf, pm_oQ_rf, sh_k5 hS, nI_1, sw_e, LQ1, LQ2, hwj, hle]
    refine pm_wb_ok pb_c50 1 25 0 _ _ _ _ _ ?_
    try simp only [pm_WI0, pm_WI1, pm_WI2, pm_WI3, pm_WI4, pm_WI5, pm_WV, pm_WW, pm_WX, pb_B50, pm_if, pm_QI_at, pm_QL_at, pm_QV_at, pm_QR_at, pm_QR_at0, pm_QR_at1, Nat.reduceSub, Nat.reduceAdd, List.replicate_zero, List.replicate_succ, true_and, and_true, true_or, or_true, and_self, reduceIte, Nat.reduceEqDiff, Nat.reduceLT, Nat.reduceLeDiff, Nat.reduceMul, false_and, and_false, reduceCtorEq, false_or, or_false, not_true_eq_false, not_false_eq_true, true_implies, false_implies, implies_true, lf_10, eq_self, Int32.reduceLT, Int32.reduceLE, Int32.reduceAdd, Int32.reduceSub, Int32.reduceDiv, Int32.reduceMul, pm_same, pm_i_wI, pm_l_wL, pm_l_wM, pm_oR_rf, pm_oQ_rf, sh_k5 hS, nI_1, sw_e, LQ1, LQ2, hwj, hle]
    exact rd50_72 hS0 hd0 (by omega) (by omega) hr hl h1 h0
  | succ k ih =>
    intro hE d j S p L q u u2 hd hj hr hl h1 h0
    have hS := hr.sh hS0
    have hdl := hr.todl hd0
    have ht := hr.text hd0
    have hr3 := hr.2.2.1
    have hn := hr3.2.2.2.1
    have hpn := hr3.2.2.1
    have hr5 : pm_r S 5 3 = some D := hdl.1
    have hkD : pm_k S D = 5 := hdl.2.1
    have rB : gx_b (pm_i S 6) n = gx_b (pm_i S0 6) n := by rw [ht]
    have hle : ¬ (6 : Int32) ≤ nI (wi + j) := nI_ge (a := wi + j) (b := 6) (by omega) (by omega)
    have hwj : nI wi + nI j = nI (wi + j) := nI_add wi j
    refine pm_wb_ok pb_c50 1 2 0 _ _ _ _ _ ?_
    try simp only [pm_WI0, pm_WI1, pm_WI2, pm_WI3, pm_WI4, pm_WI5, pm_WV, pm_WW, pm_WX, pb_B50, pm_if, pm_QI_at, pm_QL_at, pm_QV_at, pm_QR_at, pm_QR_at0, pm_QR_at1, Nat.reduceSub, Nat.reduceAdd, List.replicate_zero, List.replicate_succ, true_and, and_true, true_or, or_true, and_self, reduceIte, Nat.reduceEqDiff, Nat.reduceLT, Nat.reduceLeDiff, Nat.reduceMul, false_and, and_false, reduceCtorEq, false_or, or_false, not_true_eq_false, not_false_eq_true, true_implies, false_implies, implies_true, lf_10, eq_self, Int32.reduceLT, Int32.reduceLE, Int32.reduceAdd, Int32.reduceSub, Int32.reduceDiv, Int32.reduceMul, pm_same, pm_i_wI, pm_l_wL, pm_l_wM, pm_oR_rf, pm_oQ_rf, sh_k5 hS, nI_1, sw_e, LQ1, LQ2, hwj, hle]
    refine ⟨by omega, rd_46 (c := 33) (n := n) hS hr3 (by omega) (fun y => ?_) (fun y => ?_)⟩ <;> rw [rB] at y
    · have hlt : p < n := gx_lt gx_b_eof y (by omega)
      have ec : gx_F (gx_b (pm_i S0 6) n) 160 (k + 1) p = gx_bd (gx_F (gx_b (pm_i S0 6) n) 160 k (p + 1)) (fun s q => (q, some (s ++ [8]))) := by rw [gx_F, if_pos y]
      have hr2 := hr.mv hd0 (q := p + 1) (by omega)
      try simp only [pm_WV, pm_WW, true_and, and_true, true_or, or_true, and_self, reduceIte, Nat.reduceEqDiff, Nat.reduceLT, Nat.reduceLeDiff, Nat.reduceMul, false_and, and_false, reduceCtorEq, false_or, or_false, not_true_eq_false, not_false_eq_true, true_implies, false_implies, implies_true, lf_10, eq_self, Int32.reduceLT, Int32.reduceLE, Int32.reduceAdd, Int32.reduceSub, Int32.reduceDiv, Int32.reduceMul, pm_same, pm_i_wI, pm_l_wL, pm_l_wM, pm_oR_rf, pm_oQ_rf, sh_k5 hS, nI_1, sw_e, LQ1, LQ2, pm_WI0, pm_WI1, pm_WI2, pm_WI3, pm_WI4, pm_WI5, pm_WV, pm_WW, pm_WX, pb_B50, pm_if, pm_QI_at, pm_QL_at, pm_QV_at, pm_QR_at, pm_QR_at0, pm_QR_at1, Nat.reduceSub, Nat.reduceAdd, List.replicate_zero, List.replicate_succ]
      refine ih (fun k' hk' => hE k' (by omega)) d (j + 1) _ (p + 1) L q u u2 (by omega) (by omega) hr2 (by omega) (fun x e S' he hS' => h1 x (e ++ [8]) S' (by rw [ec, gx_bd_some he]) (hS'.L ?_)) (fun x e S' he hS' hle2 => h0 x e S' (by rw [ec, gx_bd_none he]) hS' (by omega))
      rw [List.append_assoc e]; rfl
    · try simp only [pm_WV, pm_WW, true_and, and_true, true_or, or_true, and_self, reduceIte, Nat.reduceEqDiff, Nat.reduceLT, Nat.reduceLeDiff, Nat.reduceMul, false_and, and_false, reduceCtorEq, false_or, or_false, not_true_eq_false, not_false_eq_true, true_implies, false_implies, implies_true, lf_10, eq_self, Int32.reduceLT, Int32.reduceLE, Int32.reduceAdd, Int32.reduceSub, Int32.reduceDiv, Int32.reduceMul, pm_same, pm_i_wI, pm_l_wL, pm_l_wM, pm_oR_rf, pm_oQ_rf, sh_k5 hS, nI_1, sw_e, LQ1, LQ2, pm_WI0, pm_WI1, pm_WI2, pm_WI3, pm_WI4, pm_WI5, pm_WV, pm_WW, pm_WX, pb_B50, pm_if, pm_QI_at, pm_QL_at, pm_QV_at, pm_QR_at, pm_QR_at0, pm_QR_at1, Nat.reduceSub, Nat.reduceAdd, List.replicate_zero, List.replicate_succ]
      exact rd50_25 hS0 hd0 (hE k (by omega)) (by omega) (by omega) hr hl y h1 h0
theorem rd_50 (hS0 : Sh S0) (hd0 : dl S0 D W) {k : Nat} (hk : k ≤ 6) (hE : ∀ k', k' < k → cEC G S0 D W n k') : cFC G S0 D W n k := by
  intro d S p L q hd hr hl h1 h0
  have hS := hr.sh hS0
  have hdl := hr.todl hd0
  have ht := hr.text hd0
  have hr3 := hr.2.2.1
  have hn := hr3.2.2.2.1
  have hpn := hr3.2.2.1
  have hr5 : pm_r S 5 3 = some D := hdl.1
  have hkD : pm_k S D = 5 := hdl.2.1
  have rB : gx_b (pm_i S 6) n = gx_b (pm_i S0 6) n := by rw [ht]
  refine pm_goI 50 1 pb_c50 (by decide) (Nat.le_of_ble_eq_true rfl) rfl ?_
  try simp only [show pm_mL 50 = 5 from rfl, pm_WI0, pm_WI1, pm_WI2, pm_WI3, pm_WI4, pm_WI5, pm_WV, pm_WW, pm_WX, pb_B50, pm_if, pm_QI_at, pm_QL_at, pm_QV_at, pm_QR_at, pm_QR_at0, pm_QR_at1, Nat.reduceSub, Nat.reduceAdd, List.replicate_zero, List.replicate_succ, true_and, and_true, true_or, or_true, and_self, reduceIte, Nat.reduceEqDiff, Nat.reduceLT, Nat.reduceLeDiff, Nat.reduceMul, false_and, and_false, reduceCtorEq, false_or, or_false, not_true_eq_false, not_false_eq_true, true_implies, false_implies, implies_true, lf_10, eq_self, Int32.reduceLT, Int32.reduceLE, Int32.reduceAdd, Int32.reduceSub, Int32.reduceDiv, Int32.reduceMul, pm_same, pm_i_wI, pm_l_wL, pm_l_wM, pm_oR_rf, pm_oQ_rf, sh_k5 hS, nI_1, sw_e, LQ1, LQ2]
  refine rd50_2 hS0 hd0 (wi := 6 - k) k hE d 0 S p L q _ _ hd (by omega) hr (by omega) (fun x e S' he hS' => h1 x e S' he (hS'.L ?_)) (fun x e S' he hS' hle => h0 x e S' he hS' (by omega))
  simp
def oB (o : Option (List Nat)) : Int32 := match o with
  | none => 0
  | some _ => 1
def oN (o : Option (List Nat)) : Nat := match o with
  | none => 0
  | some _ => 1
theorem rd49_7 (hS0 : Sh S0) (hd0 : dl S0 D W) {k : Nat} (hF : cFC G S0 D W n k) {d : Nat} (hd : 8 + 2 * k ≤ d) {L : gx_L} {p0 : Nat} (hl : L.2.2.length ≤ p0) {q : Int32 → pm_S → Prop} : ∀ (m i p : Nat) (a o : Option (List Nat)) (gT gE : Nat) (S : pm_S), n + 1 - p < m → 2 * i ≤ p → n ≤ p + gT → n ≤ p + gE → n ≤ p + 160 → rs S0 D W n S p (L.1, L.2.1, L.2.2 ++ (o.getD [] ++ a.getD [])) → (o.getD [] ++ a.getD []).length + oN o + oN a + p0 ≤ p →
    (∀ x e S', gx_KA (gx_F (gx_b (pm_i S0 6) n) 160 k) (gx_b (pm_i S0 6) n) 160 gT gE a o p = (x, some e) → rs S0 D W n S' x (L.1, L.2.1, L.2.2 ++ e) → q 1 S') → (∀ x e S', gx_KA (gx_F (gx_b (pm_i S0 6) n) 160 k) (gx_b (pm_i S0 6) n) 160 gT gE a o p = (x, none) → rs S0 D W n S' x (L.1, L.2.1, L.2.2 ++ e) → e.length + p0 ≤ x → q 0 S') →
    pm_W G d 49 (pm_QI q) 7 [.ref 5, .int (nI (6 - k)), .int (oB a), .int (oB o), .int (nI i)] [] S 0 0 := by
  intro m
  induction m with
  | zero => intro i p a o gT gE S hm; omega
  | succ m ih =>
    intro i p a o gT gE S hm hi hT hE h160 hr hb h1 h0
    have hS := hr.sh hS0
    have hdl := hr.todl hd0
    have ht := hr.text hd0
    have hr3 := hr.2.2.1
    have hn := hr3.2.2.2.1
    have hpn := hr3.2.2.1
    have hr5 : pm_r S 5 3 = some D := hdl.1
    have hkD : pm_k S D = 5 := hdl.2.1
    have rB : gx_b (pm_i S 6) n = gx_b (pm_i S0 6) n := by rw [ht]
    have hle : ¬ (160 : Int32) ≤ nI i := nI_ge (a := i) (b := 160) (by omega) (by omega)
    have hok := gx_F_ok (B := gx_b (pm_i S0 6) n) gx_b_eof 160 k p hpn
    refine pm_wb_ok pb_c49 1 7 0 _ _ _ _ _ ?_
    try simp only [pm_WI0, pm_WI1, pm_WI2, pm_WI3, pm_WI4, pm_WI5, pm_WV, pm_WW, pm_WX, pb_B49, pm_if, pm_QI_at, pm_QL_at, pm_QV_at, pm_QR_at, pm_QR_at0, pm_QR_at1, Nat.reduceSub, Nat.reduceAdd, List.replicate_zero, List.replicate_succ, true_and, and_true, true_or, or_true, and_self, reduceIte, Nat.reduceEqDiff, Nat.reduceLT, Nat.reduceLeDiff, Nat.reduceMul, false_and, and_false, reduceCtorEq, false_or, or_false, not_true_eq_false, not_false_eq_true, true_implies, false_implies, implies_true, lf_10, eq_self, Int32.reduceLT, Int32.reduceLE, Int32.reduceAdd, Int32.reduceSub, Int32.reduceDiv, Int32.reduceMul, pm_same, pm_i_wI, pm_l_wL, pm_l_wM, pm_oR_rf, pm_oQ_rf, sh_k5 hS, nI_1, sw_e, LQ1, LQ2, hle]
    refine ⟨by omega, hF (d - 1) S p _ _ (by omega) hr (by show (L.2.2 ++ (o.getD [] ++ a.getD [])).length ≤ p; simp only [List.length_append] at hb ⊢; omega) (fun x s S1 he hr1 => ?_) (fun x s S1 he hr1 hle1 => ?_)⟩
    · obtain ⟨f1, f2, f3, f4, f5⟩ := hok.2 x s he
      have eKA : gx_KA (gx_F (gx_b (pm_i S0 6) n) 160 k) (gx_b (pm_i S0 6) n) 160 gT gE a o p = gx_KB (gx_F (gx_b (pm_i S0 6) n) 160 k) (gx_b (pm_i S0 6) n) 160 gT gE (gx_aj a s) o x := by unfold gx_KA; rw [gx_bd_some he]
      rw [eKA] at h1 h0
      -- behind the operator &
      have mid : ∀ S2, rs S0 D W n S2 x (L.1, L.2.1, L.2.2 ++ (o.getD [] ++ gx_aj a s)) → (o.getD [] ++ gx_aj a s).length + oN o + p0 ≤ x → pm_W G d 49 (pm_QI q) 40 [.ref 5, .int (nI (6 - k)), .int (oB a), .int (oB o), .int (nI i)] [] S2 0 0 := by
        intro S2 hr2 hb2
        have hS := hr2.sh hS0
        have hr3 := hr2.2.2.1
        have hdl := hr2.todl hd0
        have hr5 : pm_r S2 5 3 = some D := hdl.1
        have hkD : pm_k S2 D = 5 := hdl.2.1
        have rB : gx_b (pm_i S2 6) n = gx_b (pm_i S0 6) n := by rw [hr2.text hd0]
        obtain ⟨gT', rfl⟩ : ∃ g, gT = g + 1 := ⟨gT - 1, by omega⟩
        obtain ⟨gE', rfl⟩ : ∃ g, gE = g + 1 := ⟨gE - 1, by omega⟩
        refine pm_wb_ok pb_c49 1 40 0 _ _ _ _ _ ?_
        try simp only [pm_WI0, pm_WI1, pm_WI2, pm_WI3, pm_WI4, pm_WI5, pm_WV, pm_WW, pm_WX, pb_B49, pm_if, pm_QI_at, pm_QL_at, pm_QV_at, pm_QR_at, pm_QR_at0, pm_QR_at1, Nat.reduceSub, Nat.reduceAdd, List.replicate_zero, List.replicate_succ, true_and, and_true, true_or, or_true, and_self, reduceIte, Nat.reduceEqDiff, Nat.reduceLT, Nat.reduceLeDiff, Nat.reduceMul, false_and, and_false, reduceCtorEq, false_or, or_false, not_true_eq_false, not_false_eq_true, true_implies, false_implies, implies_true, lf_10, eq_self, Int32.reduceLT, Int32.reduceLE, Int32.reduceAdd, Int32.reduceSub, Int32.reduceDiv, Int32.reduceMul, pm_same, pm_i_wI, pm_l_wL, pm_l_wM, pm_oR_rf, pm_oQ_rf, sh_k5 hS, nI_1, sw_e, LQ1, LQ2, hr5, hkD]
        refine ⟨by omega, rd_46 (c := 38) (n := n) hS hr3 (by omega) (fun y => ?_) (fun y => ?_)⟩ <;> rw [rB] at y
        · have hlt : x < n := gx_lt gx_b_eof y (by omega)
          rw [gx_KB_and y] at h1 h0
          have hr4 := hr2.mv hd0 (q := x + 1) (by omega)
          have nx := ih (i + 1) (x + 1) (some (gx_aj a s)) o gT' (gE' + 1) _ (by omega) (by omega) (by omega) (by omega) (by omega) hr4 (by show (o.getD [] ++ gx_aj a s).length + oN o + 1 + p0 ≤ x + 1; omega) h1 h0
          have hoB : oB (some (gx_aj a s)) = 1 := rfl
          rw [hoB] at nx
          try simp only [pm_WV, pm_WW, true_and, and_true, true_or, or_true, and_self, reduceIte, Nat.reduceEqDiff, Nat.reduceLT, Nat.reduceLeDiff, Nat.reduceMul, false_and, and_false, reduceCtorEq, false_or, or_false, not_true_eq_false, not_false_eq_true, true_implies, false_implies, implies_true, lf_10, eq_self, Int32.reduceLT, Int32.reduceLE, Int32.reduceAdd, Int32.reduceSub, Int32.reduceDiv, Int32.reduceMul, pm_same, pm_i_wI, pm_l_wL, pm_l_wM, pm_oR_rf, pm_oQ_rf, sh_k5 hS, nI_1, sw_e, LQ1, LQ2, pm_WI0, pm_WI1, pm_WI2, pm_WI3, pm_WI4, pm_WI5, pm_WV, pm_WW, pm_WX, pb_B49, pm_if, pm_QI_at, pm_QL_at, pm_QV_at, pm_QR_at, pm_QR_at0, pm_QR_at1, Nat.reduceSub, Nat.reduceAdd, List.replicate_zero, List.replicate_succ]
          first | exact nx | skip
          try refine pm_wb_ok pb_c49 1 79 0 _ _ _ _ _ ?_
          try simp only [pm_WI0, pm_WI1, pm_WI2, pm_WI3, pm_WI4, pm_WI5, pm_WV, pm_WW, pm_WX, pb_B49, pm_if, pm_QI_at, pm_QL_at, pm_QV_at, pm_QR_at, pm_QR_at0, pm_QR_at1, Nat.reduceSub, Nat.reduceAdd, List.replicate_zero, List.replicate_succ, true_and, and_true, true_or, or_true, and_self, reduceIte, Nat.reduceEqDiff, Nat.reduceLT, Nat.reduceLeDiff, Nat.reduceMul, false_and, and_false, reduceCtorEq, false_or, or_false, not_true_eq_false, not_false_eq_true, true_implies, false_implies, implies_true, lf_10, eq_self, Int32.reduceLT, Int32.reduceLE, Int32.reduceAdd, Int32.reduceSub, Int32.reduceDiv, Int32.reduceMul, pm_same, pm_i_wI, pm_l_wL, pm_l_wM, pm_oR_rf, pm_oQ_rf, sh_k5 hS, nI_1, sw_e, LQ1, LQ2]
          try exact nx
        · -- no &: the pending | first
          have oj : rs S0 D W n S2 x (L.1, L.2.1, L.2.2 ++ (o.getD [] ++ gx_aj a s)) → ∀ S3, rs S0 D W n S3 x (L.1, L.2.1, L.2.2 ++ gx_oj o (gx_aj a s)) → pm_W G d 49 (pm_QI q) 66 [.ref 5, .int (nI (6 - k)), .int 0, .int (oB o), .int (nI i)] [] S3 0 0 := by
            intro _ S3 hr3'
            have hS := hr3'.sh hS0
            have hr3 := hr3'.2.2.1
            have rB : gx_b (pm_i S3 6) n = gx_b (pm_i S0 6) n := by rw [hr3'.text hd0]
            have hoj : (gx_oj o (gx_aj a s)).length + p0 ≤ x := by
              cases o with
              | none => simp only [gx_oj, Option.getD, List.nil_append, oN] at hb2 ⊢; omega
              | some u => simp only [gx_oj, Option.getD, List.length_append, List.length_singleton, oN] at hb2 ⊢; omega
            refine pm_wb_ok pb_c49 1 66 0 _ _ _ _ _ ?_
            try simp only [pm_WI0, pm_WI1, pm_WI2, pm_WI3, pm_WI4, pm_WI5, pm_WV, pm_WW, pm_WX, pb_B49, pm_if, pm_QI_at, pm_QL_at, pm_QV_at, pm_QR_at, pm_QR_at0, pm_QR_at1, Nat.reduceSub, Nat.reduceAdd, List.replicate_zero, List.replicate_succ, true_and, and_true, true_or, or_true, and_self, reduceIte, Nat.reduceEqDiff, Nat.reduceLT, Nat.reduceLeDiff, Nat.reduceMul, false_and, and_false, reduceCtorEq, false_or, or_false, not_true_eq_false, not_false_eq_true, true_implies, false_implies, implies_true, lf_10, eq_self, Int32.reduceLT, Int32.reduceLE, Int32.reduceAdd, Int32.reduceSub, Int32.reduceDiv, Int32.reduceMul, pm_same, pm_i_wI, pm_l_wL, pm_l_wM, pm_oR_rf, pm_oQ_rf, sh_k5 hS, nI_1, sw_e, LQ1, LQ2]
            refine ⟨by omega, rd_46 (c := 124) (n := n) hS hr3 (by omega) (fun y2 => ?_) (fun y2 => ?_)⟩ <;> rw [rB] at y2
            · have hlt : x < n := gx_lt gx_b_eof y2 (by omega)
              rw [gx_KB_or y y2] at h1 h0
              have hr4 := hr3'.mv hd0 (q := x + 1) (by omega)
              have nx := ih (i + 1) (x + 1) none (some (gx_oj o (gx_aj a s))) 160 gE' _ (by omega) (by omega) (by omega) (by omega) (by omega) (hr4.L (by simp)) (by show (gx_oj o (gx_aj a s) ++ []).length + 1 + 0 + p0 ≤ x + 1; rw [List.append_nil]; omega) h1 h0
              have hoB1 : oB none = 0 := rfl
              have hoB2 : oB (some (gx_oj o (gx_aj a s))) = 1 := rfl
              rw [hoB1, hoB2] at nx
              try simp only [pm_WV, pm_WW, true_and, and_true, true_or, or_true, and_self, reduceIte, Nat.reduceEqDiff, Nat.reduceLT, Nat.reduceLeDiff, Nat.reduceMul, false_and, and_false, reduceCtorEq, false_or, or_false, not_true_eq_false, not_false_eq_true, true_implies, false_implies, implies_true, lf_10, eq_self, Int32.reduceLT, Int32.reduceLE, Int32.reduceAdd, Int32.reduceSub, Int32.reduceDiv, Int32.reduceMul, pm_same, pm_i_wI, pm_l_wL, pm_l_wM, pm_oR_rf, pm_oQ_rf, sh_k5 hS, nI_1, sw_e, LQ1, LQ2, pm_WI0, pm_WI1, pm_WI2, pm_WI3, pm_WI4, pm_WI5, pm_WV, pm_WW, pm_WX, pb_B49, pm_if, pm_QI_at, pm_QL_at, pm_QV_at, pm_QR_at, pm_QR_at0, pm_QR_at1, Nat.reduceSub, Nat.reduceAdd, List.replicate_zero, List.replicate_succ]
              first | exact nx | skip
              try refine pm_wb_ok pb_c49 1 79 0 _ _ _ _ _ ?_
              try simp only [pm_WI0, pm_WI1, pm_WI2, pm_WI3, pm_WI4, pm_WI5, pm_WV, pm_WW, pm_WX, pb_B49, pm_if, pm_QI_at, pm_QL_at, pm_QV_at, pm_QR_at, pm_QR_at0, pm_QR_at1, Nat.reduceSub, Nat.reduceAdd, List.replicate_zero, List.replicate_succ, true_and, and_true, true_or, or_true, and_self, reduceIte, Nat.reduceEqDiff, Nat.reduceLT, Nat.reduceLeDiff, Nat.reduceMul, false_and, and_false, reduceCtorEq, false_or, or_false, not_true_eq_false, not_false_eq_true, true_implies, false_implies, implies_true, lf_10, eq_self, Int32.reduceLT, Int32.reduceLE, Int32.reduceAdd, Int32.reduceSub, Int32.reduceDiv, Int32.reduceMul, pm_same, pm_i_wI, pm_l_wL, pm_l_wM, pm_oR_rf, pm_oQ_rf, sh_k5 hS, nI_1, sw_e, LQ1, LQ2]
              try exact nx
            · rw [gx_KB_end y y2] at h1
              try simp only [pm_WV, pm_WW, true_and, and_true, true_or, or_true, and_self, reduceIte, Nat.reduceEqDiff, Nat.reduceLT, Nat.reduceLeDiff, Nat.reduceMul, false_and, and_false, reduceCtorEq, false_or, or_false, not_true_eq_false, not_false_eq_true, true_implies, false_implies, implies_true, lf_10, eq_self, Int32.reduceLT, Int32.reduceLE, Int32.reduceAdd, Int32.reduceSub, Int32.reduceDiv, Int32.reduceMul, pm_same, pm_i_wI, pm_l_wL, pm_l_wM, pm_oR_rf, pm_oQ_rf, sh_k5 hS, nI_1, sw_e, LQ1, LQ2, pm_WI0, pm_WI1, pm_WI2, pm_WI3, pm_WI4, pm_WI5, pm_WV, pm_WW, pm_WX, pb_B49, pm_if, pm_QI_at, pm_QL_at, pm_QV_at, pm_QR_at, pm_QR_at0, pm_QR_at1, Nat.reduceSub, Nat.reduceAdd, List.replicate_zero, List.replicate_succ]
              exact h1 x _ S3 rfl hr3'
          cases o with
          | none =>
            have hoB : oB none = 0 := rfl
            rw [hoB] at oj ⊢
            try simp only [pm_WV, pm_WW, true_and, and_true, true_or, or_true, and_self, reduceIte, Nat.reduceEqDiff, Nat.reduceLT, Nat.reduceLeDiff, Nat.reduceMul, false_and, and_false, reduceCtorEq, false_or, or_false, not_true_eq_false, not_false_eq_true, true_implies, false_implies, implies_true, lf_10, eq_self, Int32.reduceLT, Int32.reduceLE, Int32.reduceAdd, Int32.reduceSub, Int32.reduceDiv, Int32.reduceMul, pm_same, pm_i_wI, pm_l_wL, pm_l_wM, pm_oR_rf, pm_oQ_rf, sh_k5 hS, nI_1, sw_e, LQ1, LQ2, pm_WI0, pm_WI1, pm_WI2, pm_WI3, pm_WI4, pm_WI5, pm_WV, pm_WW, pm_WX, pb_B49, pm_if, pm_QI_at, pm_QL_at, pm_QV_at, pm_QR_at, pm_QR_at0, pm_QR_at1, Nat.reduceSub, Nat.reduceAdd, List.replicate_zero, List.replicate_succ]
            exact oj hr2 S2 (hr2.L (by simp [gx_oj]))
          | some u =>
            have hoB : oB (some u) = 1 := rfl
            rw [hoB] at oj ⊢
            try simp only [pm_WV, pm_WW, true_and, and_true, true_or, or_true, and_self, reduceIte, Nat.reduceEqDiff, Nat.reduceLT, Nat.reduceLeDiff, Nat.reduceMul, false_and, and_false, reduceCtorEq, false_or, or_false, not_true_eq_false, not_false_eq_true, true_implies, false_implies, implies_true, lf_10, eq_self, Int32.reduceLT, Int32.reduceLE, Int32.reduceAdd, Int32.reduceSub, Int32.reduceDiv, Int32.reduceMul, pm_same, pm_i_wI, pm_l_wL, pm_l_wM, pm_oR_rf, pm_oQ_rf, sh_k5 hS, nI_1, sw_e, LQ1, LQ2, pm_WI0, pm_WI1, pm_WI2, pm_WI3, pm_WI4, pm_WI5, pm_WV, pm_WW, pm_WX, pb_B49, pm_if, pm_QI_at, pm_QL_at, pm_QV_at, pm_QR_at, pm_QR_at0, pm_QR_at1, Nat.reduceSub, Nat.reduceAdd, List.replicate_zero, List.replicate_succ, hr5, hkD]
            have hl3 : (L.2.2 ++ ((some u).getD [] ++ gx_aj a s)).length < 160 := by
              try simp only [List.length_append, oN] at hb2 ⊢; omega
            refine ⟨by omega, rd_38 (k := 10) (s := 0) (m := 0) hd0 hr2 hl3 (by omega) (by omega) (by omega) (fun S3 hr4 => oj hr2 S3 (hr4.L ?_))⟩
            show (L.1, L.2.1, (L.2.2 ++ (u ++ gx_aj a s)) ++ [gx_st 10 0 0]) = (L.1, L.2.1, L.2.2 ++ (u ++ (gx_aj a s ++ [10])))
            simp [gx_st]
      have hS1 := hr1.sh hS0
      have hdl1 := hr1.todl hd0
      have hr51 : pm_r S1 5 3 = some D := hdl1.1
      have hkD1 : pm_k S1 D = 5 := hdl1.2.1
      have hk51 : pm_k S1 5 = 6 := sh_k5 hS1
      cases a with
      | none =>
        have hoB : oB none = 0 := rfl
        rw [hoB] at mid ⊢
        refine pm_wb_ok pb_c49 1 25 0 _ _ _ _ _ ?_
        try simp only [pm_WI0, pm_WI1, pm_WI2, pm_WI3, pm_WI4, pm_WI5, pm_WV, pm_WW, pm_WX, pb_B49, pm_if, pm_QI_at, pm_QL_at, pm_QV_at, pm_QR_at, pm_QR_at0, pm_QR_at1, Nat.reduceSub, Nat.reduceAdd, List.replicate_zero, List.replicate_succ, true_and, and_true, true_or, or_true, and_self, reduceIte, Nat.reduceEqDiff, Nat.reduceLT, Nat.reduceLeDiff, Nat.reduceMul, false_and, and_false, reduceCtorEq, false_or, or_false, not_true_eq_false, not_false_eq_true, true_implies, false_implies, implies_true, lf_10, eq_self, Int32.reduceLT, Int32.reduceLE, Int32.reduceAdd, Int32.reduceSub, Int32.reduceDiv, Int32.reduceMul, pm_same, pm_i_wI, pm_l_wL, pm_l_wM, pm_oR_rf, pm_oQ_rf, sh_k5 hS, nI_1, sw_e, LQ1, LQ2, hr51, hkD1, hk51]
        refine mid S1 (hr1.L ?_) ?_
        · show (L.1, L.2.1, (L.2.2 ++ (o.getD [] ++ [])) ++ s) = (L.1, L.2.1, L.2.2 ++ (o.getD [] ++ s))
          simp
        · show (o.getD [] ++ s).length + oN o + p0 ≤ x
          try simp only [Option.getD, List.append_nil, List.length_append, oN] at hb ⊢; omega
      | some t =>
        have hoB : oB (some t) = 1 := rfl
        rw [hoB] at mid ⊢
        refine pm_wb_ok pb_c49 1 25 0 _ _ _ _ _ ?_
        try simp only [pm_WI0, pm_WI1, pm_WI2, pm_WI3, pm_WI4, pm_WI5, pm_WV, pm_WW, pm_WX, pb_B49, pm_if, pm_QI_at, pm_QL_at, pm_QV_at, pm_QR_at, pm_QR_at0, pm_QR_at1, Nat.reduceSub, Nat.reduceAdd, List.replicate_zero, List.replicate_succ, true_and, and_true, true_or, or_true, and_self, reduceIte, Nat.reduceEqDiff, Nat.reduceLT, Nat.reduceLeDiff, Nat.reduceMul, false_and, and_false, reduceCtorEq, false_or, or_false, not_true_eq_false, not_false_eq_true, true_implies, false_implies, implies_true, lf_10, eq_self, Int32.reduceLT, Int32.reduceLE, Int32.reduceAdd, Int32.reduceSub, Int32.reduceDiv, Int32.reduceMul, pm_same, pm_i_wI, pm_l_wL, pm_l_wM, pm_oR_rf, pm_oQ_rf, sh_k5 hS, nI_1, sw_e, LQ1, LQ2, hr51, hkD1, hk51]
        have hl3 : (L.2.2 ++ (o.getD [] ++ (some t).getD []) ++ s).length < 160 := by
          try simp only [List.length_append, oN] at hb ⊢; omega
        refine ⟨by omega, rd_38 (k := 9) (s := 0) (m := 0) hd0 hr1 hl3 (by omega) (by omega) (by omega) (fun S3 hr4 => mid S3 (hr4.L ?_) ?_)⟩
        · show (L.1, L.2.1, (L.2.2 ++ (o.getD [] ++ t) ++ s) ++ [gx_st 9 0 0]) = (L.1, L.2.1, L.2.2 ++ (o.getD [] ++ (t ++ (s ++ [9]))))
          simp [gx_st]
        · show (o.getD [] ++ (t ++ (s ++ [9]))).length + oN o + p0 ≤ x
          try simp only [Option.getD, List.length_append, List.length_singleton, oN] at hb ⊢; omega
    · have eKA : gx_KA (gx_F (gx_b (pm_i S0 6) n) 160 k) (gx_b (pm_i S0 6) n) 160 gT gE a o p = (x, none) := by unfold gx_KA; rw [gx_bd_none he]
      try simp only [pm_WV, pm_WW, true_and, and_true, true_or, or_true, and_self, reduceIte, Nat.reduceEqDiff, Nat.reduceLT, Nat.reduceLeDiff, Nat.reduceMul, false_and, and_false, reduceCtorEq, false_or, or_false, not_true_eq_false, not_false_eq_true, true_implies, false_implies, implies_true, lf_10, eq_self, Int32.reduceLT, Int32.reduceLE, Int32.reduceAdd, Int32.reduceSub, Int32.reduceDiv, Int32.reduceMul, pm_same, pm_i_wI, pm_l_wL, pm_l_wM, pm_oR_rf, pm_oQ_rf, sh_k5 hS, nI_1, sw_e, LQ1, LQ2, pm_WI0, pm_WI1, pm_WI2, pm_WI3, pm_WI4, pm_WI5, pm_WV, pm_WW, pm_WX, pb_B49, pm_if, pm_QI_at, pm_QL_at, pm_QV_at, pm_QR_at, pm_QR_at0, pm_QR_at1, Nat.reduceSub, Nat.reduceAdd, List.replicate_zero, List.replicate_succ]
      refine h0 x ((o.getD [] ++ a.getD []) ++ s) S1 eKA (hr1.L ?_) ?_
      · show (L.1, L.2.1, (L.2.2 ++ (o.getD [] ++ a.getD [])) ++ s) = _
        rw [List.append_assoc]
      · rw [List.length_append]; omega
theorem rd_49 (hS0 : Sh S0) (hd0 : dl S0 D W) {k : Nat} (hF : cFC G S0 D W n k) : cEC G S0 D W n k := by
  intro d S p L q hd hr hl h1 h0
  have hS := hr.sh hS0
  have hdl := hr.todl hd0
  have ht := hr.text hd0
  have hr3 := hr.2.2.1
  have hn := hr3.2.2.2.1
  have hpn := hr3.2.2.1
  have hr5 : pm_r S 5 3 = some D := hdl.1
  have hkD : pm_k S D = 5 := hdl.2.1
  have rB : gx_b (pm_i S 6) n = gx_b (pm_i S0 6) n := by rw [ht]
  refine pm_goI 49 1 pb_c49 (by decide) (Nat.le_of_ble_eq_true rfl) rfl ?_
  try simp only [show pm_mL 49 = 5 from rfl, pm_WI0, pm_WI1, pm_WI2, pm_WI3, pm_WI4, pm_WI5, pm_WV, pm_WW, pm_WX, pb_B49, pm_if, pm_QI_at, pm_QL_at, pm_QV_at, pm_QR_at, pm_QR_at0, pm_QR_at1, Nat.reduceSub, Nat.reduceAdd, List.replicate_zero, List.replicate_succ, true_and, and_true, true_or, or_true, and_self, reduceIte, Nat.reduceEqDiff, Nat.reduceLT, Nat.reduceLeDiff, Nat.reduceMul, false_and, and_false, reduceCtorEq, false_or, or_false, not_true_eq_false, not_false_eq_true, true_implies, false_implies, implies_true, lf_10, eq_self, Int32.reduceLT, Int32.reduceLE, Int32.reduceAdd, Int32.reduceSub, Int32.reduceDiv, Int32.reduceMul, pm_same, pm_i_wI, pm_l_wL, pm_l_wM, pm_oR_rf, pm_oQ_rf, sh_k5 hS, nI_1, sw_e, LQ1, LQ2]
  refine rd49_7 hS0 hd0 hF hd (L := L) (p0 := p) hl (n + 2 - p) 0 p none none 160 160 S (by omega) (by omega) (by omega) (by omega) (by omega) (hr.L (by simp)) (by simp [oN]) (fun x e S' he hS' => h1 x e S' (by show gx_EE _ _ 160 p = _; rw [gx_KA_0]; exact he) hS') (fun x e S' he hS' hle => h0 x e S' (by show gx_EE _ _ 160 p = _; rw [gx_KA_0]; exact he) hS' hle)
theorem rd_allE (hS0 : Sh S0) (hd0 : dl S0 D W) : ∀ k, k ≤ 6 → cEC G S0 D W n k := by
  intro k
  induction k using Nat.strongRecOn with
  | ind k ih => intro hk; exact rd_49 hS0 hd0 (rd_50 hS0 hd0 hk (fun k' hk' => ih k' hk' (by omega)))
/-- the class reads an E -/
theorem rd_e (hS0 : Sh S0) (hd0 : dl S0 D W) {d : Nat} (hd : 20 ≤ d) {S : pm_S} {p : Nat} {L : gx_L} {q : Int32 → pm_S → Prop} (hr : rs S0 D W n S p L) (hl : L.2.2.length ≤ p) (h1 : ∀ x e S', gx_e (gx_b (pm_i S0 6) n) p = (x, some e) → rs S0 D W n S' x (L.1, L.2.1, L.2.2 ++ e) → q 1 S') (h0 : ∀ x e S', gx_e (gx_b (pm_i S0 6) n) p = (x, none) → rs S0 D W n S' x (L.1, L.2.1, L.2.2 ++ e) → e.length + p ≤ x → q 0 S') : pm_CI G d 49 [.ref 5, .int 0] S q :=
  rd_allE hS0 hd0 6 (by omega) d S p L q (by omega) hr hl h1 h0
end CRD
/-! the model reads a LAW -/
def lfr (S T : pm_S) : Prop := sc S T ∧ pm_i T 59 45 = pm_i S 59 45 ∧ pm_i T 59 47 = pm_i S 59 47 ∧ pm_i T 59 50 = pm_i S 59 50 ∧ pm_i T 59 51 = pm_i S 59 51
theorem lfr.rf {S : pm_S} : lfr S S := ⟨sc.rf, rfl, rfl, rfl, rfl⟩
theorem lfr.tr {S T U : pm_S} (h : lfr S T) (h' : lfr T U) : lfr S U := ⟨h.1.tr h'.1, h'.2.1.trans h.2.1, h'.2.2.1.trans h.2.2.1, h'.2.2.2.1.trans h.2.2.2.1, h'.2.2.2.2.trans h.2.2.2.2⟩
theorem lfr.w {S T : pm_S} {j : Nat} {v : Int32} (h : lfr S T) (h1 : 52 ≤ j) (h2 : j ≤ 63) : lfr S (pm_wI T 59 j v) := by
  refine ⟨h.1.wI (by unfold sc_q; omega), ?_, ?_, ?_, ?_⟩ <;> rw [pm_i_wI, if_neg (by omega)]
  · exact h.2.1
  · exact h.2.2.1
  · exact h.2.2.2.1
  · exact h.2.2.2.2
theorem lfr.wr {S T : pm_S} {p j : Nat} {v : Int32} (h : lfr S T) (h1 : 95 ≤ p) (h2 : p ≤ 97) : lfr S (pm_wI T p j v) := by
  refine ⟨h.1.wI (by unfold sc_q; omega), ?_, ?_, ?_, ?_⟩ <;> rw [pm_i_wI, if_neg (by omega)]
  · exact h.2.1
  · exact h.2.2.1
  · exact h.2.2.2.1
  · exact h.2.2.2.2
/-- all that reading an E asks of a state -/
def cx (S : pm_S) (f : Nat → Int32) (n : Nat) (t : Nat → Bool) : Prop := Sh S ∧ mrc S f n ∧ iv_c S 18 ≤ 40 ∧ pm_i S 59 24 = nI (iv_c S 24) ∧ iv_c S 24 ≤ 150 ∧ tq S t
theorem cx.fr {S T : pm_S} {f : Nat → Int32} {n : Nat} {t : Nat → Bool} (h : cx S f n t) (hf : lfr S T) : cx T f n t := by
  obtain ⟨h1, ⟨m1, m2, m3, m4⟩, h3, h4, h5, h6⟩ := h
  obtain ⟨s, f1, f2, f3, f4⟩ := hf
  refine ⟨s.sh h1, ⟨by rw [f2]; exact m1, m2, m3, ?_⟩, by rw [s.c (by omega)]; exact h3, by rw [s.m24, s.c (by omega)]; exact h4, by rw [s.c (by omega)]; exact h5, ?_⟩
  · rcases m4 with ⟨a, b⟩ | ⟨l, a, b, c⟩
    · exact Or.inl ⟨by rw [f1]; exact a, by rw [s.r80]; exact b⟩
    · refine Or.inr ⟨l, a, by rw [f1]; exact b, ?_⟩
      rw [c]; unfold iv_txt; rw [s.r81]
  · rcases h6 with ⟨a, b⟩ | ⟨m, a, b, c⟩
    · exact Or.inl ⟨by rw [f3]; exact a, b⟩
    · exact Or.inr ⟨m, by rw [s.c (by omega)]; exact a, by rw [f3]; exact b, by rw [f4, tv_me s.me]; exact c⟩
theorem ms_wf {S : pm_S} {o j : Nat} {r : gx_R Unit} {v : Int32} (h : j ≠ 46 ∧ j ≠ 48 ∧ j ≠ 49) : pm_wI (ms S o r) 59 j v = ms (pm_wI S 59 j v) o r := by
  unfold ms mst
  rw [pm_wI_comm (q := 59) (k := j) (by omega), pm_wI_comm (q := 59) (k := j) (by omega), pm_wI_comm (q := 59) (k := j) (by omega)]
theorem ms_wr {S : pm_S} {o p j : Nat} {r : gx_R Unit} {v : Int32} (h : p ≠ 59) : pm_wI (ms S o r) p j v = ms (pm_wI S p j v) o r := by
  unfold ms mst
  rw [pm_wI_comm (q := p) (k := j) (by omega), pm_wI_comm (q := p) (k := j) (by omega), pm_wI_comm (q := p) (k := j) (by omega)]
/-- the model's rows say L under t -/
def mlr (T : pm_S) (t : Nat → Bool) (L : gx_L) : Prop := pm_i T 59 63 = nI L.1.length ∧ (∀ k, k < L.1.length → pm_i T 95 k = nI (L.1.getD k gx_o0).1 ∧ pm_i T 96 k = nI (L.1.getD k gx_o0).2.1 ∧ pm_i T 97 k = bI (lo_h t L.2.2 (L.1.getD k gx_o0))) ∧ pm_i T 59 52 = bI (ld_reach t L) ∧ ∀ f, 10 ≤ f → f ≤ 16 → pm_i T 59 (43 + f) = nI (L.2.1 f)
theorem mlr.cg {T U : pm_S} {t : Nat → Bool} {L : gx_L} (h : mlr T t L) (h1 : ∀ j, 52 ≤ j → j ≤ 63 → pm_i U 59 j = pm_i T 59 j) (h2 : ∀ p, 95 ≤ p → p ≤ 97 → pm_i U p = pm_i T p) : mlr U t L := by
  obtain ⟨a, b, c, d⟩ := h
  refine ⟨by rw [h1 63 (by omega) (by omega)]; exact a, fun k hk => ?_, by rw [h1 52 (by omega) (by omega)]; exact c, fun f f1 f2 => by rw [h1 (43 + f) (by omega) (by omega)]; exact d f f1 f2⟩
  rw [h2 95 (by omega) (by omega), h2 96 (by omega) (by omega), h2 97 (by omega) (by omega)]; exact b k hk
theorem mlr.num {T : pm_S} {t : Nat → Bool} {L : gx_L} {f v j : Nat} (h : mlr T t L) (hf : 10 ≤ f) (hf2 : f ≤ 16) (hj : j = 43 + f) : mlr (pm_wI T 59 j (nI v)) t (L.1, va_up L.2.1 f v, L.2.2) := by
  subst hj
  obtain ⟨a, b, c, d⟩ := h
  have e8 : va_up L.2.1 f v 8 = L.2.1 8 := by unfold va_up; rw [if_neg (by omega)]
  have e9 : va_up L.2.1 f v 9 = L.2.1 9 := by unfold va_up; rw [if_neg (by omega)]
  refine ⟨by rw [pm_i_wI, if_neg (by omega)]; exact a, fun k hk => ?_, ?_, fun f' f1 f2 => ?_⟩
  · rw [pm_i_wI_ne (by decide), pm_i_wI_ne (by decide), pm_i_wI_ne (by decide)]; exact b k hk
  · rw [pm_i_wI, if_neg (by omega), c]
    unfold ld_reach
    try simp only [e8, e9]
  · rw [pm_i_wI]
    by_cases e : f' = f
    · subst e; rw [if_pos ⟨rfl, rfl⟩]; simp [va_up]
    · rw [if_neg (by omega), d f' f1 f2]; simp [va_up, e]
theorem mlr.reach {T : pm_S} {t : Nat → Bool} {L : gx_L} {e : List Nat} {c p : Nat} (h : mlr T t L) (hw : gx_wf t L c p) : mlr (pm_wI T 59 52 (bI (gx_hv t e))) t (L.1, va_up (va_up L.2.1 8 L.2.2.length) 9 (L.2.2.length + e.length), L.2.2 ++ e) := by
  obtain ⟨a, b, c', d⟩ := h
  refine ⟨by rw [pm_i_wI, if_neg (by omega)]; exact a, fun k hk => ?_, ?_, fun f' f1 f2 => ?_⟩
  · rw [pm_i_wI_ne (by decide), pm_i_wI_ne (by decide), pm_i_wI_ne (by decide)]
    have hm : L.1.getD k gx_o0 ∈ L.1 := by
      have hk' : k < L.1.length := hk
      rw [List.getD_eq_getElem?_getD, List.getElem?_eq_getElem hk']; exact List.getElem_mem hk'
    have := b k hk
    rw [← lo_h_app (e := e) (hw.2.1 _ hm)] at this
    exact this
  · rw [pm_i_wI, if_pos ⟨rfl, rfl⟩]
    have e8 : va_up (va_up L.2.1 8 L.2.2.length) 9 (L.2.2.length + e.length) 8 = L.2.2.length := by simp [va_up]
    have e9 : va_up (va_up L.2.1 8 L.2.2.length) 9 (L.2.2.length + e.length) 9 = L.2.2.length + e.length := by simp [va_up]
    unfold ld_reach
    try simp only [e8, e9]
    rw [gx_sub_new]
  · rw [pm_i_wI, if_neg (by omega), d f' f1 f2]
    show _ = nI (va_up (va_up L.2.1 8 L.2.2.length) 9 (L.2.2.length + e.length) f')
    unfold va_up; rw [if_neg (by omega), if_neg (by omega)]
theorem mlr.owe {T : pm_S} {t : Nat → Bool} {L : gx_L} {e : List Nat} {c p s n wn : Nat} (h : mlr T t L) (hw : gx_wf t L c p) {hb : Int32} (hh : hb = bI (lo_h t (L.2.2 ++ e) (s, n, wn, L.2.2.length, L.2.2.length + e.length))) : mlr (pm_wI (pm_wI (pm_wI (pm_wI T 95 L.1.length (nI s)) 96 L.1.length (nI n)) 97 L.1.length hb) 59 63 (nI (L.1.length + 1))) t (L.1 ++ [(s, n, wn, L.2.2.length, L.2.2.length + e.length)], L.2.1, L.2.2 ++ e) := by
  obtain ⟨a, b, c', d⟩ := h
  refine ⟨by rw [pm_i_wI, if_pos ⟨rfl, rfl⟩]; simp, fun k hk => ?_, ?_, fun f' f1 f2 => ?_⟩
  · rw [pm_i_wI_ne (p' := 95) (by decide), pm_i_wI_ne (p' := 96) (by decide), pm_i_wI_ne (p' := 97) (by decide), pm_i_wI_ne (p' := 95) (by decide), pm_i_wI_ne (p' := 96) (by decide), pm_i_wI_ne (p' := 95) (by decide), pm_i_wI, pm_i_wI (p := 96), pm_i_wI (p := 97), pm_i_wI_ne (p' := 96) (by decide), pm_i_wI_ne (p' := 97) (by decide), pm_i_wI_ne (p' := 97) (by decide)]
    by_cases hkl : k = L.1.length
    · subst hkl
      rw [if_pos ⟨rfl, rfl⟩, if_pos ⟨rfl, rfl⟩, if_pos ⟨rfl, rfl⟩]
      have : (L.1 ++ [(s, n, wn, L.2.2.length, L.2.2.length + e.length)]).getD L.1.length gx_o0 = (s, n, wn, L.2.2.length, L.2.2.length + e.length) := by
        rw [List.getD_eq_getElem?_getD, List.getElem?_append_right (Nat.le_refl _)]; simp
      try simp only [this]
      exact ⟨rfl, rfl, hh⟩
    · have hk2 : k < L.1.length := by simp at hk; omega
      rw [if_neg (fun z => hkl z.2), if_neg (fun z => hkl z.2), if_neg (fun z => hkl z.2)]
      have : (L.1 ++ [(s, n, wn, L.2.2.length, L.2.2.length + e.length)]).getD k gx_o0 = L.1.getD k gx_o0 := by
        rw [List.getD_eq_getElem?_getD, List.getElem?_append_left hk2, List.getD_eq_getElem?_getD]
      try simp only [this]
      have hm : L.1.getD k gx_o0 ∈ L.1 := by
        rw [List.getD_eq_getElem?_getD, List.getElem?_eq_getElem hk2]; exact List.getElem_mem hk2
      rw [lo_h_app (hw.2.1 _ hm)]
      exact b k hk2
  · rw [pm_i_wI, if_neg (by omega), pm_i_wI_ne (by decide), pm_i_wI_ne (by decide), pm_i_wI_ne (by decide), c', ld_reach_app hw]
  · rw [pm_i_wI, if_neg (by omega), pm_i_wI_ne (by decide), pm_i_wI_ne (by decide), pm_i_wI_ne (by decide)]; exact d f' f1 f2
theorem gx_bd_w_le {f : Nat → Int32} {n : Nat} {r : gx_R Unit} {l : List Nat} (hr : r.1 ≤ n) (hl : ∀ c, c ∈ l → c < 256) : (gx_bd r (fun _ p => gx_w (gx_b f n) l p)).1 ≤ n := gx_bd_le hr (fun _ p hp => (gx_w_le gx_b_eof l p hp hl).1)
theorem gx_num_le {f : Nat → Int32} {n least most p : Nat} (hm : 1 ≤ most) (hp : p ≤ n) : (gx_num (gx_b f n) least most p).1 ≤ n := by
  rcases gx_two (gx_num (gx_b f n) least most p) with ⟨x, ex⟩ | ⟨x, v, ex⟩
  · have := gx_num_no ex; rw [ex]; show x ≤ n; omega
  · have := gx_num_ok gx_b_eof hm ex; rw [ex]; exact this.2.1
theorem gx_bd_num_le {f : Nat → Int32} {n least most : Nat} {r : gx_R Unit} (hm : 1 ≤ most) (hr : r.1 ≤ n) : (un (gx_bd r (fun _ p => gx_num (gx_b f n) least most p))).1 ≤ n := by
  rw [un_le]; exact gx_bd_le hr (fun _ p hp => gx_num_le hm hp)
theorem mr_199 {G : pm_G} {d : Nat} {S : pm_S} {f : Nat → Int32} {n : Nat} {t : Nat → Bool} {o : Nat} {r : gx_R Unit} {L : Int64} {cs : List Nat} {q : Int32 → pm_S → Prop} (hd : 5 ≤ d) (hS : Sh S) (hm : mrc S f n) (hr : r.1 ≤ n) (hl : cs.length = 12) (hk : wk L cs) (hz : ∀ c, c ∈ wz cs → c < 256) (h : q (vo (gx_bd (gx_bd (gx_bd r (fun _ p => gx_w (gx_b f n) (wz cs) p)) (fun _ p => gx_w (gx_b f n) [32] p)) (fun _ p => gx_num (gx_b f n) 0 4 p))) (ms S o (un (gx_bd (gx_bd (gx_bd r (fun _ p => gx_w (gx_b f n) (wz cs) p)) (fun _ p => gx_w (gx_b f n) [32] p)) (fun _ p => gx_num (gx_b f n) 0 4 p))))) : pm_CI G d 199 [.ref 59, .long L] (ms S o r) q := by
  refine pm_goI 199 2 pb_c199 (by decide) (Nat.le_of_ble_eq_true rfl) rfl ?_
  try simp only [show pm_mL 199 = 3 from rfl, pm_WI0, pm_WI1, pm_WI2, pm_WI3, pm_WI4, pm_WI5, pm_WV, pm_WW, pm_WX, pb_B199, pm_if, pm_QI_at, pm_QL_at, pm_QV_at, pm_QR_at, pm_QR_at0, pm_QR_at1, Nat.reduceSub, Nat.reduceAdd, List.replicate_zero, List.replicate_succ, true_and, and_true, true_or, or_true, and_self, reduceIte, Nat.reduceEqDiff, Nat.reduceLT, Nat.reduceLeDiff, Nat.reduceMul, false_and, and_false, reduceCtorEq, false_or, or_false, not_true_eq_false, not_false_eq_true, true_implies, false_implies, implies_true, lf_10, eq_self, Int32.reduceLT, Int32.reduceLE, Int32.reduceAdd, Int32.reduceSub, pm_same, pm_i_wI, pm_l_wL, pm_l_wM, pm_oR_rf, pm_oQ_rf, sh_k59 hS, sh_r59_25 hS, sh_k80 hS, sh_z80 hS, sh_r59_27 hS, sh_k81 hS, sh_z81 hS, mst_w46, mst_w48, mst_w49, mst_46, mst_48, mst_49, mst_k, mst_z, mst_r, mst_n, mst_l, mst_R62, mst_R64, mst_R65, mst_R66, mst_R67, mst_R78, mst_R80, mst_R81, mst_F18, mst_F24, mst_F45, mst_F47, mst_F50, mst_F51, nI_1, LQ1, LQ2, LQ4, LQ1, LQ2, ms_k, ms_z, ms_r, ms_49, ms_w49, ms_R62, ms_R64, ms_R65, ms_R66, ms_R67, ms_R75, ms_R76, ms_R77, ms_R78, ms_R79, ms_R80, ms_R81, ms_R95, ms_R96, ms_R97, ms_F0, ms_F2, ms_F18, ms_F24, ms_F31, ms_F26, ms_F45, ms_F47, ms_F50, ms_F51, ms_F52, ms_F53, ms_F54, ms_F55, ms_F56, ms_F57, ms_F58, ms_F59, ms_F60, ms_F61, ms_F62, ms_F63]
  have h1 := gx_bd_w_le (f := f) hr hz
  have h2 := gx_bd_w_le (f := f) (l := [32]) h1 (by decide)
  refine ⟨by omega, mr_184 (by omega) hS hm hr hl hk ?_⟩
  try simp only [pm_WV, pm_WW, true_and, and_true, true_or, or_true, and_self, reduceIte, Nat.reduceEqDiff, Nat.reduceLT, Nat.reduceLeDiff, Nat.reduceMul, false_and, and_false, reduceCtorEq, false_or, or_false, not_true_eq_false, not_false_eq_true, true_implies, false_implies, implies_true, lf_10, eq_self, Int32.reduceLT, Int32.reduceLE, Int32.reduceAdd, Int32.reduceSub, pm_same, pm_i_wI, pm_l_wL, pm_l_wM, pm_oR_rf, pm_oQ_rf, sh_k59 hS, sh_r59_25 hS, sh_k80 hS, sh_z80 hS, sh_r59_27 hS, sh_k81 hS, sh_z81 hS, mst_w46, mst_w48, mst_w49, mst_46, mst_48, mst_49, mst_k, mst_z, mst_r, mst_n, mst_l, mst_R62, mst_R64, mst_R65, mst_R66, mst_R67, mst_R78, mst_R80, mst_R81, mst_F18, mst_F24, mst_F45, mst_F47, mst_F50, mst_F51, nI_1, LQ1, LQ2, LQ4, LQ1, LQ2, ms_k, ms_z, ms_r, ms_49, ms_w49, ms_R62, ms_R64, ms_R65, ms_R66, ms_R67, ms_R75, ms_R76, ms_R77, ms_R78, ms_R79, ms_R80, ms_R81, ms_R95, ms_R96, ms_R97, ms_F0, ms_F2, ms_F18, ms_F24, ms_F31, ms_F26, ms_F45, ms_F47, ms_F50, ms_F51, ms_F52, ms_F53, ms_F54, ms_F55, ms_F56, ms_F57, ms_F58, ms_F59, ms_F60, ms_F61, ms_F62, ms_F63, pm_WI0, pm_WI1, pm_WI2, pm_WI3, pm_WI4, pm_WI5, pm_WV, pm_WW, pm_WX, pb_B199, pm_if, pm_QI_at, pm_QL_at, pm_QV_at, pm_QR_at, pm_QR_at0, pm_QR_at1, Nat.reduceSub, Nat.reduceAdd, List.replicate_zero, List.replicate_succ]
  refine ⟨by omega, mr_185 (c := 32) (by omega) hS hm h1 (by omega) ?_⟩
  try simp only [pm_WV, pm_WW, true_and, and_true, true_or, or_true, and_self, reduceIte, Nat.reduceEqDiff, Nat.reduceLT, Nat.reduceLeDiff, Nat.reduceMul, false_and, and_false, reduceCtorEq, false_or, or_false, not_true_eq_false, not_false_eq_true, true_implies, false_implies, implies_true, lf_10, eq_self, Int32.reduceLT, Int32.reduceLE, Int32.reduceAdd, Int32.reduceSub, pm_same, pm_i_wI, pm_l_wL, pm_l_wM, pm_oR_rf, pm_oQ_rf, sh_k59 hS, sh_r59_25 hS, sh_k80 hS, sh_z80 hS, sh_r59_27 hS, sh_k81 hS, sh_z81 hS, mst_w46, mst_w48, mst_w49, mst_46, mst_48, mst_49, mst_k, mst_z, mst_r, mst_n, mst_l, mst_R62, mst_R64, mst_R65, mst_R66, mst_R67, mst_R78, mst_R80, mst_R81, mst_F18, mst_F24, mst_F45, mst_F47, mst_F50, mst_F51, nI_1, LQ1, LQ2, LQ4, LQ1, LQ2, ms_k, ms_z, ms_r, ms_49, ms_w49, ms_R62, ms_R64, ms_R65, ms_R66, ms_R67, ms_R75, ms_R76, ms_R77, ms_R78, ms_R79, ms_R80, ms_R81, ms_R95, ms_R96, ms_R97, ms_F0, ms_F2, ms_F18, ms_F24, ms_F31, ms_F26, ms_F45, ms_F47, ms_F50, ms_F51, ms_F52, ms_F53, ms_F54, ms_F55, ms_F56, ms_F57, ms_F58, ms_F59, ms_F60, ms_F61, ms_F62, ms_F63, pm_WI0, pm_WI1, pm_WI2, pm_WI3, pm_WI4, pm_WI5, pm_WV, pm_WW, pm_WX, pb_B199, pm_if, pm_QI_at, pm_QL_at, pm_QV_at, pm_QR_at, pm_QR_at0, pm_QR_at1, Nat.reduceSub, Nat.reduceAdd, List.replicate_zero, List.replicate_succ]
  exact ⟨by omega, mr_189 (most := 4) (by omega) hS hm h2 (by omega) (by omega) h⟩
def go_1 (B : Nat → Nat) (r : gx_R Unit) : gx_R Nat := gx_bd (gx_bd (gx_bd r (fun _ p => gx_w B [111, 119, 101] p)) (fun _ p => gx_w B [32] p)) (fun _ p => gx_num B 1 1 p)
def go_2 (B : Nat → Nat) (r : gx_R Unit) : gx_R Nat := gx_bd (gx_bd (un (go_1 B r)) (fun _ p => gx_w B [32] p)) (fun _ p => gx_num B 0 4 p)
def go_w (B : Nat → Nat) (q : Nat) : gx_R Unit := if B (q + 1) = 105 then gx_w B [105, 102, 32] (q + 1) else gx_w B [117, 110, 108, 101, 115, 115, 32] (q + 1)
def go_k (B : Nat → Nat) (L : gx_L) (s n q : Nat) : gx_R gx_L := if B q = 32 then gx_bd (go_w B q) (fun _ r => gx_bd (gx_e B r) (fun e r => (r, some (L.1 ++ [(s, n, if B (q + 1) = 105 then 1 else 2, L.2.2.length, L.2.2.length + e.length)], L.2.1, L.2.2 ++ e)))) else (q, some (L.1 ++ [(s, n, 0, L.2.2.length, L.2.2.length)], L.2.1, L.2.2))
theorem go_case {f : Nat → Int32} {n : Nat} {L : gx_L} {p : Nat} (hp : p ≤ n) : (∃ x, x ≤ n ∧ go_2 (gx_b f n) (p, some ()) = (x, none) ∧ gx_owe (gx_b f n) L p = (x, none)) ∨ ∃ s m x, vo (go_1 (gx_b f n) (p, some ())) = nI s ∧ go_2 (gx_b f n) (p, some ()) = (x, some m) ∧ gx_owe (gx_b f n) L p = go_k (gx_b f n) L s m x ∧ (1 ≤ s ∧ s ≤ 9) ∧ m < 10000 ∧ x ≤ n := by
  have eo : gx_owe (gx_b f n) L p = gx_bd (gx_w (gx_b f n) [111, 119, 101] p) (fun _ q => gx_bd (gx_w (gx_b f n) [32] q) (fun _ q => gx_bd (gx_num (gx_b f n) 1 1 q) (fun s q => gx_bd (gx_w (gx_b f n) [32] q) (fun _ q => gx_bd (gx_num (gx_b f n) 0 4 q) (fun m q => go_k (gx_b f n) L s m q))))) := by
    unfold gx_owe
    rw [show ([111, 119, 101, 32] : List Nat) = [111, 119, 101] ++ [32] from rfl, gx_w_app, gx_bd_assoc]
    rfl
  unfold go_2 go_1
  rw [eo]
  show (∃ x, x ≤ n ∧ gx_bd (gx_bd (un (gx_bd (gx_bd (gx_w (gx_b f n) [111, 119, 101] p) (fun _ p => gx_w (gx_b f n) [32] p)) (fun _ p => gx_num (gx_b f n) 1 1 p))) (fun _ p => gx_w (gx_b f n) [32] p)) (fun _ p => gx_num (gx_b f n) 0 4 p) = (x, none) ∧ _) ∨ ∃ s m x, vo (gx_bd (gx_bd (gx_w (gx_b f n) [111, 119, 101] p) (fun _ p => gx_w (gx_b f n) [32] p)) (fun _ p => gx_num (gx_b f n) 1 1 p)) = nI s ∧ gx_bd (gx_bd (un (gx_bd (gx_bd (gx_w (gx_b f n) [111, 119, 101] p) (fun _ p => gx_w (gx_b f n) [32] p)) (fun _ p => gx_num (gx_b f n) 1 1 p))) (fun _ p => gx_w (gx_b f n) [32] p)) (fun _ p => gx_num (gx_b f n) 0 4 p) = (x, some m) ∧ _
  rcases gx_two (gx_w (gx_b f n) [111, 119, 101] p) with ⟨x, ex⟩ | ⟨x, u, ex⟩
  · left; rw [ex]; exact ⟨x, (gx_w_ok gx_b_eof hp (by decide) ex).2, rfl, rfl⟩
  have hx := gx_w_ok gx_b_eof hp (by decide) ex
  rw [ex]
  try simp only [gx_bd_some]
  rcases gx_two (gx_w (gx_b f n) [32] x) with ⟨x2, ex2⟩ | ⟨x2, u2, ex2⟩
  · left; rw [ex2]; exact ⟨x2, (gx_w_ok gx_b_eof hx.2 (by decide) ex2).2, rfl, rfl⟩
  have hx2 := gx_w_ok gx_b_eof hx.2 (by decide) ex2
  rw [ex2]
  try simp only [gx_bd_some]
  rcases gx_two (gx_num (gx_b f n) 1 1 x2) with ⟨x3, ex3⟩ | ⟨x3, s, ex3⟩
  · left; rw [ex3]; exact ⟨x3, by have := gx_num_no ex3; omega, rfl, rfl⟩
  obtain ⟨a1, a2, a3⟩ := gx_num_ok gx_b_eof (by omega) ex3
  have a4 := gx_num_ge' ex3
  rw [ex3]
  try simp only [gx_bd_some, un_some]
  rcases gx_two (gx_w (gx_b f n) [32] x3) with ⟨x4, ex4⟩ | ⟨x4, u4, ex4⟩
  · left; rw [ex4]; exact ⟨x4, (gx_w_ok gx_b_eof a2 (by decide) ex4).2, rfl, rfl⟩
  have hx4 := gx_w_ok gx_b_eof a2 (by decide) ex4
  rw [ex4]
  try simp only [gx_bd_some]
  rcases gx_two (gx_num (gx_b f n) 0 4 x4) with ⟨x5, ex5⟩ | ⟨x5, m, ex5⟩
  · left; rw [ex5]; exact ⟨x5, by have := gx_num_no ex5; omega, rfl, rfl⟩
  obtain ⟨b1, b2, b3⟩ := gx_num_ok gx_b_eof (by omega) ex5
  right; rw [ex5]
  exact ⟨s, m, x5, rfl, rfl, rfl, ⟨a4, by omega⟩, by omega, b2⟩
theorem mr_182f {G : pm_G} {d : Nat} {S : pm_S} {x : Nat} {q : pm_S → Prop} {a b e g i : Value} (hS : Sh S) (hx : x < 2 ^ 31) (h : q (ms S 0 (x, none))) : pm_W G d 182 (pm_QV q) 136 [.ref 59, a, b, e, g, i] [] (ms S 0 (x, none)) 0 0 := by
  have hx0 : 0 ≤ nI x := nI_pos' hx
  have hms : ms S 0 (x, none) = mst S (nI x) (nI x) 0 := rfl
  rw [hms] at h ⊢
  refine pm_wb_ok pb_c182 3 136 0 _ _ _ _ _ ?_
  try simp only [pm_WI0, pm_WI1, pm_WI2, pm_WI3, pm_WI4, pm_WI5, pm_WV, pm_WW, pm_WX, pb_B182, pm_if, pm_QI_at, pm_QL_at, pm_QV_at, pm_QR_at, pm_QR_at0, pm_QR_at1, Nat.reduceSub, Nat.reduceAdd, List.replicate_zero, List.replicate_succ, true_and, and_true, true_or, or_true, and_self, reduceIte, Nat.reduceEqDiff, Nat.reduceLT, Nat.reduceLeDiff, Nat.reduceMul, false_and, and_false, reduceCtorEq, false_or, or_false, not_true_eq_false, not_false_eq_true, true_implies, false_implies, implies_true, lf_10, eq_self, Int32.reduceLT, Int32.reduceLE, Int32.reduceAdd, Int32.reduceSub, pm_same, pm_i_wI, pm_l_wL, pm_l_wM, pm_oR_rf, pm_oQ_rf, sh_k59 hS, sh_r59_25 hS, sh_k80 hS, sh_z80 hS, sh_r59_27 hS, sh_k81 hS, sh_z81 hS, mst_w46, mst_w48, mst_w49, mst_46, mst_48, mst_49, mst_k, mst_z, mst_r, mst_n, mst_l, mst_R62, mst_R64, mst_R65, mst_R66, mst_R67, mst_R78, mst_R80, mst_R81, mst_F18, mst_F24, mst_F45, mst_F47, mst_F50, mst_F51, nI_1, LQ1, LQ2, LQ4, LQ1, LQ2, ms_k, ms_z, ms_r, ms_49, ms_w49, ms_R62, ms_R64, ms_R65, ms_R66, ms_R67, ms_R75, ms_R76, ms_R77, ms_R78, ms_R79, ms_R80, ms_R81, ms_R95, ms_R96, ms_R97, ms_F0, ms_F2, ms_F18, ms_F24, ms_F31, ms_F26, ms_F45, ms_F47, ms_F50, ms_F51, ms_F52, ms_F53, ms_F54, ms_F55, ms_F56, ms_F57, ms_F58, ms_F59, ms_F60, ms_F61, ms_F62, ms_F63, sh_r59_60 hS, sh_k95 hS, sh_z95 hS, sh_r59_61 hS, sh_k96 hS, sh_z96 hS, sh_r59_62 hS, sh_k97 hS, sh_z97 hS, hx0]
  exact h
theorem mr_182s {G : pm_G} {d : Nat} {S : pm_S} {x s m k : Nat} {hb : Int32} {q : pm_S → Prop} {g i : Value} (hS : Sh S) (hk : pm_i S 59 63 = nI k) (hk2 : k < 10) (hhb : hb = 0 ∨ hb = 1) (h : q (ms (pm_wI (pm_wI (pm_wI (pm_wI S 95 k (nI s)) 96 k (nI m)) 97 k hb) 59 63 (nI (k + 1))) 0 (x, some ()))) : pm_W G d 182 (pm_QV q) 136 [.ref 59, .int (nI s), .int (nI m), .int hb, g, i] [] (ms S 0 (x, some ())) 0 0 := by
  have hms : ms S 0 (x, some ()) = mst S (nI x) (-1) 0 := rfl
  rw [← ms_wf (by decide), ← ms_wr (by decide), ← ms_wr (by decide), ← ms_wr (by decide), hms] at h
  rw [hms]
  have hcl := nI_clamp (n := k) (by omega)
  have hv := vp_in_nI (n := k) (N := 10) hk2 (by decide)
  refine pm_wb_ok pb_c182 3 136 0 _ _ _ _ _ ?_
  try simp only [pm_WI0, pm_WI1, pm_WI2, pm_WI3, pm_WI4, pm_WI5, pm_WV, pm_WW, pm_WX, pb_B182, pm_if, pm_QI_at, pm_QL_at, pm_QV_at, pm_QR_at, pm_QR_at0, pm_QR_at1, Nat.reduceSub, Nat.reduceAdd, List.replicate_zero, List.replicate_succ, true_and, and_true, true_or, or_true, and_self, reduceIte, Nat.reduceEqDiff, Nat.reduceLT, Nat.reduceLeDiff, Nat.reduceMul, false_and, and_false, reduceCtorEq, false_or, or_false, not_true_eq_false, not_false_eq_true, true_implies, false_implies, implies_true, lf_10, eq_self, Int32.reduceLT, Int32.reduceLE, Int32.reduceAdd, Int32.reduceSub, pm_same, pm_i_wI, pm_l_wL, pm_l_wM, pm_oR_rf, pm_oQ_rf, sh_k59 hS, sh_r59_25 hS, sh_k80 hS, sh_z80 hS, sh_r59_27 hS, sh_k81 hS, sh_z81 hS, mst_w46, mst_w48, mst_w49, mst_46, mst_48, mst_49, mst_k, mst_z, mst_r, mst_n, mst_l, mst_R62, mst_R64, mst_R65, mst_R66, mst_R67, mst_R78, mst_R80, mst_R81, mst_F18, mst_F24, mst_F45, mst_F47, mst_F50, mst_F51, nI_1, LQ1, LQ2, LQ4, LQ1, LQ2, ms_k, ms_z, ms_r, ms_49, ms_w49, ms_R62, ms_R64, ms_R65, ms_R66, ms_R67, ms_R75, ms_R76, ms_R77, ms_R78, ms_R79, ms_R80, ms_R81, ms_R95, ms_R96, ms_R97, ms_F0, ms_F2, ms_F18, ms_F24, ms_F31, ms_F26, ms_F45, ms_F47, ms_F50, ms_F51, ms_F52, ms_F53, ms_F54, ms_F55, ms_F56, ms_F57, ms_F58, ms_F59, ms_F60, ms_F61, ms_F62, ms_F63, sh_r59_60 hS, sh_k95 hS, sh_z95 hS, sh_r59_61 hS, sh_k96 hS, sh_z96 hS, sh_r59_62 hS, sh_k97 hS, sh_z97 hS, mst_R95, mst_R96, mst_R97, hk, hcl]
  exact ⟨hv, hv, hv, hhb, h⟩
theorem mr_182 {G : pm_G} {d : Nat} {S : pm_S} {f : Nat → Int32} {n : Nat} {t : Nat → Bool} {L : gx_L} {c p0 p : Nat} {q : pm_S → Prop} (hd : 28 ≤ d) (hcx : cx S f n t) (hw : gx_wf t L c p0) (hmlr : mlr S t L) (hc : c < 10) (hpp : p0 ≤ p) (hp : p ≤ n) (h1 : ∀ x L' T, gx_owe (gx_b f n) L p = (x, some L') → lfr S T → mlr T t L' → q (ms T 0 (x, some ()))) (h0 : ∀ x T, gx_owe (gx_b f n) L p = (x, none) → lfr S T → q (ms T 0 (x, none))) : pm_CV G d 182 [.ref 59] (ms S 0 (p, some ())) q := by
  obtain ⟨hS, hm, h18, h24, h24b, ht⟩ := id hcx
  have hn := hm.2.1
  have hr : ((p, some ()) : gx_R Unit).1 ≤ n := hp
  have r1 := gx_bd_w_le (f := f) (l := [111, 119, 101]) hr (by decide)
  have r2 := gx_bd_w_le (f := f) (l := [32]) r1 (by decide)
  have r3 := gx_bd_num_le (f := f) (least := 1) (most := 1) (by omega) r2
  have r4 := gx_bd_w_le (f := f) (l := [32]) r3 (by decide)
  refine pm_goV 182 1 pb_c182 (by decide) (Nat.le_of_ble_eq_true rfl) rfl ?_
  try simp only [show pm_mL 182 = 6 from rfl, pm_WI0, pm_WI1, pm_WI2, pm_WI3, pm_WI4, pm_WI5, pm_WV, pm_WW, pm_WX, pb_B182, pm_if, pm_QI_at, pm_QL_at, pm_QV_at, pm_QR_at, pm_QR_at0, pm_QR_at1, Nat.reduceSub, Nat.reduceAdd, List.replicate_zero, List.replicate_succ, true_and, and_true, true_or, or_true, and_self, reduceIte, Nat.reduceEqDiff, Nat.reduceLT, Nat.reduceLeDiff, Nat.reduceMul, false_and, and_false, reduceCtorEq, false_or, or_false, not_true_eq_false, not_false_eq_true, true_implies, false_implies, implies_true, lf_10, eq_self, Int32.reduceLT, Int32.reduceLE, Int32.reduceAdd, Int32.reduceSub, pm_same, pm_i_wI, pm_l_wL, pm_l_wM, pm_oR_rf, pm_oQ_rf, sh_k59 hS, sh_r59_25 hS, sh_k80 hS, sh_z80 hS, sh_r59_27 hS, sh_k81 hS, sh_z81 hS, mst_w46, mst_w48, mst_w49, mst_46, mst_48, mst_49, mst_k, mst_z, mst_r, mst_n, mst_l, mst_R62, mst_R64, mst_R65, mst_R66, mst_R67, mst_R78, mst_R80, mst_R81, mst_F18, mst_F24, mst_F45, mst_F47, mst_F50, mst_F51, nI_1, LQ1, LQ2, LQ4, LQ1, LQ2, ms_k, ms_z, ms_r, ms_49, ms_w49, ms_R62, ms_R64, ms_R65, ms_R66, ms_R67, ms_R75, ms_R76, ms_R77, ms_R78, ms_R79, ms_R80, ms_R81, ms_R95, ms_R96, ms_R97, ms_F0, ms_F2, ms_F18, ms_F24, ms_F31, ms_F26, ms_F45, ms_F47, ms_F50, ms_F51, ms_F52, ms_F53, ms_F54, ms_F55, ms_F56, ms_F57, ms_F58, ms_F59, ms_F60, ms_F61, ms_F62, ms_F63, sh_r59_60 hS, sh_k95 hS, sh_z95 hS, sh_r59_61 hS, sh_k96 hS, sh_z96 hS, sh_r59_62 hS, sh_k97 hS, sh_z97 hS]
  refine ⟨by omega, mr_183_owe ?_⟩
  try simp only [pm_WV, pm_WW, true_and, and_true, true_or, or_true, and_self, reduceIte, Nat.reduceEqDiff, Nat.reduceLT, Nat.reduceLeDiff, Nat.reduceMul, false_and, and_false, reduceCtorEq, false_or, or_false, not_true_eq_false, not_false_eq_true, true_implies, false_implies, implies_true, lf_10, eq_self, Int32.reduceLT, Int32.reduceLE, Int32.reduceAdd, Int32.reduceSub, pm_same, pm_i_wI, pm_l_wL, pm_l_wM, pm_oR_rf, pm_oQ_rf, sh_k59 hS, sh_r59_25 hS, sh_k80 hS, sh_z80 hS, sh_r59_27 hS, sh_k81 hS, sh_z81 hS, mst_w46, mst_w48, mst_w49, mst_46, mst_48, mst_49, mst_k, mst_z, mst_r, mst_n, mst_l, mst_R62, mst_R64, mst_R65, mst_R66, mst_R67, mst_R78, mst_R80, mst_R81, mst_F18, mst_F24, mst_F45, mst_F47, mst_F50, mst_F51, nI_1, LQ1, LQ2, LQ4, LQ1, LQ2, ms_k, ms_z, ms_r, ms_49, ms_w49, ms_R62, ms_R64, ms_R65, ms_R66, ms_R67, ms_R75, ms_R76, ms_R77, ms_R78, ms_R79, ms_R80, ms_R81, ms_R95, ms_R96, ms_R97, ms_F0, ms_F2, ms_F18, ms_F24, ms_F31, ms_F26, ms_F45, ms_F47, ms_F50, ms_F51, ms_F52, ms_F53, ms_F54, ms_F55, ms_F56, ms_F57, ms_F58, ms_F59, ms_F60, ms_F61, ms_F62, ms_F63, sh_r59_60 hS, sh_k95 hS, sh_z95 hS, sh_r59_61 hS, sh_k96 hS, sh_z96 hS, sh_r59_62 hS, sh_k97 hS, sh_z97 hS, pm_WI0, pm_WI1, pm_WI2, pm_WI3, pm_WI4, pm_WI5, pm_WV, pm_WW, pm_WX, pb_B182, pm_if, pm_QI_at, pm_QL_at, pm_QV_at, pm_QR_at, pm_QR_at0, pm_QR_at1, Nat.reduceSub, Nat.reduceAdd, List.replicate_zero, List.replicate_succ]
  refine ⟨by omega, mr_184 (by omega) hS hm hr rfl wk_owe ?_⟩
  rw [wz_owe]
  try simp only [pm_WV, pm_WW, true_and, and_true, true_or, or_true, and_self, reduceIte, Nat.reduceEqDiff, Nat.reduceLT, Nat.reduceLeDiff, Nat.reduceMul, false_and, and_false, reduceCtorEq, false_or, or_false, not_true_eq_false, not_false_eq_true, true_implies, false_implies, implies_true, lf_10, eq_self, Int32.reduceLT, Int32.reduceLE, Int32.reduceAdd, Int32.reduceSub, pm_same, pm_i_wI, pm_l_wL, pm_l_wM, pm_oR_rf, pm_oQ_rf, sh_k59 hS, sh_r59_25 hS, sh_k80 hS, sh_z80 hS, sh_r59_27 hS, sh_k81 hS, sh_z81 hS, mst_w46, mst_w48, mst_w49, mst_46, mst_48, mst_49, mst_k, mst_z, mst_r, mst_n, mst_l, mst_R62, mst_R64, mst_R65, mst_R66, mst_R67, mst_R78, mst_R80, mst_R81, mst_F18, mst_F24, mst_F45, mst_F47, mst_F50, mst_F51, nI_1, LQ1, LQ2, LQ4, LQ1, LQ2, ms_k, ms_z, ms_r, ms_49, ms_w49, ms_R62, ms_R64, ms_R65, ms_R66, ms_R67, ms_R75, ms_R76, ms_R77, ms_R78, ms_R79, ms_R80, ms_R81, ms_R95, ms_R96, ms_R97, ms_F0, ms_F2, ms_F18, ms_F24, ms_F31, ms_F26, ms_F45, ms_F47, ms_F50, ms_F51, ms_F52, ms_F53, ms_F54, ms_F55, ms_F56, ms_F57, ms_F58, ms_F59, ms_F60, ms_F61, ms_F62, ms_F63, sh_r59_60 hS, sh_k95 hS, sh_z95 hS, sh_r59_61 hS, sh_k96 hS, sh_z96 hS, sh_r59_62 hS, sh_k97 hS, sh_z97 hS, pm_WI0, pm_WI1, pm_WI2, pm_WI3, pm_WI4, pm_WI5, pm_WV, pm_WW, pm_WX, pb_B182, pm_if, pm_QI_at, pm_QL_at, pm_QV_at, pm_QR_at, pm_QR_at0, pm_QR_at1, Nat.reduceSub, Nat.reduceAdd, List.replicate_zero, List.replicate_succ]
  refine ⟨by omega, mr_185 (c := 32) (by omega) hS hm r1 (by omega) ?_⟩
  try simp only [pm_WV, pm_WW, true_and, and_true, true_or, or_true, and_self, reduceIte, Nat.reduceEqDiff, Nat.reduceLT, Nat.reduceLeDiff, Nat.reduceMul, false_and, and_false, reduceCtorEq, false_or, or_false, not_true_eq_false, not_false_eq_true, true_implies, false_implies, implies_true, lf_10, eq_self, Int32.reduceLT, Int32.reduceLE, Int32.reduceAdd, Int32.reduceSub, pm_same, pm_i_wI, pm_l_wL, pm_l_wM, pm_oR_rf, pm_oQ_rf, sh_k59 hS, sh_r59_25 hS, sh_k80 hS, sh_z80 hS, sh_r59_27 hS, sh_k81 hS, sh_z81 hS, mst_w46, mst_w48, mst_w49, mst_46, mst_48, mst_49, mst_k, mst_z, mst_r, mst_n, mst_l, mst_R62, mst_R64, mst_R65, mst_R66, mst_R67, mst_R78, mst_R80, mst_R81, mst_F18, mst_F24, mst_F45, mst_F47, mst_F50, mst_F51, nI_1, LQ1, LQ2, LQ4, LQ1, LQ2, ms_k, ms_z, ms_r, ms_49, ms_w49, ms_R62, ms_R64, ms_R65, ms_R66, ms_R67, ms_R75, ms_R76, ms_R77, ms_R78, ms_R79, ms_R80, ms_R81, ms_R95, ms_R96, ms_R97, ms_F0, ms_F2, ms_F18, ms_F24, ms_F31, ms_F26, ms_F45, ms_F47, ms_F50, ms_F51, ms_F52, ms_F53, ms_F54, ms_F55, ms_F56, ms_F57, ms_F58, ms_F59, ms_F60, ms_F61, ms_F62, ms_F63, sh_r59_60 hS, sh_k95 hS, sh_z95 hS, sh_r59_61 hS, sh_k96 hS, sh_z96 hS, sh_r59_62 hS, sh_k97 hS, sh_z97 hS, pm_WI0, pm_WI1, pm_WI2, pm_WI3, pm_WI4, pm_WI5, pm_WV, pm_WW, pm_WX, pb_B182, pm_if, pm_QI_at, pm_QL_at, pm_QV_at, pm_QR_at, pm_QR_at0, pm_QR_at1, Nat.reduceSub, Nat.reduceAdd, List.replicate_zero, List.replicate_succ]
  refine ⟨by omega, mr_188 (by omega) hS hm r2 ?_⟩
  try simp only [pm_WV, pm_WW, true_and, and_true, true_or, or_true, and_self, reduceIte, Nat.reduceEqDiff, Nat.reduceLT, Nat.reduceLeDiff, Nat.reduceMul, false_and, and_false, reduceCtorEq, false_or, or_false, not_true_eq_false, not_false_eq_true, true_implies, false_implies, implies_true, lf_10, eq_self, Int32.reduceLT, Int32.reduceLE, Int32.reduceAdd, Int32.reduceSub, pm_same, pm_i_wI, pm_l_wL, pm_l_wM, pm_oR_rf, pm_oQ_rf, sh_k59 hS, sh_r59_25 hS, sh_k80 hS, sh_z80 hS, sh_r59_27 hS, sh_k81 hS, sh_z81 hS, mst_w46, mst_w48, mst_w49, mst_46, mst_48, mst_49, mst_k, mst_z, mst_r, mst_n, mst_l, mst_R62, mst_R64, mst_R65, mst_R66, mst_R67, mst_R78, mst_R80, mst_R81, mst_F18, mst_F24, mst_F45, mst_F47, mst_F50, mst_F51, nI_1, LQ1, LQ2, LQ4, LQ1, LQ2, ms_k, ms_z, ms_r, ms_49, ms_w49, ms_R62, ms_R64, ms_R65, ms_R66, ms_R67, ms_R75, ms_R76, ms_R77, ms_R78, ms_R79, ms_R80, ms_R81, ms_R95, ms_R96, ms_R97, ms_F0, ms_F2, ms_F18, ms_F24, ms_F31, ms_F26, ms_F45, ms_F47, ms_F50, ms_F51, ms_F52, ms_F53, ms_F54, ms_F55, ms_F56, ms_F57, ms_F58, ms_F59, ms_F60, ms_F61, ms_F62, ms_F63, sh_r59_60 hS, sh_k95 hS, sh_z95 hS, sh_r59_61 hS, sh_k96 hS, sh_z96 hS, sh_r59_62 hS, sh_k97 hS, sh_z97 hS, pm_WI0, pm_WI1, pm_WI2, pm_WI3, pm_WI4, pm_WI5, pm_WV, pm_WW, pm_WX, pb_B182, pm_if, pm_QI_at, pm_QL_at, pm_QV_at, pm_QR_at, pm_QR_at0, pm_QR_at1, Nat.reduceSub, Nat.reduceAdd, List.replicate_zero, List.replicate_succ]
  refine ⟨by omega, mr_185 (c := 32) (by omega) hS hm r3 (by omega) ?_⟩
  try simp only [pm_WV, pm_WW, true_and, and_true, true_or, or_true, and_self, reduceIte, Nat.reduceEqDiff, Nat.reduceLT, Nat.reduceLeDiff, Nat.reduceMul, false_and, and_false, reduceCtorEq, false_or, or_false, not_true_eq_false, not_false_eq_true, true_implies, false_implies, implies_true, lf_10, eq_self, Int32.reduceLT, Int32.reduceLE, Int32.reduceAdd, Int32.reduceSub, pm_same, pm_i_wI, pm_l_wL, pm_l_wM, pm_oR_rf, pm_oQ_rf, sh_k59 hS, sh_r59_25 hS, sh_k80 hS, sh_z80 hS, sh_r59_27 hS, sh_k81 hS, sh_z81 hS, mst_w46, mst_w48, mst_w49, mst_46, mst_48, mst_49, mst_k, mst_z, mst_r, mst_n, mst_l, mst_R62, mst_R64, mst_R65, mst_R66, mst_R67, mst_R78, mst_R80, mst_R81, mst_F18, mst_F24, mst_F45, mst_F47, mst_F50, mst_F51, nI_1, LQ1, LQ2, LQ4, LQ1, LQ2, ms_k, ms_z, ms_r, ms_49, ms_w49, ms_R62, ms_R64, ms_R65, ms_R66, ms_R67, ms_R75, ms_R76, ms_R77, ms_R78, ms_R79, ms_R80, ms_R81, ms_R95, ms_R96, ms_R97, ms_F0, ms_F2, ms_F18, ms_F24, ms_F31, ms_F26, ms_F45, ms_F47, ms_F50, ms_F51, ms_F52, ms_F53, ms_F54, ms_F55, ms_F56, ms_F57, ms_F58, ms_F59, ms_F60, ms_F61, ms_F62, ms_F63, sh_r59_60 hS, sh_k95 hS, sh_z95 hS, sh_r59_61 hS, sh_k96 hS, sh_z96 hS, sh_r59_62 hS, sh_k97 hS, sh_z97 hS, pm_WI0, pm_WI1, pm_WI2, pm_WI3, pm_WI4, pm_WI5, pm_WV, pm_WW, pm_WX, pb_B182, pm_if, pm_QI_at, pm_QL_at, pm_QV_at, pm_QR_at, pm_QR_at0, pm_QR_at1, Nat.reduceSub, Nat.reduceAdd, List.replicate_zero, List.replicate_succ]
  refine ⟨by omega, mr_189 (most := 4) (by omega) hS hm r4 (by omega) (by omega) ?_⟩
  try simp only [pm_WV, pm_WW, true_and, and_true, true_or, or_true, and_self, reduceIte, Nat.reduceEqDiff, Nat.reduceLT, Nat.reduceLeDiff, Nat.reduceMul, false_and, and_false, reduceCtorEq, false_or, or_false, not_true_eq_false, not_false_eq_true, true_implies, false_implies, implies_true, lf_10, eq_self, Int32.reduceLT, Int32.reduceLE, Int32.reduceAdd, Int32.reduceSub, pm_same, pm_i_wI, pm_l_wL, pm_l_wM, pm_oR_rf, pm_oQ_rf, sh_k59 hS, sh_r59_25 hS, sh_k80 hS, sh_z80 hS, sh_r59_27 hS, sh_k81 hS, sh_z81 hS, mst_w46, mst_w48, mst_w49, mst_46, mst_48, mst_49, mst_k, mst_z, mst_r, mst_n, mst_l, mst_R62, mst_R64, mst_R65, mst_R66, mst_R67, mst_R78, mst_R80, mst_R81, mst_F18, mst_F24, mst_F45, mst_F47, mst_F50, mst_F51, nI_1, LQ1, LQ2, LQ4, LQ1, LQ2, ms_k, ms_z, ms_r, ms_49, ms_w49, ms_R62, ms_R64, ms_R65, ms_R66, ms_R67, ms_R75, ms_R76, ms_R77, ms_R78, ms_R79, ms_R80, ms_R81, ms_R95, ms_R96, ms_R97, ms_F0, ms_F2, ms_F18, ms_F24, ms_F31, ms_F26, ms_F45, ms_F47, ms_F50, ms_F51, ms_F52, ms_F53, ms_F54, ms_F55, ms_F56, ms_F57, ms_F58, ms_F59, ms_F60, ms_F61, ms_F62, ms_F63, sh_r59_60 hS, sh_k95 hS, sh_z95 hS, sh_r59_61 hS, sh_k96 hS, sh_z96 hS, sh_r59_62 hS, sh_k97 hS, sh_z97 hS, pm_WI0, pm_WI1, pm_WI2, pm_WI3, pm_WI4, pm_WI5, pm_WV, pm_WW, pm_WX, pb_B182, pm_if, pm_QI_at, pm_QL_at, pm_QV_at, pm_QR_at, pm_QR_at0, pm_QR_at1, Nat.reduceSub, Nat.reduceAdd, List.replicate_zero, List.replicate_succ]
  change 0 < d ∧ pm_CI G (d - 1) 186 [.ref 59, .int 32] (ms S 0 (un (go_2 (gx_b f n) (p, some ())))) _
  rcases go_case (f := f) (L := L) hp with ⟨x, hx, e2, eo⟩ | ⟨s, m, x, e1, e2, eo, hs, hm4, hx⟩
  · have hv1 : ∃ v, vo (go_1 (gx_b f n) (p, some ())) = v := ⟨_, rfl⟩
    rw [e2, un_none]
    refine ⟨by omega, mr_186f (c := 32) hS (p := 0) (by omega) ?_⟩
    try simp only [pm_WV, pm_WW, true_and, and_true, true_or, or_true, and_self, reduceIte, Nat.reduceEqDiff, Nat.reduceLT, Nat.reduceLeDiff, Nat.reduceMul, false_and, and_false, reduceCtorEq, false_or, or_false, not_true_eq_false, not_false_eq_true, true_implies, false_implies, implies_true, lf_10, eq_self, Int32.reduceLT, Int32.reduceLE, Int32.reduceAdd, Int32.reduceSub, pm_same, pm_i_wI, pm_l_wL, pm_l_wM, pm_oR_rf, pm_oQ_rf, sh_k59 hS, sh_r59_25 hS, sh_k80 hS, sh_z80 hS, sh_r59_27 hS, sh_k81 hS, sh_z81 hS, mst_w46, mst_w48, mst_w49, mst_46, mst_48, mst_49, mst_k, mst_z, mst_r, mst_n, mst_l, mst_R62, mst_R64, mst_R65, mst_R66, mst_R67, mst_R78, mst_R80, mst_R81, mst_F18, mst_F24, mst_F45, mst_F47, mst_F50, mst_F51, nI_1, LQ1, LQ2, LQ4, LQ1, LQ2, ms_k, ms_z, ms_r, ms_49, ms_w49, ms_R62, ms_R64, ms_R65, ms_R66, ms_R67, ms_R75, ms_R76, ms_R77, ms_R78, ms_R79, ms_R80, ms_R81, ms_R95, ms_R96, ms_R97, ms_F0, ms_F2, ms_F18, ms_F24, ms_F31, ms_F26, ms_F45, ms_F47, ms_F50, ms_F51, ms_F52, ms_F53, ms_F54, ms_F55, ms_F56, ms_F57, ms_F58, ms_F59, ms_F60, ms_F61, ms_F62, ms_F63, sh_r59_60 hS, sh_k95 hS, sh_z95 hS, sh_r59_61 hS, sh_k96 hS, sh_z96 hS, sh_r59_62 hS, sh_k97 hS, sh_z97 hS, pm_WI0, pm_WI1, pm_WI2, pm_WI3, pm_WI4, pm_WI5, pm_WV, pm_WW, pm_WX, pb_B182, pm_if, pm_QI_at, pm_QL_at, pm_QV_at, pm_QR_at, pm_QR_at0, pm_QR_at1, Nat.reduceSub, Nat.reduceAdd, List.replicate_zero, List.replicate_succ]
    refine ⟨fun _ => mr_182f hS (by omega) (h0 x S eo lfr.rf), fun z => absurd rfl z⟩
  · have e1' : vo (gx_bd (gx_bd (gx_bd ((p, some ()) : gx_R Unit) (fun _ p => gx_w (gx_b f n) [111, 119, 101] p)) (fun _ p => gx_w (gx_b f n) [32] p)) (fun _ p => gx_num (gx_b f n) 1 1 p)) = nI s := e1
    have e2' : vo (gx_bd (gx_bd (un (gx_bd (gx_bd (gx_bd ((p, some ()) : gx_R Unit) (fun _ p => gx_w (gx_b f n) [111, 119, 101] p)) (fun _ p => gx_w (gx_b f n) [32] p)) (fun _ p => gx_num (gx_b f n) 1 1 p))) (fun _ p => gx_w (gx_b f n) [32] p)) (fun _ p => gx_num (gx_b f n) 0 4 p)) = nI m := by
      have : vo (go_2 (gx_b f n) (p, some ())) = nI m := by rw [e2]; rfl
      exact this
    rw [e1', e2', e2, un_some]
    have hk : pm_i S 59 63 = nI L.1.length := hmlr.1
    have hk2 : L.1.length < 10 := by have := hw.1.1; omega
    have hfr : ∀ {k : Nat} {a b cc dd : Int32}, lfr S (pm_wI (pm_wI (pm_wI (pm_wI S 95 k a) 96 k b) 97 k cc) 59 63 dd) := (((lfr.rf.wr (by omega) (by omega)).wr (by omega) (by omega)).wr (by omega) (by omega)).w (by omega) (by omega)
    have hms : ms S 0 (x, some ()) = mst S (nI x) (-1) (nI 0) := rfl
    rw [hms]
    refine ⟨by omega, mr_186l (c := 32) (by omega) hS hm hx (by omega) (fun y => ?_) (fun y => ?_)⟩
    · have hxn : x < n := gx_lt gx_b_eof y (by omega)
      refine ⟨fun z => absurd z (by decide), fun _ => ⟨by omega, mr_181 hS hm (by omega) ?_⟩⟩
      have hms1 : mst S (nI (x + 1)) (-1) (nI 0) = ms S 0 (x + 1, some ()) := rfl
      -- behind the word
      have tail : ∀ (r : gx_R Unit) (un' : Int32) (wn : Nat) (X : Value), r.1 ≤ n → r = go_w (gx_b f n) x → (un' = 1 ∧ wn = 2 ∨ un' = 0 ∧ wn = 1) → (∀ u, r.2 = some u → wn = if gx_b f n (x + 1) = 105 then 1 else 2) → ∀ b : Int32, (b = 0 ∨ b = 1) → (∀ e, (gx_bd r (fun _ p => gx_e (gx_b f n) p)).2 = some e → b = bI (gx_hv t e)) → ∀ hb, hb = (if un' = b then 0 else 1) → pm_W G d 182 (pm_QV q) 136 [.ref 59, .int (nI s), .int (nI m), .int hb, .int un', .int b] [] (ms S 0 (un (gx_bd r (fun _ p => gx_e (gx_b f n) p)))) 0 0 := by
        intro r un' wn X hr er hun hwn b hb he hb' ehb
        have ek : go_k (gx_b f n) L s m x = gx_bd r (fun _ r => gx_bd (gx_e (gx_b f n) r) (fun e r => (r, some (L.1 ++ [(s, m, if gx_b f n (x + 1) = 105 then 1 else 2, L.2.2.length, L.2.2.length + e.length)], L.2.1, L.2.2 ++ e)))) := by unfold go_k; rw [if_pos y, er]
        obtain ⟨x1, _ | u1⟩ := r
        · exact mr_182f hS (by have : x1 ≤ n := hr; omega) (h0 x1 S (by rw [eo, ek]; rfl) lfr.rf)
        · have hok := gx_e_ok (B := gx_b f n) gx_b_eof (p := x1) hr
          have hw2 := hwn u1 rfl
          rw [← hw2] at ek
          change pm_W G d 182 (pm_QV q) 136 _ [] (ms S 0 (un (gx_e (gx_b f n) x1))) 0 0
          change ∀ e, (gx_e (gx_b f n) x1).2 = some e → _ at he
          rcases gx_two (gx_e (gx_b f n) x1) with ⟨x2, ex2⟩ | ⟨x2, E, ex2⟩
          · rw [ex2, un_none]
            exact mr_182f hS (by have := (hok.1 x2 ex2).2; omega) (h0 x2 S (by rw [eo, ek]; show gx_bd (gx_e (gx_b f n) x1) _ = _; rw [gx_bd_none ex2]) lfr.rf)
          · have hok2 := hok.2 x2 E ex2
            rw [ex2, un_some]
            have hbE := he E (by rw [ex2])
            refine mr_182s hS hk hk2 (by rw [ehb]; split <;> simp) (h1 x2 _ _ (by rw [eo, ek]; show gx_bd (gx_e (gx_b f n) x1) _ = _; rw [gx_bd_some ex2]) hfr (hmlr.owe hw ?_))
            have elo : lo_h t (L.2.2 ++ E) (s, m, wn, L.2.2.length, L.2.2.length + E.length) = (gx_hv t E == decide (wn = 1)) := by
              unfold lo_h
              try simp only [gx_sub_new]
              rw [if_neg (by omega)]
            rw [elo, ehb, hbE]
            rcases hun with ⟨rfl, rfl⟩ | ⟨rfl, rfl⟩ <;> cases gx_hv t E <;> simp [bI]
      by_cases yu : gx_b f n (x + 1) = 117
      · have es : sg (gx_b f n (x + 1)) = 117 := by rw [yu]; rfl
        rw [es, hms1]
        try simp only [pm_WV, pm_WW, true_and, and_true, true_or, or_true, and_self, reduceIte, Nat.reduceEqDiff, Nat.reduceLT, Nat.reduceLeDiff, Nat.reduceMul, false_and, and_false, reduceCtorEq, false_or, or_false, not_true_eq_false, not_false_eq_true, true_implies, false_implies, implies_true, lf_10, eq_self, Int32.reduceLT, Int32.reduceLE, Int32.reduceAdd, Int32.reduceSub, pm_same, pm_i_wI, pm_l_wL, pm_l_wM, pm_oR_rf, pm_oQ_rf, sh_k59 hS, sh_r59_25 hS, sh_k80 hS, sh_z80 hS, sh_r59_27 hS, sh_k81 hS, sh_z81 hS, mst_w46, mst_w48, mst_w49, mst_46, mst_48, mst_49, mst_k, mst_z, mst_r, mst_n, mst_l, mst_R62, mst_R64, mst_R65, mst_R66, mst_R67, mst_R78, mst_R80, mst_R81, mst_F18, mst_F24, mst_F45, mst_F47, mst_F50, mst_F51, nI_1, LQ1, LQ2, LQ4, LQ1, LQ2, ms_k, ms_z, ms_r, ms_49, ms_w49, ms_R62, ms_R64, ms_R65, ms_R66, ms_R67, ms_R75, ms_R76, ms_R77, ms_R78, ms_R79, ms_R80, ms_R81, ms_R95, ms_R96, ms_R97, ms_F0, ms_F2, ms_F18, ms_F24, ms_F31, ms_F26, ms_F45, ms_F47, ms_F50, ms_F51, ms_F52, ms_F53, ms_F54, ms_F55, ms_F56, ms_F57, ms_F58, ms_F59, ms_F60, ms_F61, ms_F62, ms_F63, sh_r59_60 hS, sh_k95 hS, sh_z95 hS, sh_r59_61 hS, sh_k96 hS, sh_z96 hS, sh_r59_62 hS, sh_k97 hS, sh_z97 hS, pm_WI0, pm_WI1, pm_WI2, pm_WI3, pm_WI4, pm_WI5, pm_WV, pm_WW, pm_WX, pb_B182, pm_if, pm_QI_at, pm_QL_at, pm_QV_at, pm_QR_at, pm_QR_at0, pm_QR_at1, Nat.reduceSub, Nat.reduceAdd, List.replicate_zero, List.replicate_succ]
        refine ⟨by omega, mr_183_unles ?_⟩
        try simp only [pm_WV, pm_WW, true_and, and_true, true_or, or_true, and_self, reduceIte, Nat.reduceEqDiff, Nat.reduceLT, Nat.reduceLeDiff, Nat.reduceMul, false_and, and_false, reduceCtorEq, false_or, or_false, not_true_eq_false, not_false_eq_true, true_implies, false_implies, implies_true, lf_10, eq_self, Int32.reduceLT, Int32.reduceLE, Int32.reduceAdd, Int32.reduceSub, pm_same, pm_i_wI, pm_l_wL, pm_l_wM, pm_oR_rf, pm_oQ_rf, sh_k59 hS, sh_r59_25 hS, sh_k80 hS, sh_z80 hS, sh_r59_27 hS, sh_k81 hS, sh_z81 hS, mst_w46, mst_w48, mst_w49, mst_46, mst_48, mst_49, mst_k, mst_z, mst_r, mst_n, mst_l, mst_R62, mst_R64, mst_R65, mst_R66, mst_R67, mst_R78, mst_R80, mst_R81, mst_F18, mst_F24, mst_F45, mst_F47, mst_F50, mst_F51, nI_1, LQ1, LQ2, LQ4, LQ1, LQ2, ms_k, ms_z, ms_r, ms_49, ms_w49, ms_R62, ms_R64, ms_R65, ms_R66, ms_R67, ms_R75, ms_R76, ms_R77, ms_R78, ms_R79, ms_R80, ms_R81, ms_R95, ms_R96, ms_R97, ms_F0, ms_F2, ms_F18, ms_F24, ms_F31, ms_F26, ms_F45, ms_F47, ms_F50, ms_F51, ms_F52, ms_F53, ms_F54, ms_F55, ms_F56, ms_F57, ms_F58, ms_F59, ms_F60, ms_F61, ms_F62, ms_F63, sh_r59_60 hS, sh_k95 hS, sh_z95 hS, sh_r59_61 hS, sh_k96 hS, sh_z96 hS, sh_r59_62 hS, sh_k97 hS, sh_z97 hS, pm_WI0, pm_WI1, pm_WI2, pm_WI3, pm_WI4, pm_WI5, pm_WV, pm_WW, pm_WX, pb_B182, pm_if, pm_QI_at, pm_QL_at, pm_QV_at, pm_QR_at, pm_QR_at0, pm_QR_at1, Nat.reduceSub, Nat.reduceAdd, List.replicate_zero, List.replicate_succ]
        have q1 := gx_bd_w_le (f := f) (n := n) (r := (x + 1, some ())) (l := [117, 110, 108, 101, 115]) (by show x + 1 ≤ n; omega) (by decide)
        have q2 := gx_bd_w_le (f := f) (l := [115]) q1 (by decide)
        have q3 := gx_bd_w_le (f := f) (l := [32]) q2 (by decide)
        refine ⟨by omega, mr_184 (by omega) hS hm (by show x + 1 ≤ n; omega) rfl wk_unles ?_⟩
        rw [wz_unles]
        try simp only [pm_WV, pm_WW, true_and, and_true, true_or, or_true, and_self, reduceIte, Nat.reduceEqDiff, Nat.reduceLT, Nat.reduceLeDiff, Nat.reduceMul, false_and, and_false, reduceCtorEq, false_or, or_false, not_true_eq_false, not_false_eq_true, true_implies, false_implies, implies_true, lf_10, eq_self, Int32.reduceLT, Int32.reduceLE, Int32.reduceAdd, Int32.reduceSub, pm_same, pm_i_wI, pm_l_wL, pm_l_wM, pm_oR_rf, pm_oQ_rf, sh_k59 hS, sh_r59_25 hS, sh_k80 hS, sh_z80 hS, sh_r59_27 hS, sh_k81 hS, sh_z81 hS, mst_w46, mst_w48, mst_w49, mst_46, mst_48, mst_49, mst_k, mst_z, mst_r, mst_n, mst_l, mst_R62, mst_R64, mst_R65, mst_R66, mst_R67, mst_R78, mst_R80, mst_R81, mst_F18, mst_F24, mst_F45, mst_F47, mst_F50, mst_F51, nI_1, LQ1, LQ2, LQ4, LQ1, LQ2, ms_k, ms_z, ms_r, ms_49, ms_w49, ms_R62, ms_R64, ms_R65, ms_R66, ms_R67, ms_R75, ms_R76, ms_R77, ms_R78, ms_R79, ms_R80, ms_R81, ms_R95, ms_R96, ms_R97, ms_F0, ms_F2, ms_F18, ms_F24, ms_F31, ms_F26, ms_F45, ms_F47, ms_F50, ms_F51, ms_F52, ms_F53, ms_F54, ms_F55, ms_F56, ms_F57, ms_F58, ms_F59, ms_F60, ms_F61, ms_F62, ms_F63, sh_r59_60 hS, sh_k95 hS, sh_z95 hS, sh_r59_61 hS, sh_k96 hS, sh_z96 hS, sh_r59_62 hS, sh_k97 hS, sh_z97 hS, pm_WI0, pm_WI1, pm_WI2, pm_WI3, pm_WI4, pm_WI5, pm_WV, pm_WW, pm_WX, pb_B182, pm_if, pm_QI_at, pm_QL_at, pm_QV_at, pm_QR_at, pm_QR_at0, pm_QR_at1, Nat.reduceSub, Nat.reduceAdd, List.replicate_zero, List.replicate_succ]
        refine ⟨by omega, mr_185 (c := 115) (by omega) hS hm q1 (by omega) ?_⟩
        try simp only [pm_WV, pm_WW, true_and, and_true, true_or, or_true, and_self, reduceIte, Nat.reduceEqDiff, Nat.reduceLT, Nat.reduceLeDiff, Nat.reduceMul, false_and, and_false, reduceCtorEq, false_or, or_false, not_true_eq_false, not_false_eq_true, true_implies, false_implies, implies_true, lf_10, eq_self, Int32.reduceLT, Int32.reduceLE, Int32.reduceAdd, Int32.reduceSub, pm_same, pm_i_wI, pm_l_wL, pm_l_wM, pm_oR_rf, pm_oQ_rf, sh_k59 hS, sh_r59_25 hS, sh_k80 hS, sh_z80 hS, sh_r59_27 hS, sh_k81 hS, sh_z81 hS, mst_w46, mst_w48, mst_w49, mst_46, mst_48, mst_49, mst_k, mst_z, mst_r, mst_n, mst_l, mst_R62, mst_R64, mst_R65, mst_R66, mst_R67, mst_R78, mst_R80, mst_R81, mst_F18, mst_F24, mst_F45, mst_F47, mst_F50, mst_F51, nI_1, LQ1, LQ2, LQ4, LQ1, LQ2, ms_k, ms_z, ms_r, ms_49, ms_w49, ms_R62, ms_R64, ms_R65, ms_R66, ms_R67, ms_R75, ms_R76, ms_R77, ms_R78, ms_R79, ms_R80, ms_R81, ms_R95, ms_R96, ms_R97, ms_F0, ms_F2, ms_F18, ms_F24, ms_F31, ms_F26, ms_F45, ms_F47, ms_F50, ms_F51, ms_F52, ms_F53, ms_F54, ms_F55, ms_F56, ms_F57, ms_F58, ms_F59, ms_F60, ms_F61, ms_F62, ms_F63, sh_r59_60 hS, sh_k95 hS, sh_z95 hS, sh_r59_61 hS, sh_k96 hS, sh_z96 hS, sh_r59_62 hS, sh_k97 hS, sh_z97 hS, pm_WI0, pm_WI1, pm_WI2, pm_WI3, pm_WI4, pm_WI5, pm_WV, pm_WW, pm_WX, pb_B182, pm_if, pm_QI_at, pm_QL_at, pm_QV_at, pm_QR_at, pm_QR_at0, pm_QR_at1, Nat.reduceSub, Nat.reduceAdd, List.replicate_zero, List.replicate_succ]
        refine ⟨by omega, mr_185 (c := 32) (by omega) hS hm q2 (by omega) ?_⟩
        try simp only [pm_WV, pm_WW, true_and, and_true, true_or, or_true, and_self, reduceIte, Nat.reduceEqDiff, Nat.reduceLT, Nat.reduceLeDiff, Nat.reduceMul, false_and, and_false, reduceCtorEq, false_or, or_false, not_true_eq_false, not_false_eq_true, true_implies, false_implies, implies_true, lf_10, eq_self, Int32.reduceLT, Int32.reduceLE, Int32.reduceAdd, Int32.reduceSub, pm_same, pm_i_wI, pm_l_wL, pm_l_wM, pm_oR_rf, pm_oQ_rf, sh_k59 hS, sh_r59_25 hS, sh_k80 hS, sh_z80 hS, sh_r59_27 hS, sh_k81 hS, sh_z81 hS, mst_w46, mst_w48, mst_w49, mst_46, mst_48, mst_49, mst_k, mst_z, mst_r, mst_n, mst_l, mst_R62, mst_R64, mst_R65, mst_R66, mst_R67, mst_R78, mst_R80, mst_R81, mst_F18, mst_F24, mst_F45, mst_F47, mst_F50, mst_F51, nI_1, LQ1, LQ2, LQ4, LQ1, LQ2, ms_k, ms_z, ms_r, ms_49, ms_w49, ms_R62, ms_R64, ms_R65, ms_R66, ms_R67, ms_R75, ms_R76, ms_R77, ms_R78, ms_R79, ms_R80, ms_R81, ms_R95, ms_R96, ms_R97, ms_F0, ms_F2, ms_F18, ms_F24, ms_F31, ms_F26, ms_F45, ms_F47, ms_F50, ms_F51, ms_F52, ms_F53, ms_F54, ms_F55, ms_F56, ms_F57, ms_F58, ms_F59, ms_F60, ms_F61, ms_F62, ms_F63, sh_r59_60 hS, sh_k95 hS, sh_z95 hS, sh_r59_61 hS, sh_k96 hS, sh_z96 hS, sh_r59_62 hS, sh_k97 hS, sh_z97 hS, pm_WI0, pm_WI1, pm_WI2, pm_WI3, pm_WI4, pm_WI5, pm_WV, pm_WW, pm_WX, pb_B182, pm_if, pm_QI_at, pm_QL_at, pm_QV_at, pm_QR_at, pm_QR_at0, pm_QR_at1, Nat.reduceSub, Nat.reduceAdd, List.replicate_zero, List.replicate_succ]
        refine ⟨by omega, mr_e hS hm h18 h24 h24b ht (by omega) q3 (fun b hb he => ?_)⟩
        try simp only [pm_WV, pm_WW, true_and, and_true, true_or, or_true, and_self, reduceIte, Nat.reduceEqDiff, Nat.reduceLT, Nat.reduceLeDiff, Nat.reduceMul, false_and, and_false, reduceCtorEq, false_or, or_false, not_true_eq_false, not_false_eq_true, true_implies, false_implies, implies_true, lf_10, eq_self, Int32.reduceLT, Int32.reduceLE, Int32.reduceAdd, Int32.reduceSub, pm_same, pm_i_wI, pm_l_wL, pm_l_wM, pm_oR_rf, pm_oQ_rf, sh_k59 hS, sh_r59_25 hS, sh_k80 hS, sh_z80 hS, sh_r59_27 hS, sh_k81 hS, sh_z81 hS, mst_w46, mst_w48, mst_w49, mst_46, mst_48, mst_49, mst_k, mst_z, mst_r, mst_n, mst_l, mst_R62, mst_R64, mst_R65, mst_R66, mst_R67, mst_R78, mst_R80, mst_R81, mst_F18, mst_F24, mst_F45, mst_F47, mst_F50, mst_F51, nI_1, LQ1, LQ2, LQ4, LQ1, LQ2, ms_k, ms_z, ms_r, ms_49, ms_w49, ms_R62, ms_R64, ms_R65, ms_R66, ms_R67, ms_R75, ms_R76, ms_R77, ms_R78, ms_R79, ms_R80, ms_R81, ms_R95, ms_R96, ms_R97, ms_F0, ms_F2, ms_F18, ms_F24, ms_F31, ms_F26, ms_F45, ms_F47, ms_F50, ms_F51, ms_F52, ms_F53, ms_F54, ms_F55, ms_F56, ms_F57, ms_F58, ms_F59, ms_F60, ms_F61, ms_F62, ms_F63, sh_r59_60 hS, sh_k95 hS, sh_z95 hS, sh_r59_61 hS, sh_k96 hS, sh_z96 hS, sh_r59_62 hS, sh_k97 hS, sh_z97 hS, pm_WI0, pm_WI1, pm_WI2, pm_WI3, pm_WI4, pm_WI5, pm_WV, pm_WW, pm_WX, pb_B182, pm_if, pm_QI_at, pm_QL_at, pm_QV_at, pm_QR_at, pm_QR_at0, pm_QR_at1, Nat.reduceSub, Nat.reduceAdd, List.replicate_zero, List.replicate_succ]
        have tl := tail _ 1 2 .null q3 (by
          unfold go_w
          rw [if_neg (by omega), show ([117, 110, 108, 101, 115, 115, 32] : List Nat) = ([117, 110, 108, 101, 115] ++ [115]) ++ [32] from rfl, gx_w_app, gx_w_app]
          rfl) (Or.inl ⟨rfl, rfl⟩) (fun u _ => by rw [if_neg (by omega)]) b hb he
        rcases hb with rfl | rfl
        · have := tl _ rfl
          try simp only [pm_WV, pm_WW, true_and, and_true, true_or, or_true, and_self, reduceIte, Nat.reduceEqDiff, Nat.reduceLT, Nat.reduceLeDiff, Nat.reduceMul, false_and, and_false, reduceCtorEq, false_or, or_false, not_true_eq_false, not_false_eq_true, true_implies, false_implies, implies_true, lf_10, eq_self, Int32.reduceLT, Int32.reduceLE, Int32.reduceAdd, Int32.reduceSub, pm_same, pm_i_wI, pm_l_wL, pm_l_wM, pm_oR_rf, pm_oQ_rf, sh_k59 hS, sh_r59_25 hS, sh_k80 hS, sh_z80 hS, sh_r59_27 hS, sh_k81 hS, sh_z81 hS, mst_w46, mst_w48, mst_w49, mst_46, mst_48, mst_49, mst_k, mst_z, mst_r, mst_n, mst_l, mst_R62, mst_R64, mst_R65, mst_R66, mst_R67, mst_R78, mst_R80, mst_R81, mst_F18, mst_F24, mst_F45, mst_F47, mst_F50, mst_F51, nI_1, LQ1, LQ2, LQ4, LQ1, LQ2, ms_k, ms_z, ms_r, ms_49, ms_w49, ms_R62, ms_R64, ms_R65, ms_R66, ms_R67, ms_R75, ms_R76, ms_R77, ms_R78, ms_R79, ms_R80, ms_R81, ms_R95, ms_R96, ms_R97, ms_F0, ms_F2, ms_F18, ms_F24, ms_F31, ms_F26, ms_F45, ms_F47, ms_F50, ms_F51, ms_F52, ms_F53, ms_F54, ms_F55, ms_F56, ms_F57, ms_F58, ms_F59, ms_F60, ms_F61, ms_F62, ms_F63, sh_r59_60 hS, sh_k95 hS, sh_z95 hS, sh_r59_61 hS, sh_k96 hS, sh_z96 hS, sh_r59_62 hS, sh_k97 hS, sh_z97 hS, pm_WI0, pm_WI1, pm_WI2, pm_WI3, pm_WI4, pm_WI5, pm_WV, pm_WW, pm_WX, pb_B182, pm_if, pm_QI_at, pm_QL_at, pm_QV_at, pm_QR_at, pm_QR_at0, pm_QR_at1, Nat.reduceSub, Nat.reduceAdd, List.replicate_zero, List.replicate_succ] at this ⊢
          exact this
        · have := tl _ rfl
          try simp only [pm_WV, pm_WW, true_and, and_true, true_or, or_true, and_self, reduceIte, Nat.reduceEqDiff, Nat.reduceLT, Nat.reduceLeDiff, Nat.reduceMul, false_and, and_false, reduceCtorEq, false_or, or_false, not_true_eq_false, not_false_eq_true, true_implies, false_implies, implies_true, lf_10, eq_self, Int32.reduceLT, Int32.reduceLE, Int32.reduceAdd, Int32.reduceSub, pm_same, pm_i_wI, pm_l_wL, pm_l_wM, pm_oR_rf, pm_oQ_rf, sh_k59 hS, sh_r59_25 hS, sh_k80 hS, sh_z80 hS, sh_r59_27 hS, sh_k81 hS, sh_z81 hS, mst_w46, mst_w48, mst_w49, mst_46, mst_48, mst_49, mst_k, mst_z, mst_r, mst_n, mst_l, mst_R62, mst_R64, mst_R65, mst_R66, mst_R67, mst_R78, mst_R80, mst_R81, mst_F18, mst_F24, mst_F45, mst_F47, mst_F50, mst_F51, nI_1, LQ1, LQ2, LQ4, LQ1, LQ2, ms_k, ms_z, ms_r, ms_49, ms_w49, ms_R62, ms_R64, ms_R65, ms_R66, ms_R67, ms_R75, ms_R76, ms_R77, ms_R78, ms_R79, ms_R80, ms_R81, ms_R95, ms_R96, ms_R97, ms_F0, ms_F2, ms_F18, ms_F24, ms_F31, ms_F26, ms_F45, ms_F47, ms_F50, ms_F51, ms_F52, ms_F53, ms_F54, ms_F55, ms_F56, ms_F57, ms_F58, ms_F59, ms_F60, ms_F61, ms_F62, ms_F63, sh_r59_60 hS, sh_k95 hS, sh_z95 hS, sh_r59_61 hS, sh_k96 hS, sh_z96 hS, sh_r59_62 hS, sh_k97 hS, sh_z97 hS, pm_WI0, pm_WI1, pm_WI2, pm_WI3, pm_WI4, pm_WI5, pm_WV, pm_WW, pm_WX, pb_B182, pm_if, pm_QI_at, pm_QL_at, pm_QV_at, pm_QR_at, pm_QR_at0, pm_QR_at1, Nat.reduceSub, Nat.reduceAdd, List.replicate_zero, List.replicate_succ] at this ⊢
          exact this
      · have es : ¬ sg (gx_b f n (x + 1)) = 117 := fun z => yu ((sg_nc hm (c := 117) (by omega)).mp z)
        rw [hms1]
        try simp only [pm_WV, pm_WW, true_and, and_true, true_or, or_true, and_self, reduceIte, Nat.reduceEqDiff, Nat.reduceLT, Nat.reduceLeDiff, Nat.reduceMul, false_and, and_false, reduceCtorEq, false_or, or_false, not_true_eq_false, not_false_eq_true, true_implies, false_implies, implies_true, lf_10, eq_self, Int32.reduceLT, Int32.reduceLE, Int32.reduceAdd, Int32.reduceSub, pm_same, pm_i_wI, pm_l_wL, pm_l_wM, pm_oR_rf, pm_oQ_rf, sh_k59 hS, sh_r59_25 hS, sh_k80 hS, sh_z80 hS, sh_r59_27 hS, sh_k81 hS, sh_z81 hS, mst_w46, mst_w48, mst_w49, mst_46, mst_48, mst_49, mst_k, mst_z, mst_r, mst_n, mst_l, mst_R62, mst_R64, mst_R65, mst_R66, mst_R67, mst_R78, mst_R80, mst_R81, mst_F18, mst_F24, mst_F45, mst_F47, mst_F50, mst_F51, nI_1, LQ1, LQ2, LQ4, LQ1, LQ2, ms_k, ms_z, ms_r, ms_49, ms_w49, ms_R62, ms_R64, ms_R65, ms_R66, ms_R67, ms_R75, ms_R76, ms_R77, ms_R78, ms_R79, ms_R80, ms_R81, ms_R95, ms_R96, ms_R97, ms_F0, ms_F2, ms_F18, ms_F24, ms_F31, ms_F26, ms_F45, ms_F47, ms_F50, ms_F51, ms_F52, ms_F53, ms_F54, ms_F55, ms_F56, ms_F57, ms_F58, ms_F59, ms_F60, ms_F61, ms_F62, ms_F63, sh_r59_60 hS, sh_k95 hS, sh_z95 hS, sh_r59_61 hS, sh_k96 hS, sh_z96 hS, sh_r59_62 hS, sh_k97 hS, sh_z97 hS, pm_WI0, pm_WI1, pm_WI2, pm_WI3, pm_WI4, pm_WI5, pm_WV, pm_WW, pm_WX, pb_B182, pm_if, pm_QI_at, pm_QL_at, pm_QV_at, pm_QR_at, pm_QR_at0, pm_QR_at1, Nat.reduceSub, Nat.reduceAdd, List.replicate_zero, List.replicate_succ, es]
        refine ⟨by omega, mr_183_if ?_⟩
        try simp only [pm_WV, pm_WW, true_and, and_true, true_or, or_true, and_self, reduceIte, Nat.reduceEqDiff, Nat.reduceLT, Nat.reduceLeDiff, Nat.reduceMul, false_and, and_false, reduceCtorEq, false_or, or_false, not_true_eq_false, not_false_eq_true, true_implies, false_implies, implies_true, lf_10, eq_self, Int32.reduceLT, Int32.reduceLE, Int32.reduceAdd, Int32.reduceSub, pm_same, pm_i_wI, pm_l_wL, pm_l_wM, pm_oR_rf, pm_oQ_rf, sh_k59 hS, sh_r59_25 hS, sh_k80 hS, sh_z80 hS, sh_r59_27 hS, sh_k81 hS, sh_z81 hS, mst_w46, mst_w48, mst_w49, mst_46, mst_48, mst_49, mst_k, mst_z, mst_r, mst_n, mst_l, mst_R62, mst_R64, mst_R65, mst_R66, mst_R67, mst_R78, mst_R80, mst_R81, mst_F18, mst_F24, mst_F45, mst_F47, mst_F50, mst_F51, nI_1, LQ1, LQ2, LQ4, LQ1, LQ2, ms_k, ms_z, ms_r, ms_49, ms_w49, ms_R62, ms_R64, ms_R65, ms_R66, ms_R67, ms_R75, ms_R76, ms_R77, ms_R78, ms_R79, ms_R80, ms_R81, ms_R95, ms_R96, ms_R97, ms_F0, ms_F2, ms_F18, ms_F24, ms_F31, ms_F26, ms_F45, ms_F47, ms_F50, ms_F51, ms_F52, ms_F53, ms_F54, ms_F55, ms_F56, ms_F57, ms_F58, ms_F59, ms_F60, ms_F61, ms_F62, ms_F63, sh_r59_60 hS, sh_k95 hS, sh_z95 hS, sh_r59_61 hS, sh_k96 hS, sh_z96 hS, sh_r59_62 hS, sh_k97 hS, sh_z97 hS, pm_WI0, pm_WI1, pm_WI2, pm_WI3, pm_WI4, pm_WI5, pm_WV, pm_WW, pm_WX, pb_B182, pm_if, pm_QI_at, pm_QL_at, pm_QV_at, pm_QR_at, pm_QR_at0, pm_QR_at1, Nat.reduceSub, Nat.reduceAdd, List.replicate_zero, List.replicate_succ]
        have q1 := gx_bd_w_le (f := f) (n := n) (r := (x + 1, some ())) (l := [105, 102]) (by show x + 1 ≤ n; omega) (by decide)
        have q3 := gx_bd_w_le (f := f) (l := [32]) q1 (by decide)
        refine ⟨by omega, mr_184 (by omega) hS hm (by show x + 1 ≤ n; omega) rfl wk_if ?_⟩
        rw [wz_if]
        try simp only [pm_WV, pm_WW, true_and, and_true, true_or, or_true, and_self, reduceIte, Nat.reduceEqDiff, Nat.reduceLT, Nat.reduceLeDiff, Nat.reduceMul, false_and, and_false, reduceCtorEq, false_or, or_false, not_true_eq_false, not_false_eq_true, true_implies, false_implies, implies_true, lf_10, eq_self, Int32.reduceLT, Int32.reduceLE, Int32.reduceAdd, Int32.reduceSub, pm_same, pm_i_wI, pm_l_wL, pm_l_wM, pm_oR_rf, pm_oQ_rf, sh_k59 hS, sh_r59_25 hS, sh_k80 hS, sh_z80 hS, sh_r59_27 hS, sh_k81 hS, sh_z81 hS, mst_w46, mst_w48, mst_w49, mst_46, mst_48, mst_49, mst_k, mst_z, mst_r, mst_n, mst_l, mst_R62, mst_R64, mst_R65, mst_R66, mst_R67, mst_R78, mst_R80, mst_R81, mst_F18, mst_F24, mst_F45, mst_F47, mst_F50, mst_F51, nI_1, LQ1, LQ2, LQ4, LQ1, LQ2, ms_k, ms_z, ms_r, ms_49, ms_w49, ms_R62, ms_R64, ms_R65, ms_R66, ms_R67, ms_R75, ms_R76, ms_R77, ms_R78, ms_R79, ms_R80, ms_R81, ms_R95, ms_R96, ms_R97, ms_F0, ms_F2, ms_F18, ms_F24, ms_F31, ms_F26, ms_F45, ms_F47, ms_F50, ms_F51, ms_F52, ms_F53, ms_F54, ms_F55, ms_F56, ms_F57, ms_F58, ms_F59, ms_F60, ms_F61, ms_F62, ms_F63, sh_r59_60 hS, sh_k95 hS, sh_z95 hS, sh_r59_61 hS, sh_k96 hS, sh_z96 hS, sh_r59_62 hS, sh_k97 hS, sh_z97 hS, pm_WI0, pm_WI1, pm_WI2, pm_WI3, pm_WI4, pm_WI5, pm_WV, pm_WW, pm_WX, pb_B182, pm_if, pm_QI_at, pm_QL_at, pm_QV_at, pm_QR_at, pm_QR_at0, pm_QR_at1, Nat.reduceSub, Nat.reduceAdd, List.replicate_zero, List.replicate_succ]
        refine ⟨by omega, mr_185 (c := 32) (by omega) hS hm q1 (by omega) ?_⟩
        try simp only [pm_WV, pm_WW, true_and, and_true, true_or, or_true, and_self, reduceIte, Nat.reduceEqDiff, Nat.reduceLT, Nat.reduceLeDiff, Nat.reduceMul, false_and, and_false, reduceCtorEq, false_or, or_false, not_true_eq_false, not_false_eq_true, true_implies, false_implies, implies_true, lf_10, eq_self, Int32.reduceLT, Int32.reduceLE, Int32.reduceAdd, Int32.reduceSub, pm_same, pm_i_wI, pm_l_wL, pm_l_wM, pm_oR_rf, pm_oQ_rf, sh_k59 hS, sh_r59_25 hS, sh_k80 hS, sh_z80 hS, sh_r59_27 hS, sh_k81 hS, sh_z81 hS, mst_w46, mst_w48, mst_w49, mst_46, mst_48, mst_49, mst_k, mst_z, mst_r, mst_n, mst_l, mst_R62, mst_R64, mst_R65, mst_R66, mst_R67, mst_R78, mst_R80, mst_R81, mst_F18, mst_F24, mst_F45, mst_F47, mst_F50, mst_F51, nI_1, LQ1, LQ2, LQ4, LQ1, LQ2, ms_k, ms_z, ms_r, ms_49, ms_w49, ms_R62, ms_R64, ms_R65, ms_R66, ms_R67, ms_R75, ms_R76, ms_R77, ms_R78, ms_R79, ms_R80, ms_R81, ms_R95, ms_R96, ms_R97, ms_F0, ms_F2, ms_F18, ms_F24, ms_F31, ms_F26, ms_F45, ms_F47, ms_F50, ms_F51, ms_F52, ms_F53, ms_F54, ms_F55, ms_F56, ms_F57, ms_F58, ms_F59, ms_F60, ms_F61, ms_F62, ms_F63, sh_r59_60 hS, sh_k95 hS, sh_z95 hS, sh_r59_61 hS, sh_k96 hS, sh_z96 hS, sh_r59_62 hS, sh_k97 hS, sh_z97 hS, pm_WI0, pm_WI1, pm_WI2, pm_WI3, pm_WI4, pm_WI5, pm_WV, pm_WW, pm_WX, pb_B182, pm_if, pm_QI_at, pm_QL_at, pm_QV_at, pm_QR_at, pm_QR_at0, pm_QR_at1, Nat.reduceSub, Nat.reduceAdd, List.replicate_zero, List.replicate_succ]
        refine ⟨by omega, mr_e hS hm h18 h24 h24b ht (by omega) q3 (fun b hb he => ?_)⟩
        try simp only [pm_WV, pm_WW, true_and, and_true, true_or, or_true, and_self, reduceIte, Nat.reduceEqDiff, Nat.reduceLT, Nat.reduceLeDiff, Nat.reduceMul, false_and, and_false, reduceCtorEq, false_or, or_false, not_true_eq_false, not_false_eq_true, true_implies, false_implies, implies_true, lf_10, eq_self, Int32.reduceLT, Int32.reduceLE, Int32.reduceAdd, Int32.reduceSub, pm_same, pm_i_wI, pm_l_wL, pm_l_wM, pm_oR_rf, pm_oQ_rf, sh_k59 hS, sh_r59_25 hS, sh_k80 hS, sh_z80 hS, sh_r59_27 hS, sh_k81 hS, sh_z81 hS, mst_w46, mst_w48, mst_w49, mst_46, mst_48, mst_49, mst_k, mst_z, mst_r, mst_n, mst_l, mst_R62, mst_R64, mst_R65, mst_R66, mst_R67, mst_R78, mst_R80, mst_R81, mst_F18, mst_F24, mst_F45, mst_F47, mst_F50, mst_F51, nI_1, LQ1, LQ2, LQ4, LQ1, LQ2, ms_k, ms_z, ms_r, ms_49, ms_w49, ms_R62, ms_R64, ms_R65, ms_R66, ms_R67, ms_R75, ms_R76, ms_R77, ms_R78, ms_R79, ms_R80, ms_R81, ms_R95, ms_R96, ms_R97, ms_F0, ms_F2, ms_F18, ms_F24, ms_F31, ms_F26, ms_F45, ms_F47, ms_F50, ms_F51, ms_F52, ms_F53, ms_F54, ms_F55, ms_F56, ms_F57, ms_F58, ms_F59, ms_F60, ms_F61, ms_F62, ms_F63, sh_r59_60 hS, sh_k95 hS, sh_z95 hS, sh_r59_61 hS, sh_k96 hS, sh_z96 hS, sh_r59_62 hS, sh_k97 hS, sh_z97 hS, pm_WI0, pm_WI1, pm_WI2, pm_WI3, pm_WI4, pm_WI5, pm_WV, pm_WW, pm_WX, pb_B182, pm_if, pm_QI_at, pm_QL_at, pm_QV_at, pm_QR_at, pm_QR_at0, pm_QR_at1, Nat.reduceSub, Nat.reduceAdd, List.replicate_zero, List.replicate_succ]
        have eg : gx_bd (gx_bd ((x + 1, some ()) : gx_R Unit) (fun _ p => gx_w (gx_b f n) [105, 102] p)) (fun _ p => gx_w (gx_b f n) [32] p) = gx_w (gx_b f n) [105, 102, 32] (x + 1) := by
          rw [show ([105, 102, 32] : List Nat) = [105, 102] ++ [32] from rfl, gx_w_app]; rfl
        have tl := tail _ 0 1 .null q3 (by
          rw [eg]
          unfold go_w
          by_cases yi : gx_b f n (x + 1) = 105
          · rw [if_pos yi]
          · rw [if_neg yi]
            try simp only [gx_w]
            rw [if_neg yi, if_neg yu]) (Or.inr ⟨rfl, rfl⟩) (fun u hu => by
          by_cases yi : gx_b f n (x + 1) = 105
          · rw [if_pos yi]
          · rw [eg] at hu
            try simp only [gx_w] at hu
            rw [if_neg yi] at hu
            cases hu) b hb he
        rcases hb with rfl | rfl
        · have := tl _ rfl
          try simp only [pm_WV, pm_WW, true_and, and_true, true_or, or_true, and_self, reduceIte, Nat.reduceEqDiff, Nat.reduceLT, Nat.reduceLeDiff, Nat.reduceMul, false_and, and_false, reduceCtorEq, false_or, or_false, not_true_eq_false, not_false_eq_true, true_implies, false_implies, implies_true, lf_10, eq_self, Int32.reduceLT, Int32.reduceLE, Int32.reduceAdd, Int32.reduceSub, pm_same, pm_i_wI, pm_l_wL, pm_l_wM, pm_oR_rf, pm_oQ_rf, sh_k59 hS, sh_r59_25 hS, sh_k80 hS, sh_z80 hS, sh_r59_27 hS, sh_k81 hS, sh_z81 hS, mst_w46, mst_w48, mst_w49, mst_46, mst_48, mst_49, mst_k, mst_z, mst_r, mst_n, mst_l, mst_R62, mst_R64, mst_R65, mst_R66, mst_R67, mst_R78, mst_R80, mst_R81, mst_F18, mst_F24, mst_F45, mst_F47, mst_F50, mst_F51, nI_1, LQ1, LQ2, LQ4, LQ1, LQ2, ms_k, ms_z, ms_r, ms_49, ms_w49, ms_R62, ms_R64, ms_R65, ms_R66, ms_R67, ms_R75, ms_R76, ms_R77, ms_R78, ms_R79, ms_R80, ms_R81, ms_R95, ms_R96, ms_R97, ms_F0, ms_F2, ms_F18, ms_F24, ms_F31, ms_F26, ms_F45, ms_F47, ms_F50, ms_F51, ms_F52, ms_F53, ms_F54, ms_F55, ms_F56, ms_F57, ms_F58, ms_F59, ms_F60, ms_F61, ms_F62, ms_F63, sh_r59_60 hS, sh_k95 hS, sh_z95 hS, sh_r59_61 hS, sh_k96 hS, sh_z96 hS, sh_r59_62 hS, sh_k97 hS, sh_z97 hS, pm_WI0, pm_WI1, pm_WI2, pm_WI3, pm_WI4, pm_WI5, pm_WV, pm_WW, pm_WX, pb_B182, pm_if, pm_QI_at, pm_QL_at, pm_QV_at, pm_QR_at, pm_QR_at0, pm_QR_at1, Nat.reduceSub, Nat.reduceAdd, List.replicate_zero, List.replicate_succ] at this ⊢
          exact this
        · have := tl _ rfl
          try simp only [pm_WV, pm_WW, true_and, and_true, true_or, or_true, and_self, reduceIte, Nat.reduceEqDiff, Nat.reduceLT, Nat.reduceLeDiff, Nat.reduceMul, false_and, and_false, reduceCtorEq, false_or, or_false, not_true_eq_false, not_false_eq_true, true_implies, false_implies, implies_true, lf_10, eq_self, Int32.reduceLT, Int32.reduceLE, Int32.reduceAdd, Int32.reduceSub, pm_same, pm_i_wI, pm_l_wL, pm_l_wM, pm_oR_rf, pm_oQ_rf, sh_k59 hS, sh_r59_25 hS, sh_k80 hS, sh_z80 hS, sh_r59_27 hS, sh_k81 hS, sh_z81 hS, mst_w46, mst_w48, mst_w49, mst_46, mst_48, mst_49, mst_k, mst_z, mst_r, mst_n, mst_l, mst_R62, mst_R64, mst_R65, mst_R66, mst_R67, mst_R78, mst_R80, mst_R81, mst_F18, mst_F24, mst_F45, mst_F47, mst_F50, mst_F51, nI_1, LQ1, LQ2, LQ4, LQ1, LQ2, ms_k, ms_z, ms_r, ms_49, ms_w49, ms_R62, ms_R64, ms_R65, ms_R66, ms_R67, ms_R75, ms_R76, ms_R77, ms_R78, ms_R79, ms_R80, ms_R81, ms_R95, ms_R96, ms_R97, ms_F0, ms_F2, ms_F18, ms_F24, ms_F31, ms_F26, ms_F45, ms_F47, ms_F50, ms_F51, ms_F52, ms_F53, ms_F54, ms_F55, ms_F56, ms_F57, ms_F58, ms_F59, ms_F60, ms_F61, ms_F62, ms_F63, sh_r59_60 hS, sh_k95 hS, sh_z95 hS, sh_r59_61 hS, sh_k96 hS, sh_z96 hS, sh_r59_62 hS, sh_k97 hS, sh_z97 hS, pm_WI0, pm_WI1, pm_WI2, pm_WI3, pm_WI4, pm_WI5, pm_WV, pm_WW, pm_WX, pb_B182, pm_if, pm_QI_at, pm_QL_at, pm_QV_at, pm_QR_at, pm_QR_at0, pm_QR_at1, Nat.reduceSub, Nat.reduceAdd, List.replicate_zero, List.replicate_succ] at this ⊢
          exact this
    · refine ⟨fun _ => ?_, fun z => absurd rfl z⟩
      have ek : go_k (gx_b f n) L s m x = (x, some (L.1 ++ [(s, m, 0, L.2.2.length, L.2.2.length)], L.2.1, L.2.2)) := by unfold go_k; rw [if_neg y]
      refine mr_182s hS hk hk2 (Or.inr rfl) (h1 x _ _ (by rw [eo, ek]) hfr ?_)
      have := hmlr.owe (e := []) (s := s) (n := m) (wn := 0) hw (hb := 1) rfl
      rw [List.append_nil] at this
      exact this
theorem one_case {f : Nat → Int32} {n fl p : Nat} {L : gx_L} {ws : List Nat} (hp : p ≤ n) (hl : ∀ c, c ∈ ws → c < 256) : (∃ x, x ≤ n ∧ gx_bd (gx_bd (gx_bd ((p, some ()) : gx_R Unit) (fun _ p => gx_w (gx_b f n) ws p)) (fun _ p => gx_w (gx_b f n) [32] p)) (fun _ p => gx_num (gx_b f n) 0 4 p) = (x, none) ∧ gx_one (gx_b f n) L fl (ws ++ [32]) p = (x, none)) ∨ ∃ v x, gx_bd (gx_bd (gx_bd ((p, some ()) : gx_R Unit) (fun _ p => gx_w (gx_b f n) ws p)) (fun _ p => gx_w (gx_b f n) [32] p)) (fun _ p => gx_num (gx_b f n) 0 4 p) = (x, some v) ∧ gx_one (gx_b f n) L fl (ws ++ [32]) p = (x, some (L.1, va_up L.2.1 fl v, L.2.2)) := by
  unfold gx_one
  rw [gx_w_app]
  show (∃ x, x ≤ n ∧ gx_bd (gx_bd (gx_w (gx_b f n) ws p) (fun _ p => gx_w (gx_b f n) [32] p)) (fun _ p => gx_num (gx_b f n) 0 4 p) = (x, none) ∧ _) ∨ ∃ v x, gx_bd (gx_bd (gx_w (gx_b f n) ws p) (fun _ p => gx_w (gx_b f n) [32] p)) (fun _ p => gx_num (gx_b f n) 0 4 p) = (x, some v) ∧ _
  rcases gx_two (gx_w (gx_b f n) ws p) with ⟨x, ex⟩ | ⟨x, u, ex⟩
  · left; rw [ex]; exact ⟨x, (gx_w_ok gx_b_eof hp hl ex).2, rfl, rfl⟩
  have hx := gx_w_ok gx_b_eof hp hl ex
  rw [ex]
  try simp only [gx_bd_some]
  rcases gx_two (gx_w (gx_b f n) [32] x) with ⟨x2, ex2⟩ | ⟨x2, u2, ex2⟩
  · left; rw [ex2]; exact ⟨x2, (gx_w_ok gx_b_eof hx.2 (by decide) ex2).2, rfl, rfl⟩
  have hx2 := gx_w_ok gx_b_eof hx.2 (by decide) ex2
  rw [ex2]
  try simp only [gx_bd_some]
  rcases gx_two (gx_num (gx_b f n) 0 4 x2) with ⟨x3, ex3⟩ | ⟨x3, v, ex3⟩
  · left; rw [ex3]; exact ⟨x3, by have := gx_num_no ex3; omega, rfl, rfl⟩
  right; rw [ex3]; exact ⟨v, x3, rfl, rfl⟩
/-! limit -/
theorem mr_180_limit {G : pm_G} {d : Nat} {S : pm_S} {f : Nat → Int32} {n : Nat} {t : Nat → Bool} {L : gx_L} {c p0 p : Nat} {q : pm_S → Prop} (hd : 29 ≤ d) (hcx : cx S f n t) (hw : gx_wf t L c p0) (hmlr : mlr S t L) (hc : c < 10) (hpp : p0 ≤ p) (hp : p ≤ n) (y : gx_b f n p = 108) (h1 : ∀ x L' T, gx_clause (gx_b f n) L p = (x, some L') → lfr S T → mlr T t L' → q (ms T 0 (x, some ()))) (h0 : ∀ x T, gx_clause (gx_b f n) L p = (x, none) → lfr S T → q (ms T 0 (x, none))) : pm_CV G d 180 [.ref 59] (ms S 0 (p, some ())) q := by
  obtain ⟨hS, hm, h18, h24, h24b, ht⟩ := id hcx
  have hn := hm.2.1
  have hpn : p < n := gx_lt gx_b_eof y (by omega)
  have es : sg (gx_b f n p) = 108 := by rw [y]; rfl
  have hms : ms S 0 (p, some ()) = mst S (nI p) (-1) (nI 0) := rfl
  rw [hms]
  refine pm_goV 180 9 pb_c180 (by decide) (Nat.le_of_ble_eq_true rfl) rfl ?_
  try simp only [show pm_mL 180 = 3 from rfl, pm_WI0, pm_WI1, pm_WI2, pm_WI3, pm_WI4, pm_WI5, pm_WV, pm_WW, pm_WX, pb_B180, pm_if, pm_QI_at, pm_QL_at, pm_QV_at, pm_QR_at, pm_QR_at0, pm_QR_at1, Nat.reduceSub, Nat.reduceAdd, List.replicate_zero, List.replicate_succ, true_and, and_true, true_or, or_true, and_self, reduceIte, Nat.reduceEqDiff, Nat.reduceLT, Nat.reduceLeDiff, Nat.reduceMul, false_and, and_false, reduceCtorEq, false_or, or_false, not_true_eq_false, not_false_eq_true, true_implies, false_implies, implies_true, lf_10, eq_self, Int32.reduceLT, Int32.reduceLE, Int32.reduceAdd, Int32.reduceSub, pm_same, pm_i_wI, pm_l_wL, pm_l_wM, pm_oR_rf, pm_oQ_rf, sh_k59 hS, sh_r59_25 hS, sh_k80 hS, sh_z80 hS, sh_r59_27 hS, sh_k81 hS, sh_z81 hS, mst_w46, mst_w48, mst_w49, mst_46, mst_48, mst_49, mst_k, mst_z, mst_r, mst_n, mst_l, mst_R62, mst_R64, mst_R65, mst_R66, mst_R67, mst_R78, mst_R80, mst_R81, mst_F18, mst_F24, mst_F45, mst_F47, mst_F50, mst_F51, nI_1, LQ1, LQ2, LQ4, LQ1, LQ2, ms_k, ms_z, ms_r, ms_49, ms_w49, ms_R62, ms_R64, ms_R65, ms_R66, ms_R67, ms_R75, ms_R76, ms_R77, ms_R78, ms_R79, ms_R80, ms_R81, ms_R95, ms_R96, ms_R97, ms_F0, ms_F2, ms_F18, ms_F24, ms_F31, ms_F26, ms_F45, ms_F47, ms_F50, ms_F51, ms_F52, ms_F53, ms_F54, ms_F55, ms_F56, ms_F57, ms_F58, ms_F59, ms_F60, ms_F61, ms_F62, ms_F63, sh_r59_60 hS, sh_k95 hS, sh_z95 hS, sh_r59_61 hS, sh_k96 hS, sh_z96 hS, sh_r59_62 hS, sh_k97 hS, sh_z97 hS]
  refine ⟨by omega, mr_181 hS hm hp ?_⟩
  rw [← hms]
  try simp only [pm_WV, pm_WW, true_and, and_true, true_or, or_true, and_self, reduceIte, Nat.reduceEqDiff, Nat.reduceLT, Nat.reduceLeDiff, Nat.reduceMul, false_and, and_false, reduceCtorEq, false_or, or_false, not_true_eq_false, not_false_eq_true, true_implies, false_implies, implies_true, lf_10, eq_self, Int32.reduceLT, Int32.reduceLE, Int32.reduceAdd, Int32.reduceSub, pm_same, pm_i_wI, pm_l_wL, pm_l_wM, pm_oR_rf, pm_oQ_rf, sh_k59 hS, sh_r59_25 hS, sh_k80 hS, sh_z80 hS, sh_r59_27 hS, sh_k81 hS, sh_z81 hS, mst_w46, mst_w48, mst_w49, mst_46, mst_48, mst_49, mst_k, mst_z, mst_r, mst_n, mst_l, mst_R62, mst_R64, mst_R65, mst_R66, mst_R67, mst_R78, mst_R80, mst_R81, mst_F18, mst_F24, mst_F45, mst_F47, mst_F50, mst_F51, nI_1, LQ1, LQ2, LQ4, LQ1, LQ2, ms_k, ms_z, ms_r, ms_49, ms_w49, ms_R62, ms_R64, ms_R65, ms_R66, ms_R67, ms_R75, ms_R76, ms_R77, ms_R78, ms_R79, ms_R80, ms_R81, ms_R95, ms_R96, ms_R97, ms_F0, ms_F2, ms_F18, ms_F24, ms_F31, ms_F26, ms_F45, ms_F47, ms_F50, ms_F51, ms_F52, ms_F53, ms_F54, ms_F55, ms_F56, ms_F57, ms_F58, ms_F59, ms_F60, ms_F61, ms_F62, ms_F63, sh_r59_60 hS, sh_k95 hS, sh_z95 hS, sh_r59_61 hS, sh_k96 hS, sh_z96 hS, sh_r59_62 hS, sh_k97 hS, sh_z97 hS, pm_WI0, pm_WI1, pm_WI2, pm_WI3, pm_WI4, pm_WI5, pm_WV, pm_WW, pm_WX, pb_B180, pm_if, pm_QI_at, pm_QL_at, pm_QV_at, pm_QR_at, pm_QR_at0, pm_QR_at1, Nat.reduceSub, Nat.reduceAdd, List.replicate_zero, List.replicate_succ, es]
  have ec : gx_clause (gx_b f n) L p = gx_one (gx_b f n) L 10 [108, 105, 109, 105, 116, 32] p := by
    unfold gx_clause; rw [if_neg (by omega), if_neg (by omega), if_neg (by omega), if_pos y]
  refine ⟨by omega, mr_183_limit ?_⟩
  try simp only [pm_WV, pm_WW, true_and, and_true, true_or, or_true, and_self, reduceIte, Nat.reduceEqDiff, Nat.reduceLT, Nat.reduceLeDiff, Nat.reduceMul, false_and, and_false, reduceCtorEq, false_or, or_false, not_true_eq_false, not_false_eq_true, true_implies, false_implies, implies_true, lf_10, eq_self, Int32.reduceLT, Int32.reduceLE, Int32.reduceAdd, Int32.reduceSub, pm_same, pm_i_wI, pm_l_wL, pm_l_wM, pm_oR_rf, pm_oQ_rf, sh_k59 hS, sh_r59_25 hS, sh_k80 hS, sh_z80 hS, sh_r59_27 hS, sh_k81 hS, sh_z81 hS, mst_w46, mst_w48, mst_w49, mst_46, mst_48, mst_49, mst_k, mst_z, mst_r, mst_n, mst_l, mst_R62, mst_R64, mst_R65, mst_R66, mst_R67, mst_R78, mst_R80, mst_R81, mst_F18, mst_F24, mst_F45, mst_F47, mst_F50, mst_F51, nI_1, LQ1, LQ2, LQ4, LQ1, LQ2, ms_k, ms_z, ms_r, ms_49, ms_w49, ms_R62, ms_R64, ms_R65, ms_R66, ms_R67, ms_R75, ms_R76, ms_R77, ms_R78, ms_R79, ms_R80, ms_R81, ms_R95, ms_R96, ms_R97, ms_F0, ms_F2, ms_F18, ms_F24, ms_F31, ms_F26, ms_F45, ms_F47, ms_F50, ms_F51, ms_F52, ms_F53, ms_F54, ms_F55, ms_F56, ms_F57, ms_F58, ms_F59, ms_F60, ms_F61, ms_F62, ms_F63, sh_r59_60 hS, sh_k95 hS, sh_z95 hS, sh_r59_61 hS, sh_k96 hS, sh_z96 hS, sh_r59_62 hS, sh_k97 hS, sh_z97 hS, pm_WI0, pm_WI1, pm_WI2, pm_WI3, pm_WI4, pm_WI5, pm_WV, pm_WW, pm_WX, pb_B180, pm_if, pm_QI_at, pm_QL_at, pm_QV_at, pm_QR_at, pm_QR_at0, pm_QR_at1, Nat.reduceSub, Nat.reduceAdd, List.replicate_zero, List.replicate_succ]
  refine ⟨by omega, mr_199 (by omega) hS hm (by show p ≤ n; exact hp) rfl wk_limit (by rw [wz_limit]; decide) ?_⟩
  rw [wz_limit]
  try simp only [pm_WV, pm_WW, true_and, and_true, true_or, or_true, and_self, reduceIte, Nat.reduceEqDiff, Nat.reduceLT, Nat.reduceLeDiff, Nat.reduceMul, false_and, and_false, reduceCtorEq, false_or, or_false, not_true_eq_false, not_false_eq_true, true_implies, false_implies, implies_true, lf_10, eq_self, Int32.reduceLT, Int32.reduceLE, Int32.reduceAdd, Int32.reduceSub, pm_same, pm_i_wI, pm_l_wL, pm_l_wM, pm_oR_rf, pm_oQ_rf, sh_k59 hS, sh_r59_25 hS, sh_k80 hS, sh_z80 hS, sh_r59_27 hS, sh_k81 hS, sh_z81 hS, mst_w46, mst_w48, mst_w49, mst_46, mst_48, mst_49, mst_k, mst_z, mst_r, mst_n, mst_l, mst_R62, mst_R64, mst_R65, mst_R66, mst_R67, mst_R78, mst_R80, mst_R81, mst_F18, mst_F24, mst_F45, mst_F47, mst_F50, mst_F51, nI_1, LQ1, LQ2, LQ4, LQ1, LQ2, ms_k, ms_z, ms_r, ms_49, ms_w49, ms_R62, ms_R64, ms_R65, ms_R66, ms_R67, ms_R75, ms_R76, ms_R77, ms_R78, ms_R79, ms_R80, ms_R81, ms_R95, ms_R96, ms_R97, ms_F0, ms_F2, ms_F18, ms_F24, ms_F31, ms_F26, ms_F45, ms_F47, ms_F50, ms_F51, ms_F52, ms_F53, ms_F54, ms_F55, ms_F56, ms_F57, ms_F58, ms_F59, ms_F60, ms_F61, ms_F62, ms_F63, sh_r59_60 hS, sh_k95 hS, sh_z95 hS, sh_r59_61 hS, sh_k96 hS, sh_z96 hS, sh_r59_62 hS, sh_k97 hS, sh_z97 hS, pm_WI0, pm_WI1, pm_WI2, pm_WI3, pm_WI4, pm_WI5, pm_WV, pm_WW, pm_WX, pb_B180, pm_if, pm_QI_at, pm_QL_at, pm_QV_at, pm_QR_at, pm_QR_at0, pm_QR_at1, Nat.reduceSub, Nat.reduceAdd, List.replicate_zero, List.replicate_succ]
  rcases one_case (f := f) (fl := 10) (L := L) hp (ws := [108, 105, 109, 105, 116]) (by decide) with ⟨x, hx, e1, e2⟩ | ⟨v, x, e1, e2⟩
  · rw [e1, un_none, ms_wf (by decide)]
    exact h0 x _ (by rw [ec]; exact e2) (lfr.rf.w (by omega) (by omega))
  · rw [e1, un_some, vo_some, ms_wf (by decide)]
    exact h1 x _ _ (by rw [ec]; exact e2) (lfr.rf.w (by omega) (by omega)) (hmlr.num (by omega) (by omega) (by omega))
/-! cap -/
theorem mr_180_cap {G : pm_G} {d : Nat} {S : pm_S} {f : Nat → Int32} {n : Nat} {t : Nat → Bool} {L : gx_L} {c p0 p : Nat} {q : pm_S → Prop} (hd : 29 ≤ d) (hcx : cx S f n t) (hw : gx_wf t L c p0) (hmlr : mlr S t L) (hc : c < 10) (hpp : p0 ≤ p) (hp : p ≤ n) (y : gx_b f n p = 99) (h1 : ∀ x L' T, gx_clause (gx_b f n) L p = (x, some L') → lfr S T → mlr T t L' → q (ms T 0 (x, some ()))) (h0 : ∀ x T, gx_clause (gx_b f n) L p = (x, none) → lfr S T → q (ms T 0 (x, none))) : pm_CV G d 180 [.ref 59] (ms S 0 (p, some ())) q := by
  obtain ⟨hS, hm, h18, h24, h24b, ht⟩ := id hcx
  have hn := hm.2.1
  have hpn : p < n := gx_lt gx_b_eof y (by omega)
  have es : sg (gx_b f n p) = 99 := by rw [y]; rfl
  have hms : ms S 0 (p, some ()) = mst S (nI p) (-1) (nI 0) := rfl
  rw [hms]
  refine pm_goV 180 9 pb_c180 (by decide) (Nat.le_of_ble_eq_true rfl) rfl ?_
  try simp only [show pm_mL 180 = 3 from rfl, pm_WI0, pm_WI1, pm_WI2, pm_WI3, pm_WI4, pm_WI5, pm_WV, pm_WW, pm_WX, pb_B180, pm_if, pm_QI_at, pm_QL_at, pm_QV_at, pm_QR_at, pm_QR_at0, pm_QR_at1, Nat.reduceSub, Nat.reduceAdd, List.replicate_zero, List.replicate_succ, true_and, and_true, true_or, or_true, and_self, reduceIte, Nat.reduceEqDiff, Nat.reduceLT, Nat.reduceLeDiff, Nat.reduceMul, false_and, and_false, reduceCtorEq, false_or, or_false, not_true_eq_false, not_false_eq_true, true_implies, false_implies, implies_true, lf_10, eq_self, Int32.reduceLT, Int32.reduceLE, Int32.reduceAdd, Int32.reduceSub, pm_same, pm_i_wI, pm_l_wL, pm_l_wM, pm_oR_rf, pm_oQ_rf, sh_k59 hS, sh_r59_25 hS, sh_k80 hS, sh_z80 hS, sh_r59_27 hS, sh_k81 hS, sh_z81 hS, mst_w46, mst_w48, mst_w49, mst_46, mst_48, mst_49, mst_k, mst_z, mst_r, mst_n, mst_l, mst_R62, mst_R64, mst_R65, mst_R66, mst_R67, mst_R78, mst_R80, mst_R81, mst_F18, mst_F24, mst_F45, mst_F47, mst_F50, mst_F51, nI_1, LQ1, LQ2, LQ4, LQ1, LQ2, ms_k, ms_z, ms_r, ms_49, ms_w49, ms_R62, ms_R64, ms_R65, ms_R66, ms_R67, ms_R75, ms_R76, ms_R77, ms_R78, ms_R79, ms_R80, ms_R81, ms_R95, ms_R96, ms_R97, ms_F0, ms_F2, ms_F18, ms_F24, ms_F31, ms_F26, ms_F45, ms_F47, ms_F50, ms_F51, ms_F52, ms_F53, ms_F54, ms_F55, ms_F56, ms_F57, ms_F58, ms_F59, ms_F60, ms_F61, ms_F62, ms_F63, sh_r59_60 hS, sh_k95 hS, sh_z95 hS, sh_r59_61 hS, sh_k96 hS, sh_z96 hS, sh_r59_62 hS, sh_k97 hS, sh_z97 hS]
  refine ⟨by omega, mr_181 hS hm hp ?_⟩
  rw [← hms]
  try simp only [pm_WV, pm_WW, true_and, and_true, true_or, or_true, and_self, reduceIte, Nat.reduceEqDiff, Nat.reduceLT, Nat.reduceLeDiff, Nat.reduceMul, false_and, and_false, reduceCtorEq, false_or, or_false, not_true_eq_false, not_false_eq_true, true_implies, false_implies, implies_true, lf_10, eq_self, Int32.reduceLT, Int32.reduceLE, Int32.reduceAdd, Int32.reduceSub, pm_same, pm_i_wI, pm_l_wL, pm_l_wM, pm_oR_rf, pm_oQ_rf, sh_k59 hS, sh_r59_25 hS, sh_k80 hS, sh_z80 hS, sh_r59_27 hS, sh_k81 hS, sh_z81 hS, mst_w46, mst_w48, mst_w49, mst_46, mst_48, mst_49, mst_k, mst_z, mst_r, mst_n, mst_l, mst_R62, mst_R64, mst_R65, mst_R66, mst_R67, mst_R78, mst_R80, mst_R81, mst_F18, mst_F24, mst_F45, mst_F47, mst_F50, mst_F51, nI_1, LQ1, LQ2, LQ4, LQ1, LQ2, ms_k, ms_z, ms_r, ms_49, ms_w49, ms_R62, ms_R64, ms_R65, ms_R66, ms_R67, ms_R75, ms_R76, ms_R77, ms_R78, ms_R79, ms_R80, ms_R81, ms_R95, ms_R96, ms_R97, ms_F0, ms_F2, ms_F18, ms_F24, ms_F31, ms_F26, ms_F45, ms_F47, ms_F50, ms_F51, ms_F52, ms_F53, ms_F54, ms_F55, ms_F56, ms_F57, ms_F58, ms_F59, ms_F60, ms_F61, ms_F62, ms_F63, sh_r59_60 hS, sh_k95 hS, sh_z95 hS, sh_r59_61 hS, sh_k96 hS, sh_z96 hS, sh_r59_62 hS, sh_k97 hS, sh_z97 hS, pm_WI0, pm_WI1, pm_WI2, pm_WI3, pm_WI4, pm_WI5, pm_WV, pm_WW, pm_WX, pb_B180, pm_if, pm_QI_at, pm_QL_at, pm_QV_at, pm_QR_at, pm_QR_at0, pm_QR_at1, Nat.reduceSub, Nat.reduceAdd, List.replicate_zero, List.replicate_succ, es]
  have ec : gx_clause (gx_b f n) L p = gx_one (gx_b f n) L 14 [99, 97, 112, 32] p := by
    unfold gx_clause; rw [if_neg (by omega), if_neg (by omega), if_neg (by omega), if_neg (by omega), if_neg (by omega), if_pos y]
  refine ⟨by omega, mr_183_cap ?_⟩
  try simp only [pm_WV, pm_WW, true_and, and_true, true_or, or_true, and_self, reduceIte, Nat.reduceEqDiff, Nat.reduceLT, Nat.reduceLeDiff, Nat.reduceMul, false_and, and_false, reduceCtorEq, false_or, or_false, not_true_eq_false, not_false_eq_true, true_implies, false_implies, implies_true, lf_10, eq_self, Int32.reduceLT, Int32.reduceLE, Int32.reduceAdd, Int32.reduceSub, pm_same, pm_i_wI, pm_l_wL, pm_l_wM, pm_oR_rf, pm_oQ_rf, sh_k59 hS, sh_r59_25 hS, sh_k80 hS, sh_z80 hS, sh_r59_27 hS, sh_k81 hS, sh_z81 hS, mst_w46, mst_w48, mst_w49, mst_46, mst_48, mst_49, mst_k, mst_z, mst_r, mst_n, mst_l, mst_R62, mst_R64, mst_R65, mst_R66, mst_R67, mst_R78, mst_R80, mst_R81, mst_F18, mst_F24, mst_F45, mst_F47, mst_F50, mst_F51, nI_1, LQ1, LQ2, LQ4, LQ1, LQ2, ms_k, ms_z, ms_r, ms_49, ms_w49, ms_R62, ms_R64, ms_R65, ms_R66, ms_R67, ms_R75, ms_R76, ms_R77, ms_R78, ms_R79, ms_R80, ms_R81, ms_R95, ms_R96, ms_R97, ms_F0, ms_F2, ms_F18, ms_F24, ms_F31, ms_F26, ms_F45, ms_F47, ms_F50, ms_F51, ms_F52, ms_F53, ms_F54, ms_F55, ms_F56, ms_F57, ms_F58, ms_F59, ms_F60, ms_F61, ms_F62, ms_F63, sh_r59_60 hS, sh_k95 hS, sh_z95 hS, sh_r59_61 hS, sh_k96 hS, sh_z96 hS, sh_r59_62 hS, sh_k97 hS, sh_z97 hS, pm_WI0, pm_WI1, pm_WI2, pm_WI3, pm_WI4, pm_WI5, pm_WV, pm_WW, pm_WX, pb_B180, pm_if, pm_QI_at, pm_QL_at, pm_QV_at, pm_QR_at, pm_QR_at0, pm_QR_at1, Nat.reduceSub, Nat.reduceAdd, List.replicate_zero, List.replicate_succ]
  refine ⟨by omega, mr_199 (by omega) hS hm (by show p ≤ n; exact hp) rfl wk_cap (by rw [wz_cap]; decide) ?_⟩
  rw [wz_cap]
  try simp only [pm_WV, pm_WW, true_and, and_true, true_or, or_true, and_self, reduceIte, Nat.reduceEqDiff, Nat.reduceLT, Nat.reduceLeDiff, Nat.reduceMul, false_and, and_false, reduceCtorEq, false_or, or_false, not_true_eq_false, not_false_eq_true, true_implies, false_implies, implies_true, lf_10, eq_self, Int32.reduceLT, Int32.reduceLE, Int32.reduceAdd, Int32.reduceSub, pm_same, pm_i_wI, pm_l_wL, pm_l_wM, pm_oR_rf, pm_oQ_rf, sh_k59 hS, sh_r59_25 hS, sh_k80 hS, sh_z80 hS, sh_r59_27 hS, sh_k81 hS, sh_z81 hS, mst_w46, mst_w48, mst_w49, mst_46, mst_48, mst_49, mst_k, mst_z, mst_r, mst_n, mst_l, mst_R62, mst_R64, mst_R65, mst_R66, mst_R67, mst_R78, mst_R80, mst_R81, mst_F18, mst_F24, mst_F45, mst_F47, mst_F50, mst_F51, nI_1, LQ1, LQ2, LQ4, LQ1, LQ2, ms_k, ms_z, ms_r, ms_49, ms_w49, ms_R62, ms_R64, ms_R65, ms_R66, ms_R67, ms_R75, ms_R76, ms_R77, ms_R78, ms_R79, ms_R80, ms_R81, ms_R95, ms_R96, ms_R97, ms_F0, ms_F2, ms_F18, ms_F24, ms_F31, ms_F26, ms_F45, ms_F47, ms_F50, ms_F51, ms_F52, ms_F53, ms_F54, ms_F55, ms_F56, ms_F57, ms_F58, ms_F59, ms_F60, ms_F61, ms_F62, ms_F63, sh_r59_60 hS, sh_k95 hS, sh_z95 hS, sh_r59_61 hS, sh_k96 hS, sh_z96 hS, sh_r59_62 hS, sh_k97 hS, sh_z97 hS, pm_WI0, pm_WI1, pm_WI2, pm_WI3, pm_WI4, pm_WI5, pm_WV, pm_WW, pm_WX, pb_B180, pm_if, pm_QI_at, pm_QL_at, pm_QV_at, pm_QR_at, pm_QR_at0, pm_QR_at1, Nat.reduceSub, Nat.reduceAdd, List.replicate_zero, List.replicate_succ]
  rcases one_case (f := f) (fl := 14) (L := L) hp (ws := [99, 97, 112]) (by decide) with ⟨x, hx, e1, e2⟩ | ⟨v, x, e1, e2⟩
  · rw [e1, un_none, ms_wf (by decide)]
    exact h0 x _ (by rw [ec]; exact e2) (lfr.rf.w (by omega) (by omega))
  · rw [e1, un_some, vo_some, ms_wf (by decide)]
    exact h1 x _ _ (by rw [ec]; exact e2) (lfr.rf.w (by omega) (by omega)) (hmlr.num (by omega) (by omega) (by omega))
/-! few -/
theorem mr_180_few {G : pm_G} {d : Nat} {S : pm_S} {f : Nat → Int32} {n : Nat} {t : Nat → Bool} {L : gx_L} {c p0 p : Nat} {q : pm_S → Prop} (hd : 29 ≤ d) (hcx : cx S f n t) (hw : gx_wf t L c p0) (hmlr : mlr S t L) (hc : c < 10) (hpp : p0 ≤ p) (hp : p ≤ n) (y : gx_b f n p = 102) (h1 : ∀ x L' T, gx_clause (gx_b f n) L p = (x, some L') → lfr S T → mlr T t L' → q (ms T 0 (x, some ()))) (h0 : ∀ x T, gx_clause (gx_b f n) L p = (x, none) → lfr S T → q (ms T 0 (x, none))) : pm_CV G d 180 [.ref 59] (ms S 0 (p, some ())) q := by
  obtain ⟨hS, hm, h18, h24, h24b, ht⟩ := id hcx
  have hn := hm.2.1
  have hpn : p < n := gx_lt gx_b_eof y (by omega)
  have es : sg (gx_b f n p) = 102 := by rw [y]; rfl
  have hms : ms S 0 (p, some ()) = mst S (nI p) (-1) (nI 0) := rfl
  rw [hms]
  refine pm_goV 180 9 pb_c180 (by decide) (Nat.le_of_ble_eq_true rfl) rfl ?_
  try simp only [show pm_mL 180 = 3 from rfl, pm_WI0, pm_WI1, pm_WI2, pm_WI3, pm_WI4, pm_WI5, pm_WV, pm_WW, pm_WX, pb_B180, pm_if, pm_QI_at, pm_QL_at, pm_QV_at, pm_QR_at, pm_QR_at0, pm_QR_at1, Nat.reduceSub, Nat.reduceAdd, List.replicate_zero, List.replicate_succ, true_and, and_true, true_or, or_true, and_self, reduceIte, Nat.reduceEqDiff, Nat.reduceLT, Nat.reduceLeDiff, Nat.reduceMul, false_and, and_false, reduceCtorEq, false_or, or_false, not_true_eq_false, not_false_eq_true, true_implies, false_implies, implies_true, lf_10, eq_self, Int32.reduceLT, Int32.reduceLE, Int32.reduceAdd, Int32.reduceSub, pm_same, pm_i_wI, pm_l_wL, pm_l_wM, pm_oR_rf, pm_oQ_rf, sh_k59 hS, sh_r59_25 hS, sh_k80 hS, sh_z80 hS, sh_r59_27 hS, sh_k81 hS, sh_z81 hS, mst_w46, mst_w48, mst_w49, mst_46, mst_48, mst_49, mst_k, mst_z, mst_r, mst_n, mst_l, mst_R62, mst_R64, mst_R65, mst_R66, mst_R67, mst_R78, mst_R80, mst_R81, mst_F18, mst_F24, mst_F45, mst_F47, mst_F50, mst_F51, nI_1, LQ1, LQ2, LQ4, LQ1, LQ2, ms_k, ms_z, ms_r, ms_49, ms_w49, ms_R62, ms_R64, ms_R65, ms_R66, ms_R67, ms_R75, ms_R76, ms_R77, ms_R78, ms_R79, ms_R80, ms_R81, ms_R95, ms_R96, ms_R97, ms_F0, ms_F2, ms_F18, ms_F24, ms_F31, ms_F26, ms_F45, ms_F47, ms_F50, ms_F51, ms_F52, ms_F53, ms_F54, ms_F55, ms_F56, ms_F57, ms_F58, ms_F59, ms_F60, ms_F61, ms_F62, ms_F63, sh_r59_60 hS, sh_k95 hS, sh_z95 hS, sh_r59_61 hS, sh_k96 hS, sh_z96 hS, sh_r59_62 hS, sh_k97 hS, sh_z97 hS]
  refine ⟨by omega, mr_181 hS hm hp ?_⟩
  rw [← hms]
  try simp only [pm_WV, pm_WW, true_and, and_true, true_or, or_true, and_self, reduceIte, Nat.reduceEqDiff, Nat.reduceLT, Nat.reduceLeDiff, Nat.reduceMul, false_and, and_false, reduceCtorEq, false_or, or_false, not_true_eq_false, not_false_eq_true, true_implies, false_implies, implies_true, lf_10, eq_self, Int32.reduceLT, Int32.reduceLE, Int32.reduceAdd, Int32.reduceSub, pm_same, pm_i_wI, pm_l_wL, pm_l_wM, pm_oR_rf, pm_oQ_rf, sh_k59 hS, sh_r59_25 hS, sh_k80 hS, sh_z80 hS, sh_r59_27 hS, sh_k81 hS, sh_z81 hS, mst_w46, mst_w48, mst_w49, mst_46, mst_48, mst_49, mst_k, mst_z, mst_r, mst_n, mst_l, mst_R62, mst_R64, mst_R65, mst_R66, mst_R67, mst_R78, mst_R80, mst_R81, mst_F18, mst_F24, mst_F45, mst_F47, mst_F50, mst_F51, nI_1, LQ1, LQ2, LQ4, LQ1, LQ2, ms_k, ms_z, ms_r, ms_49, ms_w49, ms_R62, ms_R64, ms_R65, ms_R66, ms_R67, ms_R75, ms_R76, ms_R77, ms_R78, ms_R79, ms_R80, ms_R81, ms_R95, ms_R96, ms_R97, ms_F0, ms_F2, ms_F18, ms_F24, ms_F31, ms_F26, ms_F45, ms_F47, ms_F50, ms_F51, ms_F52, ms_F53, ms_F54, ms_F55, ms_F56, ms_F57, ms_F58, ms_F59, ms_F60, ms_F61, ms_F62, ms_F63, sh_r59_60 hS, sh_k95 hS, sh_z95 hS, sh_r59_61 hS, sh_k96 hS, sh_z96 hS, sh_r59_62 hS, sh_k97 hS, sh_z97 hS, pm_WI0, pm_WI1, pm_WI2, pm_WI3, pm_WI4, pm_WI5, pm_WV, pm_WW, pm_WX, pb_B180, pm_if, pm_QI_at, pm_QL_at, pm_QV_at, pm_QR_at, pm_QR_at0, pm_QR_at1, Nat.reduceSub, Nat.reduceAdd, List.replicate_zero, List.replicate_succ, es]
  have ec : gx_clause (gx_b f n) L p = gx_one (gx_b f n) L 16 [102, 101, 119, 32] p := by
    unfold gx_clause; rw [if_neg (by omega), if_neg (by omega), if_neg (by omega), if_neg (by omega), if_neg (by omega), if_neg (by omega), if_pos y]
  refine ⟨by omega, mr_183_few ?_⟩
  try simp only [pm_WV, pm_WW, true_and, and_true, true_or, or_true, and_self, reduceIte, Nat.reduceEqDiff, Nat.reduceLT, Nat.reduceLeDiff, Nat.reduceMul, false_and, and_false, reduceCtorEq, false_or, or_false, not_true_eq_false, not_false_eq_true, true_implies, false_implies, implies_true, lf_10, eq_self, Int32.reduceLT, Int32.reduceLE, Int32.reduceAdd, Int32.reduceSub, pm_same, pm_i_wI, pm_l_wL, pm_l_wM, pm_oR_rf, pm_oQ_rf, sh_k59 hS, sh_r59_25 hS, sh_k80 hS, sh_z80 hS, sh_r59_27 hS, sh_k81 hS, sh_z81 hS, mst_w46, mst_w48, mst_w49, mst_46, mst_48, mst_49, mst_k, mst_z, mst_r, mst_n, mst_l, mst_R62, mst_R64, mst_R65, mst_R66, mst_R67, mst_R78, mst_R80, mst_R81, mst_F18, mst_F24, mst_F45, mst_F47, mst_F50, mst_F51, nI_1, LQ1, LQ2, LQ4, LQ1, LQ2, ms_k, ms_z, ms_r, ms_49, ms_w49, ms_R62, ms_R64, ms_R65, ms_R66, ms_R67, ms_R75, ms_R76, ms_R77, ms_R78, ms_R79, ms_R80, ms_R81, ms_R95, ms_R96, ms_R97, ms_F0, ms_F2, ms_F18, ms_F24, ms_F31, ms_F26, ms_F45, ms_F47, ms_F50, ms_F51, ms_F52, ms_F53, ms_F54, ms_F55, ms_F56, ms_F57, ms_F58, ms_F59, ms_F60, ms_F61, ms_F62, ms_F63, sh_r59_60 hS, sh_k95 hS, sh_z95 hS, sh_r59_61 hS, sh_k96 hS, sh_z96 hS, sh_r59_62 hS, sh_k97 hS, sh_z97 hS, pm_WI0, pm_WI1, pm_WI2, pm_WI3, pm_WI4, pm_WI5, pm_WV, pm_WW, pm_WX, pb_B180, pm_if, pm_QI_at, pm_QL_at, pm_QV_at, pm_QR_at, pm_QR_at0, pm_QR_at1, Nat.reduceSub, Nat.reduceAdd, List.replicate_zero, List.replicate_succ]
  refine ⟨by omega, mr_199 (by omega) hS hm (by show p ≤ n; exact hp) rfl wk_few (by rw [wz_few]; decide) ?_⟩
  rw [wz_few]
  try simp only [pm_WV, pm_WW, true_and, and_true, true_or, or_true, and_self, reduceIte, Nat.reduceEqDiff, Nat.reduceLT, Nat.reduceLeDiff, Nat.reduceMul, false_and, and_false, reduceCtorEq, false_or, or_false, not_true_eq_false, not_false_eq_true, true_implies, false_implies, implies_true, lf_10, eq_self, Int32.reduceLT, Int32.reduceLE, Int32.reduceAdd, Int32.reduceSub, pm_same, pm_i_wI, pm_l_wL, pm_l_wM, pm_oR_rf, pm_oQ_rf, sh_k59 hS, sh_r59_25 hS, sh_k80 hS, sh_z80 hS, sh_r59_27 hS, sh_k81 hS, sh_z81 hS, mst_w46, mst_w48, mst_w49, mst_46, mst_48, mst_49, mst_k, mst_z, mst_r, mst_n, mst_l, mst_R62, mst_R64, mst_R65, mst_R66, mst_R67, mst_R78, mst_R80, mst_R81, mst_F18, mst_F24, mst_F45, mst_F47, mst_F50, mst_F51, nI_1, LQ1, LQ2, LQ4, LQ1, LQ2, ms_k, ms_z, ms_r, ms_49, ms_w49, ms_R62, ms_R64, ms_R65, ms_R66, ms_R67, ms_R75, ms_R76, ms_R77, ms_R78, ms_R79, ms_R80, ms_R81, ms_R95, ms_R96, ms_R97, ms_F0, ms_F2, ms_F18, ms_F24, ms_F31, ms_F26, ms_F45, ms_F47, ms_F50, ms_F51, ms_F52, ms_F53, ms_F54, ms_F55, ms_F56, ms_F57, ms_F58, ms_F59, ms_F60, ms_F61, ms_F62, ms_F63, sh_r59_60 hS, sh_k95 hS, sh_z95 hS, sh_r59_61 hS, sh_k96 hS, sh_z96 hS, sh_r59_62 hS, sh_k97 hS, sh_z97 hS, pm_WI0, pm_WI1, pm_WI2, pm_WI3, pm_WI4, pm_WI5, pm_WV, pm_WW, pm_WX, pb_B180, pm_if, pm_QI_at, pm_QL_at, pm_QV_at, pm_QR_at, pm_QR_at0, pm_QR_at1, Nat.reduceSub, Nat.reduceAdd, List.replicate_zero, List.replicate_succ]
  rcases one_case (f := f) (fl := 16) (L := L) hp (ws := [102, 101, 119]) (by decide) with ⟨x, hx, e1, e2⟩ | ⟨v, x, e1, e2⟩
  · rw [e1, un_none, ms_wf (by decide)]
    exact h0 x _ (by rw [ec]; exact e2) (lfr.rf.w (by omega) (by omega))
  · rw [e1, un_some, vo_some, ms_wf (by decide)]
    exact h1 x _ _ (by rw [ec]; exact e2) (lfr.rf.w (by omega) (by omega)) (hmlr.num (by omega) (by omega) (by omega))
theorem mr_180_answer {G : pm_G} {d : Nat} {S : pm_S} {f : Nat → Int32} {n : Nat} {t : Nat → Bool} {L : gx_L} {c p0 p : Nat} {q : pm_S → Prop} (hd : 29 ≤ d) (hcx : cx S f n t) (hw : gx_wf t L c p0) (hmlr : mlr S t L) (hc : c < 10) (hpp : p0 ≤ p) (hp : p ≤ n) (y : gx_b f n p = 97) (h1 : ∀ x L' T, gx_clause (gx_b f n) L p = (x, some L') → lfr S T → mlr T t L' → q (ms T 0 (x, some ()))) (h0 : ∀ x T, gx_clause (gx_b f n) L p = (x, none) → lfr S T → q (ms T 0 (x, none))) : pm_CV G d 180 [.ref 59] (ms S 0 (p, some ())) q := by
  obtain ⟨hS, hm, h18, h24, h24b, ht⟩ := id hcx
  have hn := hm.2.1
  have hpn : p < n := gx_lt gx_b_eof y (by omega)
  have es : sg (gx_b f n p) = 97 := by rw [y]; rfl
  have hms : ms S 0 (p, some ()) = mst S (nI p) (-1) (nI 0) := rfl
  rw [hms]
  refine pm_goV 180 9 pb_c180 (by decide) (Nat.le_of_ble_eq_true rfl) rfl ?_
  try simp only [show pm_mL 180 = 3 from rfl, pm_WI0, pm_WI1, pm_WI2, pm_WI3, pm_WI4, pm_WI5, pm_WV, pm_WW, pm_WX, pb_B180, pm_if, pm_QI_at, pm_QL_at, pm_QV_at, pm_QR_at, pm_QR_at0, pm_QR_at1, Nat.reduceSub, Nat.reduceAdd, List.replicate_zero, List.replicate_succ, true_and, and_true, true_or, or_true, and_self, reduceIte, Nat.reduceEqDiff, Nat.reduceLT, Nat.reduceLeDiff, Nat.reduceMul, false_and, and_false, reduceCtorEq, false_or, or_false, not_true_eq_false, not_false_eq_true, true_implies, false_implies, implies_true, lf_10, eq_self, Int32.reduceLT, Int32.reduceLE, Int32.reduceAdd, Int32.reduceSub, pm_same, pm_i_wI, pm_l_wL, pm_l_wM, pm_oR_rf, pm_oQ_rf, sh_k59 hS, sh_r59_25 hS, sh_k80 hS, sh_z80 hS, sh_r59_27 hS, sh_k81 hS, sh_z81 hS, mst_w46, mst_w48, mst_w49, mst_46, mst_48, mst_49, mst_k, mst_z, mst_r, mst_n, mst_l, mst_R62, mst_R64, mst_R65, mst_R66, mst_R67, mst_R78, mst_R80, mst_R81, mst_F18, mst_F24, mst_F45, mst_F47, mst_F50, mst_F51, nI_1, LQ1, LQ2, LQ4, LQ1, LQ2, ms_k, ms_z, ms_r, ms_49, ms_w49, ms_R62, ms_R64, ms_R65, ms_R66, ms_R67, ms_R75, ms_R76, ms_R77, ms_R78, ms_R79, ms_R80, ms_R81, ms_R95, ms_R96, ms_R97, ms_F0, ms_F2, ms_F18, ms_F24, ms_F31, ms_F26, ms_F45, ms_F47, ms_F50, ms_F51, ms_F52, ms_F53, ms_F54, ms_F55, ms_F56, ms_F57, ms_F58, ms_F59, ms_F60, ms_F61, ms_F62, ms_F63, sh_r59_60 hS, sh_k95 hS, sh_z95 hS, sh_r59_61 hS, sh_k96 hS, sh_z96 hS, sh_r59_62 hS, sh_k97 hS, sh_z97 hS]
  refine ⟨by omega, mr_181 hS hm hp ?_⟩
  rw [← hms]
  try simp only [pm_WV, pm_WW, true_and, and_true, true_or, or_true, and_self, reduceIte, Nat.reduceEqDiff, Nat.reduceLT, Nat.reduceLeDiff, Nat.reduceMul, false_and, and_false, reduceCtorEq, false_or, or_false, not_true_eq_false, not_false_eq_true, true_implies, false_implies, implies_true, lf_10, eq_self, Int32.reduceLT, Int32.reduceLE, Int32.reduceAdd, Int32.reduceSub, pm_same, pm_i_wI, pm_l_wL, pm_l_wM, pm_oR_rf, pm_oQ_rf, sh_k59 hS, sh_r59_25 hS, sh_k80 hS, sh_z80 hS, sh_r59_27 hS, sh_k81 hS, sh_z81 hS, mst_w46, mst_w48, mst_w49, mst_46, mst_48, mst_49, mst_k, mst_z, mst_r, mst_n, mst_l, mst_R62, mst_R64, mst_R65, mst_R66, mst_R67, mst_R78, mst_R80, mst_R81, mst_F18, mst_F24, mst_F45, mst_F47, mst_F50, mst_F51, nI_1, LQ1, LQ2, LQ4, LQ1, LQ2, ms_k, ms_z, ms_r, ms_49, ms_w49, ms_R62, ms_R64, ms_R65, ms_R66, ms_R67, ms_R75, ms_R76, ms_R77, ms_R78, ms_R79, ms_R80, ms_R81, ms_R95, ms_R96, ms_R97, ms_F0, ms_F2, ms_F18, ms_F24, ms_F31, ms_F26, ms_F45, ms_F47, ms_F50, ms_F51, ms_F52, ms_F53, ms_F54, ms_F55, ms_F56, ms_F57, ms_F58, ms_F59, ms_F60, ms_F61, ms_F62, ms_F63, sh_r59_60 hS, sh_k95 hS, sh_z95 hS, sh_r59_61 hS, sh_k96 hS, sh_z96 hS, sh_r59_62 hS, sh_k97 hS, sh_z97 hS, pm_WI0, pm_WI1, pm_WI2, pm_WI3, pm_WI4, pm_WI5, pm_WV, pm_WW, pm_WX, pb_B180, pm_if, pm_QI_at, pm_QL_at, pm_QV_at, pm_QR_at, pm_QR_at0, pm_QR_at1, Nat.reduceSub, Nat.reduceAdd, List.replicate_zero, List.replicate_succ, es]
  have ec : gx_clause (gx_b f n) L p = gx_one (gx_b f n) L 11 [97, 110, 115, 119, 101, 114, 32] p := by
    unfold gx_clause; rw [if_neg (by omega), if_neg (by omega), if_neg (by omega), if_neg (by omega), if_pos y]
  refine ⟨by omega, mr_183_answe ?_⟩
  try simp only [pm_WV, pm_WW, true_and, and_true, true_or, or_true, and_self, reduceIte, Nat.reduceEqDiff, Nat.reduceLT, Nat.reduceLeDiff, Nat.reduceMul, false_and, and_false, reduceCtorEq, false_or, or_false, not_true_eq_false, not_false_eq_true, true_implies, false_implies, implies_true, lf_10, eq_self, Int32.reduceLT, Int32.reduceLE, Int32.reduceAdd, Int32.reduceSub, pm_same, pm_i_wI, pm_l_wL, pm_l_wM, pm_oR_rf, pm_oQ_rf, sh_k59 hS, sh_r59_25 hS, sh_k80 hS, sh_z80 hS, sh_r59_27 hS, sh_k81 hS, sh_z81 hS, mst_w46, mst_w48, mst_w49, mst_46, mst_48, mst_49, mst_k, mst_z, mst_r, mst_n, mst_l, mst_R62, mst_R64, mst_R65, mst_R66, mst_R67, mst_R78, mst_R80, mst_R81, mst_F18, mst_F24, mst_F45, mst_F47, mst_F50, mst_F51, nI_1, LQ1, LQ2, LQ4, LQ1, LQ2, ms_k, ms_z, ms_r, ms_49, ms_w49, ms_R62, ms_R64, ms_R65, ms_R66, ms_R67, ms_R75, ms_R76, ms_R77, ms_R78, ms_R79, ms_R80, ms_R81, ms_R95, ms_R96, ms_R97, ms_F0, ms_F2, ms_F18, ms_F24, ms_F31, ms_F26, ms_F45, ms_F47, ms_F50, ms_F51, ms_F52, ms_F53, ms_F54, ms_F55, ms_F56, ms_F57, ms_F58, ms_F59, ms_F60, ms_F61, ms_F62, ms_F63, sh_r59_60 hS, sh_k95 hS, sh_z95 hS, sh_r59_61 hS, sh_k96 hS, sh_z96 hS, sh_r59_62 hS, sh_k97 hS, sh_z97 hS, pm_WI0, pm_WI1, pm_WI2, pm_WI3, pm_WI4, pm_WI5, pm_WV, pm_WW, pm_WX, pb_B180, pm_if, pm_QI_at, pm_QL_at, pm_QV_at, pm_QR_at, pm_QR_at0, pm_QR_at1, Nat.reduceSub, Nat.reduceAdd, List.replicate_zero, List.replicate_succ]
  have r1 := gx_bd_w_le (f := f) (n := n) (r := (p, some ())) (l := [97, 110, 115, 119, 101]) hp (by decide)
  refine ⟨by omega, mr_184 (by omega) hS hm hp rfl wk_answe ?_⟩
  rw [wz_answe]
  try simp only [pm_WV, pm_WW, true_and, and_true, true_or, or_true, and_self, reduceIte, Nat.reduceEqDiff, Nat.reduceLT, Nat.reduceLeDiff, Nat.reduceMul, false_and, and_false, reduceCtorEq, false_or, or_false, not_true_eq_false, not_false_eq_true, true_implies, false_implies, implies_true, lf_10, eq_self, Int32.reduceLT, Int32.reduceLE, Int32.reduceAdd, Int32.reduceSub, pm_same, pm_i_wI, pm_l_wL, pm_l_wM, pm_oR_rf, pm_oQ_rf, sh_k59 hS, sh_r59_25 hS, sh_k80 hS, sh_z80 hS, sh_r59_27 hS, sh_k81 hS, sh_z81 hS, mst_w46, mst_w48, mst_w49, mst_46, mst_48, mst_49, mst_k, mst_z, mst_r, mst_n, mst_l, mst_R62, mst_R64, mst_R65, mst_R66, mst_R67, mst_R78, mst_R80, mst_R81, mst_F18, mst_F24, mst_F45, mst_F47, mst_F50, mst_F51, nI_1, LQ1, LQ2, LQ4, LQ1, LQ2, ms_k, ms_z, ms_r, ms_49, ms_w49, ms_R62, ms_R64, ms_R65, ms_R66, ms_R67, ms_R75, ms_R76, ms_R77, ms_R78, ms_R79, ms_R80, ms_R81, ms_R95, ms_R96, ms_R97, ms_F0, ms_F2, ms_F18, ms_F24, ms_F31, ms_F26, ms_F45, ms_F47, ms_F50, ms_F51, ms_F52, ms_F53, ms_F54, ms_F55, ms_F56, ms_F57, ms_F58, ms_F59, ms_F60, ms_F61, ms_F62, ms_F63, sh_r59_60 hS, sh_k95 hS, sh_z95 hS, sh_r59_61 hS, sh_k96 hS, sh_z96 hS, sh_r59_62 hS, sh_k97 hS, sh_z97 hS, pm_WI0, pm_WI1, pm_WI2, pm_WI3, pm_WI4, pm_WI5, pm_WV, pm_WW, pm_WX, pb_B180, pm_if, pm_QI_at, pm_QL_at, pm_QV_at, pm_QR_at, pm_QR_at0, pm_QR_at1, Nat.reduceSub, Nat.reduceAdd, List.replicate_zero, List.replicate_succ]
  refine ⟨by omega, mr_183_r ?_⟩
  try simp only [pm_WV, pm_WW, true_and, and_true, true_or, or_true, and_self, reduceIte, Nat.reduceEqDiff, Nat.reduceLT, Nat.reduceLeDiff, Nat.reduceMul, false_and, and_false, reduceCtorEq, false_or, or_false, not_true_eq_false, not_false_eq_true, true_implies, false_implies, implies_true, lf_10, eq_self, Int32.reduceLT, Int32.reduceLE, Int32.reduceAdd, Int32.reduceSub, pm_same, pm_i_wI, pm_l_wL, pm_l_wM, pm_oR_rf, pm_oQ_rf, sh_k59 hS, sh_r59_25 hS, sh_k80 hS, sh_z80 hS, sh_r59_27 hS, sh_k81 hS, sh_z81 hS, mst_w46, mst_w48, mst_w49, mst_46, mst_48, mst_49, mst_k, mst_z, mst_r, mst_n, mst_l, mst_R62, mst_R64, mst_R65, mst_R66, mst_R67, mst_R78, mst_R80, mst_R81, mst_F18, mst_F24, mst_F45, mst_F47, mst_F50, mst_F51, nI_1, LQ1, LQ2, LQ4, LQ1, LQ2, ms_k, ms_z, ms_r, ms_49, ms_w49, ms_R62, ms_R64, ms_R65, ms_R66, ms_R67, ms_R75, ms_R76, ms_R77, ms_R78, ms_R79, ms_R80, ms_R81, ms_R95, ms_R96, ms_R97, ms_F0, ms_F2, ms_F18, ms_F24, ms_F31, ms_F26, ms_F45, ms_F47, ms_F50, ms_F51, ms_F52, ms_F53, ms_F54, ms_F55, ms_F56, ms_F57, ms_F58, ms_F59, ms_F60, ms_F61, ms_F62, ms_F63, sh_r59_60 hS, sh_k95 hS, sh_z95 hS, sh_r59_61 hS, sh_k96 hS, sh_z96 hS, sh_r59_62 hS, sh_k97 hS, sh_z97 hS, pm_WI0, pm_WI1, pm_WI2, pm_WI3, pm_WI4, pm_WI5, pm_WV, pm_WW, pm_WX, pb_B180, pm_if, pm_QI_at, pm_QL_at, pm_QV_at, pm_QR_at, pm_QR_at0, pm_QR_at1, Nat.reduceSub, Nat.reduceAdd, List.replicate_zero, List.replicate_succ]
  refine ⟨by omega, mr_199 (by omega) hS hm r1 rfl wk_r (by rw [wz_r]; decide) ?_⟩
  rw [wz_r]
  have e6 : gx_bd (gx_bd ((p, some ()) : gx_R Unit) (fun _ p => gx_w (gx_b f n) [97, 110, 115, 119, 101] p)) (fun _ p => gx_w (gx_b f n) [114] p) = gx_bd ((p, some ()) : gx_R Unit) (fun _ p => gx_w (gx_b f n) [97, 110, 115, 119, 101, 114] p) := by
    show gx_bd (gx_w (gx_b f n) [97, 110, 115, 119, 101] p) (fun _ p => gx_w (gx_b f n) [114] p) = gx_w (gx_b f n) [97, 110, 115, 119, 101, 114] p
    rw [← gx_w_app]; rfl
  rw [e6]
  try simp only [pm_WV, pm_WW, true_and, and_true, true_or, or_true, and_self, reduceIte, Nat.reduceEqDiff, Nat.reduceLT, Nat.reduceLeDiff, Nat.reduceMul, false_and, and_false, reduceCtorEq, false_or, or_false, not_true_eq_false, not_false_eq_true, true_implies, false_implies, implies_true, lf_10, eq_self, Int32.reduceLT, Int32.reduceLE, Int32.reduceAdd, Int32.reduceSub, pm_same, pm_i_wI, pm_l_wL, pm_l_wM, pm_oR_rf, pm_oQ_rf, sh_k59 hS, sh_r59_25 hS, sh_k80 hS, sh_z80 hS, sh_r59_27 hS, sh_k81 hS, sh_z81 hS, mst_w46, mst_w48, mst_w49, mst_46, mst_48, mst_49, mst_k, mst_z, mst_r, mst_n, mst_l, mst_R62, mst_R64, mst_R65, mst_R66, mst_R67, mst_R78, mst_R80, mst_R81, mst_F18, mst_F24, mst_F45, mst_F47, mst_F50, mst_F51, nI_1, LQ1, LQ2, LQ4, LQ1, LQ2, ms_k, ms_z, ms_r, ms_49, ms_w49, ms_R62, ms_R64, ms_R65, ms_R66, ms_R67, ms_R75, ms_R76, ms_R77, ms_R78, ms_R79, ms_R80, ms_R81, ms_R95, ms_R96, ms_R97, ms_F0, ms_F2, ms_F18, ms_F24, ms_F31, ms_F26, ms_F45, ms_F47, ms_F50, ms_F51, ms_F52, ms_F53, ms_F54, ms_F55, ms_F56, ms_F57, ms_F58, ms_F59, ms_F60, ms_F61, ms_F62, ms_F63, sh_r59_60 hS, sh_k95 hS, sh_z95 hS, sh_r59_61 hS, sh_k96 hS, sh_z96 hS, sh_r59_62 hS, sh_k97 hS, sh_z97 hS, pm_WI0, pm_WI1, pm_WI2, pm_WI3, pm_WI4, pm_WI5, pm_WV, pm_WW, pm_WX, pb_B180, pm_if, pm_QI_at, pm_QL_at, pm_QV_at, pm_QR_at, pm_QR_at0, pm_QR_at1, Nat.reduceSub, Nat.reduceAdd, List.replicate_zero, List.replicate_succ]
  rcases one_case (f := f) (fl := 11) (L := L) hp (ws := [97, 110, 115, 119, 101, 114]) (by decide) with ⟨x, hx, e1, e2⟩ | ⟨v, x, e1, e2⟩
  · rw [e1, un_none, ms_wf (by decide)]
    exact h0 x _ (by rw [ec]; exact e2) (lfr.rf.w (by omega) (by omega))
  · rw [e1, un_some, vo_some, ms_wf (by decide)]
    exact h1 x _ _ (by rw [ec]; exact e2) (lfr.rf.w (by omega) (by omega)) (hmlr.num (by omega) (by omega) (by omega))
theorem mr_180_owe {G : pm_G} {d : Nat} {S : pm_S} {f : Nat → Int32} {n : Nat} {t : Nat → Bool} {L : gx_L} {c p0 p : Nat} {q : pm_S → Prop} (hd : 29 ≤ d) (hcx : cx S f n t) (hw : gx_wf t L c p0) (hmlr : mlr S t L) (hc : c < 10) (hpp : p0 ≤ p) (hp : p ≤ n) (y : gx_b f n p = 111) (h1 : ∀ x L' T, gx_clause (gx_b f n) L p = (x, some L') → lfr S T → mlr T t L' → q (ms T 0 (x, some ()))) (h0 : ∀ x T, gx_clause (gx_b f n) L p = (x, none) → lfr S T → q (ms T 0 (x, none))) : pm_CV G d 180 [.ref 59] (ms S 0 (p, some ())) q := by
  obtain ⟨hS, hm, h18, h24, h24b, ht⟩ := id hcx
  have hn := hm.2.1
  have hpn : p < n := gx_lt gx_b_eof y (by omega)
  have es : sg (gx_b f n p) = 111 := by rw [y]; rfl
  have hms : ms S 0 (p, some ()) = mst S (nI p) (-1) (nI 0) := rfl
  rw [hms]
  refine pm_goV 180 9 pb_c180 (by decide) (Nat.le_of_ble_eq_true rfl) rfl ?_
  try simp only [show pm_mL 180 = 3 from rfl, pm_WI0, pm_WI1, pm_WI2, pm_WI3, pm_WI4, pm_WI5, pm_WV, pm_WW, pm_WX, pb_B180, pm_if, pm_QI_at, pm_QL_at, pm_QV_at, pm_QR_at, pm_QR_at0, pm_QR_at1, Nat.reduceSub, Nat.reduceAdd, List.replicate_zero, List.replicate_succ, true_and, and_true, true_or, or_true, and_self, reduceIte, Nat.reduceEqDiff, Nat.reduceLT, Nat.reduceLeDiff, Nat.reduceMul, false_and, and_false, reduceCtorEq, false_or, or_false, not_true_eq_false, not_false_eq_true, true_implies, false_implies, implies_true, lf_10, eq_self, Int32.reduceLT, Int32.reduceLE, Int32.reduceAdd, Int32.reduceSub, pm_same, pm_i_wI, pm_l_wL, pm_l_wM, pm_oR_rf, pm_oQ_rf, sh_k59 hS, sh_r59_25 hS, sh_k80 hS, sh_z80 hS, sh_r59_27 hS, sh_k81 hS, sh_z81 hS, mst_w46, mst_w48, mst_w49, mst_46, mst_48, mst_49, mst_k, mst_z, mst_r, mst_n, mst_l, mst_R62, mst_R64, mst_R65, mst_R66, mst_R67, mst_R78, mst_R80, mst_R81, mst_F18, mst_F24, mst_F45, mst_F47, mst_F50, mst_F51, nI_1, LQ1, LQ2, LQ4, LQ1, LQ2, ms_k, ms_z, ms_r, ms_49, ms_w49, ms_R62, ms_R64, ms_R65, ms_R66, ms_R67, ms_R75, ms_R76, ms_R77, ms_R78, ms_R79, ms_R80, ms_R81, ms_R95, ms_R96, ms_R97, ms_F0, ms_F2, ms_F18, ms_F24, ms_F31, ms_F26, ms_F45, ms_F47, ms_F50, ms_F51, ms_F52, ms_F53, ms_F54, ms_F55, ms_F56, ms_F57, ms_F58, ms_F59, ms_F60, ms_F61, ms_F62, ms_F63, sh_r59_60 hS, sh_k95 hS, sh_z95 hS, sh_r59_61 hS, sh_k96 hS, sh_z96 hS, sh_r59_62 hS, sh_k97 hS, sh_z97 hS]
  refine ⟨by omega, mr_181 hS hm hp ?_⟩
  rw [← hms]
  try simp only [pm_WV, pm_WW, true_and, and_true, true_or, or_true, and_self, reduceIte, Nat.reduceEqDiff, Nat.reduceLT, Nat.reduceLeDiff, Nat.reduceMul, false_and, and_false, reduceCtorEq, false_or, or_false, not_true_eq_false, not_false_eq_true, true_implies, false_implies, implies_true, lf_10, eq_self, Int32.reduceLT, Int32.reduceLE, Int32.reduceAdd, Int32.reduceSub, pm_same, pm_i_wI, pm_l_wL, pm_l_wM, pm_oR_rf, pm_oQ_rf, sh_k59 hS, sh_r59_25 hS, sh_k80 hS, sh_z80 hS, sh_r59_27 hS, sh_k81 hS, sh_z81 hS, mst_w46, mst_w48, mst_w49, mst_46, mst_48, mst_49, mst_k, mst_z, mst_r, mst_n, mst_l, mst_R62, mst_R64, mst_R65, mst_R66, mst_R67, mst_R78, mst_R80, mst_R81, mst_F18, mst_F24, mst_F45, mst_F47, mst_F50, mst_F51, nI_1, LQ1, LQ2, LQ4, LQ1, LQ2, ms_k, ms_z, ms_r, ms_49, ms_w49, ms_R62, ms_R64, ms_R65, ms_R66, ms_R67, ms_R75, ms_R76, ms_R77, ms_R78, ms_R79, ms_R80, ms_R81, ms_R95, ms_R96, ms_R97, ms_F0, ms_F2, ms_F18, ms_F24, ms_F31, ms_F26, ms_F45, ms_F47, ms_F50, ms_F51, ms_F52, ms_F53, ms_F54, ms_F55, ms_F56, ms_F57, ms_F58, ms_F59, ms_F60, ms_F61, ms_F62, ms_F63, sh_r59_60 hS, sh_k95 hS, sh_z95 hS, sh_r59_61 hS, sh_k96 hS, sh_z96 hS, sh_r59_62 hS, sh_k97 hS, sh_z97 hS, pm_WI0, pm_WI1, pm_WI2, pm_WI3, pm_WI4, pm_WI5, pm_WV, pm_WW, pm_WX, pb_B180, pm_if, pm_QI_at, pm_QL_at, pm_QV_at, pm_QR_at, pm_QR_at0, pm_QR_at1, Nat.reduceSub, Nat.reduceAdd, List.replicate_zero, List.replicate_succ, es]
  have ec : gx_clause (gx_b f n) L p = gx_owe (gx_b f n) L p := by
    unfold gx_clause; rw [if_pos y]
  exact ⟨by omega, mr_182 (by omega) hcx hw hmlr hc hpp hp (fun x L' T e => h1 x L' T (by rw [ec]; exact e)) (fun x T e => h0 x T (by rw [ec]; exact e))⟩
theorem mr_180_scale {G : pm_G} {d : Nat} {S : pm_S} {f : Nat → Int32} {n : Nat} {t : Nat → Bool} {L : gx_L} {c p0 p : Nat} {q : pm_S → Prop} (hd : 29 ≤ d) (hcx : cx S f n t) (hw : gx_wf t L c p0) (hmlr : mlr S t L) (hc : c < 10) (hpp : p0 ≤ p) (hp : p ≤ n) (y : gx_b f n p = 115) (h1 : ∀ x L' T, gx_clause (gx_b f n) L p = (x, some L') → lfr S T → mlr T t L' → q (ms T 0 (x, some ()))) (h0 : ∀ x T, gx_clause (gx_b f n) L p = (x, none) → lfr S T → q (ms T 0 (x, none))) : pm_CV G d 180 [.ref 59] (ms S 0 (p, some ())) q := by
  obtain ⟨hS, hm, h18, h24, h24b, ht⟩ := id hcx
  have hn := hm.2.1
  have hpn : p < n := gx_lt gx_b_eof y (by omega)
  have es : sg (gx_b f n p) = 115 := by rw [y]; rfl
  have hms : ms S 0 (p, some ()) = mst S (nI p) (-1) (nI 0) := rfl
  rw [hms]
  refine pm_goV 180 9 pb_c180 (by decide) (Nat.le_of_ble_eq_true rfl) rfl ?_
  try simp only [show pm_mL 180 = 3 from rfl, pm_WI0, pm_WI1, pm_WI2, pm_WI3, pm_WI4, pm_WI5, pm_WV, pm_WW, pm_WX, pb_B180, pm_if, pm_QI_at, pm_QL_at, pm_QV_at, pm_QR_at, pm_QR_at0, pm_QR_at1, Nat.reduceSub, Nat.reduceAdd, List.replicate_zero, List.replicate_succ, true_and, and_true, true_or, or_true, and_self, reduceIte, Nat.reduceEqDiff, Nat.reduceLT, Nat.reduceLeDiff, Nat.reduceMul, false_and, and_false, reduceCtorEq, false_or, or_false, not_true_eq_false, not_false_eq_true, true_implies, false_implies, implies_true, lf_10, eq_self, Int32.reduceLT, Int32.reduceLE, Int32.reduceAdd, Int32.reduceSub, pm_same, pm_i_wI, pm_l_wL, pm_l_wM, pm_oR_rf, pm_oQ_rf, sh_k59 hS, sh_r59_25 hS, sh_k80 hS, sh_z80 hS, sh_r59_27 hS, sh_k81 hS, sh_z81 hS, mst_w46, mst_w48, mst_w49, mst_46, mst_48, mst_49, mst_k, mst_z, mst_r, mst_n, mst_l, mst_R62, mst_R64, mst_R65, mst_R66, mst_R67, mst_R78, mst_R80, mst_R81, mst_F18, mst_F24, mst_F45, mst_F47, mst_F50, mst_F51, nI_1, LQ1, LQ2, LQ4, LQ1, LQ2, ms_k, ms_z, ms_r, ms_49, ms_w49, ms_R62, ms_R64, ms_R65, ms_R66, ms_R67, ms_R75, ms_R76, ms_R77, ms_R78, ms_R79, ms_R80, ms_R81, ms_R95, ms_R96, ms_R97, ms_F0, ms_F2, ms_F18, ms_F24, ms_F31, ms_F26, ms_F45, ms_F47, ms_F50, ms_F51, ms_F52, ms_F53, ms_F54, ms_F55, ms_F56, ms_F57, ms_F58, ms_F59, ms_F60, ms_F61, ms_F62, ms_F63, sh_r59_60 hS, sh_k95 hS, sh_z95 hS, sh_r59_61 hS, sh_k96 hS, sh_z96 hS, sh_r59_62 hS, sh_k97 hS, sh_z97 hS]
  refine ⟨by omega, mr_181 hS hm hp ?_⟩
  rw [← hms]
  try simp only [pm_WV, pm_WW, true_and, and_true, true_or, or_true, and_self, reduceIte, Nat.reduceEqDiff, Nat.reduceLT, Nat.reduceLeDiff, Nat.reduceMul, false_and, and_false, reduceCtorEq, false_or, or_false, not_true_eq_false, not_false_eq_true, true_implies, false_implies, implies_true, lf_10, eq_self, Int32.reduceLT, Int32.reduceLE, Int32.reduceAdd, Int32.reduceSub, pm_same, pm_i_wI, pm_l_wL, pm_l_wM, pm_oR_rf, pm_oQ_rf, sh_k59 hS, sh_r59_25 hS, sh_k80 hS, sh_z80 hS, sh_r59_27 hS, sh_k81 hS, sh_z81 hS, mst_w46, mst_w48, mst_w49, mst_46, mst_48, mst_49, mst_k, mst_z, mst_r, mst_n, mst_l, mst_R62, mst_R64, mst_R65, mst_R66, mst_R67, mst_R78, mst_R80, mst_R81, mst_F18, mst_F24, mst_F45, mst_F47, mst_F50, mst_F51, nI_1, LQ1, LQ2, LQ4, LQ1, LQ2, ms_k, ms_z, ms_r, ms_49, ms_w49, ms_R62, ms_R64, ms_R65, ms_R66, ms_R67, ms_R75, ms_R76, ms_R77, ms_R78, ms_R79, ms_R80, ms_R81, ms_R95, ms_R96, ms_R97, ms_F0, ms_F2, ms_F18, ms_F24, ms_F31, ms_F26, ms_F45, ms_F47, ms_F50, ms_F51, ms_F52, ms_F53, ms_F54, ms_F55, ms_F56, ms_F57, ms_F58, ms_F59, ms_F60, ms_F61, ms_F62, ms_F63, sh_r59_60 hS, sh_k95 hS, sh_z95 hS, sh_r59_61 hS, sh_k96 hS, sh_z96 hS, sh_r59_62 hS, sh_k97 hS, sh_z97 hS, pm_WI0, pm_WI1, pm_WI2, pm_WI3, pm_WI4, pm_WI5, pm_WV, pm_WW, pm_WX, pb_B180, pm_if, pm_QI_at, pm_QL_at, pm_QV_at, pm_QR_at, pm_QR_at0, pm_QR_at1, Nat.reduceSub, Nat.reduceAdd, List.replicate_zero, List.replicate_succ, es]
  have ec : gx_clause (gx_b f n) L p = gx_scale (gx_b f n) L p := by
    unfold gx_clause; rw [if_neg (by omega), if_neg (by omega), if_pos y]
  refine ⟨by omega, mr_183_scale ?_⟩
  try simp only [pm_WV, pm_WW, true_and, and_true, true_or, or_true, and_self, reduceIte, Nat.reduceEqDiff, Nat.reduceLT, Nat.reduceLeDiff, Nat.reduceMul, false_and, and_false, reduceCtorEq, false_or, or_false, not_true_eq_false, not_false_eq_true, true_implies, false_implies, implies_true, lf_10, eq_self, Int32.reduceLT, Int32.reduceLE, Int32.reduceAdd, Int32.reduceSub, pm_same, pm_i_wI, pm_l_wL, pm_l_wM, pm_oR_rf, pm_oQ_rf, sh_k59 hS, sh_r59_25 hS, sh_k80 hS, sh_z80 hS, sh_r59_27 hS, sh_k81 hS, sh_z81 hS, mst_w46, mst_w48, mst_w49, mst_46, mst_48, mst_49, mst_k, mst_z, mst_r, mst_n, mst_l, mst_R62, mst_R64, mst_R65, mst_R66, mst_R67, mst_R78, mst_R80, mst_R81, mst_F18, mst_F24, mst_F45, mst_F47, mst_F50, mst_F51, nI_1, LQ1, LQ2, LQ4, LQ1, LQ2, ms_k, ms_z, ms_r, ms_49, ms_w49, ms_R62, ms_R64, ms_R65, ms_R66, ms_R67, ms_R75, ms_R76, ms_R77, ms_R78, ms_R79, ms_R80, ms_R81, ms_R95, ms_R96, ms_R97, ms_F0, ms_F2, ms_F18, ms_F24, ms_F31, ms_F26, ms_F45, ms_F47, ms_F50, ms_F51, ms_F52, ms_F53, ms_F54, ms_F55, ms_F56, ms_F57, ms_F58, ms_F59, ms_F60, ms_F61, ms_F62, ms_F63, sh_r59_60 hS, sh_k95 hS, sh_z95 hS, sh_r59_61 hS, sh_k96 hS, sh_z96 hS, sh_r59_62 hS, sh_k97 hS, sh_z97 hS, pm_WI0, pm_WI1, pm_WI2, pm_WI3, pm_WI4, pm_WI5, pm_WV, pm_WW, pm_WX, pb_B180, pm_if, pm_QI_at, pm_QL_at, pm_QV_at, pm_QR_at, pm_QR_at0, pm_QR_at1, Nat.reduceSub, Nat.reduceAdd, List.replicate_zero, List.replicate_succ]
  refine ⟨by omega, mr_199 (by omega) hS hm (by show p ≤ n; exact hp) rfl wk_scale (by rw [wz_scale]; decide) ?_⟩
  rw [wz_scale]
  have hsc : gx_scale (gx_b f n) L p = gx_bd (gx_bd (gx_bd (gx_w (gx_b f n) [115, 99, 97, 108, 101] p) (fun _ p => gx_w (gx_b f n) [32] p)) (fun _ p => gx_num (gx_b f n) 0 4 p)) (fun v q => gx_bd (gx_w (gx_b f n) [32] q) (fun _ q => gx_bd (gx_num (gx_b f n) 1 4 q) (fun m q => (q, some (L.1, va_up (va_up L.2.1 12 v) 13 m, L.2.2))))) := by
    unfold gx_scale
    rw [show ([115, 99, 97, 108, 101, 32] : List Nat) = [115, 99, 97, 108, 101] ++ [32] from rfl, gx_w_app, gx_bd_assoc, gx_bd_assoc, gx_bd_assoc]
  rcases one_case (f := f) (fl := 12) (L := L) hp (ws := [115, 99, 97, 108, 101]) (by decide) with ⟨x, hx, e1, e2⟩ | ⟨v, x, e1, e2⟩
  · rw [e1, un_none, vo_none, ms_wf (by decide)]
    have e1' : gx_bd (gx_bd (gx_w (gx_b f n) [115, 99, 97, 108, 101] p) (fun _ p => gx_w (gx_b f n) [32] p)) (fun _ p => gx_num (gx_b f n) 0 4 p) = (x, none) := e1
    have hS2 : Sh (pm_wI S 59 55 0) := hS
    have hm2 := (hcx.fr (lfr.rf.w (S := S) (j := 55) (v := 0) (by omega) (by omega))).2.1
    try simp only [pm_WV, pm_WW, true_and, and_true, true_or, or_true, and_self, reduceIte, Nat.reduceEqDiff, Nat.reduceLT, Nat.reduceLeDiff, Nat.reduceMul, false_and, and_false, reduceCtorEq, false_or, or_false, not_true_eq_false, not_false_eq_true, true_implies, false_implies, implies_true, lf_10, eq_self, Int32.reduceLT, Int32.reduceLE, Int32.reduceAdd, Int32.reduceSub, pm_same, pm_i_wI, pm_l_wL, pm_l_wM, pm_oR_rf, pm_oQ_rf, sh_k59 hS, sh_r59_25 hS, sh_k80 hS, sh_z80 hS, sh_r59_27 hS, sh_k81 hS, sh_z81 hS, mst_w46, mst_w48, mst_w49, mst_46, mst_48, mst_49, mst_k, mst_z, mst_r, mst_n, mst_l, mst_R62, mst_R64, mst_R65, mst_R66, mst_R67, mst_R78, mst_R80, mst_R81, mst_F18, mst_F24, mst_F45, mst_F47, mst_F50, mst_F51, nI_1, LQ1, LQ2, LQ4, LQ1, LQ2, ms_k, ms_z, ms_r, ms_49, ms_w49, ms_R62, ms_R64, ms_R65, ms_R66, ms_R67, ms_R75, ms_R76, ms_R77, ms_R78, ms_R79, ms_R80, ms_R81, ms_R95, ms_R96, ms_R97, ms_F0, ms_F2, ms_F18, ms_F24, ms_F31, ms_F26, ms_F45, ms_F47, ms_F50, ms_F51, ms_F52, ms_F53, ms_F54, ms_F55, ms_F56, ms_F57, ms_F58, ms_F59, ms_F60, ms_F61, ms_F62, ms_F63, sh_r59_60 hS, sh_k95 hS, sh_z95 hS, sh_r59_61 hS, sh_k96 hS, sh_z96 hS, sh_r59_62 hS, sh_k97 hS, sh_z97 hS, pm_WI0, pm_WI1, pm_WI2, pm_WI3, pm_WI4, pm_WI5, pm_WV, pm_WW, pm_WX, pb_B180, pm_if, pm_QI_at, pm_QL_at, pm_QV_at, pm_QR_at, pm_QR_at0, pm_QR_at1, Nat.reduceSub, Nat.reduceAdd, List.replicate_zero, List.replicate_succ]
    refine ⟨by omega, mr_185 (c := 32) (by omega) hS2 hm2 hx (by omega) ?_⟩
    have er : gx_bd ((x, none) : gx_R Unit) (fun _ p => gx_w (gx_b f n) [32] p) = (x, none) := rfl
    rw [er]
    have hmx : ms (pm_wI S 59 55 0) 0 (x, none) = mst (pm_wI S 59 55 0) (nI x) (nI x) (nI 0) := rfl
    have fin : pm_W G d 180 (pm_QV q) 194 [.ref 59, .int 115, .float 0] [] (ms (pm_wI S 59 55 0) 0 (x, none)) 0 0 := by
      refine pm_wb_ok pb_c180 3 194 0 _ _ _ _ _ ?_
      try simp only [pm_WI0, pm_WI1, pm_WI2, pm_WI3, pm_WI4, pm_WI5, pm_WV, pm_WW, pm_WX, pb_B180, pm_if, pm_QI_at, pm_QL_at, pm_QV_at, pm_QR_at, pm_QR_at0, pm_QR_at1, Nat.reduceSub, Nat.reduceAdd, List.replicate_zero, List.replicate_succ, true_and, and_true, true_or, or_true, and_self, reduceIte, Nat.reduceEqDiff, Nat.reduceLT, Nat.reduceLeDiff, Nat.reduceMul, false_and, and_false, reduceCtorEq, false_or, or_false, not_true_eq_false, not_false_eq_true, true_implies, false_implies, implies_true, lf_10, eq_self, Int32.reduceLT, Int32.reduceLE, Int32.reduceAdd, Int32.reduceSub, pm_same, pm_i_wI, pm_l_wL, pm_l_wM, pm_oR_rf, pm_oQ_rf, sh_k59 hS, sh_r59_25 hS, sh_k80 hS, sh_z80 hS, sh_r59_27 hS, sh_k81 hS, sh_z81 hS, mst_w46, mst_w48, mst_w49, mst_46, mst_48, mst_49, mst_k, mst_z, mst_r, mst_n, mst_l, mst_R62, mst_R64, mst_R65, mst_R66, mst_R67, mst_R78, mst_R80, mst_R81, mst_F18, mst_F24, mst_F45, mst_F47, mst_F50, mst_F51, nI_1, LQ1, LQ2, LQ4, LQ1, LQ2, ms_k, ms_z, ms_r, ms_49, ms_w49, ms_R62, ms_R64, ms_R65, ms_R66, ms_R67, ms_R75, ms_R76, ms_R77, ms_R78, ms_R79, ms_R80, ms_R81, ms_R95, ms_R96, ms_R97, ms_F0, ms_F2, ms_F18, ms_F24, ms_F31, ms_F26, ms_F45, ms_F47, ms_F50, ms_F51, ms_F52, ms_F53, ms_F54, ms_F55, ms_F56, ms_F57, ms_F58, ms_F59, ms_F60, ms_F61, ms_F62, ms_F63, sh_r59_60 hS, sh_k95 hS, sh_z95 hS, sh_r59_61 hS, sh_k96 hS, sh_z96 hS, sh_r59_62 hS, sh_k97 hS, sh_z97 hS]
      refine ⟨by omega, mr_189 (r := (x, none)) (most := 4) (by omega) hS2 hm2 hx (by omega) (by omega) ?_⟩
      have er2 : gx_bd ((x, none) : gx_R Unit) (fun _ p => gx_num (gx_b f n) 0 4 p) = (x, none) := rfl
      rw [er2, un_none, vo_none]
      try simp only [pm_WV, pm_WW, true_and, and_true, true_or, or_true, and_self, reduceIte, Nat.reduceEqDiff, Nat.reduceLT, Nat.reduceLeDiff, Nat.reduceMul, false_and, and_false, reduceCtorEq, false_or, or_false, not_true_eq_false, not_false_eq_true, true_implies, false_implies, implies_true, lf_10, eq_self, Int32.reduceLT, Int32.reduceLE, Int32.reduceAdd, Int32.reduceSub, pm_same, pm_i_wI, pm_l_wL, pm_l_wM, pm_oR_rf, pm_oQ_rf, sh_k59 hS, sh_r59_25 hS, sh_k80 hS, sh_z80 hS, sh_r59_27 hS, sh_k81 hS, sh_z81 hS, mst_w46, mst_w48, mst_w49, mst_46, mst_48, mst_49, mst_k, mst_z, mst_r, mst_n, mst_l, mst_R62, mst_R64, mst_R65, mst_R66, mst_R67, mst_R78, mst_R80, mst_R81, mst_F18, mst_F24, mst_F45, mst_F47, mst_F50, mst_F51, nI_1, LQ1, LQ2, LQ4, LQ1, LQ2, ms_k, ms_z, ms_r, ms_49, ms_w49, ms_R62, ms_R64, ms_R65, ms_R66, ms_R67, ms_R75, ms_R76, ms_R77, ms_R78, ms_R79, ms_R80, ms_R81, ms_R95, ms_R96, ms_R97, ms_F0, ms_F2, ms_F18, ms_F24, ms_F31, ms_F26, ms_F45, ms_F47, ms_F50, ms_F51, ms_F52, ms_F53, ms_F54, ms_F55, ms_F56, ms_F57, ms_F58, ms_F59, ms_F60, ms_F61, ms_F62, ms_F63, sh_r59_60 hS, sh_k95 hS, sh_z95 hS, sh_r59_61 hS, sh_k96 hS, sh_z96 hS, sh_r59_62 hS, sh_k97 hS, sh_z97 hS, pm_WI0, pm_WI1, pm_WI2, pm_WI3, pm_WI4, pm_WI5, pm_WV, pm_WW, pm_WX, pb_B180, pm_if, pm_QI_at, pm_QL_at, pm_QV_at, pm_QR_at, pm_QR_at0, pm_QR_at1, Nat.reduceSub, Nat.reduceAdd, List.replicate_zero, List.replicate_succ]
      rw [ms_wf (by decide)]
      exact h0 x _ (by rw [ec, hsc, e1']; rfl) ((lfr.rf.w (by omega) (by omega)).w (by omega) (by omega))
    rw [hmx]
    try simp only [pm_WV, pm_WW, true_and, and_true, true_or, or_true, and_self, reduceIte, Nat.reduceEqDiff, Nat.reduceLT, Nat.reduceLeDiff, Nat.reduceMul, false_and, and_false, reduceCtorEq, false_or, or_false, not_true_eq_false, not_false_eq_true, true_implies, false_implies, implies_true, lf_10, eq_self, Int32.reduceLT, Int32.reduceLE, Int32.reduceAdd, Int32.reduceSub, pm_same, pm_i_wI, pm_l_wL, pm_l_wM, pm_oR_rf, pm_oQ_rf, sh_k59 hS, sh_r59_25 hS, sh_k80 hS, sh_z80 hS, sh_r59_27 hS, sh_k81 hS, sh_z81 hS, mst_w46, mst_w48, mst_w49, mst_46, mst_48, mst_49, mst_k, mst_z, mst_r, mst_n, mst_l, mst_R62, mst_R64, mst_R65, mst_R66, mst_R67, mst_R78, mst_R80, mst_R81, mst_F18, mst_F24, mst_F45, mst_F47, mst_F50, mst_F51, nI_1, LQ1, LQ2, LQ4, LQ1, LQ2, ms_k, ms_z, ms_r, ms_49, ms_w49, ms_R62, ms_R64, ms_R65, ms_R66, ms_R67, ms_R75, ms_R76, ms_R77, ms_R78, ms_R79, ms_R80, ms_R81, ms_R95, ms_R96, ms_R97, ms_F0, ms_F2, ms_F18, ms_F24, ms_F31, ms_F26, ms_F45, ms_F47, ms_F50, ms_F51, ms_F52, ms_F53, ms_F54, ms_F55, ms_F56, ms_F57, ms_F58, ms_F59, ms_F60, ms_F61, ms_F62, ms_F63, sh_r59_60 hS, sh_k95 hS, sh_z95 hS, sh_r59_61 hS, sh_k96 hS, sh_z96 hS, sh_r59_62 hS, sh_k97 hS, sh_z97 hS, pm_WI0, pm_WI1, pm_WI2, pm_WI3, pm_WI4, pm_WI5, pm_WV, pm_WW, pm_WX, pb_B180, pm_if, pm_QI_at, pm_QL_at, pm_QV_at, pm_QR_at, pm_QR_at0, pm_QR_at1, Nat.reduceSub, Nat.reduceAdd, List.replicate_zero, List.replicate_succ]
    refine ⟨by omega, mr_181 hS2 hm2 hx ⟨fun _ => ⟨by omega, mr_187f hS2 (by omega) ?_⟩, fun _ => ?_⟩⟩
    · exact pv_W fin (by simp [pv_le, pm_unk])
    · exact pv_W fin (by simp [pv_le, pm_unk])
  · have hv4 : gx_num (gx_b f n) 0 4 p = gx_num (gx_b f n) 0 4 p := rfl
    rw [e1, un_some, vo_some, ms_wf (by decide)]
    have e1' : gx_bd (gx_bd (gx_w (gx_b f n) [115, 99, 97, 108, 101] p) (fun _ p => gx_w (gx_b f n) [32] p)) (fun _ p => gx_num (gx_b f n) 0 4 p) = (x, some v) := e1
    have hx : x ≤ n := by
      have r1 := gx_bd_w_le (f := f) (n := n) (r := (p, some ())) (l := [115, 99, 97, 108, 101]) hp (by decide)
      have r2 := gx_bd_w_le (f := f) (l := [32]) r1 (by decide)
      have r3 := gx_bd_num_le (f := f) (least := 0) (most := 4) (by omega) r2
      rw [e1] at r3; exact r3
    have hS2 : Sh (pm_wI S 59 55 (nI v)) := hS
    have hm2 := (hcx.fr (lfr.rf.w (S := S) (j := 55) (v := nI v) (by omega) (by omega))).2.1
    have hl2 : mlr (pm_wI S 59 55 (nI v)) t (L.1, va_up L.2.1 12 v, L.2.2) := hmlr.num (by omega) (by omega) (by omega)
    have eall : gx_clause (gx_b f n) L p = gx_bd (gx_w (gx_b f n) [32] x) (fun _ q => gx_bd (gx_num (gx_b f n) 1 4 q) (fun m q => (q, some (L.1, va_up (va_up L.2.1 12 v) 13 m, L.2.2)))) := by rw [ec, hsc, e1']; rfl
    try simp only [pm_WV, pm_WW, true_and, and_true, true_or, or_true, and_self, reduceIte, Nat.reduceEqDiff, Nat.reduceLT, Nat.reduceLeDiff, Nat.reduceMul, false_and, and_false, reduceCtorEq, false_or, or_false, not_true_eq_false, not_false_eq_true, true_implies, false_implies, implies_true, lf_10, eq_self, Int32.reduceLT, Int32.reduceLE, Int32.reduceAdd, Int32.reduceSub, pm_same, pm_i_wI, pm_l_wL, pm_l_wM, pm_oR_rf, pm_oQ_rf, sh_k59 hS, sh_r59_25 hS, sh_k80 hS, sh_z80 hS, sh_r59_27 hS, sh_k81 hS, sh_z81 hS, mst_w46, mst_w48, mst_w49, mst_46, mst_48, mst_49, mst_k, mst_z, mst_r, mst_n, mst_l, mst_R62, mst_R64, mst_R65, mst_R66, mst_R67, mst_R78, mst_R80, mst_R81, mst_F18, mst_F24, mst_F45, mst_F47, mst_F50, mst_F51, nI_1, LQ1, LQ2, LQ4, LQ1, LQ2, ms_k, ms_z, ms_r, ms_49, ms_w49, ms_R62, ms_R64, ms_R65, ms_R66, ms_R67, ms_R75, ms_R76, ms_R77, ms_R78, ms_R79, ms_R80, ms_R81, ms_R95, ms_R96, ms_R97, ms_F0, ms_F2, ms_F18, ms_F24, ms_F31, ms_F26, ms_F45, ms_F47, ms_F50, ms_F51, ms_F52, ms_F53, ms_F54, ms_F55, ms_F56, ms_F57, ms_F58, ms_F59, ms_F60, ms_F61, ms_F62, ms_F63, sh_r59_60 hS, sh_k95 hS, sh_z95 hS, sh_r59_61 hS, sh_k96 hS, sh_z96 hS, sh_r59_62 hS, sh_k97 hS, sh_z97 hS, pm_WI0, pm_WI1, pm_WI2, pm_WI3, pm_WI4, pm_WI5, pm_WV, pm_WW, pm_WX, pb_B180, pm_if, pm_QI_at, pm_QL_at, pm_QV_at, pm_QR_at, pm_QR_at0, pm_QR_at1, Nat.reduceSub, Nat.reduceAdd, List.replicate_zero, List.replicate_succ]
    refine ⟨by omega, mr_185 (c := 32) (by omega) hS2 hm2 hx (by omega) ?_⟩
    have er : gx_bd ((x, some ()) : gx_R Unit) (fun _ p => gx_w (gx_b f n) [32] p) = gx_w (gx_b f n) [32] x := rfl
    rw [er]
    have ff : ∀ z, z ≤ n → gx_clause (gx_b f n) L p = (z, none) → pm_W G d 180 (pm_QV q) 194 [.ref 59, .int 115, .float 0] [] (ms (pm_wI S 59 55 (nI v)) 0 (z, none)) 0 0 := by
      intro z hz ez
      refine pm_wb_ok pb_c180 3 194 0 _ _ _ _ _ ?_
      try simp only [pm_WI0, pm_WI1, pm_WI2, pm_WI3, pm_WI4, pm_WI5, pm_WV, pm_WW, pm_WX, pb_B180, pm_if, pm_QI_at, pm_QL_at, pm_QV_at, pm_QR_at, pm_QR_at0, pm_QR_at1, Nat.reduceSub, Nat.reduceAdd, List.replicate_zero, List.replicate_succ, true_and, and_true, true_or, or_true, and_self, reduceIte, Nat.reduceEqDiff, Nat.reduceLT, Nat.reduceLeDiff, Nat.reduceMul, false_and, and_false, reduceCtorEq, false_or, or_false, not_true_eq_false, not_false_eq_true, true_implies, false_implies, implies_true, lf_10, eq_self, Int32.reduceLT, Int32.reduceLE, Int32.reduceAdd, Int32.reduceSub, pm_same, pm_i_wI, pm_l_wL, pm_l_wM, pm_oR_rf, pm_oQ_rf, sh_k59 hS, sh_r59_25 hS, sh_k80 hS, sh_z80 hS, sh_r59_27 hS, sh_k81 hS, sh_z81 hS, mst_w46, mst_w48, mst_w49, mst_46, mst_48, mst_49, mst_k, mst_z, mst_r, mst_n, mst_l, mst_R62, mst_R64, mst_R65, mst_R66, mst_R67, mst_R78, mst_R80, mst_R81, mst_F18, mst_F24, mst_F45, mst_F47, mst_F50, mst_F51, nI_1, LQ1, LQ2, LQ4, LQ1, LQ2, ms_k, ms_z, ms_r, ms_49, ms_w49, ms_R62, ms_R64, ms_R65, ms_R66, ms_R67, ms_R75, ms_R76, ms_R77, ms_R78, ms_R79, ms_R80, ms_R81, ms_R95, ms_R96, ms_R97, ms_F0, ms_F2, ms_F18, ms_F24, ms_F31, ms_F26, ms_F45, ms_F47, ms_F50, ms_F51, ms_F52, ms_F53, ms_F54, ms_F55, ms_F56, ms_F57, ms_F58, ms_F59, ms_F60, ms_F61, ms_F62, ms_F63, sh_r59_60 hS, sh_k95 hS, sh_z95 hS, sh_r59_61 hS, sh_k96 hS, sh_z96 hS, sh_r59_62 hS, sh_k97 hS, sh_z97 hS]
      refine ⟨by omega, mr_189 (r := (z, none)) (most := 4) (by omega) hS2 hm2 hz (by omega) (by omega) ?_⟩
      have er2 : gx_bd ((z, none) : gx_R Unit) (fun _ p => gx_num (gx_b f n) 0 4 p) = (z, none) := rfl
      rw [er2, un_none, vo_none]
      try simp only [pm_WV, pm_WW, true_and, and_true, true_or, or_true, and_self, reduceIte, Nat.reduceEqDiff, Nat.reduceLT, Nat.reduceLeDiff, Nat.reduceMul, false_and, and_false, reduceCtorEq, false_or, or_false, not_true_eq_false, not_false_eq_true, true_implies, false_implies, implies_true, lf_10, eq_self, Int32.reduceLT, Int32.reduceLE, Int32.reduceAdd, Int32.reduceSub, pm_same, pm_i_wI, pm_l_wL, pm_l_wM, pm_oR_rf, pm_oQ_rf, sh_k59 hS, sh_r59_25 hS, sh_k80 hS, sh_z80 hS, sh_r59_27 hS, sh_k81 hS, sh_z81 hS, mst_w46, mst_w48, mst_w49, mst_46, mst_48, mst_49, mst_k, mst_z, mst_r, mst_n, mst_l, mst_R62, mst_R64, mst_R65, mst_R66, mst_R67, mst_R78, mst_R80, mst_R81, mst_F18, mst_F24, mst_F45, mst_F47, mst_F50, mst_F51, nI_1, LQ1, LQ2, LQ4, LQ1, LQ2, ms_k, ms_z, ms_r, ms_49, ms_w49, ms_R62, ms_R64, ms_R65, ms_R66, ms_R67, ms_R75, ms_R76, ms_R77, ms_R78, ms_R79, ms_R80, ms_R81, ms_R95, ms_R96, ms_R97, ms_F0, ms_F2, ms_F18, ms_F24, ms_F31, ms_F26, ms_F45, ms_F47, ms_F50, ms_F51, ms_F52, ms_F53, ms_F54, ms_F55, ms_F56, ms_F57, ms_F58, ms_F59, ms_F60, ms_F61, ms_F62, ms_F63, sh_r59_60 hS, sh_k95 hS, sh_z95 hS, sh_r59_61 hS, sh_k96 hS, sh_z96 hS, sh_r59_62 hS, sh_k97 hS, sh_z97 hS, pm_WI0, pm_WI1, pm_WI2, pm_WI3, pm_WI4, pm_WI5, pm_WV, pm_WW, pm_WX, pb_B180, pm_if, pm_QI_at, pm_QL_at, pm_QV_at, pm_QR_at, pm_QR_at0, pm_QR_at1, Nat.reduceSub, Nat.reduceAdd, List.replicate_zero, List.replicate_succ]
      rw [ms_wf (by decide)]
      exact h0 z _ ez ((lfr.rf.w (by omega) (by omega)).w (by omega) (by omega))
    rcases gx_two (gx_w (gx_b f n) [32] x) with ⟨z, ez⟩ | ⟨z, u, ez⟩
    · have hz := (gx_w_ok gx_b_eof hx (by decide) ez).2
      rw [gx_bd_none ez] at eall
      rw [ez]
      have hmx : ms (pm_wI S 59 55 (nI v)) 0 (z, none) = mst (pm_wI S 59 55 (nI v)) (nI z) (nI z) (nI 0) := rfl
      have fin := ff z hz eall
      rw [hmx] at fin ⊢
      try simp only [pm_WV, pm_WW, true_and, and_true, true_or, or_true, and_self, reduceIte, Nat.reduceEqDiff, Nat.reduceLT, Nat.reduceLeDiff, Nat.reduceMul, false_and, and_false, reduceCtorEq, false_or, or_false, not_true_eq_false, not_false_eq_true, true_implies, false_implies, implies_true, lf_10, eq_self, Int32.reduceLT, Int32.reduceLE, Int32.reduceAdd, Int32.reduceSub, pm_same, pm_i_wI, pm_l_wL, pm_l_wM, pm_oR_rf, pm_oQ_rf, sh_k59 hS, sh_r59_25 hS, sh_k80 hS, sh_z80 hS, sh_r59_27 hS, sh_k81 hS, sh_z81 hS, mst_w46, mst_w48, mst_w49, mst_46, mst_48, mst_49, mst_k, mst_z, mst_r, mst_n, mst_l, mst_R62, mst_R64, mst_R65, mst_R66, mst_R67, mst_R78, mst_R80, mst_R81, mst_F18, mst_F24, mst_F45, mst_F47, mst_F50, mst_F51, nI_1, LQ1, LQ2, LQ4, LQ1, LQ2, ms_k, ms_z, ms_r, ms_49, ms_w49, ms_R62, ms_R64, ms_R65, ms_R66, ms_R67, ms_R75, ms_R76, ms_R77, ms_R78, ms_R79, ms_R80, ms_R81, ms_R95, ms_R96, ms_R97, ms_F0, ms_F2, ms_F18, ms_F24, ms_F31, ms_F26, ms_F45, ms_F47, ms_F50, ms_F51, ms_F52, ms_F53, ms_F54, ms_F55, ms_F56, ms_F57, ms_F58, ms_F59, ms_F60, ms_F61, ms_F62, ms_F63, sh_r59_60 hS, sh_k95 hS, sh_z95 hS, sh_r59_61 hS, sh_k96 hS, sh_z96 hS, sh_r59_62 hS, sh_k97 hS, sh_z97 hS, pm_WI0, pm_WI1, pm_WI2, pm_WI3, pm_WI4, pm_WI5, pm_WV, pm_WW, pm_WX, pb_B180, pm_if, pm_QI_at, pm_QL_at, pm_QV_at, pm_QR_at, pm_QR_at0, pm_QR_at1, Nat.reduceSub, Nat.reduceAdd, List.replicate_zero, List.replicate_succ]
      refine ⟨by omega, mr_181 hS2 hm2 hz ⟨fun _ => ⟨by omega, mr_187f hS2 (by omega) ?_⟩, fun _ => ?_⟩⟩
      · exact pv_W fin (by simp [pv_le, pm_unk])
      · exact pv_W fin (by simp [pv_le, pm_unk])
    · have hz := (gx_w_ok gx_b_eof hx (by decide) ez).2
      rw [gx_bd_some ez] at eall
      rw [ez]
      have hmx : ms (pm_wI S 59 55 (nI v)) 0 (z, some u) = mst (pm_wI S 59 55 (nI v)) (nI z) (-1) (nI 0) := rfl
      rw [hmx]
      try simp only [pm_WV, pm_WW, true_and, and_true, true_or, or_true, and_self, reduceIte, Nat.reduceEqDiff, Nat.reduceLT, Nat.reduceLeDiff, Nat.reduceMul, false_and, and_false, reduceCtorEq, false_or, or_false, not_true_eq_false, not_false_eq_true, true_implies, false_implies, implies_true, lf_10, eq_self, Int32.reduceLT, Int32.reduceLE, Int32.reduceAdd, Int32.reduceSub, pm_same, pm_i_wI, pm_l_wL, pm_l_wM, pm_oR_rf, pm_oQ_rf, sh_k59 hS, sh_r59_25 hS, sh_k80 hS, sh_z80 hS, sh_r59_27 hS, sh_k81 hS, sh_z81 hS, mst_w46, mst_w48, mst_w49, mst_46, mst_48, mst_49, mst_k, mst_z, mst_r, mst_n, mst_l, mst_R62, mst_R64, mst_R65, mst_R66, mst_R67, mst_R78, mst_R80, mst_R81, mst_F18, mst_F24, mst_F45, mst_F47, mst_F50, mst_F51, nI_1, LQ1, LQ2, LQ4, LQ1, LQ2, ms_k, ms_z, ms_r, ms_49, ms_w49, ms_R62, ms_R64, ms_R65, ms_R66, ms_R67, ms_R75, ms_R76, ms_R77, ms_R78, ms_R79, ms_R80, ms_R81, ms_R95, ms_R96, ms_R97, ms_F0, ms_F2, ms_F18, ms_F24, ms_F31, ms_F26, ms_F45, ms_F47, ms_F50, ms_F51, ms_F52, ms_F53, ms_F54, ms_F55, ms_F56, ms_F57, ms_F58, ms_F59, ms_F60, ms_F61, ms_F62, ms_F63, sh_r59_60 hS, sh_k95 hS, sh_z95 hS, sh_r59_61 hS, sh_k96 hS, sh_z96 hS, sh_r59_62 hS, sh_k97 hS, sh_z97 hS, pm_WI0, pm_WI1, pm_WI2, pm_WI3, pm_WI4, pm_WI5, pm_WV, pm_WW, pm_WX, pb_B180, pm_if, pm_QI_at, pm_QL_at, pm_QV_at, pm_QR_at, pm_QR_at0, pm_QR_at1, Nat.reduceSub, Nat.reduceAdd, List.replicate_zero, List.replicate_succ]
      refine ⟨by omega, mr_181 hS2 hm2 hz ⟨fun y0 => ⟨by omega, mr_187l hS2 ?_⟩, fun y0 => ?_⟩⟩
      · have y0' := (sg_nc hm (c := 48) (by omega)).mp y0
        have eall2 : gx_clause (gx_b f n) L p = (z, none) := by rw [eall, gx_bd_none (gx_num_none (by omega))]
        exact pv_W (ff z hz eall2) (by simp [pv_le, pm_unk])
      · have y0' : ¬ gx_b f n z = 48 := fun e => y0 ((sg_nc hm (c := 48) (by omega)).mpr e)
        have en : ∀ (g : Nat → Nat → gx_R gx_L), gx_bd (gx_num (gx_b f n) 1 4 z) g = gx_bd (gx_num (gx_b f n) 0 4 z) g := fun g => by
          by_cases hb : 48 + 1 ≤ gx_b f n z ∧ gx_b f n z ≤ 57
          · rw [gx_num_some hb, gx_num_some (least := 0) (by omega)]
          · rw [gx_num_none hb, gx_num_none (least := 0) (by omega)]
        rw [en] at eall
        refine pm_wb_ok pb_c180 3 194 0 _ _ _ _ _ ?_
        try simp only [pm_WI0, pm_WI1, pm_WI2, pm_WI3, pm_WI4, pm_WI5, pm_WV, pm_WW, pm_WX, pb_B180, pm_if, pm_QI_at, pm_QL_at, pm_QV_at, pm_QR_at, pm_QR_at0, pm_QR_at1, Nat.reduceSub, Nat.reduceAdd, List.replicate_zero, List.replicate_succ, true_and, and_true, true_or, or_true, and_self, reduceIte, Nat.reduceEqDiff, Nat.reduceLT, Nat.reduceLeDiff, Nat.reduceMul, false_and, and_false, reduceCtorEq, false_or, or_false, not_true_eq_false, not_false_eq_true, true_implies, false_implies, implies_true, lf_10, eq_self, Int32.reduceLT, Int32.reduceLE, Int32.reduceAdd, Int32.reduceSub, pm_same, pm_i_wI, pm_l_wL, pm_l_wM, pm_oR_rf, pm_oQ_rf, sh_k59 hS, sh_r59_25 hS, sh_k80 hS, sh_z80 hS, sh_r59_27 hS, sh_k81 hS, sh_z81 hS, mst_w46, mst_w48, mst_w49, mst_46, mst_48, mst_49, mst_k, mst_z, mst_r, mst_n, mst_l, mst_R62, mst_R64, mst_R65, mst_R66, mst_R67, mst_R78, mst_R80, mst_R81, mst_F18, mst_F24, mst_F45, mst_F47, mst_F50, mst_F51, nI_1, LQ1, LQ2, LQ4, LQ1, LQ2, ms_k, ms_z, ms_r, ms_49, ms_w49, ms_R62, ms_R64, ms_R65, ms_R66, ms_R67, ms_R75, ms_R76, ms_R77, ms_R78, ms_R79, ms_R80, ms_R81, ms_R95, ms_R96, ms_R97, ms_F0, ms_F2, ms_F18, ms_F24, ms_F31, ms_F26, ms_F45, ms_F47, ms_F50, ms_F51, ms_F52, ms_F53, ms_F54, ms_F55, ms_F56, ms_F57, ms_F58, ms_F59, ms_F60, ms_F61, ms_F62, ms_F63, sh_r59_60 hS, sh_k95 hS, sh_z95 hS, sh_r59_61 hS, sh_k96 hS, sh_z96 hS, sh_r59_62 hS, sh_k97 hS, sh_z97 hS]
        refine ⟨by omega, mr_189 (S := pm_wI S 59 55 (nI v)) (o := 0) (r := (z, some ())) (most := 4) (by omega) hS2 hm2 hz (by omega) (by omega) ?_⟩
        have er2 : gx_bd ((z, some ()) : gx_R Unit) (fun _ p => gx_num (gx_b f n) 0 4 p) = gx_num (gx_b f n) 0 4 z := rfl
        rw [er2]
        try simp only [pm_WV, pm_WW, true_and, and_true, true_or, or_true, and_self, reduceIte, Nat.reduceEqDiff, Nat.reduceLT, Nat.reduceLeDiff, Nat.reduceMul, false_and, and_false, reduceCtorEq, false_or, or_false, not_true_eq_false, not_false_eq_true, true_implies, false_implies, implies_true, lf_10, eq_self, Int32.reduceLT, Int32.reduceLE, Int32.reduceAdd, Int32.reduceSub, pm_same, pm_i_wI, pm_l_wL, pm_l_wM, pm_oR_rf, pm_oQ_rf, sh_k59 hS, sh_r59_25 hS, sh_k80 hS, sh_z80 hS, sh_r59_27 hS, sh_k81 hS, sh_z81 hS, mst_w46, mst_w48, mst_w49, mst_46, mst_48, mst_49, mst_k, mst_z, mst_r, mst_n, mst_l, mst_R62, mst_R64, mst_R65, mst_R66, mst_R67, mst_R78, mst_R80, mst_R81, mst_F18, mst_F24, mst_F45, mst_F47, mst_F50, mst_F51, nI_1, LQ1, LQ2, LQ4, LQ1, LQ2, ms_k, ms_z, ms_r, ms_49, ms_w49, ms_R62, ms_R64, ms_R65, ms_R66, ms_R67, ms_R75, ms_R76, ms_R77, ms_R78, ms_R79, ms_R80, ms_R81, ms_R95, ms_R96, ms_R97, ms_F0, ms_F2, ms_F18, ms_F24, ms_F31, ms_F26, ms_F45, ms_F47, ms_F50, ms_F51, ms_F52, ms_F53, ms_F54, ms_F55, ms_F56, ms_F57, ms_F58, ms_F59, ms_F60, ms_F61, ms_F62, ms_F63, sh_r59_60 hS, sh_k95 hS, sh_z95 hS, sh_r59_61 hS, sh_k96 hS, sh_z96 hS, sh_r59_62 hS, sh_k97 hS, sh_z97 hS, pm_WI0, pm_WI1, pm_WI2, pm_WI3, pm_WI4, pm_WI5, pm_WV, pm_WW, pm_WX, pb_B180, pm_if, pm_QI_at, pm_QL_at, pm_QV_at, pm_QR_at, pm_QR_at0, pm_QR_at1, Nat.reduceSub, Nat.reduceAdd, List.replicate_zero, List.replicate_succ]
        rcases gx_two (gx_num (gx_b f n) 0 4 z) with ⟨z2, ez2⟩ | ⟨z2, m, ez2⟩
        · rw [gx_bd_none ez2] at eall
          rw [ez2, un_none, vo_none, ms_wf (by decide)]
          exact h0 z2 _ eall ((lfr.rf.w (by omega) (by omega)).w (by omega) (by omega))
        · rw [gx_bd_some ez2] at eall
          rw [ez2, un_some, vo_some, ms_wf (by decide)]
          exact h1 z2 _ _ eall ((lfr.rf.w (by omega) (by omega)).w (by omega) (by omega)) (hl2.num (by omega) (by omega) (by omega))
theorem mr_180_r {G : pm_G} {d : Nat} {S : pm_S} {f : Nat → Int32} {n : Nat} {t : Nat → Bool} {L : gx_L} {c p0 p : Nat} {q : pm_S → Prop} (hd : 29 ≤ d) (hcx : cx S f n t) (hw : gx_wf t L c p0) (hmlr : mlr S t L) (hc : c < 10) (hpp : p0 ≤ p) (hp : p ≤ n) (y : gx_b f n p = 114) (h1 : ∀ x L' T, gx_clause (gx_b f n) L p = (x, some L') → lfr S T → mlr T t L' → q (ms T 0 (x, some ()))) (h0 : ∀ x T, gx_clause (gx_b f n) L p = (x, none) → lfr S T → q (ms T 0 (x, none))) : pm_CV G d 180 [.ref 59] (ms S 0 (p, some ())) q := by
  obtain ⟨hS, hm, h18, h24, h24b, ht⟩ := id hcx
  have hn := hm.2.1
  have hpn : p < n := gx_lt gx_b_eof y (by omega)
  have hp1 : p + 1 ≤ n := hpn
  have es : sg (gx_b f n p) = 114 := by rw [y]; rfl
  have hms : ms S 0 (p, some ()) = mst S (nI p) (-1) (nI 0) := rfl
  rw [hms]
  refine pm_goV 180 9 pb_c180 (by decide) (Nat.le_of_ble_eq_true rfl) rfl ?_
  try simp only [show pm_mL 180 = 3 from rfl, pm_WI0, pm_WI1, pm_WI2, pm_WI3, pm_WI4, pm_WI5, pm_WV, pm_WW, pm_WX, pb_B180, pm_if, pm_QI_at, pm_QL_at, pm_QV_at, pm_QR_at, pm_QR_at0, pm_QR_at1, Nat.reduceSub, Nat.reduceAdd, List.replicate_zero, List.replicate_succ, true_and, and_true, true_or, or_true, and_self, reduceIte, Nat.reduceEqDiff, Nat.reduceLT, Nat.reduceLeDiff, Nat.reduceMul, false_and, and_false, reduceCtorEq, false_or, or_false, not_true_eq_false, not_false_eq_true, true_implies, false_implies, implies_true, lf_10, eq_self, Int32.reduceLT, Int32.reduceLE, Int32.reduceAdd, Int32.reduceSub, pm_same, pm_i_wI, pm_l_wL, pm_l_wM, pm_oR_rf, pm_oQ_rf, sh_k59 hS, sh_r59_25 hS, sh_k80 hS, sh_z80 hS, sh_r59_27 hS, sh_k81 hS, sh_z81 hS, mst_w46, mst_w48, mst_w49, mst_46, mst_48, mst_49, mst_k, mst_z, mst_r, mst_n, mst_l, mst_R62, mst_R64, mst_R65, mst_R66, mst_R67, mst_R78, mst_R80, mst_R81, mst_F18, mst_F24, mst_F45, mst_F47, mst_F50, mst_F51, nI_1, LQ1, LQ2, LQ4, LQ1, LQ2, ms_k, ms_z, ms_r, ms_49, ms_w49, ms_R62, ms_R64, ms_R65, ms_R66, ms_R67, ms_R75, ms_R76, ms_R77, ms_R78, ms_R79, ms_R80, ms_R81, ms_R95, ms_R96, ms_R97, ms_F0, ms_F2, ms_F18, ms_F24, ms_F31, ms_F26, ms_F45, ms_F47, ms_F50, ms_F51, ms_F52, ms_F53, ms_F54, ms_F55, ms_F56, ms_F57, ms_F58, ms_F59, ms_F60, ms_F61, ms_F62, ms_F63, sh_r59_60 hS, sh_k95 hS, sh_z95 hS, sh_r59_61 hS, sh_k96 hS, sh_z96 hS, sh_r59_62 hS, sh_k97 hS, sh_z97 hS]
  refine ⟨by omega, mr_181 hS hm hp ?_⟩
  try simp only [pm_WV, pm_WW, true_and, and_true, true_or, or_true, and_self, reduceIte, Nat.reduceEqDiff, Nat.reduceLT, Nat.reduceLeDiff, Nat.reduceMul, false_and, and_false, reduceCtorEq, false_or, or_false, not_true_eq_false, not_false_eq_true, true_implies, false_implies, implies_true, lf_10, eq_self, Int32.reduceLT, Int32.reduceLE, Int32.reduceAdd, Int32.reduceSub, pm_same, pm_i_wI, pm_l_wL, pm_l_wM, pm_oR_rf, pm_oQ_rf, sh_k59 hS, sh_r59_25 hS, sh_k80 hS, sh_z80 hS, sh_r59_27 hS, sh_k81 hS, sh_z81 hS, mst_w46, mst_w48, mst_w49, mst_46, mst_48, mst_49, mst_k, mst_z, mst_r, mst_n, mst_l, mst_R62, mst_R64, mst_R65, mst_R66, mst_R67, mst_R78, mst_R80, mst_R81, mst_F18, mst_F24, mst_F45, mst_F47, mst_F50, mst_F51, nI_1, LQ1, LQ2, LQ4, LQ1, LQ2, ms_k, ms_z, ms_r, ms_49, ms_w49, ms_R62, ms_R64, ms_R65, ms_R66, ms_R67, ms_R75, ms_R76, ms_R77, ms_R78, ms_R79, ms_R80, ms_R81, ms_R95, ms_R96, ms_R97, ms_F0, ms_F2, ms_F18, ms_F24, ms_F31, ms_F26, ms_F45, ms_F47, ms_F50, ms_F51, ms_F52, ms_F53, ms_F54, ms_F55, ms_F56, ms_F57, ms_F58, ms_F59, ms_F60, ms_F61, ms_F62, ms_F63, sh_r59_60 hS, sh_k95 hS, sh_z95 hS, sh_r59_61 hS, sh_k96 hS, sh_z96 hS, sh_r59_62 hS, sh_k97 hS, sh_z97 hS, pm_WI0, pm_WI1, pm_WI2, pm_WI3, pm_WI4, pm_WI5, pm_WV, pm_WW, pm_WX, pb_B180, pm_if, pm_QI_at, pm_QL_at, pm_QV_at, pm_QR_at, pm_QR_at0, pm_QR_at1, Nat.reduceSub, Nat.reduceAdd, List.replicate_zero, List.replicate_succ, es]
  refine ⟨by omega, mr_181 hS hm hp1 ?_⟩
  have hms1 : mst S (nI (p + 1)) (-1) (nI 0) = ms S 0 (p + 1, some ()) := rfl
  by_cases ya : gx_b f n (p + 1) = 97
  · have es2 : sg (gx_b f n (p + 1)) = 97 := by rw [ya]; rfl
    have ec : gx_clause (gx_b f n) L p = gx_one (gx_b f n) L 15 [97, 116, 101, 32] (p + 1) := by
      unfold gx_clause; rw [if_neg (by omega), if_pos y, if_pos ya]
    rw [es2, hms1]
    try simp only [pm_WV, pm_WW, true_and, and_true, true_or, or_true, and_self, reduceIte, Nat.reduceEqDiff, Nat.reduceLT, Nat.reduceLeDiff, Nat.reduceMul, false_and, and_false, reduceCtorEq, false_or, or_false, not_true_eq_false, not_false_eq_true, true_implies, false_implies, implies_true, lf_10, eq_self, Int32.reduceLT, Int32.reduceLE, Int32.reduceAdd, Int32.reduceSub, pm_same, pm_i_wI, pm_l_wL, pm_l_wM, pm_oR_rf, pm_oQ_rf, sh_k59 hS, sh_r59_25 hS, sh_k80 hS, sh_z80 hS, sh_r59_27 hS, sh_k81 hS, sh_z81 hS, mst_w46, mst_w48, mst_w49, mst_46, mst_48, mst_49, mst_k, mst_z, mst_r, mst_n, mst_l, mst_R62, mst_R64, mst_R65, mst_R66, mst_R67, mst_R78, mst_R80, mst_R81, mst_F18, mst_F24, mst_F45, mst_F47, mst_F50, mst_F51, nI_1, LQ1, LQ2, LQ4, LQ1, LQ2, ms_k, ms_z, ms_r, ms_49, ms_w49, ms_R62, ms_R64, ms_R65, ms_R66, ms_R67, ms_R75, ms_R76, ms_R77, ms_R78, ms_R79, ms_R80, ms_R81, ms_R95, ms_R96, ms_R97, ms_F0, ms_F2, ms_F18, ms_F24, ms_F31, ms_F26, ms_F45, ms_F47, ms_F50, ms_F51, ms_F52, ms_F53, ms_F54, ms_F55, ms_F56, ms_F57, ms_F58, ms_F59, ms_F60, ms_F61, ms_F62, ms_F63, sh_r59_60 hS, sh_k95 hS, sh_z95 hS, sh_r59_61 hS, sh_k96 hS, sh_z96 hS, sh_r59_62 hS, sh_k97 hS, sh_z97 hS, pm_WI0, pm_WI1, pm_WI2, pm_WI3, pm_WI4, pm_WI5, pm_WV, pm_WW, pm_WX, pb_B180, pm_if, pm_QI_at, pm_QL_at, pm_QV_at, pm_QR_at, pm_QR_at0, pm_QR_at1, Nat.reduceSub, Nat.reduceAdd, List.replicate_zero, List.replicate_succ]
    refine ⟨by omega, mr_183_ate ?_⟩
    try simp only [pm_WV, pm_WW, true_and, and_true, true_or, or_true, and_self, reduceIte, Nat.reduceEqDiff, Nat.reduceLT, Nat.reduceLeDiff, Nat.reduceMul, false_and, and_false, reduceCtorEq, false_or, or_false, not_true_eq_false, not_false_eq_true, true_implies, false_implies, implies_true, lf_10, eq_self, Int32.reduceLT, Int32.reduceLE, Int32.reduceAdd, Int32.reduceSub, pm_same, pm_i_wI, pm_l_wL, pm_l_wM, pm_oR_rf, pm_oQ_rf, sh_k59 hS, sh_r59_25 hS, sh_k80 hS, sh_z80 hS, sh_r59_27 hS, sh_k81 hS, sh_z81 hS, mst_w46, mst_w48, mst_w49, mst_46, mst_48, mst_49, mst_k, mst_z, mst_r, mst_n, mst_l, mst_R62, mst_R64, mst_R65, mst_R66, mst_R67, mst_R78, mst_R80, mst_R81, mst_F18, mst_F24, mst_F45, mst_F47, mst_F50, mst_F51, nI_1, LQ1, LQ2, LQ4, LQ1, LQ2, ms_k, ms_z, ms_r, ms_49, ms_w49, ms_R62, ms_R64, ms_R65, ms_R66, ms_R67, ms_R75, ms_R76, ms_R77, ms_R78, ms_R79, ms_R80, ms_R81, ms_R95, ms_R96, ms_R97, ms_F0, ms_F2, ms_F18, ms_F24, ms_F31, ms_F26, ms_F45, ms_F47, ms_F50, ms_F51, ms_F52, ms_F53, ms_F54, ms_F55, ms_F56, ms_F57, ms_F58, ms_F59, ms_F60, ms_F61, ms_F62, ms_F63, sh_r59_60 hS, sh_k95 hS, sh_z95 hS, sh_r59_61 hS, sh_k96 hS, sh_z96 hS, sh_r59_62 hS, sh_k97 hS, sh_z97 hS, pm_WI0, pm_WI1, pm_WI2, pm_WI3, pm_WI4, pm_WI5, pm_WV, pm_WW, pm_WX, pb_B180, pm_if, pm_QI_at, pm_QL_at, pm_QV_at, pm_QR_at, pm_QR_at0, pm_QR_at1, Nat.reduceSub, Nat.reduceAdd, List.replicate_zero, List.replicate_succ]
    refine ⟨by omega, mr_199 (by omega) hS hm (by show p + 1 ≤ n; exact hp1) rfl wk_ate (by rw [wz_ate]; decide) ?_⟩
    rw [wz_ate]
    try simp only [pm_WV, pm_WW, true_and, and_true, true_or, or_true, and_self, reduceIte, Nat.reduceEqDiff, Nat.reduceLT, Nat.reduceLeDiff, Nat.reduceMul, false_and, and_false, reduceCtorEq, false_or, or_false, not_true_eq_false, not_false_eq_true, true_implies, false_implies, implies_true, lf_10, eq_self, Int32.reduceLT, Int32.reduceLE, Int32.reduceAdd, Int32.reduceSub, pm_same, pm_i_wI, pm_l_wL, pm_l_wM, pm_oR_rf, pm_oQ_rf, sh_k59 hS, sh_r59_25 hS, sh_k80 hS, sh_z80 hS, sh_r59_27 hS, sh_k81 hS, sh_z81 hS, mst_w46, mst_w48, mst_w49, mst_46, mst_48, mst_49, mst_k, mst_z, mst_r, mst_n, mst_l, mst_R62, mst_R64, mst_R65, mst_R66, mst_R67, mst_R78, mst_R80, mst_R81, mst_F18, mst_F24, mst_F45, mst_F47, mst_F50, mst_F51, nI_1, LQ1, LQ2, LQ4, LQ1, LQ2, ms_k, ms_z, ms_r, ms_49, ms_w49, ms_R62, ms_R64, ms_R65, ms_R66, ms_R67, ms_R75, ms_R76, ms_R77, ms_R78, ms_R79, ms_R80, ms_R81, ms_R95, ms_R96, ms_R97, ms_F0, ms_F2, ms_F18, ms_F24, ms_F31, ms_F26, ms_F45, ms_F47, ms_F50, ms_F51, ms_F52, ms_F53, ms_F54, ms_F55, ms_F56, ms_F57, ms_F58, ms_F59, ms_F60, ms_F61, ms_F62, ms_F63, sh_r59_60 hS, sh_k95 hS, sh_z95 hS, sh_r59_61 hS, sh_k96 hS, sh_z96 hS, sh_r59_62 hS, sh_k97 hS, sh_z97 hS, pm_WI0, pm_WI1, pm_WI2, pm_WI3, pm_WI4, pm_WI5, pm_WV, pm_WW, pm_WX, pb_B180, pm_if, pm_QI_at, pm_QL_at, pm_QV_at, pm_QR_at, pm_QR_at0, pm_QR_at1, Nat.reduceSub, Nat.reduceAdd, List.replicate_zero, List.replicate_succ]
    rcases one_case (f := f) (fl := 15) (L := L) hp1 (ws := [97, 116, 101]) (by decide) with ⟨x, hx, e1, e2⟩ | ⟨v, x, e1, e2⟩
    · rw [e1, un_none, ms_wf (by decide)]
      exact h0 x _ (by rw [ec]; exact e2) (lfr.rf.w (by omega) (by omega))
    · rw [e1, un_some, vo_some, ms_wf (by decide)]
      exact h1 x _ _ (by rw [ec]; exact e2) (lfr.rf.w (by omega) (by omega)) (hmlr.num (by omega) (by omega) (by omega))
  · have es2 : ¬ sg (gx_b f n (p + 1)) = 97 := fun z => ya ((sg_nc hm (c := 97) (by omega)).mp z)
    have ec : gx_clause (gx_b f n) L p = gx_reach (gx_b f n) L (p + 1) := by
      unfold gx_clause; rw [if_neg (by omega), if_pos y, if_neg ya]
    rw [hms1]
    try simp only [pm_WV, pm_WW, true_and, and_true, true_or, or_true, and_self, reduceIte, Nat.reduceEqDiff, Nat.reduceLT, Nat.reduceLeDiff, Nat.reduceMul, false_and, and_false, reduceCtorEq, false_or, or_false, not_true_eq_false, not_false_eq_true, true_implies, false_implies, implies_true, lf_10, eq_self, Int32.reduceLT, Int32.reduceLE, Int32.reduceAdd, Int32.reduceSub, pm_same, pm_i_wI, pm_l_wL, pm_l_wM, pm_oR_rf, pm_oQ_rf, sh_k59 hS, sh_r59_25 hS, sh_k80 hS, sh_z80 hS, sh_r59_27 hS, sh_k81 hS, sh_z81 hS, mst_w46, mst_w48, mst_w49, mst_46, mst_48, mst_49, mst_k, mst_z, mst_r, mst_n, mst_l, mst_R62, mst_R64, mst_R65, mst_R66, mst_R67, mst_R78, mst_R80, mst_R81, mst_F18, mst_F24, mst_F45, mst_F47, mst_F50, mst_F51, nI_1, LQ1, LQ2, LQ4, LQ1, LQ2, ms_k, ms_z, ms_r, ms_49, ms_w49, ms_R62, ms_R64, ms_R65, ms_R66, ms_R67, ms_R75, ms_R76, ms_R77, ms_R78, ms_R79, ms_R80, ms_R81, ms_R95, ms_R96, ms_R97, ms_F0, ms_F2, ms_F18, ms_F24, ms_F31, ms_F26, ms_F45, ms_F47, ms_F50, ms_F51, ms_F52, ms_F53, ms_F54, ms_F55, ms_F56, ms_F57, ms_F58, ms_F59, ms_F60, ms_F61, ms_F62, ms_F63, sh_r59_60 hS, sh_k95 hS, sh_z95 hS, sh_r59_61 hS, sh_k96 hS, sh_z96 hS, sh_r59_62 hS, sh_k97 hS, sh_z97 hS, pm_WI0, pm_WI1, pm_WI2, pm_WI3, pm_WI4, pm_WI5, pm_WV, pm_WW, pm_WX, pb_B180, pm_if, pm_QI_at, pm_QL_at, pm_QV_at, pm_QR_at, pm_QR_at0, pm_QR_at1, Nat.reduceSub, Nat.reduceAdd, List.replicate_zero, List.replicate_succ, es2]
    refine ⟨by omega, mr_183_each ?_⟩
    try simp only [pm_WV, pm_WW, true_and, and_true, true_or, or_true, and_self, reduceIte, Nat.reduceEqDiff, Nat.reduceLT, Nat.reduceLeDiff, Nat.reduceMul, false_and, and_false, reduceCtorEq, false_or, or_false, not_true_eq_false, not_false_eq_true, true_implies, false_implies, implies_true, lf_10, eq_self, Int32.reduceLT, Int32.reduceLE, Int32.reduceAdd, Int32.reduceSub, pm_same, pm_i_wI, pm_l_wL, pm_l_wM, pm_oR_rf, pm_oQ_rf, sh_k59 hS, sh_r59_25 hS, sh_k80 hS, sh_z80 hS, sh_r59_27 hS, sh_k81 hS, sh_z81 hS, mst_w46, mst_w48, mst_w49, mst_46, mst_48, mst_49, mst_k, mst_z, mst_r, mst_n, mst_l, mst_R62, mst_R64, mst_R65, mst_R66, mst_R67, mst_R78, mst_R80, mst_R81, mst_F18, mst_F24, mst_F45, mst_F47, mst_F50, mst_F51, nI_1, LQ1, LQ2, LQ4, LQ1, LQ2, ms_k, ms_z, ms_r, ms_49, ms_w49, ms_R62, ms_R64, ms_R65, ms_R66, ms_R67, ms_R75, ms_R76, ms_R77, ms_R78, ms_R79, ms_R80, ms_R81, ms_R95, ms_R96, ms_R97, ms_F0, ms_F2, ms_F18, ms_F24, ms_F31, ms_F26, ms_F45, ms_F47, ms_F50, ms_F51, ms_F52, ms_F53, ms_F54, ms_F55, ms_F56, ms_F57, ms_F58, ms_F59, ms_F60, ms_F61, ms_F62, ms_F63, sh_r59_60 hS, sh_k95 hS, sh_z95 hS, sh_r59_61 hS, sh_k96 hS, sh_z96 hS, sh_r59_62 hS, sh_k97 hS, sh_z97 hS, pm_WI0, pm_WI1, pm_WI2, pm_WI3, pm_WI4, pm_WI5, pm_WV, pm_WW, pm_WX, pb_B180, pm_if, pm_QI_at, pm_QL_at, pm_QV_at, pm_QR_at, pm_QR_at0, pm_QR_at1, Nat.reduceSub, Nat.reduceAdd, List.replicate_zero, List.replicate_succ]
    have q1 := gx_bd_w_le (f := f) (n := n) (r := (p + 1, some ())) (l := [101, 97, 99, 104]) hp1 (by decide)
    have q3 := gx_bd_w_le (f := f) (l := [32]) q1 (by decide)
    refine ⟨by omega, mr_184 (by omega) hS hm hp1 rfl wk_each ?_⟩
    rw [wz_each]
    try simp only [pm_WV, pm_WW, true_and, and_true, true_or, or_true, and_self, reduceIte, Nat.reduceEqDiff, Nat.reduceLT, Nat.reduceLeDiff, Nat.reduceMul, false_and, and_false, reduceCtorEq, false_or, or_false, not_true_eq_false, not_false_eq_true, true_implies, false_implies, implies_true, lf_10, eq_self, Int32.reduceLT, Int32.reduceLE, Int32.reduceAdd, Int32.reduceSub, pm_same, pm_i_wI, pm_l_wL, pm_l_wM, pm_oR_rf, pm_oQ_rf, sh_k59 hS, sh_r59_25 hS, sh_k80 hS, sh_z80 hS, sh_r59_27 hS, sh_k81 hS, sh_z81 hS, mst_w46, mst_w48, mst_w49, mst_46, mst_48, mst_49, mst_k, mst_z, mst_r, mst_n, mst_l, mst_R62, mst_R64, mst_R65, mst_R66, mst_R67, mst_R78, mst_R80, mst_R81, mst_F18, mst_F24, mst_F45, mst_F47, mst_F50, mst_F51, nI_1, LQ1, LQ2, LQ4, LQ1, LQ2, ms_k, ms_z, ms_r, ms_49, ms_w49, ms_R62, ms_R64, ms_R65, ms_R66, ms_R67, ms_R75, ms_R76, ms_R77, ms_R78, ms_R79, ms_R80, ms_R81, ms_R95, ms_R96, ms_R97, ms_F0, ms_F2, ms_F18, ms_F24, ms_F31, ms_F26, ms_F45, ms_F47, ms_F50, ms_F51, ms_F52, ms_F53, ms_F54, ms_F55, ms_F56, ms_F57, ms_F58, ms_F59, ms_F60, ms_F61, ms_F62, ms_F63, sh_r59_60 hS, sh_k95 hS, sh_z95 hS, sh_r59_61 hS, sh_k96 hS, sh_z96 hS, sh_r59_62 hS, sh_k97 hS, sh_z97 hS, pm_WI0, pm_WI1, pm_WI2, pm_WI3, pm_WI4, pm_WI5, pm_WV, pm_WW, pm_WX, pb_B180, pm_if, pm_QI_at, pm_QL_at, pm_QV_at, pm_QR_at, pm_QR_at0, pm_QR_at1, Nat.reduceSub, Nat.reduceAdd, List.replicate_zero, List.replicate_succ]
    refine ⟨by omega, mr_185 (c := 32) (by omega) hS hm q1 (by omega) ?_⟩
    try simp only [pm_WV, pm_WW, true_and, and_true, true_or, or_true, and_self, reduceIte, Nat.reduceEqDiff, Nat.reduceLT, Nat.reduceLeDiff, Nat.reduceMul, false_and, and_false, reduceCtorEq, false_or, or_false, not_true_eq_false, not_false_eq_true, true_implies, false_implies, implies_true, lf_10, eq_self, Int32.reduceLT, Int32.reduceLE, Int32.reduceAdd, Int32.reduceSub, pm_same, pm_i_wI, pm_l_wL, pm_l_wM, pm_oR_rf, pm_oQ_rf, sh_k59 hS, sh_r59_25 hS, sh_k80 hS, sh_z80 hS, sh_r59_27 hS, sh_k81 hS, sh_z81 hS, mst_w46, mst_w48, mst_w49, mst_46, mst_48, mst_49, mst_k, mst_z, mst_r, mst_n, mst_l, mst_R62, mst_R64, mst_R65, mst_R66, mst_R67, mst_R78, mst_R80, mst_R81, mst_F18, mst_F24, mst_F45, mst_F47, mst_F50, mst_F51, nI_1, LQ1, LQ2, LQ4, LQ1, LQ2, ms_k, ms_z, ms_r, ms_49, ms_w49, ms_R62, ms_R64, ms_R65, ms_R66, ms_R67, ms_R75, ms_R76, ms_R77, ms_R78, ms_R79, ms_R80, ms_R81, ms_R95, ms_R96, ms_R97, ms_F0, ms_F2, ms_F18, ms_F24, ms_F31, ms_F26, ms_F45, ms_F47, ms_F50, ms_F51, ms_F52, ms_F53, ms_F54, ms_F55, ms_F56, ms_F57, ms_F58, ms_F59, ms_F60, ms_F61, ms_F62, ms_F63, sh_r59_60 hS, sh_k95 hS, sh_z95 hS, sh_r59_61 hS, sh_k96 hS, sh_z96 hS, sh_r59_62 hS, sh_k97 hS, sh_z97 hS, pm_WI0, pm_WI1, pm_WI2, pm_WI3, pm_WI4, pm_WI5, pm_WV, pm_WW, pm_WX, pb_B180, pm_if, pm_QI_at, pm_QL_at, pm_QV_at, pm_QR_at, pm_QR_at0, pm_QR_at1, Nat.reduceSub, Nat.reduceAdd, List.replicate_zero, List.replicate_succ]
    refine ⟨by omega, mr_e hS hm h18 h24 h24b ht (by omega) q3 (fun b hb he => ?_)⟩
    try simp only [pm_WV, pm_WW, true_and, and_true, true_or, or_true, and_self, reduceIte, Nat.reduceEqDiff, Nat.reduceLT, Nat.reduceLeDiff, Nat.reduceMul, false_and, and_false, reduceCtorEq, false_or, or_false, not_true_eq_false, not_false_eq_true, true_implies, false_implies, implies_true, lf_10, eq_self, Int32.reduceLT, Int32.reduceLE, Int32.reduceAdd, Int32.reduceSub, pm_same, pm_i_wI, pm_l_wL, pm_l_wM, pm_oR_rf, pm_oQ_rf, sh_k59 hS, sh_r59_25 hS, sh_k80 hS, sh_z80 hS, sh_r59_27 hS, sh_k81 hS, sh_z81 hS, mst_w46, mst_w48, mst_w49, mst_46, mst_48, mst_49, mst_k, mst_z, mst_r, mst_n, mst_l, mst_R62, mst_R64, mst_R65, mst_R66, mst_R67, mst_R78, mst_R80, mst_R81, mst_F18, mst_F24, mst_F45, mst_F47, mst_F50, mst_F51, nI_1, LQ1, LQ2, LQ4, LQ1, LQ2, ms_k, ms_z, ms_r, ms_49, ms_w49, ms_R62, ms_R64, ms_R65, ms_R66, ms_R67, ms_R75, ms_R76, ms_R77, ms_R78, ms_R79, ms_R80, ms_R81, ms_R95, ms_R96, ms_R97, ms_F0, ms_F2, ms_F18, ms_F24, ms_F31, ms_F26, ms_F45, ms_F47, ms_F50, ms_F51, ms_F52, ms_F53, ms_F54, ms_F55, ms_F56, ms_F57, ms_F58, ms_F59, ms_F60, ms_F61, ms_F62, ms_F63, sh_r59_60 hS, sh_k95 hS, sh_z95 hS, sh_r59_61 hS, sh_k96 hS, sh_z96 hS, sh_r59_62 hS, sh_k97 hS, sh_z97 hS, pm_WI0, pm_WI1, pm_WI2, pm_WI3, pm_WI4, pm_WI5, pm_WV, pm_WW, pm_WX, pb_B180, pm_if, pm_QI_at, pm_QL_at, pm_QV_at, pm_QR_at, pm_QR_at0, pm_QR_at1, Nat.reduceSub, Nat.reduceAdd, List.replicate_zero, List.replicate_succ]
    have eg : gx_bd (gx_bd ((p + 1, some ()) : gx_R Unit) (fun _ p => gx_w (gx_b f n) [101, 97, 99, 104] p)) (fun _ p => gx_w (gx_b f n) [32] p) = gx_w (gx_b f n) [101, 97, 99, 104, 32] (p + 1) := by
      rw [show ([101, 97, 99, 104, 32] : List Nat) = [101, 97, 99, 104] ++ [32] from rfl, gx_w_app]; rfl
    rw [eg] at he q3 ⊢
    refine ⟨hb, ?_⟩
    rw [ms_wf (by decide)]
    unfold gx_reach at ec
    rcases gx_two (gx_w (gx_b f n) [101, 97, 99, 104, 32] (p + 1)) with ⟨x, ex⟩ | ⟨x, u, ex⟩
    · rw [gx_bd_none ex] at ec
      rw [ex]
      exact h0 x _ ec (lfr.rf.w (by omega) (by omega))
    · rw [gx_bd_some ex] at ec
      rw [ex] at he ⊢
      change ∀ e, (gx_e (gx_b f n) x).2 = some e → _ at he
      change q (ms _ 0 (un (gx_e (gx_b f n) x)))
      rcases gx_two (gx_e (gx_b f n) x) with ⟨z, ez⟩ | ⟨z, E, ez⟩
      · rw [gx_bd_none ez] at ec
        rw [ez]
        exact h0 z _ ec (lfr.rf.w (by omega) (by omega))
      · rw [gx_bd_some ez] at ec
        rw [ez, he E (by rw [ez])]
        exact h1 z _ _ ec (lfr.rf.w (by omega) (by omega)) (hmlr.reach hw)
theorem mr_180 {G : pm_G} {d : Nat} {S : pm_S} {f : Nat → Int32} {n : Nat} {t : Nat → Bool} {L : gx_L} {c p0 p : Nat} {q : pm_S → Prop} (hd : 29 ≤ d) (hcx : cx S f n t) (hw : gx_wf t L c p0) (hmlr : mlr S t L) (hc : c < 10) (hpp : p0 ≤ p) (hp : p ≤ n) (h1 : ∀ x L' T, gx_clause (gx_b f n) L p = (x, some L') → lfr S T → mlr T t L' → q (ms T 0 (x, some ()))) (h0 : ∀ x T, gx_clause (gx_b f n) L p = (x, none) → lfr S T → q (ms T 0 (x, none))) : pm_CV G d 180 [.ref 59] (ms S 0 (p, some ())) q := by
  obtain ⟨hS, hm, h18, h24, h24b, ht⟩ := id hcx
  have hn := hm.2.1
  by_cases y111 : gx_b f n p = 111
  · exact mr_180_owe hd hcx hw hmlr hc hpp hp y111 h1 h0
  by_cases y114 : gx_b f n p = 114
  · exact mr_180_r hd hcx hw hmlr hc hpp hp y114 h1 h0
  by_cases y115 : gx_b f n p = 115
  · exact mr_180_scale hd hcx hw hmlr hc hpp hp y115 h1 h0
  by_cases y108 : gx_b f n p = 108
  · exact mr_180_limit hd hcx hw hmlr hc hpp hp y108 h1 h0
  by_cases y97 : gx_b f n p = 97
  · exact mr_180_answer hd hcx hw hmlr hc hpp hp y97 h1 h0
  by_cases y99 : gx_b f n p = 99
  · exact mr_180_cap hd hcx hw hmlr hc hpp hp y99 h1 h0
  by_cases y102 : gx_b f n p = 102
  · exact mr_180_few hd hcx hw hmlr hc hpp hp y102 h1 h0
  have ec : gx_clause (gx_b f n) L p = (p, none) := by unfold gx_clause; rw [if_neg y111, if_neg y114, if_neg y115, if_neg y108, if_neg y97, if_neg y99, if_neg y102]
  have nx : ∀ c, c < 256 → ¬ gx_b f n p = c → ¬ sg (gx_b f n p) = nI c := fun c hc y z => y ((sg_nc hm hc).mp z)
  have z111 : ¬ sg (gx_b f n p) = 111 := nx 111 (by omega) y111
  have z114 : ¬ sg (gx_b f n p) = 114 := nx 114 (by omega) y114
  have z115 : ¬ sg (gx_b f n p) = 115 := nx 115 (by omega) y115
  have z108 : ¬ sg (gx_b f n p) = 108 := nx 108 (by omega) y108
  have z97 : ¬ sg (gx_b f n p) = 97 := nx 97 (by omega) y97
  have z99 : ¬ sg (gx_b f n p) = 99 := nx 99 (by omega) y99
  have z102 : ¬ sg (gx_b f n p) = 102 := nx 102 (by omega) y102
  have hms : ms S 0 (p, some ()) = mst S (nI p) (-1) (nI 0) := rfl
  rw [hms]
  refine pm_goV 180 9 pb_c180 (by decide) (Nat.le_of_ble_eq_true rfl) rfl ?_
  try simp only [show pm_mL 180 = 3 from rfl, pm_WI0, pm_WI1, pm_WI2, pm_WI3, pm_WI4, pm_WI5, pm_WV, pm_WW, pm_WX, pb_B180, pm_if, pm_QI_at, pm_QL_at, pm_QV_at, pm_QR_at, pm_QR_at0, pm_QR_at1, Nat.reduceSub, Nat.reduceAdd, List.replicate_zero, List.replicate_succ, true_and, and_true, true_or, or_true, and_self, reduceIte, Nat.reduceEqDiff, Nat.reduceLT, Nat.reduceLeDiff, Nat.reduceMul, false_and, and_false, reduceCtorEq, false_or, or_false, not_true_eq_false, not_false_eq_true, true_implies, false_implies, implies_true, lf_10, eq_self, Int32.reduceLT, Int32.reduceLE, Int32.reduceAdd, Int32.reduceSub, pm_same, pm_i_wI, pm_l_wL, pm_l_wM, pm_oR_rf, pm_oQ_rf, sh_k59 hS, sh_r59_25 hS, sh_k80 hS, sh_z80 hS, sh_r59_27 hS, sh_k81 hS, sh_z81 hS, mst_w46, mst_w48, mst_w49, mst_46, mst_48, mst_49, mst_k, mst_z, mst_r, mst_n, mst_l, mst_R62, mst_R64, mst_R65, mst_R66, mst_R67, mst_R78, mst_R80, mst_R81, mst_F18, mst_F24, mst_F45, mst_F47, mst_F50, mst_F51, nI_1, LQ1, LQ2, LQ4, LQ1, LQ2, ms_k, ms_z, ms_r, ms_49, ms_w49, ms_R62, ms_R64, ms_R65, ms_R66, ms_R67, ms_R75, ms_R76, ms_R77, ms_R78, ms_R79, ms_R80, ms_R81, ms_R95, ms_R96, ms_R97, ms_F0, ms_F2, ms_F18, ms_F24, ms_F31, ms_F26, ms_F45, ms_F47, ms_F50, ms_F51, ms_F52, ms_F53, ms_F54, ms_F55, ms_F56, ms_F57, ms_F58, ms_F59, ms_F60, ms_F61, ms_F62, ms_F63, sh_r59_60 hS, sh_k95 hS, sh_z95 hS, sh_r59_61 hS, sh_k96 hS, sh_z96 hS, sh_r59_62 hS, sh_k97 hS, sh_z97 hS]
  refine ⟨by omega, mr_181 hS hm hp ?_⟩
  try simp only [pm_WV, pm_WW, true_and, and_true, true_or, or_true, and_self, reduceIte, Nat.reduceEqDiff, Nat.reduceLT, Nat.reduceLeDiff, Nat.reduceMul, false_and, and_false, reduceCtorEq, false_or, or_false, not_true_eq_false, not_false_eq_true, true_implies, false_implies, implies_true, lf_10, eq_self, Int32.reduceLT, Int32.reduceLE, Int32.reduceAdd, Int32.reduceSub, pm_same, pm_i_wI, pm_l_wL, pm_l_wM, pm_oR_rf, pm_oQ_rf, sh_k59 hS, sh_r59_25 hS, sh_k80 hS, sh_z80 hS, sh_r59_27 hS, sh_k81 hS, sh_z81 hS, mst_w46, mst_w48, mst_w49, mst_46, mst_48, mst_49, mst_k, mst_z, mst_r, mst_n, mst_l, mst_R62, mst_R64, mst_R65, mst_R66, mst_R67, mst_R78, mst_R80, mst_R81, mst_F18, mst_F24, mst_F45, mst_F47, mst_F50, mst_F51, nI_1, LQ1, LQ2, LQ4, LQ1, LQ2, ms_k, ms_z, ms_r, ms_49, ms_w49, ms_R62, ms_R64, ms_R65, ms_R66, ms_R67, ms_R75, ms_R76, ms_R77, ms_R78, ms_R79, ms_R80, ms_R81, ms_R95, ms_R96, ms_R97, ms_F0, ms_F2, ms_F18, ms_F24, ms_F31, ms_F26, ms_F45, ms_F47, ms_F50, ms_F51, ms_F52, ms_F53, ms_F54, ms_F55, ms_F56, ms_F57, ms_F58, ms_F59, ms_F60, ms_F61, ms_F62, ms_F63, sh_r59_60 hS, sh_k95 hS, sh_z95 hS, sh_r59_61 hS, sh_k96 hS, sh_z96 hS, sh_r59_62 hS, sh_k97 hS, sh_z97 hS, pm_WI0, pm_WI1, pm_WI2, pm_WI3, pm_WI4, pm_WI5, pm_WV, pm_WW, pm_WX, pb_B180, pm_if, pm_QI_at, pm_QL_at, pm_QV_at, pm_QR_at, pm_QR_at0, pm_QR_at1, Nat.reduceSub, Nat.reduceAdd, List.replicate_zero, List.replicate_succ, z111, z114, z115, z108, z97, z99, z102]
  exact ⟨by omega, mr_187l hS (h0 p S ec lfr.rf)⟩
theorem gx_one_le {B : Nat → Nat} {n : Nat} (hB : ∀ i, n ≤ i → B i = 256) {L : gx_L} {f p : Nat} {ws : List Nat} (hp : p ≤ n) (hl : ∀ c, c ∈ ws → c < 256) : (gx_one B L f ws p).1 ≤ n := by
  unfold gx_one
  refine gx_bd_le (gx_w_le hB ws p hp hl).1 (fun _ q hq => gx_bd_le ?_ (fun _ _ h => h))
  rcases gx_two (gx_num B 0 4 q) with ⟨x, ex⟩ | ⟨x, v, ex⟩
  · have := gx_num_no ex; rw [ex]; show x ≤ n; omega
  · rw [ex]; exact (gx_num_ok hB (by omega) ex).2.1
theorem gx_num_le' {B : Nat → Nat} {n : Nat} (hB : ∀ i, n ≤ i → B i = 256) {least most p : Nat} (hm : 1 ≤ most) (hp : p ≤ n) : (gx_num B least most p).1 ≤ n := by
  rcases gx_two (gx_num B least most p) with ⟨x, ex⟩ | ⟨x, v, ex⟩
  · have := gx_num_no ex; rw [ex]; show x ≤ n; omega
  · rw [ex]; exact (gx_num_ok hB hm ex).2.1
theorem gx_clause_le {B : Nat → Nat} {n : Nat} (hB : ∀ i, n ≤ i → B i = 256) {L : gx_L} {p x : Nat} {o : Option gx_L} (hp : p ≤ n) (e : gx_clause B L p = (x, o)) : x ≤ n := by
  have : (gx_clause B L p).1 ≤ n := by
    unfold gx_clause
    split
    · unfold gx_owe
      refine gx_bd_le (gx_w_le hB _ p hp (by decide)).1 (fun _ q hq => gx_bd_le (gx_num_le' hB (by omega) hq) (fun _ q hq => gx_bd_le (gx_w_le hB _ q hq (by decide)).1 (fun _ q hq => gx_bd_le (gx_num_le' hB (by omega) hq) (fun m q hq => ?_))))
      split
      · have hq1 : q < n := gx_lt hB (by assumption) (by omega)
        refine gx_bd_le ?_ (fun _ r hr => gx_bd_le (gx_ok_le (gx_e_ok hB hr)) (fun _ _ h => h))
        split
        · exact (gx_w_le hB _ _ (by omega) (by decide)).1
        · exact (gx_w_le hB _ _ (by omega) (by decide)).1
      · exact hq
    · split
      · have hq1 : p < n := gx_lt hB (by assumption) (by omega)
        split
        · exact gx_one_le hB (by omega) (by decide)
        · unfold gx_reach
          exact gx_bd_le (gx_w_le hB _ _ (by omega) (by decide)).1 (fun _ r hr => gx_bd_le (gx_ok_le (gx_e_ok hB hr)) (fun _ _ h => h))
      · split
        · unfold gx_scale
          exact gx_bd_le (gx_w_le hB _ p hp (by decide)).1 (fun _ q hq => gx_bd_le (gx_num_le' hB (by omega) hq) (fun _ q hq => gx_bd_le (gx_w_le hB _ q hq (by decide)).1 (fun _ q hq => gx_bd_le (gx_num_le' hB (by omega) hq) (fun _ _ h => h))))
        · split
          · exact gx_one_le hB hp (by decide)
          · split
            · exact gx_one_le hB hp (by decide)
            · split
              · exact gx_one_le hB hp (by decide)
              · split
                · exact gx_one_le hB hp (by decide)
                · exact hp
  rw [e] at this; exact this
theorem mr_178 {G : pm_G} {d : Nat} {S : pm_S} {t : Nat → Bool} {q : pm_S → Prop} (hS : Sh S) (h : ∀ T, lfr S T → mlr T t gx_0 → (∀ j, j < 52 → pm_i T 59 j = pm_i S 59 j) → q T) : pm_CV G d 178 [.ref 59] S q := by
  refine pm_goV 178 40 pb_c178 (by decide) (Nat.le_of_ble_eq_true rfl) rfl ?_
  try simp only [show pm_mL 178 = 1 from rfl, pm_WI0, pm_WI1, pm_WI2, pm_WI3, pm_WI4, pm_WI5, pm_WV, pm_WW, pm_WX, pb_B178, pm_if, pm_QI_at, pm_QL_at, pm_QV_at, pm_QR_at, pm_QR_at0, pm_QR_at1, Nat.reduceSub, Nat.reduceAdd, List.replicate_zero, List.replicate_succ, true_and, and_true, true_or, or_true, and_self, reduceIte, Nat.reduceEqDiff, Nat.reduceLT, Nat.reduceLeDiff, Nat.reduceMul, false_and, and_false, reduceCtorEq, false_or, or_false, not_true_eq_false, not_false_eq_true, true_implies, false_implies, implies_true, lf_10, eq_self, Int32.reduceLT, Int32.reduceLE, Int32.reduceAdd, Int32.reduceSub, pm_same, pm_i_wI, pm_l_wL, pm_l_wM, pm_oR_rf, pm_oQ_rf, sh_k59 hS]
  refine h _ (((((((((lfr.rf.w (by omega) (by omega)).w (by omega) (by omega)).w (by omega) (by omega)).w (by omega) (by omega)).w (by omega) (by omega)).w (by omega) (by omega)).w (by omega) (by omega)).w (by omega) (by omega)).w (by omega) (by omega)) ⟨?_, fun k hk => absurd hk (Nat.not_lt_zero k), ?_, fun f f1 f2 => ?_⟩ (fun j hj => ?_)
  · simp [pm_i_wI]; rfl
  · simp [pm_i_wI]; rfl
  · have : f = 10 ∨ f = 11 ∨ f = 12 ∨ f = 13 ∨ f = 14 ∨ f = 15 ∨ f = 16 := by omega
    rcases this with rfl | rfl | rfl | rfl | rfl | rfl | rfl <;> simp [pm_i_wI] <;> rfl
  · try simp only [pm_i_wI]
    repeat rw [if_neg (by omega)]
theorem mr_179e {G : pm_G} {f : Nat → Int32} {n : Nat} {t : Nat → Bool} {T : pm_S} {r : gx_R Unit} {a b c : Value} {q : pm_S → Prop} {d : Nat} (hd : 3 ≤ d) (hcx : cx T f n t) (hr : r.1 ≤ n) (h : q (ms T 0 (match r.2 with
  | some _ => if n ≤ r.1 then r else (r.1, none)
  | none => r))) : pm_W G d 179 (pm_QV q) 34 [.ref 59, a, b, c, .int 0, .float 0] [] (ms T 0 r) 0 0 := by
  obtain ⟨hS, hm, h18, h24, h24b, ht⟩ := id hcx
  have hn := hm.2.1
  obtain ⟨x, _ | u⟩ := r
  · simp only at h hr
    have hms : ms T 0 (x, none) = mst T (nI x) (nI x) (nI 0) := rfl
    have hx0 : 0 ≤ nI x := nI_pos' (by omega)
    rw [hms] at h ⊢
    refine pm_wb_ok pb_c179 4 34 0 _ _ _ _ _ ?_
    try simp only [pm_WI0, pm_WI1, pm_WI2, pm_WI3, pm_WI4, pm_WI5, pm_WV, pm_WW, pm_WX, pb_B179, pm_if, pm_QI_at, pm_QL_at, pm_QV_at, pm_QR_at, pm_QR_at0, pm_QR_at1, Nat.reduceSub, Nat.reduceAdd, List.replicate_zero, List.replicate_succ, true_and, and_true, true_or, or_true, and_self, reduceIte, Nat.reduceEqDiff, Nat.reduceLT, Nat.reduceLeDiff, Nat.reduceMul, false_and, and_false, reduceCtorEq, false_or, or_false, not_true_eq_false, not_false_eq_true, true_implies, false_implies, implies_true, lf_10, eq_self, Int32.reduceLT, Int32.reduceLE, Int32.reduceAdd, Int32.reduceSub, pm_same, pm_i_wI, pm_l_wL, pm_l_wM, pm_oR_rf, pm_oQ_rf, sh_k59 hS, sh_r59_25 hS, sh_k80 hS, sh_z80 hS, sh_r59_27 hS, sh_k81 hS, sh_z81 hS, mst_w46, mst_w48, mst_w49, mst_46, mst_48, mst_49, mst_k, mst_z, mst_r, mst_n, mst_l, mst_R62, mst_R64, mst_R65, mst_R66, mst_R67, mst_R78, mst_R80, mst_R81, mst_F18, mst_F24, mst_F45, mst_F47, mst_F50, mst_F51, nI_1, LQ1, LQ2, LQ4, LQ1, LQ2, ms_k, ms_z, ms_r, ms_49, ms_w49, ms_R62, ms_R64, ms_R65, ms_R66, ms_R67, ms_R75, ms_R76, ms_R77, ms_R78, ms_R79, ms_R80, ms_R81, ms_R95, ms_R96, ms_R97, ms_F0, ms_F2, ms_F18, ms_F24, ms_F31, ms_F26, ms_F45, ms_F47, ms_F50, ms_F51, ms_F52, ms_F53, ms_F54, ms_F55, ms_F56, ms_F57, ms_F58, ms_F59, ms_F60, ms_F61, ms_F62, ms_F63, sh_r59_60 hS, sh_k95 hS, sh_z95 hS, sh_r59_61 hS, sh_k96 hS, sh_z96 hS, sh_r59_62 hS, sh_k97 hS, sh_z97 hS, hx0]
    exact h
  · simp only at h hr
    have hms : ms T 0 (x, some u) = mst T (nI x) (-1) (nI 0) := rfl
    have hms2 : ms T 0 (x, none) = mst T (nI x) (nI x) (nI 0) := rfl
    rw [hms]
    refine pm_wb_ok pb_c179 4 34 0 _ _ _ _ _ ?_
    try simp only [pm_WI0, pm_WI1, pm_WI2, pm_WI3, pm_WI4, pm_WI5, pm_WV, pm_WW, pm_WX, pb_B179, pm_if, pm_QI_at, pm_QL_at, pm_QV_at, pm_QR_at, pm_QR_at0, pm_QR_at1, Nat.reduceSub, Nat.reduceAdd, List.replicate_zero, List.replicate_succ, true_and, and_true, true_or, or_true, and_self, reduceIte, Nat.reduceEqDiff, Nat.reduceLT, Nat.reduceLeDiff, Nat.reduceMul, false_and, and_false, reduceCtorEq, false_or, or_false, not_true_eq_false, not_false_eq_true, true_implies, false_implies, implies_true, lf_10, eq_self, Int32.reduceLT, Int32.reduceLE, Int32.reduceAdd, Int32.reduceSub, pm_same, pm_i_wI, pm_l_wL, pm_l_wM, pm_oR_rf, pm_oQ_rf, sh_k59 hS, sh_r59_25 hS, sh_k80 hS, sh_z80 hS, sh_r59_27 hS, sh_k81 hS, sh_z81 hS, mst_w46, mst_w48, mst_w49, mst_46, mst_48, mst_49, mst_k, mst_z, mst_r, mst_n, mst_l, mst_R62, mst_R64, mst_R65, mst_R66, mst_R67, mst_R78, mst_R80, mst_R81, mst_F18, mst_F24, mst_F45, mst_F47, mst_F50, mst_F51, nI_1, LQ1, LQ2, LQ4, LQ1, LQ2, ms_k, ms_z, ms_r, ms_49, ms_w49, ms_R62, ms_R64, ms_R65, ms_R66, ms_R67, ms_R75, ms_R76, ms_R77, ms_R78, ms_R79, ms_R80, ms_R81, ms_R95, ms_R96, ms_R97, ms_F0, ms_F2, ms_F18, ms_F24, ms_F31, ms_F26, ms_F45, ms_F47, ms_F50, ms_F51, ms_F52, ms_F53, ms_F54, ms_F55, ms_F56, ms_F57, ms_F58, ms_F59, ms_F60, ms_F61, ms_F62, ms_F63, sh_r59_60 hS, sh_k95 hS, sh_z95 hS, sh_r59_61 hS, sh_k96 hS, sh_z96 hS, sh_r59_62 hS, sh_k97 hS, sh_z97 hS, hm.1]
    refine ⟨fun z => ?_, fun z => ⟨by omega, mr_187l hS ?_⟩⟩
    · have hnx : n ≤ x := (nI_leI (by omega) (by omega)).mp z
      rw [if_pos hnx, hms] at h; exact h
    · have hnx : ¬ n ≤ x := fun y => z (nI_le y (by omega))
      rw [if_neg hnx, hms2] at h; exact h
/-- the loop over the clauses -/
theorem mr_179k {G : pm_G} {f : Nat → Int32} {n : Nat} {t : Nat → Bool} {a b : Value} {q : pm_S → Prop} {d : Nat} (hd : 30 ≤ d) : ∀ (g : Nat) (S : pm_S) (L : gx_L) (p : Nat), cx S f n t → gx_wf t L (10 - (g + 1)) p → mlr S t L → g + 1 ≤ 10 → p ≤ n →
    (∀ x L' T, gx_law (gx_b f n) n (g + 1) L p = (x, some L') → lfr S T → mlr T t L' → q (ms T 0 (x, some ()))) → (∀ x T, gx_law (gx_b f n) n (g + 1) L p = (x, none) → lfr S T → q (ms T 0 (x, none))) →
    pm_W G d 179 (pm_QV q) 34 [.ref 59, a, b, .int (nI (10 - (g + 1))), .int 1, .float 0] [] (ms S 0 (p, some ())) 0 0 := by
  intro g
  induction g with
  | zero =>
    intro S L p hcx hw hmlr hg hp h1 h0
    obtain ⟨hS, hm, h18, h24, h24b, ht⟩ := id hcx
    have hn := hm.2.1
    have e10 : (10 : Int32) ≤ nI (10 - (0 + 1)) + 1 := by decide
    refine pm_wb_ok pb_c179 3 34 0 _ _ _ _ _ ?_
    try simp only [pm_WI0, pm_WI1, pm_WI2, pm_WI3, pm_WI4, pm_WI5, pm_WV, pm_WW, pm_WX, pb_B179, pm_if, pm_QI_at, pm_QL_at, pm_QV_at, pm_QR_at, pm_QR_at0, pm_QR_at1, Nat.reduceSub, Nat.reduceAdd, List.replicate_zero, List.replicate_succ, true_and, and_true, true_or, or_true, and_self, reduceIte, Nat.reduceEqDiff, Nat.reduceLT, Nat.reduceLeDiff, Nat.reduceMul, false_and, and_false, reduceCtorEq, false_or, or_false, not_true_eq_false, not_false_eq_true, true_implies, false_implies, implies_true, lf_10, eq_self, Int32.reduceLT, Int32.reduceLE, Int32.reduceAdd, Int32.reduceSub, pm_same, pm_i_wI, pm_l_wL, pm_l_wM, pm_oR_rf, pm_oQ_rf, sh_k59 hS, sh_r59_25 hS, sh_k80 hS, sh_z80 hS, sh_r59_27 hS, sh_k81 hS, sh_z81 hS, mst_w46, mst_w48, mst_w49, mst_46, mst_48, mst_49, mst_k, mst_z, mst_r, mst_n, mst_l, mst_R62, mst_R64, mst_R65, mst_R66, mst_R67, mst_R78, mst_R80, mst_R81, mst_F18, mst_F24, mst_F45, mst_F47, mst_F50, mst_F51, nI_1, LQ1, LQ2, LQ4, LQ1, LQ2, ms_k, ms_z, ms_r, ms_49, ms_w49, ms_R62, ms_R64, ms_R65, ms_R66, ms_R67, ms_R75, ms_R76, ms_R77, ms_R78, ms_R79, ms_R80, ms_R81, ms_R95, ms_R96, ms_R97, ms_F0, ms_F2, ms_F18, ms_F24, ms_F31, ms_F26, ms_F45, ms_F47, ms_F50, ms_F51, ms_F52, ms_F53, ms_F54, ms_F55, ms_F56, ms_F57, ms_F58, ms_F59, ms_F60, ms_F61, ms_F62, ms_F63, sh_r59_60 hS, sh_k95 hS, sh_z95 hS, sh_r59_61 hS, sh_k96 hS, sh_z96 hS, sh_r59_62 hS, sh_k97 hS, sh_z97 hS, e10]
    refine ⟨by omega, mr_180 (by omega) hcx hw hmlr (by omega) (Nat.le_refl p) hp (fun x L' T e hf hl => ?_) (fun x T e hf => ?_)⟩
    · have hx := wf_clause gx_b_eof hw hp e
      refine pv_W (mr_179e (by omega) (hcx.fr hf) (by exact hx.2.2) ?_) (by simp [pv_le, pm_unk])
      have el : gx_law (gx_b f n) n 1 L p = if n ≤ x then (x, some L') else (x, none) := by
        rw [gx_law, gx_bd_some e]; split <;> rfl
      show q (ms T 0 (if n ≤ x then (x, some ()) else (x, none)))
      split
      · rename_i hnx; rw [if_pos hnx] at el; exact h1 x L' T el hf hl
      · rename_i hnx; rw [if_neg hnx] at el; exact h0 x T el hf
    · have hx := gx_clause_le gx_b_eof hp e
      refine pv_W (mr_179e (by omega) (hcx.fr hf) (by exact hx) ?_) (by simp [pv_le, pm_unk])
      exact h0 x T (by rw [gx_law, gx_bd_none e]) hf
  | succ g ih =>
    intro S L p hcx hw hmlr hg hp h1 h0
    obtain ⟨hS, hm, h18, h24, h24b, ht⟩ := id hcx
    have hn := hm.2.1
    have e1 : nI (10 - (g + 1 + 1)) + 1 = nI (10 - (g + 1)) := by rw [nI_1]; congr 1; omega
    have e10 : ¬ (10 : Int32) ≤ nI (10 - (g + 1)) := nI_ge (a := 10 - (g + 1)) (b := 10) (by omega) (by omega)
    refine pm_wb_ok pb_c179 3 34 0 _ _ _ _ _ ?_
    try simp only [pm_WI0, pm_WI1, pm_WI2, pm_WI3, pm_WI4, pm_WI5, pm_WV, pm_WW, pm_WX, pb_B179, pm_if, pm_QI_at, pm_QL_at, pm_QV_at, pm_QR_at, pm_QR_at0, pm_QR_at1, Nat.reduceSub, Nat.reduceAdd, List.replicate_zero, List.replicate_succ, true_and, and_true, true_or, or_true, and_self, reduceIte, Nat.reduceEqDiff, Nat.reduceLT, Nat.reduceLeDiff, Nat.reduceMul, false_and, and_false, reduceCtorEq, false_or, or_false, not_true_eq_false, not_false_eq_true, true_implies, false_implies, implies_true, lf_10, eq_self, Int32.reduceLT, Int32.reduceLE, Int32.reduceAdd, Int32.reduceSub, pm_same, pm_i_wI, pm_l_wL, pm_l_wM, pm_oR_rf, pm_oQ_rf, sh_k59 hS, sh_r59_25 hS, sh_k80 hS, sh_z80 hS, sh_r59_27 hS, sh_k81 hS, sh_z81 hS, mst_w46, mst_w48, mst_w49, mst_46, mst_48, mst_49, mst_k, mst_z, mst_r, mst_n, mst_l, mst_R62, mst_R64, mst_R65, mst_R66, mst_R67, mst_R78, mst_R80, mst_R81, mst_F18, mst_F24, mst_F45, mst_F47, mst_F50, mst_F51, nI_1, LQ1, LQ2, LQ4, LQ1, LQ2, ms_k, ms_z, ms_r, ms_49, ms_w49, ms_R62, ms_R64, ms_R65, ms_R66, ms_R67, ms_R75, ms_R76, ms_R77, ms_R78, ms_R79, ms_R80, ms_R81, ms_R95, ms_R96, ms_R97, ms_F0, ms_F2, ms_F18, ms_F24, ms_F31, ms_F26, ms_F45, ms_F47, ms_F50, ms_F51, ms_F52, ms_F53, ms_F54, ms_F55, ms_F56, ms_F57, ms_F58, ms_F59, ms_F60, ms_F61, ms_F62, ms_F63, sh_r59_60 hS, sh_k95 hS, sh_z95 hS, sh_r59_61 hS, sh_k96 hS, sh_z96 hS, sh_r59_62 hS, sh_k97 hS, sh_z97 hS, e1, e10]
    refine ⟨by omega, mr_180 (by omega) hcx hw hmlr (by omega) (Nat.le_refl p) hp (fun x L' T e hf hl => ?_) (fun x T e hf => ?_)⟩
    · have hx := wf_clause gx_b_eof hw hp e
      have hcT := hcx.fr hf
      have hms : ms T 0 (x, some ()) = mst T (nI x) (-1) (nI 0) := rfl
      have el : gx_law (gx_b f n) n (g + 1 + 1) L p = if n ≤ x then (x, some L') else if gx_b f n x = 59 then gx_law (gx_b f n) n (g + 1) L' (x + 1) else (x, none) := by
        rw [gx_law, gx_bd_some e]
        show (if n ≤ x then _ else if g + 1 = 0 then _ else _) = _
        rw [if_neg (show ¬ g + 1 = 0 by omega)]
      refine ⟨by rw [ms_k]; exact sh_k59 hcT.1, by omega, ?_⟩
      rw [hms]
      refine mr_186l (c := 59) (by omega) hcT.1 hcT.2.1 hx.2.2 (by omega) (fun y => ?_) (fun y => ?_)
      · have hxn : x < n := gx_lt gx_b_eof y (by omega)
        rw [if_neg (by omega), if_pos y] at el
        refine ⟨fun z => absurd z (by decide), fun _ => ?_⟩
        have hw2 : gx_wf t L' (10 - (g + 1)) (x + 1) := wf_mono hx.1 (by omega) (by omega)
        exact pv_W (ih T L' (x + 1) hcT hw2 hl (by omega) (by omega) (fun x2 L2 T2 e2 hf2 hl2 => h1 x2 L2 T2 (by rw [el]; exact e2) (hf.tr hf2) hl2) (fun x2 T2 e2 hf2 => h0 x2 T2 (by rw [el]; exact e2) (hf.tr hf2))) (by simp [pv_le, pm_unk])
      · rw [if_neg (show ¬ gx_b f n x = 59 from y)] at el
        refine ⟨fun _ => ?_, fun z => absurd rfl z⟩
        refine pv_W (mr_179e (r := (x, some ())) (by omega) hcT (by exact hx.2.2) ?_) (by simp [pv_le, pm_unk])
        show q (ms T 0 (if n ≤ x then (x, some ()) else (x, none)))
        split
        · rename_i hnx; rw [if_pos hnx] at el; exact h1 x L' T el hf hl
        · rename_i hnx; rw [if_neg hnx] at el; exact h0 x T el hf
    · have hx := gx_clause_le gx_b_eof hp e
      have hcT := hcx.fr hf
      have hms : ms T 0 (x, none) = mst T (nI x) (nI x) (nI 0) := rfl
      refine ⟨by rw [ms_k]; exact sh_k59 hcT.1, by omega, ?_⟩
      rw [hms]
      refine mr_186f (c := 59) hcT.1 (p := 0) (by omega) ⟨fun _ => ?_, fun z => absurd rfl z⟩
      refine pv_W (mr_179e (r := (x, none)) (by omega) hcT (by exact hx) ?_) (by simp [pv_le, pm_unk])
      exact h0 x T (by rw [gx_law, gx_bd_none e]) hf
theorem mr_179 {G : pm_G} {d : Nat} {S : pm_S} {f : Nat → Int32} {n : Nat} {t : Nat → Bool} {bs : Int32} {q : pm_S → Prop} (hd : 31 ≤ d) (hS : Sh S) (hn : n ≤ 160) (hf : ∀ k, k < n → iv_in (f k) 0 255) (hb : (bs = -1 ∧ f = pm_i S 80) ∨ ∃ l, l < 12 ∧ bs = nI (160 * l) ∧ f = iv_txt S l) (h18 : iv_c S 18 ≤ 40) (h24 : pm_i S 59 24 = nI (iv_c S 24)) (h24b : iv_c S 24 ≤ 150) (ht : tq S t)
    (h1 : ∀ x L T, gx_read f n = (x, some L) → sc S T → mlr T t L → pm_i T 59 48 = -1 → q T) (h0 : ∀ x T, gx_read f n = (x, none) → sc S T → pm_i T 59 48 = nI x → q T) : pm_CV G d 179 [.ref 59, .int bs, .int (nI n)] S q := by
  refine pm_goV 179 1 pb_c179 (by decide) (Nat.le_of_ble_eq_true rfl) rfl ?_
  try simp only [show pm_mL 179 = 6 from rfl, pm_WI0, pm_WI1, pm_WI2, pm_WI3, pm_WI4, pm_WI5, pm_WV, pm_WW, pm_WX, pb_B179, pm_if, pm_QI_at, pm_QL_at, pm_QV_at, pm_QR_at, pm_QR_at0, pm_QR_at1, Nat.reduceSub, Nat.reduceAdd, List.replicate_zero, List.replicate_succ, true_and, and_true, true_or, or_true, and_self, reduceIte, Nat.reduceEqDiff, Nat.reduceLT, Nat.reduceLeDiff, Nat.reduceMul, false_and, and_false, reduceCtorEq, false_or, or_false, not_true_eq_false, not_false_eq_true, true_implies, false_implies, implies_true, lf_10, eq_self, Int32.reduceLT, Int32.reduceLE, Int32.reduceAdd, Int32.reduceSub, pm_same, pm_i_wI, pm_l_wL, pm_l_wM, pm_oR_rf, pm_oQ_rf, sh_k59 hS]
  generalize hU : pm_wI (pm_wI (pm_wI (pm_wI (pm_wI S 59 45 bs) 59 46 0) 59 47 (nI n)) 59 48 (-1)) 59 49 0 = U
  have hsU : sc S U := by
    rw [← hU]
    exact ((((sc.rf.wI (by unfold sc_q; omega)).wI (by unfold sc_q; omega)).wI (by unfold sc_q; omega)).wI (by unfold sc_q; omega)).wI (by unfold sc_q; omega)
  have hSU := hsU.sh hS
  have u46 : pm_i U 59 46 = 0 := by rw [← hU]; simp [pm_i_wI]
  have u48 : pm_i U 59 48 = -1 := by rw [← hU]; simp [pm_i_wI]
  have u49 : pm_i U 59 49 = 0 := by rw [← hU]; simp [pm_i_wI]
  have u45 : pm_i U 59 45 = bs := by rw [← hU]; simp [pm_i_wI]
  have u47 : pm_i U 59 47 = nI n := by rw [← hU]; simp [pm_i_wI]
  have u50 : pm_i U 59 50 = pm_i S 59 50 := by rw [← hU]; simp [pm_i_wI]
  have u51 : pm_i U 59 51 = pm_i S 59 51 := by rw [← hU]; simp [pm_i_wI]
  refine ⟨by omega, mr_178 (t := t) hSU (fun T hf' hl hj => ?_)⟩
  have hcx : cx T f n t := by
    refine cx.fr (S := U) ⟨hSU, ⟨u47, hn, hf, ?_⟩, by rw [hsU.c (by omega)]; exact h18, by rw [hsU.m24, hsU.c (by omega)]; exact h24, by rw [hsU.c (by omega)]; exact h24b, ?_⟩ hf'
    · rw [u45]
      rcases hb with ⟨a, b⟩ | ⟨l, a, b, c⟩
      · exact Or.inl ⟨a, by rw [hsU.r80]; exact b⟩
      · exact Or.inr ⟨l, a, b, by rw [c]; unfold iv_txt; rw [hsU.r81]⟩
    · rcases ht with ⟨a, b⟩ | ⟨m, a, b, c⟩
      · exact Or.inl ⟨by rw [u50]; exact a, b⟩
      · exact Or.inr ⟨m, by rw [hsU.c (by omega)]; exact a, by rw [u50]; exact b, by rw [u51, tv_me hsU.me]; exact c⟩
  have eT : T = ms T 0 (0, some ()) := by
    unfold ms mst
    rw [pm_wI_self (S := T) (p := 59) (j := 46) (by rw [hj 46 (by omega), u46]; rfl), pm_wI_self (S := T) (p := 59) (j := 48) (by rw [hj 48 (by omega), u48]), pm_wI_self (S := T) (p := 59) (j := 49) (by rw [hj 49 (by omega), u49]; rfl)]
  have hST : sc S T := hsU.tr hf'.1
  have key := mr_179k (G := G) (f := f) (n := n) (t := t) (a := .int bs) (b := .int (nI n)) (q := q) hd 9 T gx_0 0 hcx wf_0 hl (by omega) (Nat.zero_le _) (fun x L' T' e hf2 hl2 => ?_) (fun x T' e hf2 => ?_)
  · rw [← eT] at key
    first | exact key | (rw [eT]; exact key) | skip
  · refine h1 x L' _ e (hST.tr (hf2.1.tr ms_sc)) (hl2.cg (fun j j1 j2 => ms_f (by omega)) (fun p p1 p2 => ms_row (by omega))) ?_
    exact mst_48
  · refine h0 x _ e (hST.tr (hf2.1.tr ms_sc)) ?_
    exact mst_48
theorem ml_176 {G : pm_G} {d : Nat} {S : pm_S} {b k : Int32} {q : Int32 → pm_S → Prop} (hS : Sh S) (hn : pm_i S 59 31 = nI (iv_c S 31)) (hn2 : iv_c S 31 ≤ 12) (h : q (oI (lwo S b k)) S) : pm_CI G d 176 [.ref 59, .int b, .int k] S q := by
  unfold lwo at h
  generalize hN : iv_c S 31 = n at *
  refine pm_goI 176 40 pb_c176 (by decide) (Nat.le_of_ble_eq_true rfl) rfl ?_
  try simp only [show pm_mL 176 = 5 from rfl, pm_WI0, pm_WI1, pm_WI2, pm_WI3, pm_WI4, pm_WI5, pm_WV, pm_WW, pm_WX, pb_B176, pm_if, pm_QI_at, pm_QL_at, pm_QV_at, pm_QR_at, pm_QR_at0, pm_QR_at1, Nat.reduceSub, Nat.reduceAdd, List.replicate_zero, List.replicate_succ, true_and, and_true, true_or, or_true, and_self, reduceIte, Nat.reduceEqDiff, Nat.reduceLT, Nat.reduceLeDiff, Nat.reduceMul, false_and, and_false, reduceCtorEq, false_or, or_false, not_true_eq_false, not_false_eq_true, true_implies, false_implies, implies_true, lf_10, eq_self, Int32.reduceLT, Int32.reduceLE, Int32.reduceAdd, Int32.reduceSub, pm_same, pm_i_wI, pm_l_wL, pm_l_wM, pm_oR_rf, pm_oQ_rf, sh_k59 hS, sh_r59_29 hS, sh_k83 hS, sh_z83 hS, sh_r59_30 hS, sh_k84 hS, sh_z84 hS]
  refine pv_loopR (fun i => [.ref 59, .int b, .int k, .int (oI (ac_f (fun l => decide (pm_i S 83 l = b ∧ ¬ k < pm_i S 84 l)) (ac_bt (pm_i S 84) true) (List.range i) none)), .int (nI i)]) n (fun i hi hk => ?_) ?_
  · have hc := nI_clamp (n := i) (by omega)
    have hle : ¬ nI n ≤ nI i := nI_ge hi (by omega)
    have hvi := vp_in_nI (n := i) (N := 12) (by omega) (by decide)
    have hb : ∀ b', ac_f (fun l => decide (pm_i S 83 l = b ∧ ¬ k < pm_i S 84 l)) (ac_bt (pm_i S 84) true) (List.range i) none = some b' → b' < i := fun b' e => ac_f_lt e
    try simp only [ac_f_succ] at hk
    revert hk hb
    generalize ac_f (fun l => decide (pm_i S 83 l = b ∧ ¬ k < pm_i S 84 l)) (ac_bt (pm_i S 84) true) (List.range i) none = acc
    intro hb hk
    have go : ∀ acc', acc' = ac_s (fun l => decide (pm_i S 83 l = b ∧ ¬ k < pm_i S 84 l)) (ac_bt (pm_i S 84) true) acc i → pm_W G d 176 (pm_QI q) 5 [.ref 59, .int b, .int k, .int (oI acc'), .int (nI (i + 1))] [] S 0 0 := fun acc' e => by rw [e]; exact hk
    have no : (fun l => decide (pm_i S 83 l = b ∧ ¬ k < pm_i S 84 l)) i = false → pm_W G d 176 (pm_QI q) 5 [.ref 59, .int b, .int k, .int (oI acc), .int (nI (i + 1))] [] S 0 0 := fun hf => go acc (ac_s_none hf).symm
    refine pm_wb_ok pb_c176 60 5 0 _ _ _ _ _ ?_
    try simp only [pm_WI0, pm_WI1, pm_WI2, pm_WI3, pm_WI4, pm_WI5, pm_WV, pm_WW, pm_WX, pb_B176, pm_if, pm_QI_at, pm_QL_at, pm_QV_at, pm_QR_at, pm_QR_at0, pm_QR_at1, Nat.reduceSub, Nat.reduceAdd, List.replicate_zero, List.replicate_succ, true_and, and_true, true_or, or_true, and_self, reduceIte, Nat.reduceEqDiff, Nat.reduceLT, Nat.reduceLeDiff, Nat.reduceMul, false_and, and_false, reduceCtorEq, false_or, or_false, not_true_eq_false, not_false_eq_true, true_implies, false_implies, implies_true, lf_10, eq_self, Int32.reduceLT, Int32.reduceLE, Int32.reduceAdd, Int32.reduceSub, pm_same, pm_i_wI, pm_l_wL, pm_l_wM, pm_oR_rf, pm_oQ_rf, sh_k59 hS, sh_r59_29 hS, sh_k83 hS, sh_z83 hS, sh_r59_30 hS, sh_k84 hS, sh_z84 hS, hn, hc, hle, nI_1]
    refine ⟨hvi, fun c1 => ⟨hvi, fun c2 => ?_, fun c2 => ?_⟩, fun c1 => ?_⟩
    · exact no (by simp [c2])
    · have hyes : decide (pm_i S 83 i = b ∧ ¬ k < pm_i S 84 i) = true := by simp [c1, c2]
      cases acc with
      | none =>
        refine ⟨fun _ => ?_, fun z => absurd (show oI none < 0 by decide) z⟩
        exact go (some i) (by simp [ac_s, ac_ok, hyes])
      | some b' =>
        have hbi := hb b' rfl
        have hcb : (oI (some b')).toNatClampNeg = b' := nI_clamp (by omega)
        refine ⟨fun z => absurd z (nI_pos (by omega)), fun _ => ⟨hvi, vp_in_nI (by omega) (by decide), ?_⟩⟩
        rw [hcb]
        refine ⟨fun z => ?_, fun z => ?_⟩
        · exact go (some b') (by simp [ac_s, ac_ok, ac_bt, hyes, z])
        · exact go (some i) (by simp [ac_s, ac_ok, ac_bt, hyes, z])
    · exact no (by simp [c1])
  · refine pm_wb_ok pb_c176 60 5 0 _ _ _ _ _ ?_
    try simp only [pm_WI0, pm_WI1, pm_WI2, pm_WI3, pm_WI4, pm_WI5, pm_WV, pm_WW, pm_WX, pb_B176, pm_if, pm_QI_at, pm_QL_at, pm_QV_at, pm_QR_at, pm_QR_at0, pm_QR_at1, Nat.reduceSub, Nat.reduceAdd, List.replicate_zero, List.replicate_succ, true_and, and_true, true_or, or_true, and_self, reduceIte, Nat.reduceEqDiff, Nat.reduceLT, Nat.reduceLeDiff, Nat.reduceMul, false_and, and_false, reduceCtorEq, false_or, or_false, not_true_eq_false, not_false_eq_true, true_implies, false_implies, implies_true, lf_10, eq_self, Int32.reduceLT, Int32.reduceLE, Int32.reduceAdd, Int32.reduceSub, pm_same, pm_i_wI, pm_l_wL, pm_l_wM, pm_oR_rf, pm_oQ_rf, sh_k59 hS, sh_r59_29 hS, sh_k83 hS, sh_z83 hS, sh_r59_30 hS, sh_k84 hS, sh_z84 hS, hn, Int32.le_refl]
    exact h
theorem MI.c31 {S : pm_S} (h : iv_MI S) : iv_c S 31 ≤ 12 ∧ pm_i S 59 31 = nI (iv_c S 31) := ⟨iv_le (n := 12) 12 h.2.2.2.2.1.1.2 (by decide), iv_nn h.2.2.2.2.1.1.1⟩
theorem MI.c24 {S : pm_S} (h : iv_MI S) : iv_c S 24 ≤ 150 ∧ pm_i S 59 24 = nI (iv_c S 24) := ⟨iv_le (n := 150) 150 h.2.2.2.1.1.2 (by decide), iv_nn h.2.2.2.1.1.1⟩
theorem MI.c18 {S : pm_S} (h : iv_MI S) : iv_c S 18 ≤ 40 ∧ pm_i S 59 18 = nI (iv_c S 18) := ⟨iv_le (n := 40) 40 h.2.2.1.1.2 (by decide), iv_nn h.2.2.1.1.1⟩
theorem MI.c2 {S : pm_S} (h : iv_MI S) : iv_c S 2 ≤ 20 ∧ pm_i S 59 2 = nI (iv_c S 2) := ⟨iv_le (n := 20) 20 h.2.1.2.1.2 (by decide), iv_nn h.2.1.2.1.1⟩
theorem lawL_read {S : pm_S} (h : iv_MI S) {i : Nat} (hi : i < iv_c S 31) : ∃ p, gx_read (iv_txt S i) (pm_i S 82 i).toNatClampNeg = (p, some (lawL S (some i))) := by
  obtain ⟨_, _, d3, _, p, L, e⟩ := h.2.2.2.2.1.2 i hi
  exact ⟨p, by rw [e]; unfold lawL; simp only [e]; rfl⟩
theorem ml_177 {G : pm_G} {d : Nat} {S : pm_S} {l : Option Nat} {m k : Int32} {t : Nat → Bool} {q : pm_S → Prop} (hd : 32 ≤ d) (hM : iv_MI S) (hl : ∀ i, l = some i → i < iv_c S 31) (ht : (m = -1 ∧ t = fun _ => false) ∨ ∃ a, a < iv_c S 18 ∧ m = nI a ∧ t = tv S a k) (h : ∀ T, sc S T → mlr T t (lawL S l) → q T) : pm_CV G d 177 [.ref 59, .int (oI l), .int m, .int k] S q := by
  have hS := hM.1
  generalize hU : pm_wI (pm_wI S 59 50 m) 59 51 k = U
  have hsU : sc S U := by
    rw [← hU]; exact (sc.rf.wI (by unfold sc_q; omega)).wI (by unfold sc_q; omega)
  have hSU := hsU.sh hS
  have u50 : pm_i U 59 50 = m := by rw [← hU]; simp [pm_i_wI]
  have u51 : pm_i U 59 51 = k := by rw [← hU]; simp [pm_i_wI]
  have htU : tq U t := by
    rcases ht with ⟨a, b⟩ | ⟨a, b, c, e⟩
    · exact Or.inl ⟨by rw [u50]; exact a, b⟩
    · exact Or.inr ⟨a, by rw [hsU.c (by omega)]; exact b, by rw [u50]; exact c, by rw [u51, tv_me hsU.me]; exact e⟩
  cases l with
  | none =>
    have hlt : ¬ 0 ≤ oI none := by decide
    refine pm_goV 177 3 pb_c177 (by decide) (Nat.le_of_ble_eq_true rfl) rfl ?_
    try simp only [show pm_mL 177 = 4 from rfl, pm_WI0, pm_WI1, pm_WI2, pm_WI3, pm_WI4, pm_WI5, pm_WV, pm_WW, pm_WX, pb_B177, pm_if, pm_QI_at, pm_QL_at, pm_QV_at, pm_QR_at, pm_QR_at0, pm_QR_at1, Nat.reduceSub, Nat.reduceAdd, List.replicate_zero, List.replicate_succ, true_and, and_true, true_or, or_true, and_self, reduceIte, Nat.reduceEqDiff, Nat.reduceLT, Nat.reduceLeDiff, Nat.reduceMul, false_and, and_false, reduceCtorEq, false_or, or_false, not_true_eq_false, not_false_eq_true, true_implies, false_implies, implies_true, lf_10, eq_self, Int32.reduceLT, Int32.reduceLE, Int32.reduceAdd, Int32.reduceSub, pm_same, pm_i_wI, pm_l_wL, pm_l_wM, pm_oR_rf, pm_oQ_rf, sh_k59 hS, sh_r59_28 hS, sh_k82 hS, sh_z82 hS, hlt, hU]
    refine ⟨by omega, mr_178 (t := t) hSU (fun T hf' hl hj => h T (hsU.tr hf'.1) hl)⟩
  | some i =>
    have hi := hl i rfl
    have hi12 := (MI.c31 hM).1
    have hlt : 0 ≤ oI (some i) := nI_pos' (by omega)
    obtain ⟨d1, d2, d3, d4, _⟩ := hM.2.2.2.2.1.2 i hi
    obtain ⟨p, hrd⟩ := lawL_read hM hi
    have h82 := iv_le (n := 160) 160 d3.2 (by decide)
    have hoi : oI (some i) = nI i := rfl
    have hmul : (160 : Int32) * nI i = nI (160 * i) := pk_mul 160 i
    refine pm_goV 177 3 pb_c177 (by decide) (Nat.le_of_ble_eq_true rfl) rfl ?_
    try simp only [show pm_mL 177 = 4 from rfl, pm_WI0, pm_WI1, pm_WI2, pm_WI3, pm_WI4, pm_WI5, pm_WV, pm_WW, pm_WX, pb_B177, pm_if, pm_QI_at, pm_QL_at, pm_QV_at, pm_QR_at, pm_QR_at0, pm_QR_at1, Nat.reduceSub, Nat.reduceAdd, List.replicate_zero, List.replicate_succ, true_and, and_true, true_or, or_true, and_self, reduceIte, Nat.reduceEqDiff, Nat.reduceLT, Nat.reduceLeDiff, Nat.reduceMul, false_and, and_false, reduceCtorEq, false_or, or_false, not_true_eq_false, not_false_eq_true, true_implies, false_implies, implies_true, lf_10, eq_self, Int32.reduceLT, Int32.reduceLE, Int32.reduceAdd, Int32.reduceSub, pm_same, pm_i_wI, pm_l_wL, pm_l_wM, pm_oR_rf, pm_oQ_rf, sh_k59 hS, sh_r59_28 hS, sh_k82 hS, sh_z82 hS, hlt, hU, hoi, hmul]
    rw [nI_clamp (by omega)]
    refine ⟨vp_in_nI (by omega) (by decide), by omega, ?_⟩
    have e82 : pm_i U 82 i = nI (pm_i S 82 i).toNatClampNeg := by rw [hsU.r82]; exact iv_nn d3.1
    try rw [e82]
    try rw [show pm_i S 82 i = nI (pm_i S 82 i).toNatClampNeg from iv_nn d3.1]
    try rw [nI_clamp (n := (pm_i S 82 i).toNatClampNeg) (by omega)]
    have etx : iv_txt U i = iv_txt S i := by unfold iv_txt; rw [hsU.r81]
    refine mr_179 (f := iv_txt S i) (t := t) (by omega) hSU h82 (fun k hk => d4 k (by omega)) (Or.inr ⟨i, by omega, rfl, etx.symm⟩) (by rw [hsU.c (by omega)]; exact (MI.c18 hM).1) (by rw [hsU.m24, hsU.c (by omega)]; exact (MI.c24 hM).2) (by rw [hsU.c (by omega)]; exact (MI.c24 hM).1) htU (fun x L T e hs hl _ => ?_) (fun x T e _ _ => ?_)
    · rw [hrd] at e
      have : lawL S (some i) = L := Option.some.inj (congrArg Prod.snd e)
      exact h T (hsU.tr hs) (by rw [this]; exact hl)
    · rw [hrd] at e; cases e
theorem gx_dummy : True := trivial
