theorem lf_108 {G : pm_G} {d : Nat} {A : iv_A} {S : pm_S} {v : Int32} {q : Option Nat → pm_S → Prop} (hI : Inv A S) (h1 : 0 ≤ v ∧ v < pm_i S 59 18 → v.toNatClampNeg < iv_c S 18 → iv_mrow A S v.toNatClampNeg → q (some (iv_m A v.toNatClampNeg)) S) (h0 : ¬ (0 ≤ v ∧ v < pm_i S 59 18) → q none S) : pm_CR G d 108 [.ref 0, .int v] S q := by
  have hS := hI.sh
  obtain ⟨b1, b2⟩ := hI.b18
  refine pm_goR 108 40 pb_c108 (by decide) (Nat.le_of_ble_eq_true rfl) rfl ?_
  simp only [show pm_mL 108 = 2 from rfl, pm_WI0, pm_WI1, pm_WI2, pm_WI3, pm_WI4, pm_WI5, pm_WV, pm_WW, pm_WX, pb_B108, pm_if, pm_QI_at, pm_QL_at, pm_QV_at, pm_QR_at, pm_QR_at0, pm_QR_at1, Nat.reduceSub, Nat.reduceAdd, List.replicate_zero, List.replicate_succ, true_and, and_true, true_or, or_true, and_self, reduceIte, Nat.reduceEqDiff, Nat.reduceLT, Nat.reduceLeDiff, Nat.reduceMul, false_and, and_false, reduceCtorEq, false_or, or_false, not_true_eq_false, not_false_eq_true, true_implies, false_implies, implies_true, lf_10, eq_self, Int32.reduceLT, Int32.reduceLE, Int32.reduceAdd, Int32.reduceSub, pm_same, pm_i_wI, pm_l_wL, pm_l_wM, pm_oR_rf, pm_oQ_rf, sh_k0 hS, sh_r0_3 hS, sh_k4 hS, sh_z4 hS, Inv.e1_0 hI, Inv.e2 hI, Inv.e1_2 hI, Inv.e0_2 hI, Inv.e3 hI, Inv.e0_4 hI, Inv.e0_5 hI, Inv.e5_1 hI, Inv.e6 hI, Inv.e14_2 hI, Inv.e28_0 hI, Inv.e29 hI, Inv.e30 hI, Inv.e31 hI, Inv.e0_10 hI, Inv.e33_0 hI, Inv.e38_0 hI, Inv.e39 hI, Inv.e40 hI, Inv.e41 hI, Inv.e44_0 hI, Inv.e45 hI]
  repeat' (first | with_reducible refine ⟨fun _ => ?_, fun _ => ?_⟩ | with_reducible refine ⟨?_, ?_⟩ | fail)
  all_goals first | omega | exact iv_vp 40 (by lia) (by lia) b2 (by decide) | (refine h0 ?_; lia) | skip
  · have hv : 0 ≤ v ∧ v < pm_i S 59 18 := by lia
    have ha := iv_lt hv.1 hv.2
    rw [(hI.row ha).r]
    exact h1 hv ha (hI.row ha)
theorem lf_122 {G : pm_G} {d : Nat} {S : pm_S} {v : Int32} {q : Option Nat → pm_S → Prop} (hS : Sh S) (h1 : 0 ≤ v ∧ v ≤ 5 → v.toNatClampNeg < 6 → q (some (47 + 2 * v.toNatClampNeg)) S) (h0 : ¬ (0 ≤ v ∧ v ≤ 5) → q none S) : pm_CR G d 122 [.ref 0, .int v] S q := by
  refine pm_goR 122 40 pb_c122 (by decide) (Nat.le_of_ble_eq_true rfl) rfl ?_
  simp only [show pm_mL 122 = 2 from rfl, pm_WI0, pm_WI1, pm_WI2, pm_WI3, pm_WI4, pm_WI5, pm_WV, pm_WW, pm_WX, pb_B122, pm_if, pm_QI_at, pm_QL_at, pm_QV_at, pm_QR_at, pm_QR_at0, pm_QR_at1, Nat.reduceSub, Nat.reduceAdd, List.replicate_zero, List.replicate_succ, true_and, and_true, true_or, or_true, and_self, reduceIte, Nat.reduceEqDiff, Nat.reduceLT, Nat.reduceLeDiff, Nat.reduceMul, false_and, and_false, reduceCtorEq, false_or, or_false, not_true_eq_false, not_false_eq_true, true_implies, false_implies, implies_true, lf_10, eq_self, Int32.reduceLT, Int32.reduceLE, Int32.reduceAdd, Int32.reduceSub, pm_same, pm_i_wI, pm_l_wL, pm_l_wM, pm_oR_rf, pm_oQ_rf, sh_k0 hS, sh_r0_13 hS, sh_k46 hS, sh_z46 hS]
  repeat' (first | with_reducible refine ⟨fun _ => ?_, fun _ => ?_⟩ | with_reducible refine ⟨?_, ?_⟩ | fail)
  all_goals first | omega | exact iv_vq 5 (by lia) (by lia) (by decide) | (refine h0 ?_; lia) | skip
  · have hv : 0 ≤ v ∧ v ≤ 5 := by lia
    have hn : v.toNatClampNeg < 6 := by have := iv_le (n := 5) 5 hv.2 (by decide); omega
    have e : pm_r S 46 v.toNatClampNeg = some (47 + 2 * v.toNatClampNeg) := by
      have : ∀ t, t < 6 → pm_r S 46 t = some (47 + 2 * t) := by
        intro t ht
        match t, ht with
        | 0, _ => exact sh_r46_0 hS
        | 1, _ => exact sh_r46_1 hS
        | 2, _ => exact sh_r46_2 hS
        | 3, _ => exact sh_r46_3 hS
        | 4, _ => exact sh_r46_4 hS
        | 5, _ => exact sh_r46_5 hS
      exact this _ hn
    rw [e]
    exact h1 hv hn
theorem lf_68 {G : pm_G} {d : Nat} {S : pm_S} {p : Nat} {q : Int32 → pm_S → Prop} (hk : pm_k S p = 7) (h1 : pm_i S p 6 = 3 ∨ pm_i S p 6 = 6 → q 1 S) (h0 : ¬ (pm_i S p 6 = 3 ∨ pm_i S p 6 = 6) → q 0 S) : pm_CI G d 68 [.ref p] S q := by
  refine pm_goI 68 40 pb_c68 (by decide) (Nat.le_of_ble_eq_true rfl) rfl ?_
  simp only [show pm_mL 68 = 1 from rfl, pm_WI0, pm_WI1, pm_WI2, pm_WI3, pm_WI4, pm_WI5, pm_WV, pm_WW, pm_WX, pb_B68, pm_if, pm_QI_at, pm_QL_at, pm_QV_at, pm_QR_at, pm_QR_at0, pm_QR_at1, Nat.reduceSub, Nat.reduceAdd, List.replicate_zero, List.replicate_succ, true_and, and_true, true_or, or_true, and_self, reduceIte, Nat.reduceEqDiff, Nat.reduceLT, Nat.reduceLeDiff, Nat.reduceMul, false_and, and_false, reduceCtorEq, false_or, or_false, not_true_eq_false, not_false_eq_true, true_implies, false_implies, implies_true, lf_10, eq_self, Int32.reduceLT, Int32.reduceLE, Int32.reduceAdd, Int32.reduceSub, hk]
  repeat' (first | with_reducible refine ⟨fun _ => ?_, fun _ => ?_⟩ | with_reducible refine ⟨?_, ?_⟩ | fail)
  all_goals first | omega | (refine h1 ?_; lia) | (refine h0 ?_; lia) | (exfalso; lia) | skip
theorem lf_63 {G : pm_G} {d : Nat} {S : pm_S} {p : Nat} {v : Int32} {q : Int32 → pm_S → Prop} (hk : pm_k S p = 7) (h1 : pm_i S p 4 ≤ v ∧ v ≤ 9999 → q 1 S) (h0 : ¬ (pm_i S p 4 ≤ v ∧ v ≤ 9999) → q 0 S) : pm_CI G d 63 [.ref p, .int v] S q := by
  refine pm_goI 63 40 pb_c63 (by decide) (Nat.le_of_ble_eq_true rfl) rfl ?_
  simp only [show pm_mL 63 = 2 from rfl, pm_WI0, pm_WI1, pm_WI2, pm_WI3, pm_WI4, pm_WI5, pm_WV, pm_WW, pm_WX, pb_B63, pm_if, pm_QI_at, pm_QL_at, pm_QV_at, pm_QR_at, pm_QR_at0, pm_QR_at1, Nat.reduceSub, Nat.reduceAdd, List.replicate_zero, List.replicate_succ, true_and, and_true, true_or, or_true, and_self, reduceIte, Nat.reduceEqDiff, Nat.reduceLT, Nat.reduceLeDiff, Nat.reduceMul, false_and, and_false, reduceCtorEq, false_or, or_false, not_true_eq_false, not_false_eq_true, true_implies, false_implies, implies_true, lf_10, eq_self, Int32.reduceLT, Int32.reduceLE, Int32.reduceAdd, Int32.reduceSub, hk]
  repeat' (first | with_reducible refine ⟨fun _ => ?_, fun _ => ?_⟩ | with_reducible refine ⟨?_, ?_⟩ | fail)
  all_goals first | omega | (refine h1 ?_; lia) | (refine h0 ?_; lia) | (exfalso; lia) | skip
theorem lf_61 {G : pm_G} {d : Nat} {S : pm_S} {p : Nat} {v : Int32} {q : Int32 → pm_S → Prop} (hk : pm_k S p = 7) (h1 : 0 ≤ pm_i S p 10 ∧ pm_i S p 10 ≤ v → q 1 S) (h0 : ¬ (0 ≤ pm_i S p 10 ∧ pm_i S p 10 ≤ v) → q 0 S) : pm_CI G d 61 [.ref p, .int v] S q := by
  refine pm_goI 61 40 pb_c61 (by decide) (Nat.le_of_ble_eq_true rfl) rfl ?_
  simp only [show pm_mL 61 = 2 from rfl, pm_WI0, pm_WI1, pm_WI2, pm_WI3, pm_WI4, pm_WI5, pm_WV, pm_WW, pm_WX, pb_B61, pm_if, pm_QI_at, pm_QL_at, pm_QV_at, pm_QR_at, pm_QR_at0, pm_QR_at1, Nat.reduceSub, Nat.reduceAdd, List.replicate_zero, List.replicate_succ, true_and, and_true, true_or, or_true, and_self, reduceIte, Nat.reduceEqDiff, Nat.reduceLT, Nat.reduceLeDiff, Nat.reduceMul, false_and, and_false, reduceCtorEq, false_or, or_false, not_true_eq_false, not_false_eq_true, true_implies, false_implies, implies_true, lf_10, eq_self, Int32.reduceLT, Int32.reduceLE, Int32.reduceAdd, Int32.reduceSub, hk]
  repeat' (first | with_reducible refine ⟨fun _ => ?_, fun _ => ?_⟩ | with_reducible refine ⟨?_, ?_⟩ | fail)
  all_goals first | omega | (refine h1 ?_; lia) | (refine h0 ?_; lia) | (exfalso; lia) | skip
theorem lf_211 {G : pm_G} {d : Nat} {S : pm_S} {m v : Int32} {q : Int32 → pm_S → Prop} (hd : 3 ≤ d) (hS : Sh S) (hm : vp_in m 40) (h1 : (0 ≤ v ∧ v ≤ 9999) ∧ pm_i S 66 m.toNatClampNeg ≤ v → q 1 S) (h0 : ¬ ((0 ≤ v ∧ v ≤ 9999) ∧ pm_i S 66 m.toNatClampNeg ≤ v) → q 0 S) : pm_CI G d 211 [.ref 59, .int m, .int v] S q := by
  refine pm_goI 211 40 pb_c211 (by decide) (Nat.le_of_ble_eq_true rfl) rfl ?_
  simp only [show pm_mL 211 = 3 from rfl, pm_WI0, pm_WI1, pm_WI2, pm_WI3, pm_WI4, pm_WI5, pm_WV, pm_WW, pm_WX, pb_B211, pm_if, pm_QI_at, pm_QL_at, pm_QV_at, pm_QR_at, pm_QR_at0, pm_QR_at1, Nat.reduceSub, Nat.reduceAdd, List.replicate_zero, List.replicate_succ, true_and, and_true, true_or, or_true, and_self, reduceIte, Nat.reduceEqDiff, Nat.reduceLT, Nat.reduceLeDiff, Nat.reduceMul, false_and, and_false, reduceCtorEq, false_or, or_false, not_true_eq_false, not_false_eq_true, true_implies, false_implies, implies_true, lf_10, eq_self, Int32.reduceLT, Int32.reduceLE, Int32.reduceAdd, Int32.reduceSub, sh_k59 hS, sh_r59_9 hS, sh_k66 hS, sh_z66 hS]
  repeat' (first | with_reducible refine ⟨fun _ => ?_, fun _ => ?_⟩ | with_reducible refine ⟨?_, ?_⟩ | (refine lf_161 (by omega) (fun _ => ?_) (fun _ => ?_) <;> try simp only [pm_WV, true_and, and_true, true_or, or_true, and_self, reduceIte, Nat.reduceEqDiff, Nat.reduceLT, Nat.reduceLeDiff, Nat.reduceMul, false_and, and_false, reduceCtorEq, false_or, or_false, not_true_eq_false, not_false_eq_true, true_implies, false_implies, implies_true, lf_10, eq_self, Int32.reduceLT, Int32.reduceLE, Int32.reduceAdd, Int32.reduceSub, sh_k59 hS, sh_r59_9 hS, sh_k66 hS, sh_z66 hS]) | fail)
  all_goals first | omega | exact hm | (refine h1 ?_; lia) | (refine h0 ?_; lia) | (exfalso; lia) | skip
theorem lf_228 {G : pm_G} {d : Nat} {S : pm_S} {m : Int32} {q : Int32 → pm_S → Prop} (hS : Sh S) (hm : vp_in m 40) (h1 : pm_i S 62 m.toNatClampNeg = 3 ∨ pm_i S 62 m.toNatClampNeg = 6 → q 1 S) (h0 : ¬ (pm_i S 62 m.toNatClampNeg = 3 ∨ pm_i S 62 m.toNatClampNeg = 6) → q 0 S) : pm_CI G d 228 [.ref 59, .int m] S q := by
  refine pm_goI 228 40 pb_c228 (by decide) (Nat.le_of_ble_eq_true rfl) rfl ?_
  simp only [show pm_mL 228 = 2 from rfl, pm_WI0, pm_WI1, pm_WI2, pm_WI3, pm_WI4, pm_WI5, pm_WV, pm_WW, pm_WX, pb_B228, pm_if, pm_QI_at, pm_QL_at, pm_QV_at, pm_QR_at, pm_QR_at0, pm_QR_at1, Nat.reduceSub, Nat.reduceAdd, List.replicate_zero, List.replicate_succ, true_and, and_true, true_or, or_true, and_self, reduceIte, Nat.reduceEqDiff, Nat.reduceLT, Nat.reduceLeDiff, Nat.reduceMul, false_and, and_false, reduceCtorEq, false_or, or_false, not_true_eq_false, not_false_eq_true, true_implies, false_implies, implies_true, lf_10, eq_self, Int32.reduceLT, Int32.reduceLE, Int32.reduceAdd, Int32.reduceSub, sh_k59 hS, sh_r59_5 hS, sh_k62 hS, sh_z62 hS]
  repeat' (first | with_reducible refine ⟨fun _ => ?_, fun _ => ?_⟩ | with_reducible refine ⟨?_, ?_⟩ | fail)
  all_goals first | omega | exact hm | (refine h1 ?_; lia) | (refine h0 ?_; lia) | (exfalso; lia) | skip
theorem lf_215 {G : pm_G} {d : Nat} {S : pm_S} {s v u : Int32} {q : Int32 → pm_S → Prop} (hd : 3 ≤ d) (hS : Sh S) (h1 : (1 ≤ s ∧ s ≤ 9) ∧ (0 ≤ v ∧ v ≤ pm_i S 59 0) ∧ -99 ≤ u ∧ u ≤ 99 → q 1 S) (h0 : ¬ ((1 ≤ s ∧ s ≤ 9) ∧ (0 ≤ v ∧ v ≤ pm_i S 59 0) ∧ -99 ≤ u ∧ u ≤ 99) → q 0 S) : pm_CI G d 215 [.ref 59, .int s, .int v, .int u] S q := by
  refine pm_goI 215 40 pb_c215 (by decide) (Nat.le_of_ble_eq_true rfl) rfl ?_
  simp only [show pm_mL 215 = 4 from rfl, pm_WI0, pm_WI1, pm_WI2, pm_WI3, pm_WI4, pm_WI5, pm_WV, pm_WW, pm_WX, pb_B215, pm_if, pm_QI_at, pm_QL_at, pm_QV_at, pm_QR_at, pm_QR_at0, pm_QR_at1, Nat.reduceSub, Nat.reduceAdd, List.replicate_zero, List.replicate_succ, true_and, and_true, true_or, or_true, and_self, reduceIte, Nat.reduceEqDiff, Nat.reduceLT, Nat.reduceLeDiff, Nat.reduceMul, false_and, and_false, reduceCtorEq, false_or, or_false, not_true_eq_false, not_false_eq_true, true_implies, false_implies, implies_true, lf_10, eq_self, Int32.reduceLT, Int32.reduceLE, Int32.reduceAdd, Int32.reduceSub, sh_k59 hS]
  repeat' (first | with_reducible refine ⟨fun _ => ?_, fun _ => ?_⟩ | with_reducible refine ⟨?_, ?_⟩ | (refine lf_209 (by omega) (fun _ => ?_) (fun _ => ?_) <;> try simp only [pm_WV, true_and, and_true, true_or, or_true, and_self, reduceIte, Nat.reduceEqDiff, Nat.reduceLT, Nat.reduceLeDiff, Nat.reduceMul, false_and, and_false, reduceCtorEq, false_or, or_false, not_true_eq_false, not_false_eq_true, true_implies, false_implies, implies_true, lf_10, eq_self, Int32.reduceLT, Int32.reduceLE, Int32.reduceAdd, Int32.reduceSub, sh_k59 hS]) | (refine lf_159 (fun _ => ?_) (fun _ => ?_) <;> try simp only [pm_WV, true_and, and_true, true_or, or_true, and_self, reduceIte, Nat.reduceEqDiff, Nat.reduceLT, Nat.reduceLeDiff, Nat.reduceMul, false_and, and_false, reduceCtorEq, false_or, or_false, not_true_eq_false, not_false_eq_true, true_implies, false_implies, implies_true, lf_10, eq_self, Int32.reduceLT, Int32.reduceLE, Int32.reduceAdd, Int32.reduceSub, sh_k59 hS]) | fail)
  all_goals first | omega | (refine h1 ?_; lia) | (refine h0 ?_; lia) | (exfalso; lia) | skip
