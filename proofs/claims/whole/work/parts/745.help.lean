/-! pairs over MATTERS -/
theorem lf_108m {G : pm_G} {d : Nat} {A : iv_A} {S : pm_S} {m : Nat} {q : Option Nat → pm_S → Prop} (hI : Inv A S) (hm : m < iv_c S 18) (h : q (some (iv_m A m)) S) : pm_CR G d 108 [.ref 0, .int (nI m)] S q := by
  have h40 := (MI.c18 hI.mi)
  have hcm := nI_clamp (n := m) (by omega)
  refine lf_108 hI (fun hx ha hw => by rw [hcm]; exact h) (fun hx => absurd ⟨nI_pos' (by omega), by rw [h40.2]; exact nI_lt hm (by omega)⟩ hx)
theorem lf_108n {G : pm_G} {d : Nat} {A : iv_A} {S : pm_S} {v : Int32} {q : Option Nat → pm_S → Prop} (hI : Inv A S) (hv : ¬ (0 ≤ v ∧ v < pm_i S 59 18)) (h : q none S) : pm_CR G d 108 [.ref 0, .int v] S q := lf_108 hI (fun hx _ _ => absurd hx hv) (fun _ => h)
theorem lf_173m {G : pm_G} {d : Nat} {S : pm_S} {m n : Nat} {q : Int32 → pm_S → Prop} (hS : Sh S) (hn : pm_i S 59 18 = nI n) (hn2 : n ≤ 40) (hm : m < n) (h : q 1 S) : pm_CI G d 173 [.ref 59, .int (nI m)] S q :=
  lf_173 hS (fun _ => h) (fun z => absurd ⟨nI_pos' (by omega), by rw [hn]; exact nI_lt hm (by omega)⟩ z)
theorem lf_173n {G : pm_G} {d : Nat} {S : pm_S} {v : Int32} {q : Int32 → pm_S → Prop} (hS : Sh S) (hv : ¬ (0 ≤ v ∧ v < pm_i S 59 18)) (h : q 0 S) : pm_CI G d 173 [.ref 59, .int v] S q := lf_173 hS (fun z => absurd z hv) (fun _ => h)
theorem mt_of {S : pm_S} {v : Int32} (hn : pm_i S 59 18 = nI (iv_c S 18)) (hn2 : iv_c S 18 ≤ 40) (hv : 0 ≤ v ∧ v < pm_i S 59 18) : ∃ m, m < iv_c S 18 ∧ v = nI m := ⟨v.toNatClampNeg, iv_lt hv.1 hv.2, iv_nn hv.1⟩
theorem lf_63m {G : pm_G} {d : Nat} {A : iv_A} {S : pm_S} {m : Nat} {k : Int32} {q : Int32 → pm_S → Prop} (hI : Inv A S) (hm : m < iv_c S 18) (h1 : pm_i S 66 m ≤ k ∧ k ≤ 9999 → q 1 S) (h0 : ¬ (pm_i S 66 m ≤ k ∧ k ≤ 9999) → q 0 S) : pm_CI G d 63 [.ref (iv_m A m), .int k] S q := by
  have hw := hI.row hm
  refine pm_goI 63 40 pb_c63 (by decide) (Nat.le_of_ble_eq_true rfl) rfl ?_
  try simp only [show pm_mL 63 = 2 from rfl, pm_WI0, pm_WI1, pm_WI2, pm_WI3, pm_WI4, pm_WI5, pm_WV, pm_WW, pm_WX, pb_B63, pm_if, pm_QI_at, pm_QL_at, pm_QV_at, pm_QR_at, pm_QR_at0, pm_QR_at1, Nat.reduceSub, Nat.reduceAdd, List.replicate_zero, List.replicate_succ, true_and, and_true, true_or, or_true, and_self, reduceIte, Nat.reduceEqDiff, Nat.reduceLT, Nat.reduceLeDiff, Nat.reduceMul, false_and, and_false, reduceCtorEq, false_or, or_false, not_true_eq_false, not_false_eq_true, true_implies, false_implies, implies_true, lf_10, eq_self, Int32.reduceLT, Int32.reduceLE, Int32.reduceAdd, Int32.reduceSub, pm_same, pm_i_wI, pm_l_wL, pm_l_wM, pm_oR_rf, pm_oQ_rf, nI_1, sw_e, LQ1, LQ2, hw.k, hw.f4]
  repeat' (first | refine ⟨fun _ => ?_, fun _ => ?_⟩ | fail)
  all_goals first | (refine h1 ?_; lia) | (refine h0 ?_; lia) | (exfalso; lia)
theorem lf_211m {G : pm_G} {d : Nat} {S : pm_S} {m : Nat} {k : Int32} {q : Int32 → pm_S → Prop} (hd : 3 ≤ d) (hS : Sh S) (hm : m < 40) (h66 : 0 ≤ pm_i S 66 m) (h1 : pm_i S 66 m ≤ k ∧ k ≤ 9999 → q 1 S) (h0 : ¬ (pm_i S 66 m ≤ k ∧ k ≤ 9999) → q 0 S) : pm_CI G d 211 [.ref 59, .int (nI m), .int k] S q := by
  have hcm := nI_clamp (n := m) (by omega)
  have hvm := vp_in_nI (n := m) (N := 40) hm (by decide)
  refine pm_goI 211 40 pb_c211 (by decide) (Nat.le_of_ble_eq_true rfl) rfl ?_
  try simp only [show pm_mL 211 = 3 from rfl, pm_WI0, pm_WI1, pm_WI2, pm_WI3, pm_WI4, pm_WI5, pm_WV, pm_WW, pm_WX, pb_B211, pm_if, pm_QI_at, pm_QL_at, pm_QV_at, pm_QR_at, pm_QR_at0, pm_QR_at1, Nat.reduceSub, Nat.reduceAdd, List.replicate_zero, List.replicate_succ, true_and, and_true, true_or, or_true, and_self, reduceIte, Nat.reduceEqDiff, Nat.reduceLT, Nat.reduceLeDiff, Nat.reduceMul, false_and, and_false, reduceCtorEq, false_or, or_false, not_true_eq_false, not_false_eq_true, true_implies, false_implies, implies_true, lf_10, eq_self, Int32.reduceLT, Int32.reduceLE, Int32.reduceAdd, Int32.reduceSub, pm_same, pm_i_wI, pm_l_wL, pm_l_wM, pm_oR_rf, pm_oQ_rf, sh_k59 hS, sh_r59_9 hS, sh_k66 hS, sh_z66 hS, nI_1, LQ1, LQ2, hcm]
  refine ⟨by omega, lf_161 (by omega) (fun hk => ?_) (fun hk => ?_)⟩ <;> try simp only [pm_WV, pm_WW, true_and, and_true, true_or, or_true, and_self, reduceIte, Nat.reduceEqDiff, Nat.reduceLT, Nat.reduceLeDiff, Nat.reduceMul, false_and, and_false, reduceCtorEq, false_or, or_false, not_true_eq_false, not_false_eq_true, true_implies, false_implies, implies_true, lf_10, eq_self, Int32.reduceLT, Int32.reduceLE, Int32.reduceAdd, Int32.reduceSub, pm_same, pm_i_wI, pm_l_wL, pm_l_wM, pm_oR_rf, pm_oQ_rf, nI_1, sw_e, LQ1, LQ2, pm_WI0, pm_WI1, pm_WI2, pm_WI3, pm_WI4, pm_WI5, pm_WV, pm_WW, pm_WX, pb_B211, pm_if, pm_QI_at, pm_QL_at, pm_QV_at, pm_QR_at, pm_QR_at0, pm_QR_at1, Nat.reduceSub, Nat.reduceAdd, List.replicate_zero, List.replicate_succ, true_and, and_true, true_or, or_true, and_self, reduceIte, Nat.reduceEqDiff, Nat.reduceLT, Nat.reduceLeDiff, Nat.reduceMul, false_and, and_false, reduceCtorEq, false_or, or_false, not_true_eq_false, not_false_eq_true, true_implies, false_implies, implies_true, lf_10, eq_self, Int32.reduceLT, Int32.reduceLE, Int32.reduceAdd, Int32.reduceSub, pm_same, pm_i_wI, pm_l_wL, pm_l_wM, pm_oR_rf, pm_oQ_rf, sh_k59 hS, sh_r59_9 hS, sh_k66 hS, sh_z66 hS, nI_1, LQ1, LQ2, hcm]
  · repeat' (first | refine ⟨fun _ => ?_, fun _ => ?_⟩ | refine ⟨hvm, ?_⟩ | fail)
    all_goals first | exact hvm | (refine h1 ?_; lia) | (refine h0 ?_; lia) | (exfalso; lia)
  · first
      | (refine h0 (fun z => hk ⟨?_, z.2⟩); have := z.1; lia)
      | exact ⟨fun _ => h0 (fun z => hk ⟨by have := z.1; lia, z.2⟩), fun z => absurd rfl z⟩
theorem hd_of {v : Int32} (h : 0 ≤ v ∧ v ≤ 5) : ∃ n, n < 6 ∧ v = nI n := ⟨v.toNatClampNeg, by have := iv_le (n := 5) 5 h.2 (by decide); omega, iv_nn h.1⟩
theorem hd_in {h : Nat} (hh : h < 6) : 0 ≤ nI h ∧ nI h ≤ 5 := ⟨nI_pos' (by omega), nI_le (b := 5) (by omega) (by decide)⟩
