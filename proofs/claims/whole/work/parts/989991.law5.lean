/-! a LAW read by the class, from the start -/
def lw_cl (S : pm_S) (p : Nat) : pm_S := (pm_wI (pm_wI (pm_wI (pm_wI (pm_wI (pm_wI (pm_wI (pm_wI (pm_wI (pm_wI (pm_wI S p 2 0) p 8 0) p 9 0) p 10 9999) p 11 30) p 12 0) p 13 1) p 14 9999) p 15 0) p 16 1) p 18 0)
theorem lw_cl_o {S : pm_S} {p x j : Nat} (h : x ≠ p) : pm_i (lw_cl S p) x j = pm_i S x j := by
  unfold lw_cl
  try simp only [pm_i_wI]
  try simp only [h, false_and, reduceIte]
theorem lw_cl_f {S : pm_S} {p f : Nat} (h : 8 ≤ f) (h2 : f ≤ 16) : pm_i (lw_cl S p) p f = nI (gx_0.2.1 f) := by
  have hc : f = 8 ∨ f = 9 ∨ f = 10 ∨ f = 11 ∨ f = 12 ∨ f = 13 ∨ f = 14 ∨ f = 15 ∨ f = 16 := by omega
  unfold lw_cl
  rcases hc with rfl | rfl | rfl | rfl | rfl | rfl | rfl | rfl | rfl <;> simp only [pm_i_wI, true_and, reduceIte, Nat.reduceEqDiff] <;> rfl
theorem lw_cl_n {S : pm_S} {p : Nat} : pm_i (lw_cl S p) p 2 = 0 ∧ pm_i (lw_cl S p) p 18 = 0 := by
  unfold lw_cl
  constructor <;> simp only [pm_i_wI, true_and, reduceIte, Nat.reduceEqDiff]
theorem lw_cl_rep {S : pm_S} {p : Nat} {wq : Nat → Nat} : iv_lrep (lw_cl S p) p wq gx_0 :=
  ⟨lw_cl_n.1, lw_cl_n.2, by decide, by decide, fun _ h h2 => lw_cl_f h h2, fun k hk => absurd hk (Nat.not_lt_zero k), fun k hk => absurd hk (Nat.not_lt_zero k)⟩
theorem lw_cl_s {S : pm_S} {p : Nat} : pm_n (lw_cl S p) = pm_n S ∧ pm_k (lw_cl S p) = pm_k S ∧ pm_z (lw_cl S p) = pm_z S ∧ pm_r (lw_cl S p) = pm_r S ∧ pm_l (lw_cl S p) = pm_l S := by
  unfold lw_cl
  try simp only [pm_same, and_self]
theorem lf_33 {G : pm_G} {d : Nat} {S : pm_S} {p : Nat} {q : pm_S → Prop} (hk : pm_k S p = 5) (h : q (lw_cl S p)) : pm_CV G d 33 [.ref p] S q := by
  unfold lw_cl at h
  refine pm_goV 33 1 pb_c33 (by decide) (Nat.le_of_ble_eq_true rfl) rfl ?_
  try simp only [show pm_mL 33 = 1 from rfl, pm_WI0, pm_WI1, pm_WI2, pm_WI3, pm_WI4, pm_WI5, pm_WV, pm_WW, pm_WX, pb_B33, pm_if, pm_QI_at, pm_QL_at, pm_QV_at, pm_QR_at, pm_QR_at0, pm_QR_at1, Nat.reduceSub, Nat.reduceAdd, List.replicate_zero, List.replicate_succ, true_and, and_true, true_or, or_true, and_self, reduceIte, Nat.reduceEqDiff, Nat.reduceLT, Nat.reduceLeDiff, Nat.reduceMul, false_and, and_false, reduceCtorEq, false_or, or_false, not_true_eq_false, not_false_eq_true, true_implies, false_implies, implies_true, lf_10, eq_self, Int32.reduceLT, Int32.reduceLE, Int32.reduceAdd, Int32.reduceSub, pm_same, pm_i_wI, pm_l_wL, pm_l_wM, pm_oR_rf, pm_oQ_rf, nI_1, LQ1, LQ2, LQ5, hk]
  repeat' (first | exact h | (refine pm_wb_ok pb_c33 1 _ 0 _ _ _ _ _ ?_; simp only [pm_WI0, pm_WI1, pm_WI2, pm_WI3, pm_WI4, pm_WI5, pm_WV, pm_WW, pm_WX, pb_B33, pm_if, pm_QI_at, pm_QL_at, pm_QV_at, pm_QR_at, pm_QR_at0, pm_QR_at1, Nat.reduceSub, Nat.reduceAdd, List.replicate_zero, List.replicate_succ, true_and, and_true, true_or, or_true, and_self, reduceIte, Nat.reduceEqDiff, Nat.reduceLT, Nat.reduceLeDiff, Nat.reduceMul, false_and, and_false, reduceCtorEq, false_or, or_false, not_true_eq_false, not_false_eq_true, true_implies, false_implies, implies_true, lf_10, eq_self, Int32.reduceLT, Int32.reduceLE, Int32.reduceAdd, Int32.reduceSub, pm_same, pm_i_wI, pm_l_wL, pm_l_wM, pm_oR_rf, pm_oQ_rf, nI_1, LQ1, LQ2, LQ5, hk]) | fail)
theorem lf_42 {G : pm_G} {d D n : Nat} {W : Nat → Nat} {S : pm_S} {q : Int32 → pm_S → Prop} (hd : 25 ≤ d) (hS : Sh S) (hd0 : dl S D W) (hn : pm_i S 5 1 = nI n) (hn2 : n ≤ 160) (h6 : ∀ k, iv_in (pm_i S 6 k) 0 255) (h1 : ∀ x L S', gx_read (pm_i S 6) n = (x, some L) → rs S D W n S' x L → q 1 S') (h0 : ∀ x S', gx_read (pm_i S 6) n = (x, none) → rq S D W n S' x → q 0 S') : pm_CI G d 42 [.ref 5] S q := by
  have kD := hd0.2.1
  have D5 : D ≠ 5 := by rcases hd0.2.2.1 with z | z <;> omega
  have D6 : D ≠ 6 := by rcases hd0.2.2.1 with z | z <;> omega
  have r53 : pm_r S 5 3 = some D := hd0.1
  have xs := lw_cl_s (S := S) (p := D)
  have xo : ∀ x j, x ≠ D → pm_i (lw_cl S D) x j = pm_i S x j := fun x j h => lw_cl_o h
  have xr := lw_cl_rep (S := S) (p := D) (wq := W)
  have cl := @lf_33 G (d - 1) S D
  generalize lw_cl S D = X at *
  have key : pm_W G d 42 (pm_QI q) 14 [.ref 5, .int (nI (10 - 9))] [] (pm_wI X 5 2 0) 0 0 := by
    refine rd_42k hS hd0 (by omega) 9 (pm_wI X 5 2 0) 0 gx_0 (by omega) ?_ ?_ (fun x L S' e hr => h1 x L S' e hr) (fun x S' e hr => h0 x S' e hr)
    · refine ⟨xs, fun x j h1 h2 _ => ?_, ?_, ?_⟩
      · rw [pm_i_wI, if_neg h1]; exact xo x j h2
      · have a1 : pm_i (pm_wI X 5 2 0) 5 1 = nI n := by rw [pm_i_wI, if_neg (by omega), xo _ _ (fun z => D5 z.symm)]; exact hn
        have a2 : pm_i (pm_wI X 5 2 0) 5 2 = nI 0 := by rw [pm_i_wI, if_pos ⟨rfl, rfl⟩]; rfl
        have a3 : ∀ k, pm_i (pm_wI X 5 2 0) 6 k = pm_i S 6 k := fun k => by rw [pm_i_wI, if_neg (by omega), xo _ _ (fun z => D6 z.symm)]
        first | exact ⟨a2, a1, Nat.zero_le _, hn2, fun k _ => by rw [a3]; exact h6 k⟩ | exact ⟨a1, a2, Nat.zero_le _, hn2, fun k _ => by rw [a3]; exact h6 k⟩ | skip
      · refine xr.cg (funext fun j => by rw [pm_i_wI, if_neg (fun z => D5 z.1)]) (fun i hi => funext fun j => ?_)
        rw [pm_i_wI, if_neg (fun z => by have := (hd0.2.2.2.1 i hi).2.2.2; omega)]
    · exact wf_0
  refine pm_goI 42 1 pb_c42 (by decide) (Nat.le_of_ble_eq_true rfl) rfl ?_
  try simp only [show pm_mL 42 = 2 from rfl, pm_WI0, pm_WI1, pm_WI2, pm_WI3, pm_WI4, pm_WI5, pm_WV, pm_WW, pm_WX, pb_B42, pm_if, pm_QI_at, pm_QL_at, pm_QV_at, pm_QR_at, pm_QR_at0, pm_QR_at1, Nat.reduceSub, Nat.reduceAdd, List.replicate_zero, List.replicate_succ, true_and, and_true, true_or, or_true, and_self, reduceIte, Nat.reduceEqDiff, Nat.reduceLT, Nat.reduceLeDiff, Nat.reduceMul, false_and, and_false, reduceCtorEq, false_or, or_false, not_true_eq_false, not_false_eq_true, true_implies, false_implies, implies_true, lf_10, eq_self, Int32.reduceLT, Int32.reduceLE, Int32.reduceAdd, Int32.reduceSub, pm_same, pm_i_wI, pm_l_wL, pm_l_wM, pm_oR_rf, pm_oQ_rf, nI_1, LQ1, LQ2, LQ5, sh_k5 hS, r53, kD]
  refine ⟨by omega, cl kD ?_⟩
  have k5 : pm_k X 5 = 6 := by rw [xs.2.1]; exact sh_k5 hS
  try simp only [pm_WV, pm_WW, true_and, and_true, true_or, or_true, and_self, reduceIte, Nat.reduceEqDiff, Nat.reduceLT, Nat.reduceLeDiff, Nat.reduceMul, false_and, and_false, reduceCtorEq, false_or, or_false, not_true_eq_false, not_false_eq_true, true_implies, false_implies, implies_true, lf_10, eq_self, Int32.reduceLT, Int32.reduceLE, Int32.reduceAdd, Int32.reduceSub, pm_same, pm_i_wI, pm_l_wL, pm_l_wM, pm_oR_rf, pm_oQ_rf, nI_1, sw_e, LQ1, LQ2, pm_WI0, pm_WI1, pm_WI2, pm_WI3, pm_WI4, pm_WI5, pm_WV, pm_WW, pm_WX, pb_B42, pm_if, pm_QI_at, pm_QL_at, pm_QV_at, pm_QR_at, pm_QR_at0, pm_QR_at1, Nat.reduceSub, Nat.reduceAdd, List.replicate_zero, List.replicate_succ, true_and, and_true, true_or, or_true, and_self, reduceIte, Nat.reduceEqDiff, Nat.reduceLT, Nat.reduceLeDiff, Nat.reduceMul, false_and, and_false, reduceCtorEq, false_or, or_false, not_true_eq_false, not_false_eq_true, true_implies, false_implies, implies_true, lf_10, eq_self, Int32.reduceLT, Int32.reduceLE, Int32.reduceAdd, Int32.reduceSub, pm_same, pm_i_wI, pm_l_wL, pm_l_wM, pm_oR_rf, pm_oQ_rf, nI_1, LQ1, LQ2, LQ5, sh_k5 hS, r53, kD, k5]
  repeat' (first | exact key | exact pv_W key (by simp [pv_le, pm_unk, show nI (10 - 9) = 1 from rfl]) | (refine pm_wb_ok pb_c42 1 _ 0 _ _ _ _ _ ?_; simp only [pm_WI0, pm_WI1, pm_WI2, pm_WI3, pm_WI4, pm_WI5, pm_WV, pm_WW, pm_WX, pb_B42, pm_if, pm_QI_at, pm_QL_at, pm_QV_at, pm_QR_at, pm_QR_at0, pm_QR_at1, Nat.reduceSub, Nat.reduceAdd, List.replicate_zero, List.replicate_succ, true_and, and_true, true_or, or_true, and_self, reduceIte, Nat.reduceEqDiff, Nat.reduceLT, Nat.reduceLeDiff, Nat.reduceMul, false_and, and_false, reduceCtorEq, false_or, or_false, not_true_eq_false, not_false_eq_true, true_implies, false_implies, implies_true, lf_10, eq_self, Int32.reduceLT, Int32.reduceLE, Int32.reduceAdd, Int32.reduceSub, pm_same, pm_i_wI, pm_l_wL, pm_l_wM, pm_oR_rf, pm_oQ_rf, nI_1, LQ1, LQ2, LQ5, sh_k5 hS, r53, kD, k5]) | fail)
