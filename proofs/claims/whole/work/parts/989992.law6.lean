/-! a new LAW -/
def nwf (S : pm_S) (p f z : Nat) : pm_S := pm_wR (pm_nw S 20 z) p f (some (pm_n S))
def lw_N (S : pm_S) (p : Nat) : pm_S := lw_cl (nwf (nwf (nwf (nwf (nwf (nwf (pm_wI (pm_wI S p 0 (-1)) p 1 0) p 3 10) p 4 10) p 5 10) p 6 10) p 7 10) p 17 160) p
theorem lf_32 {G : pm_G} {d : Nat} {S : pm_S} {p : Nat} {q : pm_S → Prop} (hd : 1 ≤ d) (hk : pm_k S p = 5) (hp : p < pm_n S) (h : q (lw_N S p)) : pm_CV G d 32 [.ref p] S q := by
  have kk : ∀ Y z, p < pm_n Y → pm_k (pm_nw Y 20 z) p = pm_k Y p := fun Y z hz => pm_k_nw_ne (by omega)
  have h1 : p < pm_n S + 1 := by omega
  have h2 : p < pm_n S + 1 + 1 := by omega
  have h3 : p < pm_n S + 1 + 1 + 1 := by omega
  have h4 : p < pm_n S + 1 + 1 + 1 + 1 := by omega
  have h5 : p < pm_n S + 1 + 1 + 1 + 1 + 1 := by omega
  have h6 : p < pm_n S + 1 + 1 + 1 + 1 + 1 + 1 := by omega
  refine pm_goV 32 1 pb_c32 (by decide) (Nat.le_of_ble_eq_true rfl) rfl ?_
  try simp only [show pm_mL 32 = 1 from rfl, pm_WI0, pm_WI1, pm_WI2, pm_WI3, pm_WI4, pm_WI5, pm_WV, pm_WW, pm_WX, pb_B32, pm_if, pm_QI_at, pm_QL_at, pm_QV_at, pm_QR_at, pm_QR_at0, pm_QR_at1, Nat.reduceSub, Nat.reduceAdd, List.replicate_zero, List.replicate_succ, true_and, and_true, true_or, or_true, and_self, reduceIte, Nat.reduceEqDiff, Nat.reduceLT, Nat.reduceLeDiff, Nat.reduceMul, false_and, and_false, reduceCtorEq, false_or, or_false, not_true_eq_false, not_false_eq_true, true_implies, false_implies, implies_true, lf_10, eq_self, Int32.reduceLT, Int32.reduceLE, Int32.reduceAdd, Int32.reduceSub, pm_same, pm_i_wI, pm_l_wL, pm_l_wM, pm_oR_rf, pm_oQ_rf, nI_1, LQ1, LQ2, LQ5, hk, kk, hp, h1, h2, h3, h4, h5, h6, pm_n_nw]
  refine ⟨by omega, by omega, lf_33 ?_ ?_⟩
  · skip
    try simp only [true_and, and_true, true_or, or_true, and_self, reduceIte, Nat.reduceEqDiff, Nat.reduceLT, Nat.reduceLeDiff, Nat.reduceMul, false_and, and_false, reduceCtorEq, false_or, or_false, not_true_eq_false, not_false_eq_true, true_implies, false_implies, implies_true, lf_10, eq_self, Int32.reduceLT, Int32.reduceLE, Int32.reduceAdd, Int32.reduceSub, pm_same, pm_i_wI, pm_l_wL, pm_l_wM, pm_oR_rf, pm_oQ_rf, nI_1, LQ1, LQ2, LQ5, hk, kk, hp, h1, h2, h3, h4, h5, h6, pm_n_nw]
  · skip
    exact h
theorem nwf_all {Y : pm_S} {p f z : Nat} : pm_n (nwf Y p f z) = pm_n Y + 1 ∧ (∀ x, x < pm_n Y → pm_k (nwf Y p f z) x = pm_k Y x ∧ pm_z (nwf Y p f z) x = pm_z Y x ∧ pm_l (nwf Y p f z) x = pm_l Y x ∧ pm_i (nwf Y p f z) x = pm_i Y x) ∧ (pm_k (nwf Y p f z) (pm_n Y) = 20 ∧ pm_z (nwf Y p f z) (pm_n Y) = z) ∧ ∀ x j, x < pm_n Y → pm_r (nwf Y p f z) x j = if x = p ∧ j = f then some (pm_n Y) else pm_r Y x j := by
  unfold nwf
  refine ⟨rfl, fun x hx => ⟨?_, ?_, ?_, ?_⟩, ⟨?_, ?_⟩, fun x j hx => ?_⟩
  · show pm_k (pm_nw Y 20 z) x = _; exact pm_k_nw_ne (by omega)
  · show pm_z (pm_nw Y 20 z) x = _; exact pm_z_nw_ne (by omega)
  · show pm_l (pm_nw Y 20 z) x = _; exact pm_l_nw_ne (by omega)
  · show pm_i (pm_nw Y 20 z) x = _; funext j; exact congrFun (pm_i_nw_ne (by omega)) j
  · exact (pm_nw_at Y 20 z).1
  · exact (pm_nw_at Y 20 z).2.1
  · rw [pm_r_wRi]
    by_cases c : x = p ∧ j = f
    · rw [if_pos c, if_pos c]
    · rw [if_neg c, if_neg c]; exact congrFun (pm_r_nw_ne (by omega)) j
theorem lw_N_ok {S : pm_S} {p : Nat} (hp : p < pm_n S) : pm_n (lw_N S p) = pm_n S + 6 ∧ (∀ x, x < pm_n S → pm_k (lw_N S p) x = pm_k S x ∧ pm_z (lw_N S p) x = pm_z S x ∧ pm_l (lw_N S p) x = pm_l S x ∧ (x ≠ p → pm_i (lw_N S p) x = pm_i S x ∧ ∀ j, pm_r (lw_N S p) x j = pm_r S x j)) ∧ ∀ q, q < 6 → pm_r (lw_N S p) p (iv_lf q) = some (pm_n S + q) ∧ pm_k (lw_N S p) (pm_n S + q) = 20 ∧ pm_z (lw_N S p) (pm_n S + q) = (if q = 5 then 160 else 10) := by
  unfold lw_N
  have A0 : pm_n (pm_wI (pm_wI S p 0 (-1)) p 1 0) = pm_n S ∧ pm_k (pm_wI (pm_wI S p 0 (-1)) p 1 0) = pm_k S ∧ pm_z (pm_wI (pm_wI S p 0 (-1)) p 1 0) = pm_z S ∧ pm_l (pm_wI (pm_wI S p 0 (-1)) p 1 0) = pm_l S ∧ pm_r (pm_wI (pm_wI S p 0 (-1)) p 1 0) = pm_r S := ⟨rfl, rfl, rfl, rfl, rfl⟩
  have I0 : ∀ x, x ≠ p → pm_i (pm_wI (pm_wI S p 0 (-1)) p 1 0) x = pm_i S x := fun x hx => funext fun j => by
    rw [pm_i_wI, if_neg (fun z => hx z.1), pm_i_wI, if_neg (fun z => hx z.1)]
  generalize pm_wI (pm_wI S p 0 (-1)) p 1 0 = Y0 at *
  obtain ⟨n0, k0, z0, l0, r0⟩ := A0
  obtain ⟨n1, o1, a1, r1⟩ := @nwf_all Y0 p 3 10
  generalize nwf Y0 p 3 10 = Y1 at *
  obtain ⟨n2, o2, a2, r2⟩ := @nwf_all Y1 p 4 10
  generalize nwf Y1 p 4 10 = Y2 at *
  obtain ⟨n3, o3, a3, r3⟩ := @nwf_all Y2 p 5 10
  generalize nwf Y2 p 5 10 = Y3 at *
  obtain ⟨n4, o4, a4, r4⟩ := @nwf_all Y3 p 6 10
  generalize nwf Y3 p 6 10 = Y4 at *
  obtain ⟨n5, o5, a5, r5⟩ := @nwf_all Y4 p 7 10
  generalize nwf Y4 p 7 10 = Y5 at *
  obtain ⟨n6, o6, a6, r6⟩ := @nwf_all Y5 p 17 160
  generalize nwf Y5 p 17 160 = Y6 at *
  obtain ⟨s1, s2, s3, s4, s5⟩ := lw_cl_s (S := Y6) (p := p)
  have ic : ∀ x j, x ≠ p → pm_i (lw_cl Y6 p) x j = pm_i Y6 x j := fun x j h => lw_cl_o h
  generalize lw_cl Y6 p = T at *
  rw [s1, s2, s3, s4, s5]
  refine ⟨by omega, fun x hx => ⟨?_, ?_, ?_, fun hxp => ⟨?_, fun j => ?_⟩⟩, fun q hq => ?_⟩
  · rw [(o6 x (by omega)).1, (o5 x (by omega)).1, (o4 x (by omega)).1, (o3 x (by omega)).1, (o2 x (by omega)).1, (o1 x (by omega)).1, k0]
  · rw [(o6 x (by omega)).2.1, (o5 x (by omega)).2.1, (o4 x (by omega)).2.1, (o3 x (by omega)).2.1, (o2 x (by omega)).2.1, (o1 x (by omega)).2.1, z0]
  · rw [(o6 x (by omega)).2.2.1, (o5 x (by omega)).2.2.1, (o4 x (by omega)).2.2.1, (o3 x (by omega)).2.2.1, (o2 x (by omega)).2.2.1, (o1 x (by omega)).2.2.1, l0]
  · funext j
    rw [ic x j hxp, (o6 x (by omega)).2.2.2, (o5 x (by omega)).2.2.2, (o4 x (by omega)).2.2.2, (o3 x (by omega)).2.2.2, (o2 x (by omega)).2.2.2, (o1 x (by omega)).2.2.2, I0 x hxp]
  · rw [r6 x j (by omega), if_neg (fun z => hxp z.1), r5 x j (by omega), if_neg (fun z => hxp z.1), r4 x j (by omega), if_neg (fun z => hxp z.1), r3 x j (by omega), if_neg (fun z => hxp z.1), r2 x j (by omega), if_neg (fun z => hxp z.1), r1 x j (by omega), if_neg (fun z => hxp z.1), r0]
  · have p6 := fun j => r6 p j (by omega)
    have p5 := fun j => r5 p j (by omega)
    have p4 := fun j => r4 p j (by omega)
    have p3 := fun j => r3 p j (by omega)
    have p2 := fun j => r2 p j (by omega)
    have p1 := fun j => r1 p j (by omega)
    have hc : q = 0 ∨ q = 1 ∨ q = 2 ∨ q = 3 ∨ q = 4 ∨ q = 5 := by omega
    have e1 : pm_n Y1 = pm_n S + 1 := by omega
    have e2 : pm_n Y2 = pm_n S + 2 := by omega
    have e3 : pm_n Y3 = pm_n S + 3 := by omega
    have e4 : pm_n Y4 = pm_n S + 4 := by omega
    have e5 : pm_n Y5 = pm_n S + 5 := by omega
    rw [n0] at a1 p1
    rw [e1] at a2 p2
    rw [e2] at a3 p3
    rw [e3] at a4 p4
    rw [e4] at a5 p5
    rw [e5] at a6 p6
    rcases hc with rfl | rfl | rfl | rfl | rfl | rfl
    · refine ⟨?_, ?_, ?_⟩
      · show pm_r Y6 p 3 = _
        rw [p6, if_neg (by omega), p5, if_neg (by omega), p4, if_neg (by omega), p3, if_neg (by omega), p2, if_neg (by omega), p1, if_pos ⟨rfl, rfl⟩]; rfl
      · rw [(o6 _ (by omega)).1, (o5 _ (by omega)).1, (o4 _ (by omega)).1, (o3 _ (by omega)).1, (o2 _ (by omega)).1]; exact a1.1
      · rw [(o6 _ (by omega)).2.1, (o5 _ (by omega)).2.1, (o4 _ (by omega)).2.1, (o3 _ (by omega)).2.1, (o2 _ (by omega)).2.1]; exact a1.2
    · refine ⟨?_, ?_, ?_⟩
      · show pm_r Y6 p 4 = _
        rw [p6, if_neg (by omega), p5, if_neg (by omega), p4, if_neg (by omega), p3, if_neg (by omega), p2, if_pos ⟨rfl, rfl⟩]
      · rw [(o6 _ (by omega)).1, (o5 _ (by omega)).1, (o4 _ (by omega)).1, (o3 _ (by omega)).1]; exact a2.1
      · rw [(o6 _ (by omega)).2.1, (o5 _ (by omega)).2.1, (o4 _ (by omega)).2.1, (o3 _ (by omega)).2.1]; exact a2.2
    · refine ⟨?_, ?_, ?_⟩
      · show pm_r Y6 p 5 = _
        rw [p6, if_neg (by omega), p5, if_neg (by omega), p4, if_neg (by omega), p3, if_pos ⟨rfl, rfl⟩]
      · rw [(o6 _ (by omega)).1, (o5 _ (by omega)).1, (o4 _ (by omega)).1]; exact a3.1
      · rw [(o6 _ (by omega)).2.1, (o5 _ (by omega)).2.1, (o4 _ (by omega)).2.1]; exact a3.2
    · refine ⟨?_, ?_, ?_⟩
      · show pm_r Y6 p 6 = _
        rw [p6, if_neg (by omega), p5, if_neg (by omega), p4, if_pos ⟨rfl, rfl⟩]
      · rw [(o6 _ (by omega)).1, (o5 _ (by omega)).1]; exact a4.1
      · rw [(o6 _ (by omega)).2.1, (o5 _ (by omega)).2.1]; exact a4.2
    · refine ⟨?_, ?_, ?_⟩
      · show pm_r Y6 p 7 = _
        rw [p6, if_neg (by omega), p5, if_pos ⟨rfl, rfl⟩]
      · rw [(o6 _ (by omega)).1]; exact a5.1
      · rw [(o6 _ (by omega)).2.1]; exact a5.2
    · refine ⟨?_, ?_, ?_⟩
      · show pm_r Y6 p 17 = _
        rw [p6, if_pos ⟨rfl, rfl⟩]
      · exact a6.1
      · exact a6.2
/-- handOver: the draft goes out, a new LAW comes in its place -/
def lw_H (S : pm_S) : pm_S := pm_wR (lw_N (pm_nw S 5 0) (pm_n S)) 5 3 (some (pm_n S))
theorem lf_57 {G : pm_G} {d D : Nat} {S : pm_S} {q : Option Nat → pm_S → Prop} (hd : 2 ≤ d) (hS : Sh S) (r53 : pm_r S 5 3 = some D) (h : q (some D) (lw_H S)) : pm_CR G d 57 [.ref 5] S q := by
  have h114 := hS.1
  have k5 := sh_k5 hS
  obtain ⟨q1, q2, q3⟩ := lw_N_ok (S := pm_nw S 5 0) (p := pm_n S) (by rw [pm_n_nw]; omega)
  have kN := (pm_nw_at S 5 0).1
  have k5N : pm_k (lw_N (pm_nw S 5 0) (pm_n S)) 5 = 6 := by
    rw [(q2 5 (by rw [pm_n_nw]; omega)).1, pm_k_nw_ne (by omega)]; exact k5
  unfold lw_H at h
  refine pm_goR 57 1 pb_c57 (by decide) (Nat.le_of_ble_eq_true rfl) rfl ?_
  try simp only [show pm_mL 57 = 2 from rfl, pm_WI0, pm_WI1, pm_WI2, pm_WI3, pm_WI4, pm_WI5, pm_WV, pm_WW, pm_WX, pb_B57, pm_if, pm_QI_at, pm_QL_at, pm_QV_at, pm_QR_at, pm_QR_at0, pm_QR_at1, Nat.reduceSub, Nat.reduceAdd, List.replicate_zero, List.replicate_succ, true_and, and_true, true_or, or_true, and_self, reduceIte, Nat.reduceEqDiff, Nat.reduceLT, Nat.reduceLeDiff, Nat.reduceMul, false_and, and_false, reduceCtorEq, false_or, or_false, not_true_eq_false, not_false_eq_true, true_implies, false_implies, implies_true, lf_10, eq_self, Int32.reduceLT, Int32.reduceLE, Int32.reduceAdd, Int32.reduceSub, pm_same, pm_i_wI, pm_l_wL, pm_l_wM, pm_oR_rf, pm_oQ_rf, nI_1, LQ1, LQ2, LQ5, k5, r53, va_rf]
  refine ⟨by omega, kN, lf_32 (by omega) kN (by rw [pm_n_nw]; omega) ?_⟩
  exact ⟨k5N, h⟩
