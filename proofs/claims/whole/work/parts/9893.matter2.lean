/-! matter -/
def mt_i (T : pm_S) (p : Nat) (nu pe b t dd l : Int32) : pm_S := (pm_wI (pm_wI (pm_wI (pm_wI (pm_wI (pm_wI (pm_wI (pm_wR (pm_wI (pm_wI (pm_wI (pm_wI (pm_wI (pm_wI (pm_nw (pm_wR (pm_wR (pm_wI (pm_wI (pm_wI (pm_wI (pm_wI (pm_wI (pm_wI (pm_wI T p 6 0) p 7 (-1)) p 8 (-1)) p 9 (-1)) p 10 (-1)) p 11 0) p 12 0) p 13 0) p 14 none) p 15 none) 20 6) (pm_n T) 0 (-1)) (pm_n T) 1 (-1)) (pm_n T) 2 (-1)) (pm_n T) 3 (-1)) (pm_n T) 4 (-1)) (pm_n T) 5 (-1)) p 16 (some (pm_n T))) p 17 0) p 0 nu) p 1 pe) p 2 b) p 3 t) p 4 dd) p 5 l)
section MT
variable {T : pm_S} {p : Nat} {nu pe b t dd l : Int32}
theorem mt_i_n : pm_n (mt_i T p nu pe b t dd l) = pm_n T + 1 := rfl
theorem mt_i_k : pm_k (mt_i T p nu pe b t dd l) = pm_k (pm_nw T 20 6) := rfl
theorem mt_i_z : pm_z (mt_i T p nu pe b t dd l) = pm_z (pm_nw T 20 6) := rfl
theorem mt_i_l : pm_l (mt_i T p nu pe b t dd l) = pm_l (pm_nw T 20 6) := rfl
theorem mt_i_o {q j : Nat} (h1 : q ≠ p) (h2 : q ≠ pm_n T) : pm_i (mt_i T p nu pe b t dd l) q j = pm_i T q j := by
  unfold mt_i
  try simp only [pm_i_wI, pm_same, pm_i_nw, pm_n_nw, eq_false h1, eq_false h2, false_and, reduceIte]
theorem mt_i_p {j : Nat} (h2 : p ≠ pm_n T) (hj : j ≤ 13) : pm_i (mt_i T p nu pe b t dd l) p j = ([nu, pe, b, t, dd, l, 0, -1, -1, -1, -1, 0, 0, 0] : List Int32).getD j 0 := by
  have e : pm_i (mt_i T p nu pe b t dd l) p j = if j = 5 then l else if j = 4 then dd else if j = 3 then t else if j = 2 then b else if j = 1 then pe else if j = 0 then nu else if j = 17 then 0 else if j = 13 then 0 else if j = 12 then 0 else if j = 11 then 0 else if j = 10 then -1 else if j = 9 then -1 else if j = 8 then -1 else if j = 7 then -1 else if j = 6 then 0 else pm_i T p j := by
    unfold mt_i
    try simp only [pm_i_wI, pm_same, pm_i_nw, pm_n_nw, eq_false h2, false_and, true_and, reduceIte]
  rw [e]
  have : j = 0 ∨ j = 1 ∨ j = 2 ∨ j = 3 ∨ j = 4 ∨ j = 5 ∨ j = 6 ∨ j = 7 ∨ j = 8 ∨ j = 9 ∨ j = 10 ∨ j = 11 ∨ j = 12 ∨ j = 13 := by omega
  rcases this with rfl | rfl | rfl | rfl | rfl | rfl | rfl | rfl | rfl | rfl | rfl | rfl | rfl | rfl <;> rfl
theorem mt_i_g {j : Nat} (h2 : p ≠ pm_n T) (hj : j < 6) : pm_i (mt_i T p nu pe b t dd l) (pm_n T) j = -1 := by
  have e : pm_i (mt_i T p nu pe b t dd l) (pm_n T) j = if j = 5 then -1 else if j = 4 then -1 else if j = 3 then -1 else if j = 2 then -1 else if j = 1 then -1 else if j = 0 then -1 else 0 := by
    unfold mt_i
    try simp only [pm_i_wI, pm_same, pm_i_nw, pm_n_nw, eq_false h2.symm, false_and, true_and, reduceIte]
  rw [e]
  have : j = 0 ∨ j = 1 ∨ j = 2 ∨ j = 3 ∨ j = 4 ∨ j = 5 := by omega
  rcases this with rfl | rfl | rfl | rfl | rfl | rfl <;> rfl
theorem mt_i_r {q j : Nat} (h1 : q ≠ p) (h2 : q ≠ pm_n T) : pm_r (mt_i T p nu pe b t dd l) q j = pm_r T q j := by
  unfold mt_i
  try simp only [pm_r_wRi, pm_same, pm_r_nw, pm_n_nw, eq_false h1, eq_false h2, false_and, reduceIte]
theorem mt_i_rp (h2 : p ≠ pm_n T) : pm_r (mt_i T p nu pe b t dd l) p 16 = some (pm_n T) ∧ pm_r (mt_i T p nu pe b t dd l) p 14 = none ∧ pm_r (mt_i T p nu pe b t dd l) p 15 = none := by
  unfold mt_i
  refine ⟨?_, ?_, ?_⟩ <;> simp only [pm_r_wRi, pm_same, pm_r_nw, pm_n_nw, eq_false h2, false_and, and_false, true_and, and_true, and_self, reduceIte, Nat.reduceEqDiff, eq_self]
end MT
set_option maxRecDepth 4000 in
theorem lf_58 {G : pm_G} {d : Nat} {T : pm_S} {p : Nat} {nu pe b t dd l : Int32} {q : pm_S → Prop} (hd : 1 ≤ d) (hk : pm_k T p = 7) (hp : p ≠ pm_n T) (h : q (mt_i T p nu pe b t dd l)) : pm_CV G d 58 [.ref p, .int nu, .int pe, .int b, .int t, .int dd, .int l] T q := by
  have k2 : pm_k (pm_nw T 20 6) p = 7 := by rw [pm_k_nw_ne hp]; exact hk
  obtain ⟨k3, z3, _⟩ := pm_nw_at T 20 6
  have v : ∀ i, i < 6 → vp_in (nI i) 6 := fun i hi => vp_in_nI hi (by decide)
  have v0 := v 0 (by omega)
  have v1 := v 1 (by omega)
  have v2 := v 2 (by omega)
  have v3 := v 3 (by omega)
  have v4 := v 4 (by omega)
  have v5 := v 5 (by omega)
  refine pm_goV 58 1 pb_c58 (by decide) (Nat.le_of_ble_eq_true rfl) rfl ?_
  try simp only [show pm_mL 58 = 7 from rfl, pm_WI0, pm_WI1, pm_WI2, pm_WI3, pm_WI4, pm_WI5, pm_WV, pm_WW, pm_WX, pb_B58, pm_if, pm_QI_at, pm_QL_at, pm_QV_at, pm_QR_at, pm_QR_at0, pm_QR_at1, Nat.reduceSub, Nat.reduceAdd, List.replicate_zero, List.replicate_succ, true_and, and_true, true_or, or_true, and_self, reduceIte, Nat.reduceEqDiff, Nat.reduceLT, Nat.reduceLeDiff, Nat.reduceMul, false_and, and_false, reduceCtorEq, false_or, or_false, not_true_eq_false, not_false_eq_true, true_implies, false_implies, implies_true, lf_10, eq_self, Int32.reduceLT, Int32.reduceLE, Int32.reduceAdd, Int32.reduceSub, pm_same, pm_i_wI, pm_l_wL, pm_l_wM, pm_oR_rf, pm_oQ_rf, nI_1, sw_e, LQ1, LQ2, hk, pm_k_nw, pm_z_nw, pm_n_nw, eq_false hp, show (0 : Int32).toNatClampNeg = 0 from rfl, show (1 : Int32).toNatClampNeg = 1 from rfl, show (2 : Int32).toNatClampNeg = 2 from rfl, show (3 : Int32).toNatClampNeg = 3 from rfl, show (4 : Int32).toNatClampNeg = 4 from rfl, show (5 : Int32).toNatClampNeg = 5 from rfl]
  refine ⟨by omega, ?_⟩
  repeat' (first | exact h | refine ⟨v0, ?_⟩ | refine ⟨v1, ?_⟩ | refine ⟨v2, ?_⟩ | refine ⟨v3, ?_⟩ | refine ⟨v4, ?_⟩ | refine ⟨v5, ?_⟩)
