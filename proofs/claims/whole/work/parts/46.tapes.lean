theorem lc_lt {x y : Int64} : lg_cmp x y < 0 ↔ x < y := by
  unfold lg_cmp
  by_cases h : x > y
  · rw [if_pos h]; exact ⟨fun z => absurd z (by decide), fun z => by exfalso; lia⟩
  · rw [if_neg h]
    by_cases h2 : x = y
    · rw [if_pos h2]; exact ⟨fun z => absurd z (by decide), fun z => by exfalso; lia⟩
    · rw [if_neg h2]; exact ⟨fun _ => by lia, fun _ => by decide⟩
theorem lc_gt {x y : Int64} : 0 < lg_cmp x y ↔ y < x := by
  unfold lg_cmp
  by_cases h : x > y
  · rw [if_pos h]; exact ⟨fun _ => h, fun _ => by decide⟩
  · rw [if_neg h]
    by_cases h2 : x = y
    · rw [if_pos h2]; exact ⟨fun z => absurd z (by decide), fun z => absurd z h⟩
    · rw [if_neg h2]; exact ⟨fun z => absurd z (by decide), fun z => absurd z h⟩
theorem tp_h {i n L : Int32} : (¬ i.toInt64 < 0 ∧ ¬ n < 0 ∧ ¬ L.toInt64 < i.toInt64 + n.toInt64) ↔ (0 ≤ i ∧ 0 ≤ n ∧ i.toInt + n.toInt ≤ L.toInt) := by
  have h1 := Int32.toInt_lt i
  have h2 := Int32.le_toInt i
  have h3 := Int32.toInt_lt n
  have h4 := Int32.le_toInt n
  have e : (i.toInt64 + n.toInt64).toInt = i.toInt + n.toInt := by
    rw [Int64.toInt_add, Int32.toInt_toInt64, Int32.toInt_toInt64]
    exact Int.bmod_eq_of_le (by omega) (by omega)
  simp only [Int64.lt_iff_toInt_lt, Int32.lt_iff_toInt_lt, Int32.le_iff_toInt_le, e, Int32.toInt_toInt64]
  rw [show (0 : Int64).toInt = 0 from rfl, show (0 : Int32).toInt = 0 from rfl]
  omega
theorem tp_h1 {i L : Int32} : (0 ≤ i ∧ (0 : Int32) ≤ 1 ∧ i.toInt + (1 : Int32).toInt ≤ L.toInt) ↔ (0 ≤ i ∧ i < L) := by
  simp only [Int32.lt_iff_toInt_lt, Int32.le_iff_toInt_le]
  rw [show (1 : Int32).toInt = 1 from rfl, show (0 : Int32).toInt = 0 from rfl]
  omega
theorem lf_80 {G : pm_G} {d : Nat} {S : pm_S} {p : Nat} {x : Int64} {n : Int32} {q : Int32 → pm_S → Prop} (hk : pm_k S p = 9) (h1 : ¬ x < 0 ∧ ¬ n < 0 ∧ ¬ (pm_i S p 1).toInt64 < x + n.toInt64 → q 1 S) (h0 : ¬ (¬ x < 0 ∧ ¬ n < 0 ∧ ¬ (pm_i S p 1).toInt64 < x + n.toInt64) → q 0 S) : pm_CI G d 80 [.ref p, .long x, .int n] S q := by
  refine pm_goI 80 40 pb_c80 (by decide) (Nat.le_of_ble_eq_true rfl) rfl ?_
  simp only [show pm_mL 80 = 4 from rfl, pm_WI0, pm_WI1, pm_WI2, pm_WI3, pm_WI4, pm_WI5, pm_WV, pm_WW, pm_WX, pb_B80, pm_if, pm_QI_at, pm_QL_at, pm_QV_at, pm_QR_at, pm_QR_at0, pm_QR_at1, Nat.reduceSub, Nat.reduceAdd, List.replicate_zero, List.replicate_succ, true_and, and_true, true_or, or_true, and_self, reduceIte, Nat.reduceEqDiff, Nat.reduceLT, Nat.reduceLeDiff, Nat.reduceMul, false_and, and_false, reduceCtorEq, false_or, or_false, not_true_eq_false, not_false_eq_true, true_implies, false_implies, implies_true, lf_10, eq_self, Int32.reduceLT, Int32.reduceLE, Int32.reduceAdd, Int32.reduceSub, hk, lc_lt, lc_gt]
  repeat' (first | with_reducible refine ⟨fun _ => ?_, fun _ => ?_⟩ | with_reducible refine ⟨?_, ?_⟩ | fail)
  all_goals first | omega | (refine h1 ⟨?_, ?_, ?_⟩ <;> assumption) | (refine h0 (fun z => ?_); obtain ⟨z1, z2, z3⟩ := z; contradiction) | (refine h1 ?_; lia) | (refine h0 ?_; lia) | (exfalso; lia) | skip
theorem lf_80i {G : pm_G} {d : Nat} {S : pm_S} {p : Nat} {i n : Int32} {q : Int32 → pm_S → Prop} (hk : pm_k S p = 9) (h1 : 0 ≤ i ∧ 0 ≤ n ∧ i.toInt + n.toInt ≤ (pm_i S p 1).toInt → q 1 S) (h0 : ¬ (0 ≤ i ∧ 0 ≤ n ∧ i.toInt + n.toInt ≤ (pm_i S p 1).toInt) → q 0 S) : pm_CI G d 80 [.ref p, .long i.toInt64, .int n] S q :=
  lf_80 hk (fun z => h1 (tp_h.mp z)) (fun z => h0 (fun y => z (tp_h.mpr y)))
theorem lf_801 {G : pm_G} {d : Nat} {S : pm_S} {p : Nat} {i : Int32} {q : Int32 → pm_S → Prop} (hk : pm_k S p = 9) (h1 : 0 ≤ i ∧ i < pm_i S p 1 → q 1 S) (h0 : ¬ (0 ≤ i ∧ i < pm_i S p 1) → q 0 S) : pm_CI G d 80 [.ref p, .long i.toInt64, .int 1] S q :=
  lf_80i hk (fun z => h1 (tp_h1.mp z)) (fun z => h0 (fun y => z (tp_h1.mpr y)))
/-- a TAPE's cells -/
def tp_row (S : pm_S) (t : Nat) : Prop := pm_k S (47 + 2 * t) = 9 ∧ pm_r S (47 + 2 * t) 2 = some (48 + 2 * t) ∧ pm_k S (48 + 2 * t) = 21 ∧ pm_z S (48 + 2 * t) = 80
theorem tp_of {S : pm_S} (hS : Sh S) {t : Nat} (ht : t < 6) : tp_row S t := by
  match t, ht with
  | 0, _ => exact ⟨sh_k47 hS, sh_r47_2 hS, sh_k48 hS, sh_z48 hS⟩
  | 1, _ => exact ⟨sh_k49 hS, sh_r49_2 hS, sh_k50 hS, sh_z50 hS⟩
  | 2, _ => exact ⟨sh_k51 hS, sh_r51_2 hS, sh_k52 hS, sh_z52 hS⟩
  | 3, _ => exact ⟨sh_k53 hS, sh_r53_2 hS, sh_k54 hS, sh_z54 hS⟩
  | 4, _ => exact ⟨sh_k55 hS, sh_r55_2 hS, sh_k56 hS, sh_z56 hS⟩
  | 5, _ => exact ⟨sh_k57 hS, sh_r57_2 hS, sh_k58 hS, sh_z58 hS⟩
theorem tp_ix {v i L : Int32} (hv : 0 ≤ v ∧ v ≤ 5) (hi : 0 ≤ i ∧ i < L) (hL : L ≤ 80) : vp_in (80 * v + i) 480 ∧ (80 * v + i).toNatClampNeg = 80 * v.toNatClampNeg + i.toNatClampNeg ∧ i.toNatClampNeg < 80 ∧ vp_in i 80 := by
  have h1 := iv_le (n := 5) 5 hv.2 (by decide)
  have h2 : i.toNatClampNeg ≤ 79 := iv_le (n := 79) 79 (by lia) (by decide)
  have e : 80 * v + i = nI (80 * v.toNatClampNeg + i.toNatClampNeg) := by
    conv => lhs; rw [iv_nn hv.1, iv_nn hi.1]
    rw [show (80 : Int32) * nI v.toNatClampNeg = nI (80 * v.toNatClampNeg) from pk_mul 80 _, nI_add]
  rw [e]
  refine ⟨vp_in_nI (by omega) (by decide), nI_clamp (by omega), by omega, ?_⟩
  rw [iv_nn hi.1]
  exact vp_in_nI (by omega) (by decide)
/-- an item cut to its sort -/
def tp_cut (s : Int32) (v : Int64) : Int64 := if s = 0 then v.toInt32.toInt8.toInt32.toInt64 else if s = 1 then v.toInt32.toInt16.toInt32.toInt64 else if s = 2 then v.toInt32.toInt64 else v
theorem lf_81 {G : pm_G} {d : Nat} {S : pm_S} {t : Nat} {i : Int32} {q : Int64 → pm_S → Prop} (hd : 3 ≤ d) (tk : tp_row S t) (hL : pm_i S (47 + 2 * t) 1 ≤ 80) (hi : 0 ≤ i ∧ i < pm_i S (47 + 2 * t) 1) (h : q (pm_l S (48 + 2 * t) i.toNatClampNeg) S) : pm_CL G d 81 [.ref (47 + 2 * t), .int i] S q := by
  refine pm_goL 81 40 pb_c81 (by decide) (Nat.le_of_ble_eq_true rfl) rfl ?_
  simp only [show pm_mL 81 = 2 from rfl, pm_WI0, pm_WI1, pm_WI2, pm_WI3, pm_WI4, pm_WI5, pm_WV, pm_WW, pm_WX, pb_B81, pm_if, pm_QI_at, pm_QL_at, pm_QV_at, pm_QR_at, pm_QR_at0, pm_QR_at1, Nat.reduceSub, Nat.reduceAdd, List.replicate_zero, List.replicate_succ, true_and, and_true, true_or, or_true, and_self, reduceIte, Nat.reduceEqDiff, Nat.reduceLT, Nat.reduceLeDiff, Nat.reduceMul, false_and, and_false, reduceCtorEq, false_or, or_false, not_true_eq_false, not_false_eq_true, true_implies, false_implies, implies_true, lf_10, eq_self, Int32.reduceLT, Int32.reduceLE, Int32.reduceAdd, Int32.reduceSub, pm_same, pm_i_wI, pm_l_wL, pm_l_wM, pm_oR_rf, pm_oQ_rf, tk.1, tk.2.1, tk.2.2.1, tk.2.2.2]
  refine ⟨by omega, lf_801 tk.1 (fun z => ?_) (fun z => absurd hi z)⟩
  simp only [pm_WV, pm_WW, true_and, and_true, true_or, or_true, and_self, reduceIte, Nat.reduceEqDiff, Nat.reduceLT, Nat.reduceLeDiff, Nat.reduceMul, false_and, and_false, reduceCtorEq, false_or, or_false, not_true_eq_false, not_false_eq_true, true_implies, false_implies, implies_true, lf_10, eq_self, Int32.reduceLT, Int32.reduceLE, Int32.reduceAdd, Int32.reduceSub, pm_same, pm_i_wI, pm_l_wL, pm_l_wM, pm_oR_rf, pm_oQ_rf, tk.1, tk.2.1, tk.2.2.1, tk.2.2.2, pm_QL_at]
  exact ⟨iv_vp 80 hi.1 hi.2 hL (by decide), h⟩
theorem lf_83 {G : pm_G} {d : Nat} {S : pm_S} {t : Nat} {i : Int32} {v : Int64} {q : pm_S → Prop} (hd : 3 ≤ d) (tk : tp_row S t) (hL : pm_i S (47 + 2 * t) 1 ≤ 80) (hi : 0 ≤ i ∧ i < pm_i S (47 + 2 * t) 1) (h : q (pm_wL S (48 + 2 * t) i.toNatClampNeg (tp_cut (pm_i S (47 + 2 * t) 0) v))) : pm_CV G d 83 [.ref (47 + 2 * t), .int i, .long v] S q := by
  refine pm_goV 83 40 pb_c83 (by decide) (Nat.le_of_ble_eq_true rfl) rfl ?_
  simp only [show pm_mL 83 = 4 from rfl, pm_WI0, pm_WI1, pm_WI2, pm_WI3, pm_WI4, pm_WI5, pm_WV, pm_WW, pm_WX, pb_B83, pm_if, pm_QI_at, pm_QL_at, pm_QV_at, pm_QR_at, pm_QR_at0, pm_QR_at1, Nat.reduceSub, Nat.reduceAdd, List.replicate_zero, List.replicate_succ, true_and, and_true, true_or, or_true, and_self, reduceIte, Nat.reduceEqDiff, Nat.reduceLT, Nat.reduceLeDiff, Nat.reduceMul, false_and, and_false, reduceCtorEq, false_or, or_false, not_true_eq_false, not_false_eq_true, true_implies, false_implies, implies_true, lf_10, eq_self, Int32.reduceLT, Int32.reduceLE, Int32.reduceAdd, Int32.reduceSub, pm_same, pm_i_wI, pm_l_wL, pm_l_wM, pm_oR_rf, pm_oQ_rf, tk.1, tk.2.1, tk.2.2.1, tk.2.2.2, sw0, sw1, sw2]
  have hvp := iv_vp (N := 80) 80 hi.1 hi.2 hL (by decide)
  unfold tp_cut at h
  refine ⟨by omega, lf_801 tk.1 (fun z => ?_) (fun z => absurd hi z)⟩
  simp only [pm_WV, pm_WW, true_and, and_true, true_or, or_true, and_self, reduceIte, Nat.reduceEqDiff, Nat.reduceLT, Nat.reduceLeDiff, Nat.reduceMul, false_and, and_false, reduceCtorEq, false_or, or_false, not_true_eq_false, not_false_eq_true, true_implies, false_implies, implies_true, lf_10, eq_self, Int32.reduceLT, Int32.reduceLE, Int32.reduceAdd, Int32.reduceSub, pm_same, pm_i_wI, pm_l_wL, pm_l_wM, pm_oR_rf, pm_oQ_rf, tk.1, tk.2.1, tk.2.2.1, tk.2.2.2, pm_QV_at, sw0, sw1, sw2]
  refine ⟨fun y => ⟨hvp, ?_⟩, fun y => ⟨fun y1 => ⟨hvp, ?_⟩, fun y1 => ⟨fun y2 => ⟨hvp, ?_⟩, fun y2 => ⟨hvp, ?_⟩⟩⟩⟩
  · rw [if_pos y] at h; exact h
  · rw [if_neg y, if_pos y1] at h; exact h
  · rw [if_neg y, if_neg y1, if_pos y2] at h; exact h
  · rw [if_neg y, if_neg y1, if_neg y2] at h; exact h
