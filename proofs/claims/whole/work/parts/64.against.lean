theorem ms_k {S : pm_S} {o : Nat} {r : gx_R Unit} : pm_k (ms S o r) = pm_k S := rfl
theorem ms_z {S : pm_S} {o : Nat} {r : gx_R Unit} : pm_z (ms S o r) = pm_z S := rfl
theorem ms_r {S : pm_S} {o : Nat} {r : gx_R Unit} : pm_r (ms S o r) = pm_r S := rfl
theorem ms_49 {S : pm_S} {o : Nat} {r : gx_R Unit} : pm_i (ms S o r) 59 49 = nI o := mst_49
theorem ms_w49 {S : pm_S} {o o' : Nat} {r : gx_R Unit} : pm_wI (ms S o r) 59 49 (nI o') = ms S o' r := mst_w49
theorem ms_row {S : pm_S} {o p : Nat} {r : gx_R Unit} (h : p ≠ 59) : pm_i (ms S o r) p = pm_i S p := mst_row h
theorem ms_f {S : pm_S} {o j : Nat} {r : gx_R Unit} (h : j ≠ 46 ∧ j ≠ 48 ∧ j ≠ 49) : pm_i (ms S o r) 59 j = pm_i S 59 j := mst_f h
theorem ms_sc {S : pm_S} {o : Nat} {r : gx_R Unit} : sc S (ms S o r) := mst_sc
theorem bI01 (b : Bool) : bI b = 0 ∨ bI b = 1 := by cases b <;> simp [bI]
theorem hv1 {t : Nat → Bool} {x : Nat} (h : x % 16 < 8) : gx_hv t [x] = t x := (ev_one h).1
theorem un_bd1 {α : Type} {r : gx_R Nat} {f : Nat → α} : un (gx_bd r (fun m q => (q, some (f m)))) = un r := by
  obtain ⟨p, _ | v⟩ := r <;> rfl
theorem ms_R60 {S : pm_S} {o : Nat} {r : gx_R Unit} : pm_i (ms S o r) 60 = pm_i S 60 := ms_row (by decide)
theorem ms_R62 {S : pm_S} {o : Nat} {r : gx_R Unit} : pm_i (ms S o r) 62 = pm_i S 62 := ms_row (by decide)
theorem ms_R63 {S : pm_S} {o : Nat} {r : gx_R Unit} : pm_i (ms S o r) 63 = pm_i S 63 := ms_row (by decide)
theorem ms_R64 {S : pm_S} {o : Nat} {r : gx_R Unit} : pm_i (ms S o r) 64 = pm_i S 64 := ms_row (by decide)
theorem ms_R65 {S : pm_S} {o : Nat} {r : gx_R Unit} : pm_i (ms S o r) 65 = pm_i S 65 := ms_row (by decide)
theorem ms_R66 {S : pm_S} {o : Nat} {r : gx_R Unit} : pm_i (ms S o r) 66 = pm_i S 66 := ms_row (by decide)
theorem ms_R67 {S : pm_S} {o : Nat} {r : gx_R Unit} : pm_i (ms S o r) 67 = pm_i S 67 := ms_row (by decide)
theorem ms_R68 {S : pm_S} {o : Nat} {r : gx_R Unit} : pm_i (ms S o r) 68 = pm_i S 68 := ms_row (by decide)
theorem ms_R69 {S : pm_S} {o : Nat} {r : gx_R Unit} : pm_i (ms S o r) 69 = pm_i S 69 := ms_row (by decide)
theorem ms_R70 {S : pm_S} {o : Nat} {r : gx_R Unit} : pm_i (ms S o r) 70 = pm_i S 70 := ms_row (by decide)
theorem ms_R71 {S : pm_S} {o : Nat} {r : gx_R Unit} : pm_i (ms S o r) 71 = pm_i S 71 := ms_row (by decide)
theorem ms_R72 {S : pm_S} {o : Nat} {r : gx_R Unit} : pm_i (ms S o r) 72 = pm_i S 72 := ms_row (by decide)
theorem ms_R73 {S : pm_S} {o : Nat} {r : gx_R Unit} : pm_i (ms S o r) 73 = pm_i S 73 := ms_row (by decide)
theorem ms_R74 {S : pm_S} {o : Nat} {r : gx_R Unit} : pm_i (ms S o r) 74 = pm_i S 74 := ms_row (by decide)
theorem ms_R75 {S : pm_S} {o : Nat} {r : gx_R Unit} : pm_i (ms S o r) 75 = pm_i S 75 := ms_row (by decide)
theorem ms_R76 {S : pm_S} {o : Nat} {r : gx_R Unit} : pm_i (ms S o r) 76 = pm_i S 76 := ms_row (by decide)
theorem ms_R77 {S : pm_S} {o : Nat} {r : gx_R Unit} : pm_i (ms S o r) 77 = pm_i S 77 := ms_row (by decide)
theorem ms_R78 {S : pm_S} {o : Nat} {r : gx_R Unit} : pm_i (ms S o r) 78 = pm_i S 78 := ms_row (by decide)
theorem ms_R79 {S : pm_S} {o : Nat} {r : gx_R Unit} : pm_i (ms S o r) 79 = pm_i S 79 := ms_row (by decide)
theorem ms_R80 {S : pm_S} {o : Nat} {r : gx_R Unit} : pm_i (ms S o r) 80 = pm_i S 80 := ms_row (by decide)
theorem ms_R81 {S : pm_S} {o : Nat} {r : gx_R Unit} : pm_i (ms S o r) 81 = pm_i S 81 := ms_row (by decide)
theorem ms_R82 {S : pm_S} {o : Nat} {r : gx_R Unit} : pm_i (ms S o r) 82 = pm_i S 82 := ms_row (by decide)
theorem ms_R83 {S : pm_S} {o : Nat} {r : gx_R Unit} : pm_i (ms S o r) 83 = pm_i S 83 := ms_row (by decide)
theorem ms_R84 {S : pm_S} {o : Nat} {r : gx_R Unit} : pm_i (ms S o r) 84 = pm_i S 84 := ms_row (by decide)
theorem ms_R85 {S : pm_S} {o : Nat} {r : gx_R Unit} : pm_i (ms S o r) 85 = pm_i S 85 := ms_row (by decide)
theorem ms_R86 {S : pm_S} {o : Nat} {r : gx_R Unit} : pm_i (ms S o r) 86 = pm_i S 86 := ms_row (by decide)
theorem ms_R87 {S : pm_S} {o : Nat} {r : gx_R Unit} : pm_i (ms S o r) 87 = pm_i S 87 := ms_row (by decide)
theorem ms_R88 {S : pm_S} {o : Nat} {r : gx_R Unit} : pm_i (ms S o r) 88 = pm_i S 88 := ms_row (by decide)
theorem ms_R95 {S : pm_S} {o : Nat} {r : gx_R Unit} : pm_i (ms S o r) 95 = pm_i S 95 := ms_row (by decide)
theorem ms_R96 {S : pm_S} {o : Nat} {r : gx_R Unit} : pm_i (ms S o r) 96 = pm_i S 96 := ms_row (by decide)
theorem ms_R97 {S : pm_S} {o : Nat} {r : gx_R Unit} : pm_i (ms S o r) 97 = pm_i S 97 := ms_row (by decide)
theorem ms_F0 {S : pm_S} {o : Nat} {r : gx_R Unit} : pm_i (ms S o r) 59 0 = pm_i S 59 0 := ms_f (by decide)
theorem ms_F2 {S : pm_S} {o : Nat} {r : gx_R Unit} : pm_i (ms S o r) 59 2 = pm_i S 59 2 := ms_f (by decide)
theorem ms_F18 {S : pm_S} {o : Nat} {r : gx_R Unit} : pm_i (ms S o r) 59 18 = pm_i S 59 18 := ms_f (by decide)
theorem ms_F24 {S : pm_S} {o : Nat} {r : gx_R Unit} : pm_i (ms S o r) 59 24 = pm_i S 59 24 := ms_f (by decide)
theorem ms_F31 {S : pm_S} {o : Nat} {r : gx_R Unit} : pm_i (ms S o r) 59 31 = pm_i S 59 31 := ms_f (by decide)
theorem ms_F26 {S : pm_S} {o : Nat} {r : gx_R Unit} : pm_i (ms S o r) 59 26 = pm_i S 59 26 := ms_f (by decide)
theorem ms_F45 {S : pm_S} {o : Nat} {r : gx_R Unit} : pm_i (ms S o r) 59 45 = pm_i S 59 45 := ms_f (by decide)
theorem ms_F47 {S : pm_S} {o : Nat} {r : gx_R Unit} : pm_i (ms S o r) 59 47 = pm_i S 59 47 := ms_f (by decide)
theorem ms_F50 {S : pm_S} {o : Nat} {r : gx_R Unit} : pm_i (ms S o r) 59 50 = pm_i S 59 50 := ms_f (by decide)
theorem ms_F51 {S : pm_S} {o : Nat} {r : gx_R Unit} : pm_i (ms S o r) 59 51 = pm_i S 59 51 := ms_f (by decide)
theorem ms_F52 {S : pm_S} {o : Nat} {r : gx_R Unit} : pm_i (ms S o r) 59 52 = pm_i S 59 52 := ms_f (by decide)
theorem ms_F53 {S : pm_S} {o : Nat} {r : gx_R Unit} : pm_i (ms S o r) 59 53 = pm_i S 59 53 := ms_f (by decide)
theorem ms_F54 {S : pm_S} {o : Nat} {r : gx_R Unit} : pm_i (ms S o r) 59 54 = pm_i S 59 54 := ms_f (by decide)
theorem ms_F55 {S : pm_S} {o : Nat} {r : gx_R Unit} : pm_i (ms S o r) 59 55 = pm_i S 59 55 := ms_f (by decide)
theorem ms_F56 {S : pm_S} {o : Nat} {r : gx_R Unit} : pm_i (ms S o r) 59 56 = pm_i S 59 56 := ms_f (by decide)
theorem ms_F57 {S : pm_S} {o : Nat} {r : gx_R Unit} : pm_i (ms S o r) 59 57 = pm_i S 59 57 := ms_f (by decide)
theorem ms_F58 {S : pm_S} {o : Nat} {r : gx_R Unit} : pm_i (ms S o r) 59 58 = pm_i S 59 58 := ms_f (by decide)
theorem ms_F59 {S : pm_S} {o : Nat} {r : gx_R Unit} : pm_i (ms S o r) 59 59 = pm_i S 59 59 := ms_f (by decide)
theorem ms_F60 {S : pm_S} {o : Nat} {r : gx_R Unit} : pm_i (ms S o r) 59 60 = pm_i S 59 60 := ms_f (by decide)
theorem ms_F61 {S : pm_S} {o : Nat} {r : gx_R Unit} : pm_i (ms S o r) 59 61 = pm_i S 59 61 := ms_f (by decide)
theorem ms_F62 {S : pm_S} {o : Nat} {r : gx_R Unit} : pm_i (ms S o r) 59 62 = pm_i S 59 62 := ms_f (by decide)
theorem ms_F63 {S : pm_S} {o : Nat} {r : gx_R Unit} : pm_i (ms S o r) 59 63 = pm_i S 59 63 := ms_f (by decide)
theorem mr_198t1 {G : pm_G} {d : Nat} {S : pm_S} {f : Nat → Int32} {n : Nat} {o most : Nat} {r : gx_R Unit} {v has : Int32} {q : Int32 → pm_S → Prop} (hd : 5 ≤ d) (hS : Sh S) (hm : mrc S f n) (hr : r.1 ≤ n) (hmo : 1 ≤ most) (hmo4 : most ≤ 4) (hhas : has = 0 ∨ has = 1) (h : ∀ b, (b = 0 ∨ b = 1) → (∀ m, (gx_bd r (fun _ p => gx_num (gx_b f n) 0 most p)).2 = some m → b = bI (decide (has = 1) && decide (v < nI m))) → q b (ms S o (un (gx_bd r (fun _ p => gx_num (gx_b f n) 0 most p))))) : pm_W G d 198 (pm_QI q) 19 [.ref 59, .int v, .int has, .int (nI most), .int 1, .float 0] [] (ms S o r) 0 0 := by
  refine pm_wb_ok pb_c198 4 19 0 _ _ _ _ _ ?_
  try simp only [pm_WI0, pm_WI1, pm_WI2, pm_WI3, pm_WI4, pm_WI5, pm_WV, pm_WW, pm_WX, pb_B198, pm_if, pm_QI_at, pm_QL_at, pm_QV_at, pm_QR_at, pm_QR_at0, pm_QR_at1, Nat.reduceSub, Nat.reduceAdd, List.replicate_zero, List.replicate_succ, true_and, and_true, true_or, or_true, and_self, reduceIte, Nat.reduceEqDiff, Nat.reduceLT, Nat.reduceLeDiff, Nat.reduceMul, false_and, and_false, reduceCtorEq, false_or, or_false, not_true_eq_false, not_false_eq_true, true_implies, false_implies, implies_true, lf_10, eq_self, Int32.reduceLT, Int32.reduceLE, Int32.reduceAdd, Int32.reduceSub, pm_same, pm_i_wI, pm_l_wL, pm_l_wM, pm_oR_rf, pm_oQ_rf, sh_k59 hS, sh_r59_25 hS, sh_k80 hS, sh_z80 hS, sh_r59_27 hS, sh_k81 hS, sh_z81 hS, mst_w46, mst_w48, mst_w49, mst_46, mst_48, mst_49, mst_k, mst_z, mst_r, mst_n, mst_l, mst_R62, mst_R64, mst_R65, mst_R66, mst_R67, mst_R78, mst_R80, mst_R81, mst_F18, mst_F24, mst_F45, mst_F47, mst_F50, mst_F51, nI_1, LQ1, LQ2, LQ4, LQ1, LQ2, ms_k, ms_z, ms_r, ms_49, ms_w49, ms_R62, ms_R64, ms_R65, ms_R66, ms_R67, ms_R75, ms_R76, ms_R77, ms_R78, ms_R79, ms_R80, ms_R81, ms_R95, ms_R96, ms_R97, ms_F0, ms_F2, ms_F18, ms_F24, ms_F31, ms_F26, ms_F45, ms_F47, ms_F50, ms_F51, ms_F52, ms_F53, ms_F54, ms_F55, ms_F56, ms_F57, ms_F58, ms_F59, ms_F60, ms_F61, ms_F62, ms_F63]
  refine ⟨by omega, mr_189 (by omega) hS hm hr hmo hmo4 ?_⟩
  generalize hR : gx_bd r (fun _ p => gx_num (gx_b f n) 0 most p) = R at h ⊢
  try simp only [pm_WV, pm_WW, true_and, and_true, true_or, or_true, and_self, reduceIte, Nat.reduceEqDiff, Nat.reduceLT, Nat.reduceLeDiff, Nat.reduceMul, false_and, and_false, reduceCtorEq, false_or, or_false, not_true_eq_false, not_false_eq_true, true_implies, false_implies, implies_true, lf_10, eq_self, Int32.reduceLT, Int32.reduceLE, Int32.reduceAdd, Int32.reduceSub, pm_same, pm_i_wI, pm_l_wL, pm_l_wM, pm_oR_rf, pm_oQ_rf, sh_k59 hS, sh_r59_25 hS, sh_k80 hS, sh_z80 hS, sh_r59_27 hS, sh_k81 hS, sh_z81 hS, mst_w46, mst_w48, mst_w49, mst_46, mst_48, mst_49, mst_k, mst_z, mst_r, mst_n, mst_l, mst_R62, mst_R64, mst_R65, mst_R66, mst_R67, mst_R78, mst_R80, mst_R81, mst_F18, mst_F24, mst_F45, mst_F47, mst_F50, mst_F51, nI_1, LQ1, LQ2, LQ4, LQ1, LQ2, ms_k, ms_z, ms_r, ms_49, ms_w49, ms_R62, ms_R64, ms_R65, ms_R66, ms_R67, ms_R75, ms_R76, ms_R77, ms_R78, ms_R79, ms_R80, ms_R81, ms_R95, ms_R96, ms_R97, ms_F0, ms_F2, ms_F18, ms_F24, ms_F31, ms_F26, ms_F45, ms_F47, ms_F50, ms_F51, ms_F52, ms_F53, ms_F54, ms_F55, ms_F56, ms_F57, ms_F58, ms_F59, ms_F60, ms_F61, ms_F62, ms_F63]
  rcases hhas with rfl | rfl
  · refine ⟨fun _ => h 0 (Or.inl rfl) (fun m e => rfl), fun z => absurd rfl z⟩
  · refine ⟨fun z => absurd z (by decide), fun _ => ?_⟩
    obtain ⟨x, _ | m⟩ := R
    · refine ⟨fun _ => h 0 (Or.inl rfl) (fun m e => (by cases e)), fun _ => h 1 (Or.inr rfl) (fun m e => (by cases e))⟩
    · refine ⟨fun z => h 0 (Or.inl rfl) (fun m' e => ?_), fun z => h 1 (Or.inr rfl) (fun m' e => ?_)⟩ <;> cases e <;> simp only [vo] at z
      · have : ¬ (v < nI m) := by lia
        simp [this, bI]
      · have : (v < nI m) := by lia
        simp [this, bI]
theorem mr_198t0 {G : pm_G} {d : Nat} {S : pm_S} {f : Nat → Int32} {n : Nat} {o most : Nat} {r : gx_R Unit} {v has : Int32} {q : Int32 → pm_S → Prop} (hd : 5 ≤ d) (hS : Sh S) (hm : mrc S f n) (hr : r.1 ≤ n) (hmo : 1 ≤ most) (hmo4 : most ≤ 4) (hhas : has = 0 ∨ has = 1) (h : ∀ b, (b = 0 ∨ b = 1) → (∀ m, (gx_bd r (fun _ p => gx_num (gx_b f n) 0 most p)).2 = some m → b = bI (decide (has = 1) && decide (nI m < v))) → q b (ms S o (un (gx_bd r (fun _ p => gx_num (gx_b f n) 0 most p))))) : pm_W G d 198 (pm_QI q) 19 [.ref 59, .int v, .int has, .int (nI most), .int 0, .float 0] [] (ms S o r) 0 0 := by
  refine pm_wb_ok pb_c198 4 19 0 _ _ _ _ _ ?_
  try simp only [pm_WI0, pm_WI1, pm_WI2, pm_WI3, pm_WI4, pm_WI5, pm_WV, pm_WW, pm_WX, pb_B198, pm_if, pm_QI_at, pm_QL_at, pm_QV_at, pm_QR_at, pm_QR_at0, pm_QR_at1, Nat.reduceSub, Nat.reduceAdd, List.replicate_zero, List.replicate_succ, true_and, and_true, true_or, or_true, and_self, reduceIte, Nat.reduceEqDiff, Nat.reduceLT, Nat.reduceLeDiff, Nat.reduceMul, false_and, and_false, reduceCtorEq, false_or, or_false, not_true_eq_false, not_false_eq_true, true_implies, false_implies, implies_true, lf_10, eq_self, Int32.reduceLT, Int32.reduceLE, Int32.reduceAdd, Int32.reduceSub, pm_same, pm_i_wI, pm_l_wL, pm_l_wM, pm_oR_rf, pm_oQ_rf, sh_k59 hS, sh_r59_25 hS, sh_k80 hS, sh_z80 hS, sh_r59_27 hS, sh_k81 hS, sh_z81 hS, mst_w46, mst_w48, mst_w49, mst_46, mst_48, mst_49, mst_k, mst_z, mst_r, mst_n, mst_l, mst_R62, mst_R64, mst_R65, mst_R66, mst_R67, mst_R78, mst_R80, mst_R81, mst_F18, mst_F24, mst_F45, mst_F47, mst_F50, mst_F51, nI_1, LQ1, LQ2, LQ4, LQ1, LQ2, ms_k, ms_z, ms_r, ms_49, ms_w49, ms_R62, ms_R64, ms_R65, ms_R66, ms_R67, ms_R75, ms_R76, ms_R77, ms_R78, ms_R79, ms_R80, ms_R81, ms_R95, ms_R96, ms_R97, ms_F0, ms_F2, ms_F18, ms_F24, ms_F31, ms_F26, ms_F45, ms_F47, ms_F50, ms_F51, ms_F52, ms_F53, ms_F54, ms_F55, ms_F56, ms_F57, ms_F58, ms_F59, ms_F60, ms_F61, ms_F62, ms_F63]
  refine ⟨by omega, mr_189 (by omega) hS hm hr hmo hmo4 ?_⟩
  generalize hR : gx_bd r (fun _ p => gx_num (gx_b f n) 0 most p) = R at h ⊢
  try simp only [pm_WV, pm_WW, true_and, and_true, true_or, or_true, and_self, reduceIte, Nat.reduceEqDiff, Nat.reduceLT, Nat.reduceLeDiff, Nat.reduceMul, false_and, and_false, reduceCtorEq, false_or, or_false, not_true_eq_false, not_false_eq_true, true_implies, false_implies, implies_true, lf_10, eq_self, Int32.reduceLT, Int32.reduceLE, Int32.reduceAdd, Int32.reduceSub, pm_same, pm_i_wI, pm_l_wL, pm_l_wM, pm_oR_rf, pm_oQ_rf, sh_k59 hS, sh_r59_25 hS, sh_k80 hS, sh_z80 hS, sh_r59_27 hS, sh_k81 hS, sh_z81 hS, mst_w46, mst_w48, mst_w49, mst_46, mst_48, mst_49, mst_k, mst_z, mst_r, mst_n, mst_l, mst_R62, mst_R64, mst_R65, mst_R66, mst_R67, mst_R78, mst_R80, mst_R81, mst_F18, mst_F24, mst_F45, mst_F47, mst_F50, mst_F51, nI_1, LQ1, LQ2, LQ4, LQ1, LQ2, ms_k, ms_z, ms_r, ms_49, ms_w49, ms_R62, ms_R64, ms_R65, ms_R66, ms_R67, ms_R75, ms_R76, ms_R77, ms_R78, ms_R79, ms_R80, ms_R81, ms_R95, ms_R96, ms_R97, ms_F0, ms_F2, ms_F18, ms_F24, ms_F31, ms_F26, ms_F45, ms_F47, ms_F50, ms_F51, ms_F52, ms_F53, ms_F54, ms_F55, ms_F56, ms_F57, ms_F58, ms_F59, ms_F60, ms_F61, ms_F62, ms_F63]
  rcases hhas with rfl | rfl
  · refine ⟨fun _ => h 0 (Or.inl rfl) (fun m e => rfl), fun z => absurd rfl z⟩
  · refine ⟨fun z => absurd z (by decide), fun _ => ?_⟩
    obtain ⟨x, _ | m⟩ := R
    · refine ⟨fun _ => h 0 (Or.inl rfl) (fun m e => (by cases e)), fun _ => h 1 (Or.inr rfl) (fun m e => (by cases e))⟩
    · refine ⟨fun z => h 0 (Or.inl rfl) (fun m' e => ?_), fun z => h 1 (Or.inr rfl) (fun m' e => ?_)⟩ <;> cases e <;> simp only [vo] at z
      · have : ¬ (nI m < v) := by lia
        simp [this, bI]
      · have : (nI m < v) := by lia
        simp [this, bI]
theorem mr_198 {G : pm_G} {d : Nat} {S : pm_S} {f : Nat → Int32} {n : Nat} {t : Nat → Bool} {o k s most : Nat} {r : gx_R Unit} {v has : Int32} {q : Int32 → pm_S → Prop} (hd : 5 ≤ d) (hS : Sh S) (hm : mrc S f n) (hr : r.1 ≤ n) (hmo : 1 ≤ most) (hmo4 : most ≤ 4) (hhas : has = 0 ∨ has = 1) (hk : k < 7) (ht0 : ∀ m, m < 10 ^ most → t (gx_st k s m) = (decide (has = 1) && decide (v < nI m))) (ht1 : ∀ m, m < 10 ^ most → t (gx_st (k + 1) s m) = (decide (has = 1) && decide (nI m < v))) (h : ∀ b, (b = 0 ∨ b = 1) → (∀ e, (gx_bd r (fun _ p => gx_cmp (gx_b f n) k s most p)).2 = some e → b = bI (gx_hv t e)) → q b (ms S o (un (gx_bd r (fun _ p => gx_cmp (gx_b f n) k s most p))))) : pm_CI G d 198 [.ref 59, .int v, .int has, .int (nI most)] (ms S o r) q := by
  have hn := hm.2.1
  obtain ⟨p, _ | u⟩ := r
  · have hms : ms S o (p, none) = mst S (nI p) (nI p) (nI o) := rfl
    rw [hms]
    refine pm_goI 198 1 pb_c198 (by decide) (Nat.le_of_ble_eq_true rfl) rfl ?_
    try simp only [show pm_mL 198 = 6 from rfl, pm_WI0, pm_WI1, pm_WI2, pm_WI3, pm_WI4, pm_WI5, pm_WV, pm_WW, pm_WX, pb_B198, pm_if, pm_QI_at, pm_QL_at, pm_QV_at, pm_QR_at, pm_QR_at0, pm_QR_at1, Nat.reduceSub, Nat.reduceAdd, List.replicate_zero, List.replicate_succ, true_and, and_true, true_or, or_true, and_self, reduceIte, Nat.reduceEqDiff, Nat.reduceLT, Nat.reduceLeDiff, Nat.reduceMul, false_and, and_false, reduceCtorEq, false_or, or_false, not_true_eq_false, not_false_eq_true, true_implies, false_implies, implies_true, lf_10, eq_self, Int32.reduceLT, Int32.reduceLE, Int32.reduceAdd, Int32.reduceSub, pm_same, pm_i_wI, pm_l_wL, pm_l_wM, pm_oR_rf, pm_oQ_rf, sh_k59 hS, sh_r59_25 hS, sh_k80 hS, sh_z80 hS, sh_r59_27 hS, sh_k81 hS, sh_z81 hS, mst_w46, mst_w48, mst_w49, mst_46, mst_48, mst_49, mst_k, mst_z, mst_r, mst_n, mst_l, mst_R62, mst_R64, mst_R65, mst_R66, mst_R67, mst_R78, mst_R80, mst_R81, mst_F18, mst_F24, mst_F45, mst_F47, mst_F50, mst_F51, nI_1, LQ1, LQ2, LQ4, LQ1, LQ2, ms_k, ms_z, ms_r, ms_49, ms_w49, ms_R62, ms_R64, ms_R65, ms_R66, ms_R67, ms_R75, ms_R76, ms_R77, ms_R78, ms_R79, ms_R80, ms_R81, ms_R95, ms_R96, ms_R97, ms_F0, ms_F2, ms_F18, ms_F24, ms_F31, ms_F26, ms_F45, ms_F47, ms_F50, ms_F51, ms_F52, ms_F53, ms_F54, ms_F55, ms_F56, ms_F57, ms_F58, ms_F59, ms_F60, ms_F61, ms_F62, ms_F63]
    refine ⟨by omega, mr_186f (c := 60) hS (p := 0) (by omega) ?_⟩
    refine ⟨fun _ => ⟨by omega, sh_k59 hS, mr_185 (S := S) (o := o) (r := (p, none)) (c := 62) (by omega) hS hm hr (by omega) ?_⟩, fun z => absurd rfl z⟩
    exact mr_198t0 (r := (p, none)) hd hS hm hr hmo hmo4 hhas (fun b hb he => h b hb (fun e z => (by cases z)))
  · have hp : p ≤ n := hr
    have hms : ms S o (p, some u) = mst S (nI p) (-1) (nI o) := rfl
    rw [hms]
    refine pm_goI 198 1 pb_c198 (by decide) (Nat.le_of_ble_eq_true rfl) rfl ?_
    try simp only [show pm_mL 198 = 6 from rfl, pm_WI0, pm_WI1, pm_WI2, pm_WI3, pm_WI4, pm_WI5, pm_WV, pm_WW, pm_WX, pb_B198, pm_if, pm_QI_at, pm_QL_at, pm_QV_at, pm_QR_at, pm_QR_at0, pm_QR_at1, Nat.reduceSub, Nat.reduceAdd, List.replicate_zero, List.replicate_succ, true_and, and_true, true_or, or_true, and_self, reduceIte, Nat.reduceEqDiff, Nat.reduceLT, Nat.reduceLeDiff, Nat.reduceMul, false_and, and_false, reduceCtorEq, false_or, or_false, not_true_eq_false, not_false_eq_true, true_implies, false_implies, implies_true, lf_10, eq_self, Int32.reduceLT, Int32.reduceLE, Int32.reduceAdd, Int32.reduceSub, pm_same, pm_i_wI, pm_l_wL, pm_l_wM, pm_oR_rf, pm_oQ_rf, sh_k59 hS, sh_r59_25 hS, sh_k80 hS, sh_z80 hS, sh_r59_27 hS, sh_k81 hS, sh_z81 hS, mst_w46, mst_w48, mst_w49, mst_46, mst_48, mst_49, mst_k, mst_z, mst_r, mst_n, mst_l, mst_R62, mst_R64, mst_R65, mst_R66, mst_R67, mst_R78, mst_R80, mst_R81, mst_F18, mst_F24, mst_F45, mst_F47, mst_F50, mst_F51, nI_1, LQ1, LQ2, LQ4, LQ1, LQ2, ms_k, ms_z, ms_r, ms_49, ms_w49, ms_R62, ms_R64, ms_R65, ms_R66, ms_R67, ms_R75, ms_R76, ms_R77, ms_R78, ms_R79, ms_R80, ms_R81, ms_R95, ms_R96, ms_R97, ms_F0, ms_F2, ms_F18, ms_F24, ms_F31, ms_F26, ms_F45, ms_F47, ms_F50, ms_F51, ms_F52, ms_F53, ms_F54, ms_F55, ms_F56, ms_F57, ms_F58, ms_F59, ms_F60, ms_F61, ms_F62, ms_F63]
    refine ⟨by omega, mr_186l (c := 60) (by omega) hS hm hp (by omega) (fun y => ?_) (fun y => ?_)⟩
    · have hpn : p < n := gx_lt gx_b_eof y (by omega)
      have ec : gx_bd ((p, some u) : gx_R Unit) (fun _ p => gx_cmp (gx_b f n) k s most p) = gx_bd (gx_num (gx_b f n) 0 most (p + 1)) (fun m q => (q, some [gx_st k s m])) := by
        show gx_cmp (gx_b f n) k s most p = _
        unfold gx_cmp; rw [if_pos y]
      rw [ec] at h
      refine ⟨fun z => absurd z (by decide), fun _ => ?_⟩
      refine mr_198t1 (S := S) (o := o) (r := (p + 1, some ())) hd hS hm (by omega) hmo hmo4 hhas (fun b hb he => ?_)
      have := h b hb (fun e z => ?_)
      · rw [un_bd1] at this; exact this
      · show _ = _
        change (gx_bd (gx_num (gx_b f n) 0 most (p + 1)) _).2 = _ at z
        rcases gx_two (gx_num (gx_b f n) 0 most (p + 1)) with ⟨x, ex⟩ | ⟨x, m, ex⟩
        · rw [gx_bd_none ex] at z; cases z
        · rw [gx_bd_some ex] at z; cases z
          rw [he m (by show (gx_num (gx_b f n) 0 most (p + 1)).2 = _; rw [ex]), hv1 (by rw [gx_st_mod (by omega)]; omega), ht0 m (gx_num_ok gx_b_eof hmo ex).2.2]
    · refine ⟨fun _ => ⟨by omega, sh_k59 hS, mr_185 (S := S) (o := o) (r := (p, some ())) (c := 62) (by omega) hS hm hr (by omega) ?_⟩, fun z => absurd rfl z⟩
      have e2 : gx_bd ((p, some ()) : gx_R Unit) (fun _ p => gx_w (gx_b f n) [62] p) = if gx_b f n p = 62 then (p + 1, some ()) else (p, none) := rfl
      rw [e2]
      by_cases y2 : gx_b f n p = 62
      · have hpn : p < n := gx_lt gx_b_eof y2 (by omega)
        rw [if_pos y2]
        have ec : gx_bd ((p, some u) : gx_R Unit) (fun _ p => gx_cmp (gx_b f n) k s most p) = gx_bd (gx_num (gx_b f n) 0 most (p + 1)) (fun m q => (q, some [gx_st (k + 1) s m])) := by
          show gx_cmp (gx_b f n) k s most p = _
          unfold gx_cmp; rw [if_neg y, if_pos y2]
        rw [ec] at h
        refine mr_198t0 (S := S) (o := o) (r := (p + 1, some ())) hd hS hm (by omega) hmo hmo4 hhas (fun b hb he => ?_)
        have := h b hb (fun e z => ?_)
        · rw [un_bd1] at this; exact this
        · change (gx_bd (gx_num (gx_b f n) 0 most (p + 1)) _).2 = _ at z
          rcases gx_two (gx_num (gx_b f n) 0 most (p + 1)) with ⟨x, ex⟩ | ⟨x, m, ex⟩
          · rw [gx_bd_none ex] at z; cases z
          · rw [gx_bd_some ex] at z; cases z
            rw [he m (by show (gx_num (gx_b f n) 0 most (p + 1)).2 = _; rw [ex]), hv1 (by rw [gx_st_mod (by omega)]; omega), ht1 m (gx_num_ok gx_b_eof hmo ex).2.2]
      · rw [if_neg y2]
        have ec : gx_bd ((p, some u) : gx_R Unit) (fun _ p => gx_cmp (gx_b f n) k s most p) = (p, none) := by
          show gx_cmp (gx_b f n) k s most p = _
          unfold gx_cmp; rw [if_neg y, if_neg y2]
        rw [ec] at h
        exact mr_198t0 (S := S) (o := o) (r := (p, none)) hd hS hm hr hmo hmo4 hhas (fun b hb he => h b hb (fun e z => (by cases z)))
