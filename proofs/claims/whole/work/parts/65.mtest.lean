theorem tq_ok {S : pm_S} {t : Nat → Bool} (h18 : iv_c S 18 ≤ 40) (h : tq S t) : (pm_i S 59 50 = -1 ∧ t = fun _ => false) ∨ ∃ m, m < 40 ∧ m < iv_c S 18 ∧ pm_i S 59 50 = nI m ∧ t = tv S m (pm_i S 59 51) := by
  rcases h with h | ⟨m, a, b, c⟩
  · exact Or.inl h
  · exact Or.inr ⟨m, by omega, a, b, c⟩
theorem vo_some {p m : Nat} : vo (p, some m) = nI m := rfl
theorem vo_none {p : Nat} : vo ((p, none) : gx_R Nat) = 0 := rfl
theorem fa_lt {S : pm_S} {m : Nat} {s k : Int32} {a : Nat} (h : fa_l S m s k = some a) : a < iv_c S 24 := ac_f_lt h
theorem mr_194_116 {G : pm_G} {d : Nat} {S : pm_S} {f : Nat → Int32} {n : Nat} {t : Nat → Bool} {o p : Nat} {q : Int32 → pm_S → Prop} {X Y : Value} (hd : 6 ≤ d) (hS : Sh S) (hm : mrc S f n) (h18 : iv_c S 18 ≤ 40) (h24 : pm_i S 59 24 = nI (iv_c S 24)) (h24b : iv_c S 24 ≤ 150) (ht : tq S t) (hp : p ≤ n) (y : gx_b f n p = 116) (h : ∀ b, (b = 0 ∨ b = 1) → (∀ e, (gx_bd (gx_num (gx_b f n) 0 1 (p + 1)) (fun n q => (q, some [gx_st 0 0 n]))).2 = some e → b = bI (gx_hv t e)) → q b (ms S o (un (gx_bd (gx_num (gx_b f n) 0 1 (p + 1)) (fun n q => (q, some [gx_st 0 0 n])))))) : pm_W G d 194 (pm_QI q) 0 [.ref 59, .int 116, .float 0, .float 0] [] (mst S (nI p) (-1) (nI o)) 0 0 := by
  have hn := hm.2.1
  have hpn : p < n := gx_lt gx_b_eof y (by omega)
  rcases tq_ok h18 ht with ⟨t1, t2⟩ | ⟨m, m1, m2, m3, t2⟩
  · subst t2
    refine pm_wb_ok pb_c194 8 0 0 _ _ _ _ _ ?_
    try simp only [pm_WI0, pm_WI1, pm_WI2, pm_WI3, pm_WI4, pm_WI5, pm_WV, pm_WW, pm_WX, pb_B194, pm_if, pm_QI_at, pm_QL_at, pm_QV_at, pm_QR_at, pm_QR_at0, pm_QR_at1, Nat.reduceSub, Nat.reduceAdd, List.replicate_zero, List.replicate_succ, true_and, and_true, true_or, or_true, and_self, reduceIte, Nat.reduceEqDiff, Nat.reduceLT, Nat.reduceLeDiff, Nat.reduceMul, false_and, and_false, reduceCtorEq, false_or, or_false, not_true_eq_false, not_false_eq_true, true_implies, false_implies, implies_true, lf_10, eq_self, Int32.reduceLT, Int32.reduceLE, Int32.reduceAdd, Int32.reduceSub, pm_same, pm_i_wI, pm_l_wL, pm_l_wM, pm_oR_rf, pm_oQ_rf, sh_k59 hS, sh_r59_25 hS, sh_k80 hS, sh_z80 hS, sh_r59_27 hS, sh_k81 hS, sh_z81 hS, mst_w46, mst_w48, mst_w49, mst_46, mst_48, mst_49, mst_k, mst_z, mst_r, mst_n, mst_l, mst_R62, mst_R64, mst_R65, mst_R66, mst_R67, mst_R78, mst_R80, mst_R81, mst_F18, mst_F24, mst_F45, mst_F47, mst_F50, mst_F51, nI_1, LQ1, LQ2, LQ4, LQ1, LQ2, ms_k, ms_z, ms_r, ms_49, ms_w49, ms_R62, ms_R64, ms_R65, ms_R66, ms_R67, ms_R75, ms_R76, ms_R77, ms_R78, ms_R79, ms_R80, ms_R81, ms_R95, ms_R96, ms_R97, ms_F0, ms_F2, ms_F18, ms_F24, ms_F31, ms_F26, ms_F45, ms_F47, ms_F50, ms_F51, ms_F52, ms_F53, ms_F54, ms_F55, ms_F56, ms_F57, ms_F58, ms_F59, ms_F60, ms_F61, ms_F62, ms_F63, sh_r59_8 hS, sh_k65 hS, sh_z65 hS, sh_r59_10 hS, sh_k67 hS, sh_z67 hS, sh_r59_9 hS, sh_k66 hS, sh_z66 hS, sh_r59_22 hS, sh_k78 hS, sh_z78 hS, t1]
    refine ⟨by omega, mr_189 (S := S) (o := o) (r := (p + 1, some ())) (most := 1) (by omega) hS hm (by show p + 1 ≤ n; omega) (by omega) (by omega) ?_⟩
    try simp only [pm_WV, pm_WW, true_and, and_true, true_or, or_true, and_self, reduceIte, Nat.reduceEqDiff, Nat.reduceLT, Nat.reduceLeDiff, Nat.reduceMul, false_and, and_false, reduceCtorEq, false_or, or_false, not_true_eq_false, not_false_eq_true, true_implies, false_implies, implies_true, lf_10, eq_self, Int32.reduceLT, Int32.reduceLE, Int32.reduceAdd, Int32.reduceSub, pm_same, pm_i_wI, pm_l_wL, pm_l_wM, pm_oR_rf, pm_oQ_rf, sh_k59 hS, sh_r59_25 hS, sh_k80 hS, sh_z80 hS, sh_r59_27 hS, sh_k81 hS, sh_z81 hS, mst_w46, mst_w48, mst_w49, mst_46, mst_48, mst_49, mst_k, mst_z, mst_r, mst_n, mst_l, mst_R62, mst_R64, mst_R65, mst_R66, mst_R67, mst_R78, mst_R80, mst_R81, mst_F18, mst_F24, mst_F45, mst_F47, mst_F50, mst_F51, nI_1, LQ1, LQ2, LQ4, LQ1, LQ2, ms_k, ms_z, ms_r, ms_49, ms_w49, ms_R62, ms_R64, ms_R65, ms_R66, ms_R67, ms_R75, ms_R76, ms_R77, ms_R78, ms_R79, ms_R80, ms_R81, ms_R95, ms_R96, ms_R97, ms_F0, ms_F2, ms_F18, ms_F24, ms_F31, ms_F26, ms_F45, ms_F47, ms_F50, ms_F51, ms_F52, ms_F53, ms_F54, ms_F55, ms_F56, ms_F57, ms_F58, ms_F59, ms_F60, ms_F61, ms_F62, ms_F63, sh_r59_8 hS, sh_k65 hS, sh_z65 hS, sh_r59_10 hS, sh_k67 hS, sh_z67 hS, sh_r59_9 hS, sh_k66 hS, sh_z66 hS, sh_r59_22 hS, sh_k78 hS, sh_z78 hS, t1, pm_WI0, pm_WI1, pm_WI2, pm_WI3, pm_WI4, pm_WI5, pm_WV, pm_WW, pm_WX, pb_B194, pm_if, pm_QI_at, pm_QL_at, pm_QV_at, pm_QR_at, pm_QR_at0, pm_QR_at1, Nat.reduceSub, Nat.reduceAdd, List.replicate_zero, List.replicate_succ]
    have eR : gx_bd ((p + 1, some ()) : gx_R Unit) (fun _ p => gx_num (gx_b f n) 0 1 p) = gx_num (gx_b f n) 0 1 (p + 1) := rfl
    rw [eR]
    rcases gx_two (gx_num (gx_b f n) 0 1 (p + 1)) with ⟨x, ex⟩ | ⟨x, u, ex⟩
    · rw [ex]; rw [gx_bd_none ex] at h
      exact h 0 (Or.inl rfl) (fun e z => (by cases z))
    · rw [ex]; rw [gx_bd_some ex] at h
      refine h 0 (Or.inl rfl) (fun e z => ?_)
      cases z; rw [hv1 (by rw [gx_st_mod (by omega)]; omega)]; rfl
  · subst t2
    have hm0 : ¬ nI m < 0 := nI_pos (by omega)
    have hm1 : 0 ≤ nI m := nI_pos' (by omega)
    have hmv : vp_in (nI m) 40 := vp_in_nI m1 (by decide)
    refine pm_wb_ok pb_c194 8 0 0 _ _ _ _ _ ?_
    try simp only [pm_WI0, pm_WI1, pm_WI2, pm_WI3, pm_WI4, pm_WI5, pm_WV, pm_WW, pm_WX, pb_B194, pm_if, pm_QI_at, pm_QL_at, pm_QV_at, pm_QR_at, pm_QR_at0, pm_QR_at1, Nat.reduceSub, Nat.reduceAdd, List.replicate_zero, List.replicate_succ, true_and, and_true, true_or, or_true, and_self, reduceIte, Nat.reduceEqDiff, Nat.reduceLT, Nat.reduceLeDiff, Nat.reduceMul, false_and, and_false, reduceCtorEq, false_or, or_false, not_true_eq_false, not_false_eq_true, true_implies, false_implies, implies_true, lf_10, eq_self, Int32.reduceLT, Int32.reduceLE, Int32.reduceAdd, Int32.reduceSub, pm_same, pm_i_wI, pm_l_wL, pm_l_wM, pm_oR_rf, pm_oQ_rf, sh_k59 hS, sh_r59_25 hS, sh_k80 hS, sh_z80 hS, sh_r59_27 hS, sh_k81 hS, sh_z81 hS, mst_w46, mst_w48, mst_w49, mst_46, mst_48, mst_49, mst_k, mst_z, mst_r, mst_n, mst_l, mst_R62, mst_R64, mst_R65, mst_R66, mst_R67, mst_R78, mst_R80, mst_R81, mst_F18, mst_F24, mst_F45, mst_F47, mst_F50, mst_F51, nI_1, LQ1, LQ2, LQ4, LQ1, LQ2, ms_k, ms_z, ms_r, ms_49, ms_w49, ms_R62, ms_R64, ms_R65, ms_R66, ms_R67, ms_R75, ms_R76, ms_R77, ms_R78, ms_R79, ms_R80, ms_R81, ms_R95, ms_R96, ms_R97, ms_F0, ms_F2, ms_F18, ms_F24, ms_F31, ms_F26, ms_F45, ms_F47, ms_F50, ms_F51, ms_F52, ms_F53, ms_F54, ms_F55, ms_F56, ms_F57, ms_F58, ms_F59, ms_F60, ms_F61, ms_F62, ms_F63, sh_r59_8 hS, sh_k65 hS, sh_z65 hS, sh_r59_10 hS, sh_k67 hS, sh_z67 hS, sh_r59_9 hS, sh_k66 hS, sh_z66 hS, sh_r59_22 hS, sh_k78 hS, sh_z78 hS, m3, nI_clamp (show m < 2 ^ 31 by omega), hm0, hm1, hmv]
    refine ⟨by omega, mr_189 (S := S) (o := o) (r := (p + 1, some ())) (most := 1) (by omega) hS hm (by show p + 1 ≤ n; omega) (by omega) (by omega) ?_⟩
    try simp only [pm_WV, pm_WW, true_and, and_true, true_or, or_true, and_self, reduceIte, Nat.reduceEqDiff, Nat.reduceLT, Nat.reduceLeDiff, Nat.reduceMul, false_and, and_false, reduceCtorEq, false_or, or_false, not_true_eq_false, not_false_eq_true, true_implies, false_implies, implies_true, lf_10, eq_self, Int32.reduceLT, Int32.reduceLE, Int32.reduceAdd, Int32.reduceSub, pm_same, pm_i_wI, pm_l_wL, pm_l_wM, pm_oR_rf, pm_oQ_rf, sh_k59 hS, sh_r59_25 hS, sh_k80 hS, sh_z80 hS, sh_r59_27 hS, sh_k81 hS, sh_z81 hS, mst_w46, mst_w48, mst_w49, mst_46, mst_48, mst_49, mst_k, mst_z, mst_r, mst_n, mst_l, mst_R62, mst_R64, mst_R65, mst_R66, mst_R67, mst_R78, mst_R80, mst_R81, mst_F18, mst_F24, mst_F45, mst_F47, mst_F50, mst_F51, nI_1, LQ1, LQ2, LQ4, LQ1, LQ2, ms_k, ms_z, ms_r, ms_49, ms_w49, ms_R62, ms_R64, ms_R65, ms_R66, ms_R67, ms_R75, ms_R76, ms_R77, ms_R78, ms_R79, ms_R80, ms_R81, ms_R95, ms_R96, ms_R97, ms_F0, ms_F2, ms_F18, ms_F24, ms_F31, ms_F26, ms_F45, ms_F47, ms_F50, ms_F51, ms_F52, ms_F53, ms_F54, ms_F55, ms_F56, ms_F57, ms_F58, ms_F59, ms_F60, ms_F61, ms_F62, ms_F63, sh_r59_8 hS, sh_k65 hS, sh_z65 hS, sh_r59_10 hS, sh_k67 hS, sh_z67 hS, sh_r59_9 hS, sh_k66 hS, sh_z66 hS, sh_r59_22 hS, sh_k78 hS, sh_z78 hS, m3, nI_clamp (show m < 2 ^ 31 by omega), hm0, hm1, hmv, pm_WI0, pm_WI1, pm_WI2, pm_WI3, pm_WI4, pm_WI5, pm_WV, pm_WW, pm_WX, pb_B194, pm_if, pm_QI_at, pm_QL_at, pm_QV_at, pm_QR_at, pm_QR_at0, pm_QR_at1, Nat.reduceSub, Nat.reduceAdd, List.replicate_zero, List.replicate_succ]
    have eR : gx_bd ((p + 1, some ()) : gx_R Unit) (fun _ p => gx_num (gx_b f n) 0 1 p) = gx_num (gx_b f n) 0 1 (p + 1) := rfl
    rw [eR]
    rcases gx_two (gx_num (gx_b f n) 0 1 (p + 1)) with ⟨x, ex⟩ | ⟨x, u, ex⟩
    · rw [ex]; rw [gx_bd_none ex] at h
      exact ⟨fun _ => h 1 (Or.inr rfl) (fun e z => (by cases z)), fun _ => h 0 (Or.inl rfl) (fun e z => (by cases z))⟩
    · rw [ex]; rw [gx_bd_some ex] at h
      have hs := gx_st_s (k := 0) (s := 0) (m := u) (by omega) (by omega)
      have hmd := gx_st_mod (k := 0) (s := 0) (m := u) (by omega)
      have et : tv S m (pm_i S 59 51) (gx_st 0 0 u) = decide (pm_i S 65 m = nI u) := by unfold tv; rw [hmd, if_pos rfl, hs.2]
      refine ⟨fun z2 => h 1 (Or.inr rfl) (fun e z => ?_), fun z2 => h 0 (Or.inl rfl) (fun e z => ?_)⟩ <;> cases z <;> rw [hv1 (by rw [hmd]; omega), et] <;> simp only [vo] at z2 <;> simp [z2, bI]
theorem mr_194_97 {G : pm_G} {d : Nat} {S : pm_S} {f : Nat → Int32} {n : Nat} {t : Nat → Bool} {o p : Nat} {q : Int32 → pm_S → Prop} {X Y : Value} (hd : 6 ≤ d) (hS : Sh S) (hm : mrc S f n) (h18 : iv_c S 18 ≤ 40) (h24 : pm_i S 59 24 = nI (iv_c S 24)) (h24b : iv_c S 24 ≤ 150) (ht : tq S t) (hp : p ≤ n) (y : gx_b f n p = 97) (h : ∀ b, (b = 0 ∨ b = 1) → (∀ e, (gx_bd (gx_num (gx_b f n) 1 1 (p + 1)) (fun s q => (q, some [gx_st 1 s 0]))).2 = some e → b = bI (gx_hv t e)) → q b (ms S o (un (gx_bd (gx_num (gx_b f n) 1 1 (p + 1)) (fun s q => (q, some [gx_st 1 s 0])))))) : pm_W G d 194 (pm_QI q) 48 [.ref 59, .int 97, .float 0, .float 0] [] (mst S (nI p) (-1) (nI o)) 0 0 := by
  have hn := hm.2.1
  have hpn : p < n := gx_lt gx_b_eof y (by omega)
  rcases tq_ok h18 ht with ⟨t1, t2⟩ | ⟨m, m1, m2, m3, t2⟩
  · subst t2
    refine pm_wb_ok pb_c194 8 48 0 _ _ _ _ _ ?_
    try simp only [pm_WI0, pm_WI1, pm_WI2, pm_WI3, pm_WI4, pm_WI5, pm_WV, pm_WW, pm_WX, pb_B194, pm_if, pm_QI_at, pm_QL_at, pm_QV_at, pm_QR_at, pm_QR_at0, pm_QR_at1, Nat.reduceSub, Nat.reduceAdd, List.replicate_zero, List.replicate_succ, true_and, and_true, true_or, or_true, and_self, reduceIte, Nat.reduceEqDiff, Nat.reduceLT, Nat.reduceLeDiff, Nat.reduceMul, false_and, and_false, reduceCtorEq, false_or, or_false, not_true_eq_false, not_false_eq_true, true_implies, false_implies, implies_true, lf_10, eq_self, Int32.reduceLT, Int32.reduceLE, Int32.reduceAdd, Int32.reduceSub, pm_same, pm_i_wI, pm_l_wL, pm_l_wM, pm_oR_rf, pm_oQ_rf, sh_k59 hS, sh_r59_25 hS, sh_k80 hS, sh_z80 hS, sh_r59_27 hS, sh_k81 hS, sh_z81 hS, mst_w46, mst_w48, mst_w49, mst_46, mst_48, mst_49, mst_k, mst_z, mst_r, mst_n, mst_l, mst_R62, mst_R64, mst_R65, mst_R66, mst_R67, mst_R78, mst_R80, mst_R81, mst_F18, mst_F24, mst_F45, mst_F47, mst_F50, mst_F51, nI_1, LQ1, LQ2, LQ4, LQ1, LQ2, ms_k, ms_z, ms_r, ms_49, ms_w49, ms_R62, ms_R64, ms_R65, ms_R66, ms_R67, ms_R75, ms_R76, ms_R77, ms_R78, ms_R79, ms_R80, ms_R81, ms_R95, ms_R96, ms_R97, ms_F0, ms_F2, ms_F18, ms_F24, ms_F31, ms_F26, ms_F45, ms_F47, ms_F50, ms_F51, ms_F52, ms_F53, ms_F54, ms_F55, ms_F56, ms_F57, ms_F58, ms_F59, ms_F60, ms_F61, ms_F62, ms_F63, sh_r59_8 hS, sh_k65 hS, sh_z65 hS, sh_r59_10 hS, sh_k67 hS, sh_z67 hS, sh_r59_9 hS, sh_k66 hS, sh_z66 hS, sh_r59_22 hS, sh_k78 hS, sh_z78 hS, t1]
    refine ⟨by omega, mr_188 (S := S) (o := o) (r := (p + 1, some ())) (by omega) hS hm (by show p + 1 ≤ n; omega) ?_⟩
    try simp only [pm_WV, pm_WW, true_and, and_true, true_or, or_true, and_self, reduceIte, Nat.reduceEqDiff, Nat.reduceLT, Nat.reduceLeDiff, Nat.reduceMul, false_and, and_false, reduceCtorEq, false_or, or_false, not_true_eq_false, not_false_eq_true, true_implies, false_implies, implies_true, lf_10, eq_self, Int32.reduceLT, Int32.reduceLE, Int32.reduceAdd, Int32.reduceSub, pm_same, pm_i_wI, pm_l_wL, pm_l_wM, pm_oR_rf, pm_oQ_rf, sh_k59 hS, sh_r59_25 hS, sh_k80 hS, sh_z80 hS, sh_r59_27 hS, sh_k81 hS, sh_z81 hS, mst_w46, mst_w48, mst_w49, mst_46, mst_48, mst_49, mst_k, mst_z, mst_r, mst_n, mst_l, mst_R62, mst_R64, mst_R65, mst_R66, mst_R67, mst_R78, mst_R80, mst_R81, mst_F18, mst_F24, mst_F45, mst_F47, mst_F50, mst_F51, nI_1, LQ1, LQ2, LQ4, LQ1, LQ2, ms_k, ms_z, ms_r, ms_49, ms_w49, ms_R62, ms_R64, ms_R65, ms_R66, ms_R67, ms_R75, ms_R76, ms_R77, ms_R78, ms_R79, ms_R80, ms_R81, ms_R95, ms_R96, ms_R97, ms_F0, ms_F2, ms_F18, ms_F24, ms_F31, ms_F26, ms_F45, ms_F47, ms_F50, ms_F51, ms_F52, ms_F53, ms_F54, ms_F55, ms_F56, ms_F57, ms_F58, ms_F59, ms_F60, ms_F61, ms_F62, ms_F63, sh_r59_8 hS, sh_k65 hS, sh_z65 hS, sh_r59_10 hS, sh_k67 hS, sh_z67 hS, sh_r59_9 hS, sh_k66 hS, sh_z66 hS, sh_r59_22 hS, sh_k78 hS, sh_z78 hS, t1, pm_WI0, pm_WI1, pm_WI2, pm_WI3, pm_WI4, pm_WI5, pm_WV, pm_WW, pm_WX, pb_B194, pm_if, pm_QI_at, pm_QL_at, pm_QV_at, pm_QR_at, pm_QR_at0, pm_QR_at1, Nat.reduceSub, Nat.reduceAdd, List.replicate_zero, List.replicate_succ]
    have eR : gx_bd ((p + 1, some ()) : gx_R Unit) (fun _ p => gx_num (gx_b f n) 1 1 p) = gx_num (gx_b f n) 1 1 (p + 1) := rfl
    rw [eR]
    rcases gx_two (gx_num (gx_b f n) 1 1 (p + 1)) with ⟨x, ex⟩ | ⟨x, u, ex⟩
    · rw [ex]; rw [gx_bd_none ex] at h
      exact h 0 (Or.inl rfl) (fun e z => (by cases z))
    · rw [ex]; rw [gx_bd_some ex] at h
      refine h 0 (Or.inl rfl) (fun e z => ?_)
      cases z; rw [hv1 (by rw [gx_st_mod (by omega)]; omega)]; rfl
  · subst t2
    have hm0 : ¬ nI m < 0 := nI_pos (by omega)
    have hm1 : 0 ≤ nI m := nI_pos' (by omega)
    have hmv : vp_in (nI m) 40 := vp_in_nI m1 (by decide)
    refine pm_wb_ok pb_c194 8 48 0 _ _ _ _ _ ?_
    try simp only [pm_WI0, pm_WI1, pm_WI2, pm_WI3, pm_WI4, pm_WI5, pm_WV, pm_WW, pm_WX, pb_B194, pm_if, pm_QI_at, pm_QL_at, pm_QV_at, pm_QR_at, pm_QR_at0, pm_QR_at1, Nat.reduceSub, Nat.reduceAdd, List.replicate_zero, List.replicate_succ, true_and, and_true, true_or, or_true, and_self, reduceIte, Nat.reduceEqDiff, Nat.reduceLT, Nat.reduceLeDiff, Nat.reduceMul, false_and, and_false, reduceCtorEq, false_or, or_false, not_true_eq_false, not_false_eq_true, true_implies, false_implies, implies_true, lf_10, eq_self, Int32.reduceLT, Int32.reduceLE, Int32.reduceAdd, Int32.reduceSub, pm_same, pm_i_wI, pm_l_wL, pm_l_wM, pm_oR_rf, pm_oQ_rf, sh_k59 hS, sh_r59_25 hS, sh_k80 hS, sh_z80 hS, sh_r59_27 hS, sh_k81 hS, sh_z81 hS, mst_w46, mst_w48, mst_w49, mst_46, mst_48, mst_49, mst_k, mst_z, mst_r, mst_n, mst_l, mst_R62, mst_R64, mst_R65, mst_R66, mst_R67, mst_R78, mst_R80, mst_R81, mst_F18, mst_F24, mst_F45, mst_F47, mst_F50, mst_F51, nI_1, LQ1, LQ2, LQ4, LQ1, LQ2, ms_k, ms_z, ms_r, ms_49, ms_w49, ms_R62, ms_R64, ms_R65, ms_R66, ms_R67, ms_R75, ms_R76, ms_R77, ms_R78, ms_R79, ms_R80, ms_R81, ms_R95, ms_R96, ms_R97, ms_F0, ms_F2, ms_F18, ms_F24, ms_F31, ms_F26, ms_F45, ms_F47, ms_F50, ms_F51, ms_F52, ms_F53, ms_F54, ms_F55, ms_F56, ms_F57, ms_F58, ms_F59, ms_F60, ms_F61, ms_F62, ms_F63, sh_r59_8 hS, sh_k65 hS, sh_z65 hS, sh_r59_10 hS, sh_k67 hS, sh_z67 hS, sh_r59_9 hS, sh_k66 hS, sh_z66 hS, sh_r59_22 hS, sh_k78 hS, sh_z78 hS, m3, nI_clamp (show m < 2 ^ 31 by omega), hm0, hm1, hmv]
    refine ⟨by omega, mr_188 (S := S) (o := o) (r := (p + 1, some ())) (by omega) hS hm (by show p + 1 ≤ n; omega) ?_⟩
    try simp only [pm_WV, pm_WW, true_and, and_true, true_or, or_true, and_self, reduceIte, Nat.reduceEqDiff, Nat.reduceLT, Nat.reduceLeDiff, Nat.reduceMul, false_and, and_false, reduceCtorEq, false_or, or_false, not_true_eq_false, not_false_eq_true, true_implies, false_implies, implies_true, lf_10, eq_self, Int32.reduceLT, Int32.reduceLE, Int32.reduceAdd, Int32.reduceSub, pm_same, pm_i_wI, pm_l_wL, pm_l_wM, pm_oR_rf, pm_oQ_rf, sh_k59 hS, sh_r59_25 hS, sh_k80 hS, sh_z80 hS, sh_r59_27 hS, sh_k81 hS, sh_z81 hS, mst_w46, mst_w48, mst_w49, mst_46, mst_48, mst_49, mst_k, mst_z, mst_r, mst_n, mst_l, mst_R62, mst_R64, mst_R65, mst_R66, mst_R67, mst_R78, mst_R80, mst_R81, mst_F18, mst_F24, mst_F45, mst_F47, mst_F50, mst_F51, nI_1, LQ1, LQ2, LQ4, LQ1, LQ2, ms_k, ms_z, ms_r, ms_49, ms_w49, ms_R62, ms_R64, ms_R65, ms_R66, ms_R67, ms_R75, ms_R76, ms_R77, ms_R78, ms_R79, ms_R80, ms_R81, ms_R95, ms_R96, ms_R97, ms_F0, ms_F2, ms_F18, ms_F24, ms_F31, ms_F26, ms_F45, ms_F47, ms_F50, ms_F51, ms_F52, ms_F53, ms_F54, ms_F55, ms_F56, ms_F57, ms_F58, ms_F59, ms_F60, ms_F61, ms_F62, ms_F63, sh_r59_8 hS, sh_k65 hS, sh_z65 hS, sh_r59_10 hS, sh_k67 hS, sh_z67 hS, sh_r59_9 hS, sh_k66 hS, sh_z66 hS, sh_r59_22 hS, sh_k78 hS, sh_z78 hS, m3, nI_clamp (show m < 2 ^ 31 by omega), hm0, hm1, hmv, pm_WI0, pm_WI1, pm_WI2, pm_WI3, pm_WI4, pm_WI5, pm_WV, pm_WW, pm_WX, pb_B194, pm_if, pm_QI_at, pm_QL_at, pm_QV_at, pm_QR_at, pm_QR_at0, pm_QR_at1, Nat.reduceSub, Nat.reduceAdd, List.replicate_zero, List.replicate_succ]
    have eR : gx_bd ((p + 1, some ()) : gx_R Unit) (fun _ p => gx_num (gx_b f n) 1 1 p) = gx_num (gx_b f n) 1 1 (p + 1) := rfl
    rw [eR]
    refine ⟨by omega, ac_195 (n := iv_c S 24) (by omega) (show Sh _ from hS) (by simp only [ms_F24]; exact h24) h24b ?_⟩
    try simp only [pm_WV, pm_WW, true_and, and_true, true_or, or_true, and_self, reduceIte, Nat.reduceEqDiff, Nat.reduceLT, Nat.reduceLeDiff, Nat.reduceMul, false_and, and_false, reduceCtorEq, false_or, or_false, not_true_eq_false, not_false_eq_true, true_implies, false_implies, implies_true, lf_10, eq_self, Int32.reduceLT, Int32.reduceLE, Int32.reduceAdd, Int32.reduceSub, pm_same, pm_i_wI, pm_l_wL, pm_l_wM, pm_oR_rf, pm_oQ_rf, sh_k59 hS, sh_r59_25 hS, sh_k80 hS, sh_z80 hS, sh_r59_27 hS, sh_k81 hS, sh_z81 hS, mst_w46, mst_w48, mst_w49, mst_46, mst_48, mst_49, mst_k, mst_z, mst_r, mst_n, mst_l, mst_R62, mst_R64, mst_R65, mst_R66, mst_R67, mst_R78, mst_R80, mst_R81, mst_F18, mst_F24, mst_F45, mst_F47, mst_F50, mst_F51, nI_1, LQ1, LQ2, LQ4, LQ1, LQ2, ms_k, ms_z, ms_r, ms_49, ms_w49, ms_R62, ms_R64, ms_R65, ms_R66, ms_R67, ms_R75, ms_R76, ms_R77, ms_R78, ms_R79, ms_R80, ms_R81, ms_R95, ms_R96, ms_R97, ms_F0, ms_F2, ms_F18, ms_F24, ms_F31, ms_F26, ms_F45, ms_F47, ms_F50, ms_F51, ms_F52, ms_F53, ms_F54, ms_F55, ms_F56, ms_F57, ms_F58, ms_F59, ms_F60, ms_F61, ms_F62, ms_F63, sh_r59_8 hS, sh_k65 hS, sh_z65 hS, sh_r59_10 hS, sh_k67 hS, sh_z67 hS, sh_r59_9 hS, sh_k66 hS, sh_z66 hS, sh_r59_22 hS, sh_k78 hS, sh_z78 hS, m3, nI_clamp (show m < 2 ^ 31 by omega), hm0, hm1, hmv, pm_WI0, pm_WI1, pm_WI2, pm_WI3, pm_WI4, pm_WI5, pm_WV, pm_WW, pm_WX, pb_B194, pm_if, pm_QI_at, pm_QL_at, pm_QV_at, pm_QR_at, pm_QR_at0, pm_QR_at1, Nat.reduceSub, Nat.reduceAdd, List.replicate_zero, List.replicate_succ]
    change (oI (fa_f S m (vo (gx_num (gx_b f n) 1 1 (p + 1))) (pm_i S 59 51)) < 0 → _) ∧ (¬ oI (fa_f S m (vo (gx_num (gx_b f n) 1 1 (p + 1))) (pm_i S 59 51)) < 0 → _)
    rcases gx_two (gx_num (gx_b f n) 1 1 (p + 1)) with ⟨x, ex⟩ | ⟨x, u, ex⟩
    · rw [ex]; rw [gx_bd_none ex] at h
      exact ⟨fun _ => h 0 (Or.inl rfl) (fun e z => (by cases z)), fun _ => h 1 (Or.inr rfl) (fun e z => (by cases z))⟩
    · have hu := (gx_num_ok gx_b_eof (by omega) ex).2.2
      rw [ex]; rw [gx_bd_some ex] at h
      have hs := gx_st_s (k := 1) (s := u) (m := 0) (by omega) (by omega)
      have hmd := gx_st_mod (k := 1) (s := u) (m := 0) (by omega)
      have et : tv S m (pm_i S 59 51) (gx_st 1 u 0) = (fa_f S m (nI u) (pm_i S 59 51)).isSome := by unfold tv; rw [hmd, if_neg (by omega), if_pos rfl, hs.1]
      try simp only [vo]
      refine ⟨fun z2 => h 0 (Or.inl rfl) (fun e z => ?_), fun z2 => h 1 (Or.inr rfl) (fun e z => ?_)⟩ <;> cases z <;> rw [hv1 (by rw [hmd]; omega), et]
      · cases ha : fa_f S m (nI u) (pm_i S 59 51) with
        | none => rfl
        | some a =>
          rw [ha] at z2
          have := ac_f_lt ha
          exact absurd z2 (nI_pos (by omega))
      · cases ha : fa_f S m (nI u) (pm_i S 59 51) with
        | none => rw [ha] at z2; exact absurd (show (-1 : Int32) < 0 by decide) z2
        | some a => rfl
theorem mr_194_119 {G : pm_G} {d : Nat} {S : pm_S} {f : Nat → Int32} {n : Nat} {t : Nat → Bool} {o p : Nat} {q : Int32 → pm_S → Prop} {X Y : Value} (hd : 6 ≤ d) (hS : Sh S) (hm : mrc S f n) (h18 : iv_c S 18 ≤ 40) (h24 : pm_i S 59 24 = nI (iv_c S 24)) (h24b : iv_c S 24 ≤ 150) (ht : tq S t) (hp : p ≤ n) (y : gx_b f n p = 119) (h : ∀ b, (b = 0 ∨ b = 1) → (∀ e, (gx_bd (gx_num (gx_b f n) 1 1 (p + 1)) (fun s q => gx_cmp (gx_b f n) 2 s 2 q)).2 = some e → b = bI (gx_hv t e)) → q b (ms S o (un (gx_bd (gx_num (gx_b f n) 1 1 (p + 1)) (fun s q => gx_cmp (gx_b f n) 2 s 2 q))))) : pm_W G d 194 (pm_QI q) 98 [.ref 59, .int 119, .float 0, .float 0] [] (mst S (nI p) (-1) (nI o)) 0 0 := by
  have hn := hm.2.1
  have hpn : p < n := gx_lt gx_b_eof y (by omega)
  rcases tq_ok h18 ht with ⟨t1, t2⟩ | ⟨m, m1, m2, m3, t2⟩
  · subst t2
    refine pm_wb_ok pb_c194 8 98 0 _ _ _ _ _ ?_
    try simp only [pm_WI0, pm_WI1, pm_WI2, pm_WI3, pm_WI4, pm_WI5, pm_WV, pm_WW, pm_WX, pb_B194, pm_if, pm_QI_at, pm_QL_at, pm_QV_at, pm_QR_at, pm_QR_at0, pm_QR_at1, Nat.reduceSub, Nat.reduceAdd, List.replicate_zero, List.replicate_succ, true_and, and_true, true_or, or_true, and_self, reduceIte, Nat.reduceEqDiff, Nat.reduceLT, Nat.reduceLeDiff, Nat.reduceMul, false_and, and_false, reduceCtorEq, false_or, or_false, not_true_eq_false, not_false_eq_true, true_implies, false_implies, implies_true, lf_10, eq_self, Int32.reduceLT, Int32.reduceLE, Int32.reduceAdd, Int32.reduceSub, pm_same, pm_i_wI, pm_l_wL, pm_l_wM, pm_oR_rf, pm_oQ_rf, sh_k59 hS, sh_r59_25 hS, sh_k80 hS, sh_z80 hS, sh_r59_27 hS, sh_k81 hS, sh_z81 hS, mst_w46, mst_w48, mst_w49, mst_46, mst_48, mst_49, mst_k, mst_z, mst_r, mst_n, mst_l, mst_R62, mst_R64, mst_R65, mst_R66, mst_R67, mst_R78, mst_R80, mst_R81, mst_F18, mst_F24, mst_F45, mst_F47, mst_F50, mst_F51, nI_1, LQ1, LQ2, LQ4, LQ1, LQ2, ms_k, ms_z, ms_r, ms_49, ms_w49, ms_R62, ms_R64, ms_R65, ms_R66, ms_R67, ms_R75, ms_R76, ms_R77, ms_R78, ms_R79, ms_R80, ms_R81, ms_R95, ms_R96, ms_R97, ms_F0, ms_F2, ms_F18, ms_F24, ms_F31, ms_F26, ms_F45, ms_F47, ms_F50, ms_F51, ms_F52, ms_F53, ms_F54, ms_F55, ms_F56, ms_F57, ms_F58, ms_F59, ms_F60, ms_F61, ms_F62, ms_F63, sh_r59_8 hS, sh_k65 hS, sh_z65 hS, sh_r59_10 hS, sh_k67 hS, sh_z67 hS, sh_r59_9 hS, sh_k66 hS, sh_z66 hS, sh_r59_22 hS, sh_k78 hS, sh_z78 hS, t1]
    refine ⟨by omega, mr_188 (S := S) (o := o) (r := (p + 1, some ())) (by omega) hS hm (by show p + 1 ≤ n; omega) ?_⟩
    try simp only [pm_WV, pm_WW, true_and, and_true, true_or, or_true, and_self, reduceIte, Nat.reduceEqDiff, Nat.reduceLT, Nat.reduceLeDiff, Nat.reduceMul, false_and, and_false, reduceCtorEq, false_or, or_false, not_true_eq_false, not_false_eq_true, true_implies, false_implies, implies_true, lf_10, eq_self, Int32.reduceLT, Int32.reduceLE, Int32.reduceAdd, Int32.reduceSub, pm_same, pm_i_wI, pm_l_wL, pm_l_wM, pm_oR_rf, pm_oQ_rf, sh_k59 hS, sh_r59_25 hS, sh_k80 hS, sh_z80 hS, sh_r59_27 hS, sh_k81 hS, sh_z81 hS, mst_w46, mst_w48, mst_w49, mst_46, mst_48, mst_49, mst_k, mst_z, mst_r, mst_n, mst_l, mst_R62, mst_R64, mst_R65, mst_R66, mst_R67, mst_R78, mst_R80, mst_R81, mst_F18, mst_F24, mst_F45, mst_F47, mst_F50, mst_F51, nI_1, LQ1, LQ2, LQ4, LQ1, LQ2, ms_k, ms_z, ms_r, ms_49, ms_w49, ms_R62, ms_R64, ms_R65, ms_R66, ms_R67, ms_R75, ms_R76, ms_R77, ms_R78, ms_R79, ms_R80, ms_R81, ms_R95, ms_R96, ms_R97, ms_F0, ms_F2, ms_F18, ms_F24, ms_F31, ms_F26, ms_F45, ms_F47, ms_F50, ms_F51, ms_F52, ms_F53, ms_F54, ms_F55, ms_F56, ms_F57, ms_F58, ms_F59, ms_F60, ms_F61, ms_F62, ms_F63, sh_r59_8 hS, sh_k65 hS, sh_z65 hS, sh_r59_10 hS, sh_k67 hS, sh_z67 hS, sh_r59_9 hS, sh_k66 hS, sh_z66 hS, sh_r59_22 hS, sh_k78 hS, sh_z78 hS, t1, pm_WI0, pm_WI1, pm_WI2, pm_WI3, pm_WI4, pm_WI5, pm_WV, pm_WW, pm_WX, pb_B194, pm_if, pm_QI_at, pm_QL_at, pm_QV_at, pm_QR_at, pm_QR_at0, pm_QR_at1, Nat.reduceSub, Nat.reduceAdd, List.replicate_zero, List.replicate_succ]
    have eR : gx_bd ((p + 1, some ()) : gx_R Unit) (fun _ p => gx_num (gx_b f n) 1 1 p) = gx_num (gx_b f n) 1 1 (p + 1) := rfl
    rw [eR]
    obtain ⟨SS, hSS, hS16⟩ : ∃ SS : Nat, (match (gx_num (gx_b f n) 1 1 (p + 1)).2 with
      | none => SS = 0
      | some u => u = SS) ∧ SS < 16 := by
      rcases gx_two (gx_num (gx_b f n) 1 1 (p + 1)) with ⟨x, ex⟩ | ⟨x, u, ex⟩ <;> rw [ex]
      · exact ⟨0, rfl, by omega⟩
      · have hu := (gx_num_ok gx_b_eof (by omega) ex).2.2
        exact ⟨u, rfl, by omega⟩
    have eV : vo (gx_num (gx_b f n) 1 1 (p + 1)) = nI SS := by
      rcases gx_two (gx_num (gx_b f n) 1 1 (p + 1)) with ⟨x, ex⟩ | ⟨x, u, ex⟩ <;> rw [ex] at hSS ⊢
      · simp only at hSS; subst hSS; rfl
      · simp only at hSS; subst hSS; rfl
    have hun : (un (gx_num (gx_b f n) 1 1 (p + 1))).1 ≤ n := by
      rcases gx_two (gx_num (gx_b f n) 1 1 (p + 1)) with ⟨x, ex⟩ | ⟨x, u, ex⟩
      · have := gx_num_no ex; rw [ex]; show x ≤ n; omega
      · have := gx_num_ok gx_b_eof (by omega) ex; rw [ex]; show x ≤ n; omega
    refine ⟨by omega, mr_198 (S := S) (t := fun _ => false) (o := o) (r := un (gx_num (gx_b f n) 1 1 (p + 1))) (k := 2) (s := SS) (most := 2) (by omega) hS hm hun (by omega) (by omega) (Or.inl rfl) (by omega) (fun _ _ => rfl) (fun _ _ => rfl) ?_⟩
    refine (fun b hb he => ?_)
    have hh := h b hb (fun e z => ?_)
    · refine ⟨hb, ?_⟩
      rw [show un (gx_bd (gx_num (gx_b f n) 1 1 (p + 1)) (fun s q => gx_cmp (gx_b f n) 2 s 2 q)) = un (gx_bd (un (gx_num (gx_b f n) 1 1 (p + 1))) (fun _ q => gx_cmp (gx_b f n) 2 SS 2 q)) from ?_] at hh
      · exact hh
      · rcases gx_two (gx_num (gx_b f n) 1 1 (p + 1)) with ⟨x, ex⟩ | ⟨x, u, ex⟩ <;> rw [ex]
        · rfl
        · try simp only [ex] at hSS
          subst hSS; rfl
    · refine he e ?_
      rcases gx_two (gx_num (gx_b f n) 1 1 (p + 1)) with ⟨x, ex⟩ | ⟨x, u, ex⟩ <;> rw [ex] at z ⊢
      · cases z
      · try simp only [ex] at hSS
        subst hSS; exact z
  · subst t2
    have hm0 : ¬ nI m < 0 := nI_pos (by omega)
    have hm1 : 0 ≤ nI m := nI_pos' (by omega)
    have hmv : vp_in (nI m) 40 := vp_in_nI m1 (by decide)
    refine pm_wb_ok pb_c194 8 98 0 _ _ _ _ _ ?_
    try simp only [pm_WI0, pm_WI1, pm_WI2, pm_WI3, pm_WI4, pm_WI5, pm_WV, pm_WW, pm_WX, pb_B194, pm_if, pm_QI_at, pm_QL_at, pm_QV_at, pm_QR_at, pm_QR_at0, pm_QR_at1, Nat.reduceSub, Nat.reduceAdd, List.replicate_zero, List.replicate_succ, true_and, and_true, true_or, or_true, and_self, reduceIte, Nat.reduceEqDiff, Nat.reduceLT, Nat.reduceLeDiff, Nat.reduceMul, false_and, and_false, reduceCtorEq, false_or, or_false, not_true_eq_false, not_false_eq_true, true_implies, false_implies, implies_true, lf_10, eq_self, Int32.reduceLT, Int32.reduceLE, Int32.reduceAdd, Int32.reduceSub, pm_same, pm_i_wI, pm_l_wL, pm_l_wM, pm_oR_rf, pm_oQ_rf, sh_k59 hS, sh_r59_25 hS, sh_k80 hS, sh_z80 hS, sh_r59_27 hS, sh_k81 hS, sh_z81 hS, mst_w46, mst_w48, mst_w49, mst_46, mst_48, mst_49, mst_k, mst_z, mst_r, mst_n, mst_l, mst_R62, mst_R64, mst_R65, mst_R66, mst_R67, mst_R78, mst_R80, mst_R81, mst_F18, mst_F24, mst_F45, mst_F47, mst_F50, mst_F51, nI_1, LQ1, LQ2, LQ4, LQ1, LQ2, ms_k, ms_z, ms_r, ms_49, ms_w49, ms_R62, ms_R64, ms_R65, ms_R66, ms_R67, ms_R75, ms_R76, ms_R77, ms_R78, ms_R79, ms_R80, ms_R81, ms_R95, ms_R96, ms_R97, ms_F0, ms_F2, ms_F18, ms_F24, ms_F31, ms_F26, ms_F45, ms_F47, ms_F50, ms_F51, ms_F52, ms_F53, ms_F54, ms_F55, ms_F56, ms_F57, ms_F58, ms_F59, ms_F60, ms_F61, ms_F62, ms_F63, sh_r59_8 hS, sh_k65 hS, sh_z65 hS, sh_r59_10 hS, sh_k67 hS, sh_z67 hS, sh_r59_9 hS, sh_k66 hS, sh_z66 hS, sh_r59_22 hS, sh_k78 hS, sh_z78 hS, m3, nI_clamp (show m < 2 ^ 31 by omega), hm0, hm1, hmv]
    refine ⟨by omega, mr_188 (S := S) (o := o) (r := (p + 1, some ())) (by omega) hS hm (by show p + 1 ≤ n; omega) ?_⟩
    try simp only [pm_WV, pm_WW, true_and, and_true, true_or, or_true, and_self, reduceIte, Nat.reduceEqDiff, Nat.reduceLT, Nat.reduceLeDiff, Nat.reduceMul, false_and, and_false, reduceCtorEq, false_or, or_false, not_true_eq_false, not_false_eq_true, true_implies, false_implies, implies_true, lf_10, eq_self, Int32.reduceLT, Int32.reduceLE, Int32.reduceAdd, Int32.reduceSub, pm_same, pm_i_wI, pm_l_wL, pm_l_wM, pm_oR_rf, pm_oQ_rf, sh_k59 hS, sh_r59_25 hS, sh_k80 hS, sh_z80 hS, sh_r59_27 hS, sh_k81 hS, sh_z81 hS, mst_w46, mst_w48, mst_w49, mst_46, mst_48, mst_49, mst_k, mst_z, mst_r, mst_n, mst_l, mst_R62, mst_R64, mst_R65, mst_R66, mst_R67, mst_R78, mst_R80, mst_R81, mst_F18, mst_F24, mst_F45, mst_F47, mst_F50, mst_F51, nI_1, LQ1, LQ2, LQ4, LQ1, LQ2, ms_k, ms_z, ms_r, ms_49, ms_w49, ms_R62, ms_R64, ms_R65, ms_R66, ms_R67, ms_R75, ms_R76, ms_R77, ms_R78, ms_R79, ms_R80, ms_R81, ms_R95, ms_R96, ms_R97, ms_F0, ms_F2, ms_F18, ms_F24, ms_F31, ms_F26, ms_F45, ms_F47, ms_F50, ms_F51, ms_F52, ms_F53, ms_F54, ms_F55, ms_F56, ms_F57, ms_F58, ms_F59, ms_F60, ms_F61, ms_F62, ms_F63, sh_r59_8 hS, sh_k65 hS, sh_z65 hS, sh_r59_10 hS, sh_k67 hS, sh_z67 hS, sh_r59_9 hS, sh_k66 hS, sh_z66 hS, sh_r59_22 hS, sh_k78 hS, sh_z78 hS, m3, nI_clamp (show m < 2 ^ 31 by omega), hm0, hm1, hmv, pm_WI0, pm_WI1, pm_WI2, pm_WI3, pm_WI4, pm_WI5, pm_WV, pm_WW, pm_WX, pb_B194, pm_if, pm_QI_at, pm_QL_at, pm_QV_at, pm_QR_at, pm_QR_at0, pm_QR_at1, Nat.reduceSub, Nat.reduceAdd, List.replicate_zero, List.replicate_succ]
    have eR : gx_bd ((p + 1, some ()) : gx_R Unit) (fun _ p => gx_num (gx_b f n) 1 1 p) = gx_num (gx_b f n) 1 1 (p + 1) := rfl
    rw [eR]
    obtain ⟨SS, hSS, hS16⟩ : ∃ SS : Nat, (match (gx_num (gx_b f n) 1 1 (p + 1)).2 with
      | none => SS = 0
      | some u => u = SS) ∧ SS < 16 := by
      rcases gx_two (gx_num (gx_b f n) 1 1 (p + 1)) with ⟨x, ex⟩ | ⟨x, u, ex⟩ <;> rw [ex]
      · exact ⟨0, rfl, by omega⟩
      · have hu := (gx_num_ok gx_b_eof (by omega) ex).2.2
        exact ⟨u, rfl, by omega⟩
    have eV : vo (gx_num (gx_b f n) 1 1 (p + 1)) = nI SS := by
      rcases gx_two (gx_num (gx_b f n) 1 1 (p + 1)) with ⟨x, ex⟩ | ⟨x, u, ex⟩ <;> rw [ex] at hSS ⊢
      · simp only at hSS; subst hSS; rfl
      · simp only at hSS; subst hSS; rfl
    have hun : (un (gx_num (gx_b f n) 1 1 (p + 1))).1 ≤ n := by
      rcases gx_two (gx_num (gx_b f n) 1 1 (p + 1)) with ⟨x, ex⟩ | ⟨x, u, ex⟩
      · have := gx_num_no ex; rw [ex]; show x ≤ n; omega
      · have := gx_num_ok gx_b_eof (by omega) ex; rw [ex]; show x ≤ n; omega
    rw [eV]
    refine ⟨by omega, ac_197 (n := iv_c S 24) (by omega) (show Sh _ from hS) (by simp only [ms_F24]; exact h24) h24b ?_⟩
    try simp only [pm_WV, pm_WW, true_and, and_true, true_or, or_true, and_self, reduceIte, Nat.reduceEqDiff, Nat.reduceLT, Nat.reduceLeDiff, Nat.reduceMul, false_and, and_false, reduceCtorEq, false_or, or_false, not_true_eq_false, not_false_eq_true, true_implies, false_implies, implies_true, lf_10, eq_self, Int32.reduceLT, Int32.reduceLE, Int32.reduceAdd, Int32.reduceSub, pm_same, pm_i_wI, pm_l_wL, pm_l_wM, pm_oR_rf, pm_oQ_rf, sh_k59 hS, sh_r59_25 hS, sh_k80 hS, sh_z80 hS, sh_r59_27 hS, sh_k81 hS, sh_z81 hS, mst_w46, mst_w48, mst_w49, mst_46, mst_48, mst_49, mst_k, mst_z, mst_r, mst_n, mst_l, mst_R62, mst_R64, mst_R65, mst_R66, mst_R67, mst_R78, mst_R80, mst_R81, mst_F18, mst_F24, mst_F45, mst_F47, mst_F50, mst_F51, nI_1, LQ1, LQ2, LQ4, LQ1, LQ2, ms_k, ms_z, ms_r, ms_49, ms_w49, ms_R62, ms_R64, ms_R65, ms_R66, ms_R67, ms_R75, ms_R76, ms_R77, ms_R78, ms_R79, ms_R80, ms_R81, ms_R95, ms_R96, ms_R97, ms_F0, ms_F2, ms_F18, ms_F24, ms_F31, ms_F26, ms_F45, ms_F47, ms_F50, ms_F51, ms_F52, ms_F53, ms_F54, ms_F55, ms_F56, ms_F57, ms_F58, ms_F59, ms_F60, ms_F61, ms_F62, ms_F63, sh_r59_8 hS, sh_k65 hS, sh_z65 hS, sh_r59_10 hS, sh_k67 hS, sh_z67 hS, sh_r59_9 hS, sh_k66 hS, sh_z66 hS, sh_r59_22 hS, sh_k78 hS, sh_z78 hS, m3, nI_clamp (show m < 2 ^ 31 by omega), hm0, hm1, hmv, pm_WI0, pm_WI1, pm_WI2, pm_WI3, pm_WI4, pm_WI5, pm_WV, pm_WW, pm_WX, pb_B194, pm_if, pm_QI_at, pm_QL_at, pm_QV_at, pm_QR_at, pm_QR_at0, pm_QR_at1, Nat.reduceSub, Nat.reduceAdd, List.replicate_zero, List.replicate_succ]
    have hst : ∀ (k : Nat), k < 8 → ∀ u, gx_st k SS u % 16 = k ∧ gx_st k SS u / 16 % 16 = SS ∧ gx_st k SS u / 256 = u := fun k hk u => ⟨gx_st_mod (by omega), gx_st_s (by omega) hS16⟩
    have e2 : ∀ u, tv S m (pm_i S 59 51) (gx_st 2 SS u) = tv_w S (fa_l S m (nI SS) (pm_i S 59 51)) true (nI u) := fun u => by
      obtain ⟨a1, a2, a3⟩ := hst 2 (by omega) u
      unfold tv; rw [a1, a2, a3]; rfl
    have e3 : ∀ u, tv S m (pm_i S 59 51) (gx_st (2 + 1) SS u) = tv_w S (fa_l S m (nI SS) (pm_i S 59 51)) false (nI u) := fun u => by
      obtain ⟨a1, a2, a3⟩ := hst 3 (by omega) u
      unfold tv; rw [a1, a2, a3]; rfl
    have hfa : ac_f (ac_m (pm_i S 75) (nI m) (ac_c (pm_i S 76) (pm_i S 79) (nI SS) (pm_i S 59 51))) (ac_bt (pm_i S 77) true) (List.range (iv_c S 24)) none = fa_l S m (nI SS) (pm_i S 59 51) := rfl
    rw [hfa]
    cases ha : fa_l S m (nI SS) (pm_i S 59 51) with
    | none =>
      try simp only [ha] at e2 e3
      refine ⟨fun z => absurd z (by decide), fun _ => ⟨fun _ => ⟨by omega, mr_198 (S := S) (t := tv S m (pm_i S 59 51)) (o := o) (r := un (gx_num (gx_b f n) 1 1 (p + 1))) (k := 2) (s := SS) (most := 2) (by omega) hS hm hun (by omega) (by omega) (Or.inl rfl) (by omega) (fun u _ => by rw [e2]; rfl) (fun u _ => by rw [e3]; rfl) ?_⟩, fun z => absurd (show (-1 : Int32) < 0 by decide) z⟩⟩
      refine (fun b hb he => ?_)
      have hh := h b hb (fun e z => ?_)
      · refine ⟨hb, ?_⟩
        rw [show un (gx_bd (gx_num (gx_b f n) 1 1 (p + 1)) (fun s q => gx_cmp (gx_b f n) 2 s 2 q)) = un (gx_bd (un (gx_num (gx_b f n) 1 1 (p + 1))) (fun _ q => gx_cmp (gx_b f n) 2 SS 2 q)) from ?_] at hh
        · exact hh
        · rcases gx_two (gx_num (gx_b f n) 1 1 (p + 1)) with ⟨x, ex⟩ | ⟨x, u, ex⟩ <;> rw [ex]
          · rfl
          · try simp only [ex] at hSS
            subst hSS; rfl
      · refine he e ?_
        rcases gx_two (gx_num (gx_b f n) 1 1 (p + 1)) with ⟨x, ex⟩ | ⟨x, u, ex⟩ <;> rw [ex] at z ⊢
        · cases z
        · try simp only [ex] at hSS
          subst hSS; exact z
    | some a =>
      have hal := fa_lt ha
      try simp only [ha] at e2 e3
      have hoi : oI (some a) = nI a := rfl
      rw [hoi, nI_clamp (by omega)]
      refine ⟨fun _ => ⟨vp_in_nI (by omega) (by decide), fun z => absurd z (nI_pos (by omega)), fun _ => ⟨by omega, mr_198 (S := S) (t := tv S m (pm_i S 59 51)) (o := o) (r := un (gx_num (gx_b f n) 1 1 (p + 1))) (k := 2) (s := SS) (most := 2) (by omega) hS hm hun (by omega) (by omega) (Or.inr rfl) (by omega) (fun u _ => by rw [e2]; rfl) (fun u _ => by rw [e3]; rfl) ?_⟩⟩, fun z => absurd (nI_pos' (by omega)) z⟩
      refine (fun b hb he => ?_)
      have hh := h b hb (fun e z => ?_)
      · refine ⟨hb, ?_⟩
        rw [show un (gx_bd (gx_num (gx_b f n) 1 1 (p + 1)) (fun s q => gx_cmp (gx_b f n) 2 s 2 q)) = un (gx_bd (un (gx_num (gx_b f n) 1 1 (p + 1))) (fun _ q => gx_cmp (gx_b f n) 2 SS 2 q)) from ?_] at hh
        · exact hh
        · rcases gx_two (gx_num (gx_b f n) 1 1 (p + 1)) with ⟨x, ex⟩ | ⟨x, u, ex⟩ <;> rw [ex]
          · rfl
          · try simp only [ex] at hSS
            subst hSS; rfl
      · refine he e ?_
        rcases gx_two (gx_num (gx_b f n) 1 1 (p + 1)) with ⟨x, ex⟩ | ⟨x, u, ex⟩ <;> rw [ex] at z ⊢
        · cases z
        · try simp only [ex] at hSS
          subst hSS; exact z
theorem mr_194_108 {G : pm_G} {d : Nat} {S : pm_S} {f : Nat → Int32} {n : Nat} {t : Nat → Bool} {o p : Nat} {q : Int32 → pm_S → Prop} {X Y : Value} (hd : 6 ≤ d) (hS : Sh S) (hm : mrc S f n) (h18 : iv_c S 18 ≤ 40) (h24 : pm_i S 59 24 = nI (iv_c S 24)) (h24b : iv_c S 24 ≤ 150) (ht : tq S t) (hp : p ≤ n) (y : gx_b f n p = 108) (h : ∀ b, (b = 0 ∨ b = 1) → (∀ e, (gx_cmp (gx_b f n) 4 0 4 (p + 1)).2 = some e → b = bI (gx_hv t e)) → q b (ms S o (un (gx_cmp (gx_b f n) 4 0 4 (p + 1))))) : pm_W G d 194 (pm_QI q) 173 [.ref 59, .int 108, .float 0, .float 0] [] (mst S (nI p) (-1) (nI o)) 0 0 := by
  have hn := hm.2.1
  have hpn : p < n := gx_lt gx_b_eof y (by omega)
  rcases tq_ok h18 ht with ⟨t1, t2⟩ | ⟨m, m1, m2, m3, t2⟩
  · subst t2
    refine pm_wb_ok pb_c194 8 173 0 _ _ _ _ _ ?_
    try simp only [pm_WI0, pm_WI1, pm_WI2, pm_WI3, pm_WI4, pm_WI5, pm_WV, pm_WW, pm_WX, pb_B194, pm_if, pm_QI_at, pm_QL_at, pm_QV_at, pm_QR_at, pm_QR_at0, pm_QR_at1, Nat.reduceSub, Nat.reduceAdd, List.replicate_zero, List.replicate_succ, true_and, and_true, true_or, or_true, and_self, reduceIte, Nat.reduceEqDiff, Nat.reduceLT, Nat.reduceLeDiff, Nat.reduceMul, false_and, and_false, reduceCtorEq, false_or, or_false, not_true_eq_false, not_false_eq_true, true_implies, false_implies, implies_true, lf_10, eq_self, Int32.reduceLT, Int32.reduceLE, Int32.reduceAdd, Int32.reduceSub, pm_same, pm_i_wI, pm_l_wL, pm_l_wM, pm_oR_rf, pm_oQ_rf, sh_k59 hS, sh_r59_25 hS, sh_k80 hS, sh_z80 hS, sh_r59_27 hS, sh_k81 hS, sh_z81 hS, mst_w46, mst_w48, mst_w49, mst_46, mst_48, mst_49, mst_k, mst_z, mst_r, mst_n, mst_l, mst_R62, mst_R64, mst_R65, mst_R66, mst_R67, mst_R78, mst_R80, mst_R81, mst_F18, mst_F24, mst_F45, mst_F47, mst_F50, mst_F51, nI_1, LQ1, LQ2, LQ4, LQ1, LQ2, ms_k, ms_z, ms_r, ms_49, ms_w49, ms_R62, ms_R64, ms_R65, ms_R66, ms_R67, ms_R75, ms_R76, ms_R77, ms_R78, ms_R79, ms_R80, ms_R81, ms_R95, ms_R96, ms_R97, ms_F0, ms_F2, ms_F18, ms_F24, ms_F31, ms_F26, ms_F45, ms_F47, ms_F50, ms_F51, ms_F52, ms_F53, ms_F54, ms_F55, ms_F56, ms_F57, ms_F58, ms_F59, ms_F60, ms_F61, ms_F62, ms_F63, sh_r59_8 hS, sh_k65 hS, sh_z65 hS, sh_r59_10 hS, sh_k67 hS, sh_z67 hS, sh_r59_9 hS, sh_k66 hS, sh_z66 hS, sh_r59_22 hS, sh_k78 hS, sh_z78 hS, t1]
    refine ⟨by omega, mr_198 (S := S) (t := fun _ => false) (o := o) (r := (p + 1, some ())) (k := 4) (s := 0) (most := 4) (by omega) hS hm (by show p + 1 ≤ n; omega) (by omega) (by omega) (Or.inl rfl) (by omega) (fun _ _ => rfl) (fun _ _ => rfl) (fun b hb he => ⟨hb, h b hb he⟩)⟩
  · subst t2
    have hm0 : ¬ nI m < 0 := nI_pos (by omega)
    have hm1 : 0 ≤ nI m := nI_pos' (by omega)
    have hmv : vp_in (nI m) 40 := vp_in_nI m1 (by decide)
    refine pm_wb_ok pb_c194 8 173 0 _ _ _ _ _ ?_
    try simp only [pm_WI0, pm_WI1, pm_WI2, pm_WI3, pm_WI4, pm_WI5, pm_WV, pm_WW, pm_WX, pb_B194, pm_if, pm_QI_at, pm_QL_at, pm_QV_at, pm_QR_at, pm_QR_at0, pm_QR_at1, Nat.reduceSub, Nat.reduceAdd, List.replicate_zero, List.replicate_succ, true_and, and_true, true_or, or_true, and_self, reduceIte, Nat.reduceEqDiff, Nat.reduceLT, Nat.reduceLeDiff, Nat.reduceMul, false_and, and_false, reduceCtorEq, false_or, or_false, not_true_eq_false, not_false_eq_true, true_implies, false_implies, implies_true, lf_10, eq_self, Int32.reduceLT, Int32.reduceLE, Int32.reduceAdd, Int32.reduceSub, pm_same, pm_i_wI, pm_l_wL, pm_l_wM, pm_oR_rf, pm_oQ_rf, sh_k59 hS, sh_r59_25 hS, sh_k80 hS, sh_z80 hS, sh_r59_27 hS, sh_k81 hS, sh_z81 hS, mst_w46, mst_w48, mst_w49, mst_46, mst_48, mst_49, mst_k, mst_z, mst_r, mst_n, mst_l, mst_R62, mst_R64, mst_R65, mst_R66, mst_R67, mst_R78, mst_R80, mst_R81, mst_F18, mst_F24, mst_F45, mst_F47, mst_F50, mst_F51, nI_1, LQ1, LQ2, LQ4, LQ1, LQ2, ms_k, ms_z, ms_r, ms_49, ms_w49, ms_R62, ms_R64, ms_R65, ms_R66, ms_R67, ms_R75, ms_R76, ms_R77, ms_R78, ms_R79, ms_R80, ms_R81, ms_R95, ms_R96, ms_R97, ms_F0, ms_F2, ms_F18, ms_F24, ms_F31, ms_F26, ms_F45, ms_F47, ms_F50, ms_F51, ms_F52, ms_F53, ms_F54, ms_F55, ms_F56, ms_F57, ms_F58, ms_F59, ms_F60, ms_F61, ms_F62, ms_F63, sh_r59_8 hS, sh_k65 hS, sh_z65 hS, sh_r59_10 hS, sh_k67 hS, sh_z67 hS, sh_r59_9 hS, sh_k66 hS, sh_z66 hS, sh_r59_22 hS, sh_k78 hS, sh_z78 hS, m3, nI_clamp (show m < 2 ^ 31 by omega), hm0, hm1, hmv]
    have hst : ∀ (k : Nat), k < 8 → ∀ u, gx_st k 0 u % 16 = k ∧ gx_st k 0 u / 256 = u := fun k hk u => ⟨gx_st_mod (by omega), (gx_st_s (by omega) (by omega)).2⟩
    have e2 : ∀ u, tv S m (pm_i S 59 51) (gx_st 4 0 u) = decide (pm_i S 67 m < nI u) := fun u => by
      obtain ⟨a1, a3⟩ := hst 4 (by omega) u
      unfold tv; rw [a1, a3]; rfl
    have e3 : ∀ u, tv S m (pm_i S 59 51) (gx_st (4 + 1) 0 u) = decide (nI u < pm_i S 67 m) := fun u => by
      obtain ⟨a1, a3⟩ := hst 5 (by omega) u
      unfold tv; rw [a1, a3]; rfl
    refine ⟨by omega, mr_198 (S := S) (t := tv S m (pm_i S 59 51)) (o := o) (r := (p + 1, some ())) (k := 4) (s := 0) (most := 4) (by omega) hS hm (by show p + 1 ≤ n; omega) (by omega) (by omega) (Or.inr rfl) (by omega) (fun u _ => by rw [e2]; simp) (fun u _ => by rw [e3]; simp) (fun b hb he => ⟨hb, h b hb he⟩)⟩
theorem mr_194_100 {G : pm_G} {d : Nat} {S : pm_S} {f : Nat → Int32} {n : Nat} {t : Nat → Bool} {o p : Nat} {q : Int32 → pm_S → Prop} {X Y : Value} (hd : 6 ≤ d) (hS : Sh S) (hm : mrc S f n) (h18 : iv_c S 18 ≤ 40) (h24 : pm_i S 59 24 = nI (iv_c S 24)) (h24b : iv_c S 24 ≤ 150) (ht : tq S t) (hp : p ≤ n) (y : gx_b f n p = 100) (h : ∀ b, (b = 0 ∨ b = 1) → (∀ e, (gx_cmp (gx_b f n) 6 0 4 (p + 1)).2 = some e → b = bI (gx_hv t e)) → q b (ms S o (un (gx_cmp (gx_b f n) 6 0 4 (p + 1))))) : pm_W G d 194 (pm_QI q) 227 [.ref 59, .int 100, .float 0, .float 0] [] (mst S (nI p) (-1) (nI o)) 0 0 := by
  have hn := hm.2.1
  have hpn : p < n := gx_lt gx_b_eof y (by omega)
  rcases tq_ok h18 ht with ⟨t1, t2⟩ | ⟨m, m1, m2, m3, t2⟩
  · subst t2
    refine pm_wb_ok pb_c194 8 227 0 _ _ _ _ _ ?_
    try simp only [pm_WI0, pm_WI1, pm_WI2, pm_WI3, pm_WI4, pm_WI5, pm_WV, pm_WW, pm_WX, pb_B194, pm_if, pm_QI_at, pm_QL_at, pm_QV_at, pm_QR_at, pm_QR_at0, pm_QR_at1, Nat.reduceSub, Nat.reduceAdd, List.replicate_zero, List.replicate_succ, true_and, and_true, true_or, or_true, and_self, reduceIte, Nat.reduceEqDiff, Nat.reduceLT, Nat.reduceLeDiff, Nat.reduceMul, false_and, and_false, reduceCtorEq, false_or, or_false, not_true_eq_false, not_false_eq_true, true_implies, false_implies, implies_true, lf_10, eq_self, Int32.reduceLT, Int32.reduceLE, Int32.reduceAdd, Int32.reduceSub, pm_same, pm_i_wI, pm_l_wL, pm_l_wM, pm_oR_rf, pm_oQ_rf, sh_k59 hS, sh_r59_25 hS, sh_k80 hS, sh_z80 hS, sh_r59_27 hS, sh_k81 hS, sh_z81 hS, mst_w46, mst_w48, mst_w49, mst_46, mst_48, mst_49, mst_k, mst_z, mst_r, mst_n, mst_l, mst_R62, mst_R64, mst_R65, mst_R66, mst_R67, mst_R78, mst_R80, mst_R81, mst_F18, mst_F24, mst_F45, mst_F47, mst_F50, mst_F51, nI_1, LQ1, LQ2, LQ4, LQ1, LQ2, ms_k, ms_z, ms_r, ms_49, ms_w49, ms_R62, ms_R64, ms_R65, ms_R66, ms_R67, ms_R75, ms_R76, ms_R77, ms_R78, ms_R79, ms_R80, ms_R81, ms_R95, ms_R96, ms_R97, ms_F0, ms_F2, ms_F18, ms_F24, ms_F31, ms_F26, ms_F45, ms_F47, ms_F50, ms_F51, ms_F52, ms_F53, ms_F54, ms_F55, ms_F56, ms_F57, ms_F58, ms_F59, ms_F60, ms_F61, ms_F62, ms_F63, sh_r59_8 hS, sh_k65 hS, sh_z65 hS, sh_r59_10 hS, sh_k67 hS, sh_z67 hS, sh_r59_9 hS, sh_k66 hS, sh_z66 hS, sh_r59_22 hS, sh_k78 hS, sh_z78 hS, t1]
    refine ⟨by omega, mr_198 (S := S) (t := fun _ => false) (o := o) (r := (p + 1, some ())) (k := 6) (s := 0) (most := 4) (by omega) hS hm (by show p + 1 ≤ n; omega) (by omega) (by omega) (Or.inl rfl) (by omega) (fun _ _ => rfl) (fun _ _ => rfl) (fun b hb he => ⟨hb, h b hb he⟩)⟩
  · subst t2
    have hm0 : ¬ nI m < 0 := nI_pos (by omega)
    have hm1 : 0 ≤ nI m := nI_pos' (by omega)
    have hmv : vp_in (nI m) 40 := vp_in_nI m1 (by decide)
    refine pm_wb_ok pb_c194 8 227 0 _ _ _ _ _ ?_
    try simp only [pm_WI0, pm_WI1, pm_WI2, pm_WI3, pm_WI4, pm_WI5, pm_WV, pm_WW, pm_WX, pb_B194, pm_if, pm_QI_at, pm_QL_at, pm_QV_at, pm_QR_at, pm_QR_at0, pm_QR_at1, Nat.reduceSub, Nat.reduceAdd, List.replicate_zero, List.replicate_succ, true_and, and_true, true_or, or_true, and_self, reduceIte, Nat.reduceEqDiff, Nat.reduceLT, Nat.reduceLeDiff, Nat.reduceMul, false_and, and_false, reduceCtorEq, false_or, or_false, not_true_eq_false, not_false_eq_true, true_implies, false_implies, implies_true, lf_10, eq_self, Int32.reduceLT, Int32.reduceLE, Int32.reduceAdd, Int32.reduceSub, pm_same, pm_i_wI, pm_l_wL, pm_l_wM, pm_oR_rf, pm_oQ_rf, sh_k59 hS, sh_r59_25 hS, sh_k80 hS, sh_z80 hS, sh_r59_27 hS, sh_k81 hS, sh_z81 hS, mst_w46, mst_w48, mst_w49, mst_46, mst_48, mst_49, mst_k, mst_z, mst_r, mst_n, mst_l, mst_R62, mst_R64, mst_R65, mst_R66, mst_R67, mst_R78, mst_R80, mst_R81, mst_F18, mst_F24, mst_F45, mst_F47, mst_F50, mst_F51, nI_1, LQ1, LQ2, LQ4, LQ1, LQ2, ms_k, ms_z, ms_r, ms_49, ms_w49, ms_R62, ms_R64, ms_R65, ms_R66, ms_R67, ms_R75, ms_R76, ms_R77, ms_R78, ms_R79, ms_R80, ms_R81, ms_R95, ms_R96, ms_R97, ms_F0, ms_F2, ms_F18, ms_F24, ms_F31, ms_F26, ms_F45, ms_F47, ms_F50, ms_F51, ms_F52, ms_F53, ms_F54, ms_F55, ms_F56, ms_F57, ms_F58, ms_F59, ms_F60, ms_F61, ms_F62, ms_F63, sh_r59_8 hS, sh_k65 hS, sh_z65 hS, sh_r59_10 hS, sh_k67 hS, sh_z67 hS, sh_r59_9 hS, sh_k66 hS, sh_z66 hS, sh_r59_22 hS, sh_k78 hS, sh_z78 hS, m3, nI_clamp (show m < 2 ^ 31 by omega), hm0, hm1, hmv]
    have hst : ∀ (k : Nat), k < 8 → ∀ u, gx_st k 0 u % 16 = k ∧ gx_st k 0 u / 256 = u := fun k hk u => ⟨gx_st_mod (by omega), (gx_st_s (by omega) (by omega)).2⟩
    have e2 : ∀ u, tv S m (pm_i S 59 51) (gx_st 6 0 u) = decide ((pm_i S 59 51 - pm_i S 66 m) < nI u) := fun u => by
      obtain ⟨a1, a3⟩ := hst 6 (by omega) u
      unfold tv; rw [a1, a3]; rfl
    have e3 : ∀ u, tv S m (pm_i S 59 51) (gx_st (6 + 1) 0 u) = decide (nI u < (pm_i S 59 51 - pm_i S 66 m)) := fun u => by
      obtain ⟨a1, a3⟩ := hst 7 (by omega) u
      unfold tv; rw [a1, a3]; rfl
    refine ⟨by omega, mr_198 (S := S) (t := tv S m (pm_i S 59 51)) (o := o) (r := (p + 1, some ())) (k := 6) (s := 0) (most := 4) (by omega) hS hm (by show p + 1 ≤ n; omega) (by omega) (by omega) (Or.inr rfl) (by omega) (fun u _ => by rw [e2]; simp) (fun u _ => by rw [e3]; simp) (fun b hb he => ⟨hb, h b hb he⟩)⟩
theorem mr_194 {G : pm_G} {d : Nat} {S : pm_S} {f : Nat → Int32} {n : Nat} {t : Nat → Bool} {o p : Nat} {q : Int32 → pm_S → Prop} (hd : 6 ≤ d) (hS : Sh S) (hm : mrc S f n) (h18 : iv_c S 18 ≤ 40) (h24 : pm_i S 59 24 = nI (iv_c S 24)) (h24b : iv_c S 24 ≤ 150) (ht : tq S t) (hp : p ≤ n) (h : ∀ b, (b = 0 ∨ b = 1) → (∀ e, (gx_test (gx_b f n) p).2 = some e → b = bI (gx_hv t e)) → q b (ms S o (un (gx_test (gx_b f n) p)))) : pm_CI G d 194 [.ref 59, .int (sg (gx_b f n p))] (ms S o (p, some ())) q := by
  have hn := hm.2.1
  have hle := hm.le p
  have hms : ms S o (p, some ()) = mst S (nI p) (-1) (nI o) := rfl
  by_cases y116 : gx_b f n p = 116
  · have ec : gx_test (gx_b f n) p = gx_bd (gx_num (gx_b f n) 0 1 (p + 1)) (fun n q => (q, some [gx_st 0 0 n])) := by
      unfold gx_test; rw [if_pos y116]
    rw [ec] at h
    have es : sg (gx_b f n p) = 116 := by rw [y116]; rfl
    rw [es, hms]
    refine pm_goI 194 0 pb_c194 (by decide) (Nat.le_of_ble_eq_true rfl) rfl ?_
    change pm_W G d 194 (pm_QI q) 0 [.ref 59, .int 116, .float 0, .float 0] [] (mst S (nI p) (-1) (nI o)) 0 0
    exact mr_194_116 (X := .null) (Y := .null) hd hS hm h18 h24 h24b ht hp y116 h
  ·
    by_cases y97 : gx_b f n p = 97
    · have ec : gx_test (gx_b f n) p = gx_bd (gx_num (gx_b f n) 1 1 (p + 1)) (fun s q => (q, some [gx_st 1 s 0])) := by
        unfold gx_test; rw [if_neg y116, if_pos y97]
      rw [ec] at h
      have es : sg (gx_b f n p) = 97 := by rw [y97]; rfl
      rw [es, hms]
      refine pm_goI 194 0 pb_c194 (by decide) (Nat.le_of_ble_eq_true rfl) rfl ?_
      change pm_W G d 194 (pm_QI q) 0 [.ref 59, .int 97, .float 0, .float 0] [] (mst S (nI p) (-1) (nI o)) 0 0
      refine pm_wb_ok pb_c194 1 0 0 _ _ _ _ _ ?_
      try simp only [pm_WI0, pm_WI1, pm_WI2, pm_WI3, pm_WI4, pm_WI5, pm_WV, pm_WW, pm_WX, pb_B194, pm_if, pm_QI_at, pm_QL_at, pm_QV_at, pm_QR_at, pm_QR_at0, pm_QR_at1, Nat.reduceSub, Nat.reduceAdd, List.replicate_zero, List.replicate_succ, true_and, and_true, true_or, or_true, and_self, reduceIte, Nat.reduceEqDiff, Nat.reduceLT, Nat.reduceLeDiff, Nat.reduceMul, false_and, and_false, reduceCtorEq, false_or, or_false, not_true_eq_false, not_false_eq_true, true_implies, false_implies, implies_true, lf_10, eq_self, Int32.reduceLT, Int32.reduceLE, Int32.reduceAdd, Int32.reduceSub, pm_same, pm_i_wI, pm_l_wL, pm_l_wM, pm_oR_rf, pm_oQ_rf, sh_k59 hS, sh_r59_25 hS, sh_k80 hS, sh_z80 hS, sh_r59_27 hS, sh_k81 hS, sh_z81 hS, mst_w46, mst_w48, mst_w49, mst_46, mst_48, mst_49, mst_k, mst_z, mst_r, mst_n, mst_l, mst_R62, mst_R64, mst_R65, mst_R66, mst_R67, mst_R78, mst_R80, mst_R81, mst_F18, mst_F24, mst_F45, mst_F47, mst_F50, mst_F51, nI_1, LQ1, LQ2, LQ4, LQ1, LQ2, ms_k, ms_z, ms_r, ms_49, ms_w49, ms_R62, ms_R64, ms_R65, ms_R66, ms_R67, ms_R75, ms_R76, ms_R77, ms_R78, ms_R79, ms_R80, ms_R81, ms_R95, ms_R96, ms_R97, ms_F0, ms_F2, ms_F18, ms_F24, ms_F31, ms_F26, ms_F45, ms_F47, ms_F50, ms_F51, ms_F52, ms_F53, ms_F54, ms_F55, ms_F56, ms_F57, ms_F58, ms_F59, ms_F60, ms_F61, ms_F62, ms_F63, sh_r59_8 hS, sh_k65 hS, sh_z65 hS, sh_r59_10 hS, sh_k67 hS, sh_z67 hS, sh_r59_9 hS, sh_k66 hS, sh_z66 hS, sh_r59_22 hS, sh_k78 hS, sh_z78 hS]
      exact mr_194_97 (X := .null) (Y := .null) hd hS hm h18 h24 h24b ht hp y97 h
    ·
      by_cases y119 : gx_b f n p = 119
      · have ec : gx_test (gx_b f n) p = gx_bd (gx_num (gx_b f n) 1 1 (p + 1)) (fun s q => gx_cmp (gx_b f n) 2 s 2 q) := by
          unfold gx_test; rw [if_neg y116, if_neg y97, if_pos y119]
        rw [ec] at h
        have es : sg (gx_b f n p) = 119 := by rw [y119]; rfl
        rw [es, hms]
        refine pm_goI 194 0 pb_c194 (by decide) (Nat.le_of_ble_eq_true rfl) rfl ?_
        change pm_W G d 194 (pm_QI q) 0 [.ref 59, .int 119, .float 0, .float 0] [] (mst S (nI p) (-1) (nI o)) 0 0
        refine pm_wb_ok pb_c194 2 0 0 _ _ _ _ _ ?_
        try simp only [pm_WI0, pm_WI1, pm_WI2, pm_WI3, pm_WI4, pm_WI5, pm_WV, pm_WW, pm_WX, pb_B194, pm_if, pm_QI_at, pm_QL_at, pm_QV_at, pm_QR_at, pm_QR_at0, pm_QR_at1, Nat.reduceSub, Nat.reduceAdd, List.replicate_zero, List.replicate_succ, true_and, and_true, true_or, or_true, and_self, reduceIte, Nat.reduceEqDiff, Nat.reduceLT, Nat.reduceLeDiff, Nat.reduceMul, false_and, and_false, reduceCtorEq, false_or, or_false, not_true_eq_false, not_false_eq_true, true_implies, false_implies, implies_true, lf_10, eq_self, Int32.reduceLT, Int32.reduceLE, Int32.reduceAdd, Int32.reduceSub, pm_same, pm_i_wI, pm_l_wL, pm_l_wM, pm_oR_rf, pm_oQ_rf, sh_k59 hS, sh_r59_25 hS, sh_k80 hS, sh_z80 hS, sh_r59_27 hS, sh_k81 hS, sh_z81 hS, mst_w46, mst_w48, mst_w49, mst_46, mst_48, mst_49, mst_k, mst_z, mst_r, mst_n, mst_l, mst_R62, mst_R64, mst_R65, mst_R66, mst_R67, mst_R78, mst_R80, mst_R81, mst_F18, mst_F24, mst_F45, mst_F47, mst_F50, mst_F51, nI_1, LQ1, LQ2, LQ4, LQ1, LQ2, ms_k, ms_z, ms_r, ms_49, ms_w49, ms_R62, ms_R64, ms_R65, ms_R66, ms_R67, ms_R75, ms_R76, ms_R77, ms_R78, ms_R79, ms_R80, ms_R81, ms_R95, ms_R96, ms_R97, ms_F0, ms_F2, ms_F18, ms_F24, ms_F31, ms_F26, ms_F45, ms_F47, ms_F50, ms_F51, ms_F52, ms_F53, ms_F54, ms_F55, ms_F56, ms_F57, ms_F58, ms_F59, ms_F60, ms_F61, ms_F62, ms_F63, sh_r59_8 hS, sh_k65 hS, sh_z65 hS, sh_r59_10 hS, sh_k67 hS, sh_z67 hS, sh_r59_9 hS, sh_k66 hS, sh_z66 hS, sh_r59_22 hS, sh_k78 hS, sh_z78 hS]
        exact mr_194_119 (X := .null) (Y := .null) hd hS hm h18 h24 h24b ht hp y119 h
      ·
        by_cases y108 : gx_b f n p = 108
        · have ec : gx_test (gx_b f n) p = gx_cmp (gx_b f n) 4 0 4 (p + 1) := by
            unfold gx_test; rw [if_neg y116, if_neg y97, if_neg y119, if_pos y108]
          rw [ec] at h
          have es : sg (gx_b f n p) = 108 := by rw [y108]; rfl
          rw [es, hms]
          refine pm_goI 194 0 pb_c194 (by decide) (Nat.le_of_ble_eq_true rfl) rfl ?_
          change pm_W G d 194 (pm_QI q) 0 [.ref 59, .int 108, .float 0, .float 0] [] (mst S (nI p) (-1) (nI o)) 0 0
          refine pm_wb_ok pb_c194 3 0 0 _ _ _ _ _ ?_
          try simp only [pm_WI0, pm_WI1, pm_WI2, pm_WI3, pm_WI4, pm_WI5, pm_WV, pm_WW, pm_WX, pb_B194, pm_if, pm_QI_at, pm_QL_at, pm_QV_at, pm_QR_at, pm_QR_at0, pm_QR_at1, Nat.reduceSub, Nat.reduceAdd, List.replicate_zero, List.replicate_succ, true_and, and_true, true_or, or_true, and_self, reduceIte, Nat.reduceEqDiff, Nat.reduceLT, Nat.reduceLeDiff, Nat.reduceMul, false_and, and_false, reduceCtorEq, false_or, or_false, not_true_eq_false, not_false_eq_true, true_implies, false_implies, implies_true, lf_10, eq_self, Int32.reduceLT, Int32.reduceLE, Int32.reduceAdd, Int32.reduceSub, pm_same, pm_i_wI, pm_l_wL, pm_l_wM, pm_oR_rf, pm_oQ_rf, sh_k59 hS, sh_r59_25 hS, sh_k80 hS, sh_z80 hS, sh_r59_27 hS, sh_k81 hS, sh_z81 hS, mst_w46, mst_w48, mst_w49, mst_46, mst_48, mst_49, mst_k, mst_z, mst_r, mst_n, mst_l, mst_R62, mst_R64, mst_R65, mst_R66, mst_R67, mst_R78, mst_R80, mst_R81, mst_F18, mst_F24, mst_F45, mst_F47, mst_F50, mst_F51, nI_1, LQ1, LQ2, LQ4, LQ1, LQ2, ms_k, ms_z, ms_r, ms_49, ms_w49, ms_R62, ms_R64, ms_R65, ms_R66, ms_R67, ms_R75, ms_R76, ms_R77, ms_R78, ms_R79, ms_R80, ms_R81, ms_R95, ms_R96, ms_R97, ms_F0, ms_F2, ms_F18, ms_F24, ms_F31, ms_F26, ms_F45, ms_F47, ms_F50, ms_F51, ms_F52, ms_F53, ms_F54, ms_F55, ms_F56, ms_F57, ms_F58, ms_F59, ms_F60, ms_F61, ms_F62, ms_F63, sh_r59_8 hS, sh_k65 hS, sh_z65 hS, sh_r59_10 hS, sh_k67 hS, sh_z67 hS, sh_r59_9 hS, sh_k66 hS, sh_z66 hS, sh_r59_22 hS, sh_k78 hS, sh_z78 hS]
          exact mr_194_108 (X := .null) (Y := .null) hd hS hm h18 h24 h24b ht hp y108 h
        ·
          by_cases y100 : gx_b f n p = 100
          · have ec : gx_test (gx_b f n) p = gx_cmp (gx_b f n) 6 0 4 (p + 1) := by
              unfold gx_test; rw [if_neg y116, if_neg y97, if_neg y119, if_neg y108, if_pos y100]
            rw [ec] at h
            have es : sg (gx_b f n p) = 100 := by rw [y100]; rfl
            rw [es, hms]
            refine pm_goI 194 0 pb_c194 (by decide) (Nat.le_of_ble_eq_true rfl) rfl ?_
            change pm_W G d 194 (pm_QI q) 0 [.ref 59, .int 100, .float 0, .float 0] [] (mst S (nI p) (-1) (nI o)) 0 0
            refine pm_wb_ok pb_c194 4 0 0 _ _ _ _ _ ?_
            try simp only [pm_WI0, pm_WI1, pm_WI2, pm_WI3, pm_WI4, pm_WI5, pm_WV, pm_WW, pm_WX, pb_B194, pm_if, pm_QI_at, pm_QL_at, pm_QV_at, pm_QR_at, pm_QR_at0, pm_QR_at1, Nat.reduceSub, Nat.reduceAdd, List.replicate_zero, List.replicate_succ, true_and, and_true, true_or, or_true, and_self, reduceIte, Nat.reduceEqDiff, Nat.reduceLT, Nat.reduceLeDiff, Nat.reduceMul, false_and, and_false, reduceCtorEq, false_or, or_false, not_true_eq_false, not_false_eq_true, true_implies, false_implies, implies_true, lf_10, eq_self, Int32.reduceLT, Int32.reduceLE, Int32.reduceAdd, Int32.reduceSub, pm_same, pm_i_wI, pm_l_wL, pm_l_wM, pm_oR_rf, pm_oQ_rf, sh_k59 hS, sh_r59_25 hS, sh_k80 hS, sh_z80 hS, sh_r59_27 hS, sh_k81 hS, sh_z81 hS, mst_w46, mst_w48, mst_w49, mst_46, mst_48, mst_49, mst_k, mst_z, mst_r, mst_n, mst_l, mst_R62, mst_R64, mst_R65, mst_R66, mst_R67, mst_R78, mst_R80, mst_R81, mst_F18, mst_F24, mst_F45, mst_F47, mst_F50, mst_F51, nI_1, LQ1, LQ2, LQ4, LQ1, LQ2, ms_k, ms_z, ms_r, ms_49, ms_w49, ms_R62, ms_R64, ms_R65, ms_R66, ms_R67, ms_R75, ms_R76, ms_R77, ms_R78, ms_R79, ms_R80, ms_R81, ms_R95, ms_R96, ms_R97, ms_F0, ms_F2, ms_F18, ms_F24, ms_F31, ms_F26, ms_F45, ms_F47, ms_F50, ms_F51, ms_F52, ms_F53, ms_F54, ms_F55, ms_F56, ms_F57, ms_F58, ms_F59, ms_F60, ms_F61, ms_F62, ms_F63, sh_r59_8 hS, sh_k65 hS, sh_z65 hS, sh_r59_10 hS, sh_k67 hS, sh_z67 hS, sh_r59_9 hS, sh_k66 hS, sh_z66 hS, sh_r59_22 hS, sh_k78 hS, sh_z78 hS]
            exact mr_194_100 (X := .null) (Y := .null) hd hS hm h18 h24 h24b ht hp y100 h
          ·
            have ec : gx_test (gx_b f n) p = (p, none) := by unfold gx_test; rw [if_neg y116, if_neg y97, if_neg y119, if_neg y108, if_neg y100]
            rw [ec] at h
            rw [hms]
            have nx : ∀ c, c < 256 → ¬ gx_b f n p = c → ¬ sg (gx_b f n p) = nI c := fun c hc y z => y ((sg_nc hm hc).mp z)
            have z116 : ¬ sg (gx_b f n p) = 116 := nx 116 (by omega) y116
            have z97 : ¬ sg (gx_b f n p) = 97 := nx 97 (by omega) y97
            have z119 : ¬ sg (gx_b f n p) = 119 := nx 119 (by omega) y119
            have z108 : ¬ sg (gx_b f n p) = 108 := nx 108 (by omega) y108
            have z100 : ¬ sg (gx_b f n p) = 100 := nx 100 (by omega) y100
            refine pm_goI 194 8 pb_c194 (by decide) (Nat.le_of_ble_eq_true rfl) rfl ?_
            try simp only [show pm_mL 194 = 4 from rfl, pm_WI0, pm_WI1, pm_WI2, pm_WI3, pm_WI4, pm_WI5, pm_WV, pm_WW, pm_WX, pb_B194, pm_if, pm_QI_at, pm_QL_at, pm_QV_at, pm_QR_at, pm_QR_at0, pm_QR_at1, Nat.reduceSub, Nat.reduceAdd, List.replicate_zero, List.replicate_succ, true_and, and_true, true_or, or_true, and_self, reduceIte, Nat.reduceEqDiff, Nat.reduceLT, Nat.reduceLeDiff, Nat.reduceMul, false_and, and_false, reduceCtorEq, false_or, or_false, not_true_eq_false, not_false_eq_true, true_implies, false_implies, implies_true, lf_10, eq_self, Int32.reduceLT, Int32.reduceLE, Int32.reduceAdd, Int32.reduceSub, pm_same, pm_i_wI, pm_l_wL, pm_l_wM, pm_oR_rf, pm_oQ_rf, sh_k59 hS, sh_r59_25 hS, sh_k80 hS, sh_z80 hS, sh_r59_27 hS, sh_k81 hS, sh_z81 hS, mst_w46, mst_w48, mst_w49, mst_46, mst_48, mst_49, mst_k, mst_z, mst_r, mst_n, mst_l, mst_R62, mst_R64, mst_R65, mst_R66, mst_R67, mst_R78, mst_R80, mst_R81, mst_F18, mst_F24, mst_F45, mst_F47, mst_F50, mst_F51, nI_1, LQ1, LQ2, LQ4, LQ1, LQ2, ms_k, ms_z, ms_r, ms_49, ms_w49, ms_R62, ms_R64, ms_R65, ms_R66, ms_R67, ms_R75, ms_R76, ms_R77, ms_R78, ms_R79, ms_R80, ms_R81, ms_R95, ms_R96, ms_R97, ms_F0, ms_F2, ms_F18, ms_F24, ms_F31, ms_F26, ms_F45, ms_F47, ms_F50, ms_F51, ms_F52, ms_F53, ms_F54, ms_F55, ms_F56, ms_F57, ms_F58, ms_F59, ms_F60, ms_F61, ms_F62, ms_F63, sh_r59_8 hS, sh_k65 hS, sh_z65 hS, sh_r59_10 hS, sh_k67 hS, sh_z67 hS, sh_r59_9 hS, sh_k66 hS, sh_z66 hS, sh_r59_22 hS, sh_k78 hS, sh_z78 hS, z116, z97, z119, z108, z100]
            exact ⟨by omega, mr_187l hS ⟨fun _ => h 0 (Or.inl rfl) (fun e z => (by cases z)), fun z => absurd (Int32.le_refl 0) z⟩⟩
