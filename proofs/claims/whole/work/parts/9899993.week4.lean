/-! week: both sides -/
theorem bo_v {v : Int32} {N : Nat} (hN : N ≤ 7) (h : 10 ≤ v ∧ v ≤ nI (9 + N)) : ∃ m, m < N ∧ v = nI (10 + m) := by
  have h1 := Int32.le_iff_toInt_le.mp h.1
  have h2 := Int32.le_iff_toInt_le.mp h.2
  rw [nI_toInt (by omega)] at h2
  rw [show (10 : Int32).toInt = 10 from rfl] at h1
  refine ⟨v.toInt.toNat - 10, by omega, ?_⟩
  apply Int32.toInt_inj.mp
  rw [nI_toInt (by omega)]; omega
theorem bo_v2 {v : Int32} {N : Nat} (hN : N ≤ 7) (h : ¬ (10 ≤ v ∧ v ≤ nI (9 + N))) (h10 : ¬ v < 10) : nI N ≤ v - 10 := by
  have a1 : 10 ≤ v := Int32.not_lt.mp h10
  have a2 : ¬ v ≤ nI (9 + N) := fun z => h ⟨a1, z⟩
  rw [Int32.le_iff_toInt_le] at a1 a2 ⊢
  have b1 := Int32.toInt_lt v
  have b2 := Int32.le_toInt v
  rw [nI_toInt (by omega)] at a2
  rw [show (10 : Int32).toInt = 10 from rfl] at a1
  rw [nI_toInt (by omega), Int32.toInt_sub, show (10 : Int32).toInt = 10 from rfl, Int.bmod_eq_of_le (by omega) (by omega)]
  omega
def bo_g (x k : Nat) : Prop := ∃ m o, x = 4294967296 * m + o ∧ m ≤ k ∧ o ≤ k * 65536
theorem bo_c_g {t d : Nat} (h : t < 2 ^ 16) : bo_g (bo_c t d) 1 := by
  unfold bo_c
  split
  · exact ⟨1, t - d, by omega, by omega, by omega⟩
  · exact ⟨0, 0, by omega, by omega, by omega⟩
theorem bo_o_g {C : Nat → Nat → Nat} {N : Nat} (hC : ∀ s p, C s p ≤ 4295032832) (hC2 : ∀ s p, bo_g (C s p) 1) (hN : N ≤ 7) : ∀ r s, bo_n s N = r → r ≤ 7 → bo_g (bo_o C N r s) r
  | 0, _, _, _ => ⟨0, 0, rfl, by omega, by omega⟩
  | r + 1, s, h, hr => by
    have b1 := bo_o_le (N := N) hC (r + 1) s h
    have b2 : bo_o C N (r + 1) s < 9223372036854775807 := by
      have h6 : (r + 1) * 4295032832 ≤ 7 * 4295032832 := Nat.mul_le_mul_right _ (by omega)
      omega
    obtain ⟨p, h1, h2, h3, h4⟩ := bo_b_at (s := s) (v := fun p => bo_o C N r (s ||| 2 ^ p) + C (s ||| 2 ^ p) p) N b2
    have h5 := bo_n_in h2 h1
    obtain ⟨m, o, e1, e2, e3⟩ := bo_o_g hC hC2 hN r (s ||| 2 ^ p) (by omega) (by omega)
    obtain ⟨m', o', f1, f2, f3⟩ := hC2 (s ||| 2 ^ p) p
    have h3 : bo_o C N r (s ||| 2 ^ p) + C (s ||| 2 ^ p) p = bo_o C N (r + 1) s := h3
    exact ⟨m + m', o + o', by omega, by omega, by omega⟩
theorem mo_248 {G : pm_G} {d : Nat} {S : pm_S} {N n e : Nat} {f g T : Nat → Nat} {v : Int32} {q : Int32 → pm_S → Prop} (hd : 20 ≤ d) (hM : bo_M S N n e f g T) (he : pm_i S 59 0 = nI e)
    (h0 : ¬ (v = 0 ∨ v = 1) → ¬ (10 ≤ v ∧ v ≤ nI (9 + N)) → q (-1) S)
    (h1 : ∀ U l, sc S U → bo_P (bo_C T g) N N 0 l 0 → (v = 0 → q (nI (bo_O (bo_C T g) N 0 / 4294967296)) U) ∧ (v = 1 → q (nI (bo_O (bo_C T g) N 0 % 4294967296)) U) ∧ (∀ m, m < N → v = nI (10 + m) → l m < N ∧ (l m < N → q (pm_i U 89 (l m)) U)) ) : pm_CI G d 248 [.ref 59, .int v] S q := by
  obtain ⟨⟨hS, hN, hn2, he2⟩, ⟨h41, hn⟩, hW, hD, hT⟩ := hM
  have hM : bo_M S N n e f g T := ⟨⟨hS, hN, hn2, he2⟩, ⟨h41, hn⟩, hW, hD, hT⟩
  have w63 : ∀ u, bo_w f u N ≤ 63 := fun u => Nat.le_trans (bo_w_le N (fun k hk => (hW k hk).2.2)) (by omega)
  have hT2 : ∀ u, T u < 2 ^ 16 := fun u => by rw [hT]; exact wd_lt _ he2 (by have := w63 u; omega) hn2
  have hC : ∀ s p, bo_C T g s p ≤ 4295032832 := fun s p => bo_c_le (hT2 s)
  have eN : (9 : Int32) + nI N = nI (9 + N) := nI_add 9 N
  have key : (v = 0 ∨ v = 1 ∨ (10 ≤ v ∧ v ≤ nI (9 + N))) → pm_W G d 248 (pm_QI q) 27 [.ref 59, .int v] [] S 0 0 := by
    intro hv
    have hsc : sc S (pm_wI S 59 82 (-1)) := sc.rf.wI (by unfold sc_q; omega)
    obtain ⟨l, hgo, hl⟩ := bo_go_all (C := bo_C T g) (N := N) hC hN (fun _ => 0)
    have eO : bo_o (bo_C T g) N N 0 = bo_O (bo_C T g) N 0 := by unfold bo_O; rw [bo_n_0]
    rw [eO] at hgo
    have call := fun (q2 : pm_S → Prop) => mo_249 (G := G) hM N (d - 1) 0 0 e 0 0 (fun _ => 0) none (pm_wI S 59 82 (-1)) q2 (by omega) rfl (Nat.two_pow_pos N) (bo_n_0 N) hsc (fun i hi => absurd hi (Nat.not_lt_zero i)) (fun p => by rw [Nat.zero_testBit]; exact ⟨fun z => (by cases z), fun ⟨i, z, _⟩ => absurd z (Nat.not_lt_zero i)⟩) (by show pm_i (pm_wI S 59 82 (-1)) 59 82 = -1; rw [pm_i_wI, if_pos ⟨rfl, rfl⟩]) (Nat.le_refl _) (Nat.zero_le _) ⟨by omega, fun c _ _ => by rw [bo_w_0, Nat.zero_add]⟩
    try refine pm_wb_ok pb_c248 1 27 0 _ _ _ _ _ ?_
    try simp only [pm_WI0, pm_WI1, pm_WI2, pm_WI3, pm_WI4, pm_WI5, pm_WV, pm_WW, pm_WX, pb_B248, pm_if, pm_QI_at, pm_QL_at, pm_QV_at, pm_QR_at, pm_QR_at0, pm_QR_at1, Nat.reduceSub, Nat.reduceAdd, List.replicate_zero, List.replicate_succ, true_and, and_true, true_or, or_true, and_self, reduceIte, Nat.reduceEqDiff, Nat.reduceLT, Nat.reduceLeDiff, Nat.reduceMul, false_and, and_false, reduceCtorEq, false_or, or_false, not_true_eq_false, not_false_eq_true, true_implies, false_implies, implies_true, lf_10, eq_self, Int32.reduceLT, Int32.reduceLE, Int32.reduceAdd, Int32.reduceSub, pm_same, pm_i_wI, pm_l_wL, pm_l_wM, pm_oR_rf, pm_oQ_rf, nI_1, LQ1, LQ2, LQ5, sh_k59 hS, he]
    refine ⟨by omega, call _ (fun U hU _ hX => ?_)⟩
    replace hX : bo_X N U (bo_go (bo_C T g) N N 0 0 0 (fun _ => 0) none) := hX
    rw [hgo] at hX
    obtain ⟨x1, x2, x3, x4, x5⟩ := hX
    replace x3 : pm_i U 59 82 = nI (bo_O (bo_C T g) N 0 / 4294967296) := x3
    replace x4 : pm_i U 59 83 = nI (bo_O (bo_C T g) N 0 % 4294967296) := x4
    replace x5 : ∀ i, i < N → pm_i U 111 i = nI (l i) := x5
    have hSU := hU.sh hS
    obtain ⟨r0, r1, r2⟩ := h1 U l hU hl
    rcases hv with hv | hv | hv
    · subst hv
      have fin := r0 rfl
      try simp only [pm_WV, pm_WW, true_and, and_true, true_or, or_true, and_self, reduceIte, Nat.reduceEqDiff, Nat.reduceLT, Nat.reduceLeDiff, Nat.reduceMul, false_and, and_false, reduceCtorEq, false_or, or_false, not_true_eq_false, not_false_eq_true, true_implies, false_implies, implies_true, lf_10, eq_self, Int32.reduceLT, Int32.reduceLE, Int32.reduceAdd, Int32.reduceSub, pm_same, pm_i_wI, pm_l_wL, pm_l_wM, pm_oR_rf, pm_oQ_rf, nI_1, sw_e, LQ1, LQ2, pm_WI0, pm_WI1, pm_WI2, pm_WI3, pm_WI4, pm_WI5, pm_WV, pm_WW, pm_WX, pb_B248, pm_if, pm_QI_at, pm_QL_at, pm_QV_at, pm_QR_at, pm_QR_at0, pm_QR_at1, Nat.reduceSub, Nat.reduceAdd, List.replicate_zero, List.replicate_succ, true_and, and_true, true_or, or_true, and_self, reduceIte, Nat.reduceEqDiff, Nat.reduceLT, Nat.reduceLeDiff, Nat.reduceMul, false_and, and_false, reduceCtorEq, false_or, or_false, not_true_eq_false, not_false_eq_true, true_implies, false_implies, implies_true, lf_10, eq_self, Int32.reduceLT, Int32.reduceLE, Int32.reduceAdd, Int32.reduceSub, pm_same, pm_i_wI, pm_l_wL, pm_l_wM, pm_oR_rf, pm_oQ_rf, nI_1, LQ1, LQ2, LQ5, sh_k59 hSU, sh_k111 hSU, sh_z111 hSU, sh_k89 hSU, sh_z89 hSU, sh_r59_38 hSU, sh_r59_81 hSU, x3, x4]
      repeat' (first | exact fin | (refine pm_wb_ok pb_c248 1 _ 0 _ _ _ _ _ ?_; simp only [pm_WI0, pm_WI1, pm_WI2, pm_WI3, pm_WI4, pm_WI5, pm_WV, pm_WW, pm_WX, pb_B248, pm_if, pm_QI_at, pm_QL_at, pm_QV_at, pm_QR_at, pm_QR_at0, pm_QR_at1, Nat.reduceSub, Nat.reduceAdd, List.replicate_zero, List.replicate_succ, true_and, and_true, true_or, or_true, and_self, reduceIte, Nat.reduceEqDiff, Nat.reduceLT, Nat.reduceLeDiff, Nat.reduceMul, false_and, and_false, reduceCtorEq, false_or, or_false, not_true_eq_false, not_false_eq_true, true_implies, false_implies, implies_true, lf_10, eq_self, Int32.reduceLT, Int32.reduceLE, Int32.reduceAdd, Int32.reduceSub, pm_same, pm_i_wI, pm_l_wL, pm_l_wM, pm_oR_rf, pm_oQ_rf, nI_1, LQ1, LQ2, LQ5, sh_k59 hSU, sh_k111 hSU, sh_z111 hSU, sh_k89 hSU, sh_z89 hSU, sh_r59_38 hSU, sh_r59_81 hSU, x3, x4]) | fail)
    · subst hv
      have fin := r1 rfl
      try simp only [pm_WV, pm_WW, true_and, and_true, true_or, or_true, and_self, reduceIte, Nat.reduceEqDiff, Nat.reduceLT, Nat.reduceLeDiff, Nat.reduceMul, false_and, and_false, reduceCtorEq, false_or, or_false, not_true_eq_false, not_false_eq_true, true_implies, false_implies, implies_true, lf_10, eq_self, Int32.reduceLT, Int32.reduceLE, Int32.reduceAdd, Int32.reduceSub, pm_same, pm_i_wI, pm_l_wL, pm_l_wM, pm_oR_rf, pm_oQ_rf, nI_1, sw_e, LQ1, LQ2, pm_WI0, pm_WI1, pm_WI2, pm_WI3, pm_WI4, pm_WI5, pm_WV, pm_WW, pm_WX, pb_B248, pm_if, pm_QI_at, pm_QL_at, pm_QV_at, pm_QR_at, pm_QR_at0, pm_QR_at1, Nat.reduceSub, Nat.reduceAdd, List.replicate_zero, List.replicate_succ, true_and, and_true, true_or, or_true, and_self, reduceIte, Nat.reduceEqDiff, Nat.reduceLT, Nat.reduceLeDiff, Nat.reduceMul, false_and, and_false, reduceCtorEq, false_or, or_false, not_true_eq_false, not_false_eq_true, true_implies, false_implies, implies_true, lf_10, eq_self, Int32.reduceLT, Int32.reduceLE, Int32.reduceAdd, Int32.reduceSub, pm_same, pm_i_wI, pm_l_wL, pm_l_wM, pm_oR_rf, pm_oQ_rf, nI_1, LQ1, LQ2, LQ5, sh_k59 hSU, sh_k111 hSU, sh_z111 hSU, sh_k89 hSU, sh_z89 hSU, sh_r59_38 hSU, sh_r59_81 hSU, x3, x4]
      repeat' (first | exact fin | (refine pm_wb_ok pb_c248 1 _ 0 _ _ _ _ _ ?_; simp only [pm_WI0, pm_WI1, pm_WI2, pm_WI3, pm_WI4, pm_WI5, pm_WV, pm_WW, pm_WX, pb_B248, pm_if, pm_QI_at, pm_QL_at, pm_QV_at, pm_QR_at, pm_QR_at0, pm_QR_at1, Nat.reduceSub, Nat.reduceAdd, List.replicate_zero, List.replicate_succ, true_and, and_true, true_or, or_true, and_self, reduceIte, Nat.reduceEqDiff, Nat.reduceLT, Nat.reduceLeDiff, Nat.reduceMul, false_and, and_false, reduceCtorEq, false_or, or_false, not_true_eq_false, not_false_eq_true, true_implies, false_implies, implies_true, lf_10, eq_self, Int32.reduceLT, Int32.reduceLE, Int32.reduceAdd, Int32.reduceSub, pm_same, pm_i_wI, pm_l_wL, pm_l_wM, pm_oR_rf, pm_oQ_rf, nI_1, LQ1, LQ2, LQ5, sh_k59 hSU, sh_k111 hSU, sh_z111 hSU, sh_k89 hSU, sh_z89 hSU, sh_r59_38 hSU, sh_r59_81 hSU, x3, x4]) | fail)
    · obtain ⟨m, hm, ev⟩ := bo_v hN hv
      obtain ⟨lm, fin⟩ := r2 m hm ev
      have fin := fin lm
      subst ev
      have e0 : ¬ nI (10 + m) = 0 := fun z => by have := (nI_eq (a := 10 + m) (b := 0) (by omega) (by omega)).mp z; omega
      have e1 : ¬ nI (10 + m) = 1 := fun z => by have := (nI_eq (a := 10 + m) (b := 1) (by omega) (by omega)).mp z; omega
      have em : nI (10 + m) - 10 = nI m := by
        have := nI_sub (a := 10 + m) (b := 10) (by omega)
        rw [show 10 + m - 10 = m by omega] at this; exact this
      have cm := nI_clamp (n := m) (by omega)
      have vm := vp_in_nI (n := m) (N := 7) (by omega) (by decide)
      have cl := nI_clamp (n := l m) (by omega)
      have vl := vp_in_nI (n := l m) (N := 7) (by omega) (by decide)
      have xm := x5 m hm
      try simp only [pm_WV, pm_WW, true_and, and_true, true_or, or_true, and_self, reduceIte, Nat.reduceEqDiff, Nat.reduceLT, Nat.reduceLeDiff, Nat.reduceMul, false_and, and_false, reduceCtorEq, false_or, or_false, not_true_eq_false, not_false_eq_true, true_implies, false_implies, implies_true, lf_10, eq_self, Int32.reduceLT, Int32.reduceLE, Int32.reduceAdd, Int32.reduceSub, pm_same, pm_i_wI, pm_l_wL, pm_l_wM, pm_oR_rf, pm_oQ_rf, nI_1, sw_e, LQ1, LQ2, pm_WI0, pm_WI1, pm_WI2, pm_WI3, pm_WI4, pm_WI5, pm_WV, pm_WW, pm_WX, pb_B248, pm_if, pm_QI_at, pm_QL_at, pm_QV_at, pm_QR_at, pm_QR_at0, pm_QR_at1, Nat.reduceSub, Nat.reduceAdd, List.replicate_zero, List.replicate_succ, true_and, and_true, true_or, or_true, and_self, reduceIte, Nat.reduceEqDiff, Nat.reduceLT, Nat.reduceLeDiff, Nat.reduceMul, false_and, and_false, reduceCtorEq, false_or, or_false, not_true_eq_false, not_false_eq_true, true_implies, false_implies, implies_true, lf_10, eq_self, Int32.reduceLT, Int32.reduceLE, Int32.reduceAdd, Int32.reduceSub, pm_same, pm_i_wI, pm_l_wL, pm_l_wM, pm_oR_rf, pm_oQ_rf, nI_1, LQ1, LQ2, LQ5, sh_k59 hSU, sh_k111 hSU, sh_z111 hSU, sh_k89 hSU, sh_z89 hSU, sh_r59_38 hSU, sh_r59_81 hSU, x3, x4, e0, e1, em, cm, cl, xm]
      repeat' (first | exact fin | exact vm | exact vl | refine ⟨vm, ?_⟩ | refine ⟨vl, ?_⟩ | (refine pm_wb_ok pb_c248 1 _ 0 _ _ _ _ _ ?_; simp only [pm_WI0, pm_WI1, pm_WI2, pm_WI3, pm_WI4, pm_WI5, pm_WV, pm_WW, pm_WX, pb_B248, pm_if, pm_QI_at, pm_QL_at, pm_QV_at, pm_QR_at, pm_QR_at0, pm_QR_at1, Nat.reduceSub, Nat.reduceAdd, List.replicate_zero, List.replicate_succ, true_and, and_true, true_or, or_true, and_self, reduceIte, Nat.reduceEqDiff, Nat.reduceLT, Nat.reduceLeDiff, Nat.reduceMul, false_and, and_false, reduceCtorEq, false_or, or_false, not_true_eq_false, not_false_eq_true, true_implies, false_implies, implies_true, lf_10, eq_self, Int32.reduceLT, Int32.reduceLE, Int32.reduceAdd, Int32.reduceSub, pm_same, pm_i_wI, pm_l_wL, pm_l_wM, pm_oR_rf, pm_oQ_rf, nI_1, LQ1, LQ2, LQ5, sh_k59 hSU, sh_k111 hSU, sh_z111 hSU, sh_k89 hSU, sh_z89 hSU, sh_r59_38 hSU, sh_r59_81 hSU, x3, x4, e0, e1, em, cm, cl, xm]) | fail)
  refine pm_goI 248 1 pb_c248 (by decide) (Nat.le_of_ble_eq_true rfl) rfl ?_
  try simp only [show pm_mL 248 = 2 from rfl, pm_WI0, pm_WI1, pm_WI2, pm_WI3, pm_WI4, pm_WI5, pm_WV, pm_WW, pm_WX, pb_B248, pm_if, pm_QI_at, pm_QL_at, pm_QV_at, pm_QR_at, pm_QR_at0, pm_QR_at1, Nat.reduceSub, Nat.reduceAdd, List.replicate_zero, List.replicate_succ, true_and, and_true, true_or, or_true, and_self, reduceIte, Nat.reduceEqDiff, Nat.reduceLT, Nat.reduceLeDiff, Nat.reduceMul, false_and, and_false, reduceCtorEq, false_or, or_false, not_true_eq_false, not_false_eq_true, true_implies, false_implies, implies_true, lf_10, eq_self, Int32.reduceLT, Int32.reduceLE, Int32.reduceAdd, Int32.reduceSub, pm_same, pm_i_wI, pm_l_wL, pm_l_wM, pm_oR_rf, pm_oQ_rf, nI_1, LQ1, LQ2, LQ5, sh_k59 hS, h41, eN]
  refine ⟨by omega, lf_159 (fun z => ?_) (fun z => ?_)⟩
  · have hz : v = 0 ∨ v = 1 := by
      have a1 := Int32.le_iff_toInt_le.mp z.1
      have a2 := Int32.le_iff_toInt_le.mp z.2
      rw [show (0 : Int32).toInt = 0 from rfl] at a1
      rw [show (1 : Int32).toInt = 1 from rfl] at a2
      by_cases y : v.toInt = 0
      · exact Or.inl (Int32.toInt_inj.mp y)
      · refine Or.inr (Int32.toInt_inj.mp ?_)
        show v.toInt = 1
        omega
    have fin := key (hz.elim Or.inl (fun y => Or.inr (Or.inl y)))
    try simp only [pm_WV, pm_WW, true_and, and_true, true_or, or_true, and_self, reduceIte, Nat.reduceEqDiff, Nat.reduceLT, Nat.reduceLeDiff, Nat.reduceMul, false_and, and_false, reduceCtorEq, false_or, or_false, not_true_eq_false, not_false_eq_true, true_implies, false_implies, implies_true, lf_10, eq_self, Int32.reduceLT, Int32.reduceLE, Int32.reduceAdd, Int32.reduceSub, pm_same, pm_i_wI, pm_l_wL, pm_l_wM, pm_oR_rf, pm_oQ_rf, nI_1, sw_e, LQ1, LQ2, pm_WI0, pm_WI1, pm_WI2, pm_WI3, pm_WI4, pm_WI5, pm_WV, pm_WW, pm_WX, pb_B248, pm_if, pm_QI_at, pm_QL_at, pm_QV_at, pm_QR_at, pm_QR_at0, pm_QR_at1, Nat.reduceSub, Nat.reduceAdd, List.replicate_zero, List.replicate_succ, true_and, and_true, true_or, or_true, and_self, reduceIte, Nat.reduceEqDiff, Nat.reduceLT, Nat.reduceLeDiff, Nat.reduceMul, false_and, and_false, reduceCtorEq, false_or, or_false, not_true_eq_false, not_false_eq_true, true_implies, false_implies, implies_true, lf_10, eq_self, Int32.reduceLT, Int32.reduceLE, Int32.reduceAdd, Int32.reduceSub, pm_same, pm_i_wI, pm_l_wL, pm_l_wM, pm_oR_rf, pm_oQ_rf, nI_1, LQ1, LQ2, LQ5, sh_k59 hS, h41, eN]
    repeat' (first | exact fin | (refine pm_wb_ok pb_c248 1 _ 0 _ _ _ _ _ ?_; simp only [pm_WI0, pm_WI1, pm_WI2, pm_WI3, pm_WI4, pm_WI5, pm_WV, pm_WW, pm_WX, pb_B248, pm_if, pm_QI_at, pm_QL_at, pm_QV_at, pm_QR_at, pm_QR_at0, pm_QR_at1, Nat.reduceSub, Nat.reduceAdd, List.replicate_zero, List.replicate_succ, true_and, and_true, true_or, or_true, and_self, reduceIte, Nat.reduceEqDiff, Nat.reduceLT, Nat.reduceLeDiff, Nat.reduceMul, false_and, and_false, reduceCtorEq, false_or, or_false, not_true_eq_false, not_false_eq_true, true_implies, false_implies, implies_true, lf_10, eq_self, Int32.reduceLT, Int32.reduceLE, Int32.reduceAdd, Int32.reduceSub, pm_same, pm_i_wI, pm_l_wL, pm_l_wM, pm_oR_rf, pm_oQ_rf, nI_1, LQ1, LQ2, LQ5, sh_k59 hS, h41, eN]) | fail)
  · have nz : ¬ (v = 0 ∨ v = 1) := fun y => z (y.elim (fun y => by subst y; exact ⟨by decide, by decide⟩) (fun y => by subst y; exact ⟨by decide, by decide⟩))
    try simp only [pm_WV, pm_WW, true_and, and_true, true_or, or_true, and_self, reduceIte, Nat.reduceEqDiff, Nat.reduceLT, Nat.reduceLeDiff, Nat.reduceMul, false_and, and_false, reduceCtorEq, false_or, or_false, not_true_eq_false, not_false_eq_true, true_implies, false_implies, implies_true, lf_10, eq_self, Int32.reduceLT, Int32.reduceLE, Int32.reduceAdd, Int32.reduceSub, pm_same, pm_i_wI, pm_l_wL, pm_l_wM, pm_oR_rf, pm_oQ_rf, nI_1, sw_e, LQ1, LQ2, pm_WI0, pm_WI1, pm_WI2, pm_WI3, pm_WI4, pm_WI5, pm_WV, pm_WW, pm_WX, pb_B248, pm_if, pm_QI_at, pm_QL_at, pm_QV_at, pm_QR_at, pm_QR_at0, pm_QR_at1, Nat.reduceSub, Nat.reduceAdd, List.replicate_zero, List.replicate_succ, true_and, and_true, true_or, or_true, and_self, reduceIte, Nat.reduceEqDiff, Nat.reduceLT, Nat.reduceLeDiff, Nat.reduceMul, false_and, and_false, reduceCtorEq, false_or, or_false, not_true_eq_false, not_false_eq_true, true_implies, false_implies, implies_true, lf_10, eq_self, Int32.reduceLT, Int32.reduceLE, Int32.reduceAdd, Int32.reduceSub, pm_same, pm_i_wI, pm_l_wL, pm_l_wM, pm_oR_rf, pm_oQ_rf, nI_1, LQ1, LQ2, LQ5, sh_k59 hS, h41, eN]
    refine ⟨by omega, lf_159 (fun y => ?_) (fun y => ?_)⟩
    · have fin := key (Or.inr (Or.inr y))
      try simp only [pm_WV, pm_WW, true_and, and_true, true_or, or_true, and_self, reduceIte, Nat.reduceEqDiff, Nat.reduceLT, Nat.reduceLeDiff, Nat.reduceMul, false_and, and_false, reduceCtorEq, false_or, or_false, not_true_eq_false, not_false_eq_true, true_implies, false_implies, implies_true, lf_10, eq_self, Int32.reduceLT, Int32.reduceLE, Int32.reduceAdd, Int32.reduceSub, pm_same, pm_i_wI, pm_l_wL, pm_l_wM, pm_oR_rf, pm_oQ_rf, nI_1, sw_e, LQ1, LQ2, pm_WI0, pm_WI1, pm_WI2, pm_WI3, pm_WI4, pm_WI5, pm_WV, pm_WW, pm_WX, pb_B248, pm_if, pm_QI_at, pm_QL_at, pm_QV_at, pm_QR_at, pm_QR_at0, pm_QR_at1, Nat.reduceSub, Nat.reduceAdd, List.replicate_zero, List.replicate_succ, true_and, and_true, true_or, or_true, and_self, reduceIte, Nat.reduceEqDiff, Nat.reduceLT, Nat.reduceLeDiff, Nat.reduceMul, false_and, and_false, reduceCtorEq, false_or, or_false, not_true_eq_false, not_false_eq_true, true_implies, false_implies, implies_true, lf_10, eq_self, Int32.reduceLT, Int32.reduceLE, Int32.reduceAdd, Int32.reduceSub, pm_same, pm_i_wI, pm_l_wL, pm_l_wM, pm_oR_rf, pm_oQ_rf, nI_1, LQ1, LQ2, LQ5, sh_k59 hS, h41, eN]
      repeat' (first | exact fin | (refine pm_wb_ok pb_c248 1 _ 0 _ _ _ _ _ ?_; simp only [pm_WI0, pm_WI1, pm_WI2, pm_WI3, pm_WI4, pm_WI5, pm_WV, pm_WW, pm_WX, pb_B248, pm_if, pm_QI_at, pm_QL_at, pm_QV_at, pm_QR_at, pm_QR_at0, pm_QR_at1, Nat.reduceSub, Nat.reduceAdd, List.replicate_zero, List.replicate_succ, true_and, and_true, true_or, or_true, and_self, reduceIte, Nat.reduceEqDiff, Nat.reduceLT, Nat.reduceLeDiff, Nat.reduceMul, false_and, and_false, reduceCtorEq, false_or, or_false, not_true_eq_false, not_false_eq_true, true_implies, false_implies, implies_true, lf_10, eq_self, Int32.reduceLT, Int32.reduceLE, Int32.reduceAdd, Int32.reduceSub, pm_same, pm_i_wI, pm_l_wL, pm_l_wM, pm_oR_rf, pm_oQ_rf, nI_1, LQ1, LQ2, LQ5, sh_k59 hS, h41, eN]) | fail)
    · have fin := h0 nz y
      try simp only [pm_WV, pm_WW, true_and, and_true, true_or, or_true, and_self, reduceIte, Nat.reduceEqDiff, Nat.reduceLT, Nat.reduceLeDiff, Nat.reduceMul, false_and, and_false, reduceCtorEq, false_or, or_false, not_true_eq_false, not_false_eq_true, true_implies, false_implies, implies_true, lf_10, eq_self, Int32.reduceLT, Int32.reduceLE, Int32.reduceAdd, Int32.reduceSub, pm_same, pm_i_wI, pm_l_wL, pm_l_wM, pm_oR_rf, pm_oQ_rf, nI_1, sw_e, LQ1, LQ2, pm_WI0, pm_WI1, pm_WI2, pm_WI3, pm_WI4, pm_WI5, pm_WV, pm_WW, pm_WX, pb_B248, pm_if, pm_QI_at, pm_QL_at, pm_QV_at, pm_QR_at, pm_QR_at0, pm_QR_at1, Nat.reduceSub, Nat.reduceAdd, List.replicate_zero, List.replicate_succ, true_and, and_true, true_or, or_true, and_self, reduceIte, Nat.reduceEqDiff, Nat.reduceLT, Nat.reduceLeDiff, Nat.reduceMul, false_and, and_false, reduceCtorEq, false_or, or_false, not_true_eq_false, not_false_eq_true, true_implies, false_implies, implies_true, lf_10, eq_self, Int32.reduceLT, Int32.reduceLE, Int32.reduceAdd, Int32.reduceSub, pm_same, pm_i_wI, pm_l_wL, pm_l_wM, pm_oR_rf, pm_oQ_rf, nI_1, LQ1, LQ2, LQ5, sh_k59 hS, h41, eN]
      repeat' (first | exact fin | (refine pm_wb_ok pb_c248 1 _ 0 _ _ _ _ _ ?_; simp only [pm_WI0, pm_WI1, pm_WI2, pm_WI3, pm_WI4, pm_WI5, pm_WV, pm_WW, pm_WX, pb_B248, pm_if, pm_QI_at, pm_QL_at, pm_QV_at, pm_QR_at, pm_QR_at0, pm_QR_at1, Nat.reduceSub, Nat.reduceAdd, List.replicate_zero, List.replicate_succ, true_and, and_true, true_or, or_true, and_self, reduceIte, Nat.reduceEqDiff, Nat.reduceLT, Nat.reduceLeDiff, Nat.reduceMul, false_and, and_false, reduceCtorEq, false_or, or_false, not_true_eq_false, not_false_eq_true, true_implies, false_implies, implies_true, lf_10, eq_self, Int32.reduceLT, Int32.reduceLE, Int32.reduceAdd, Int32.reduceSub, pm_same, pm_i_wI, pm_l_wL, pm_l_wM, pm_oR_rf, pm_oQ_rf, nI_1, LQ1, LQ2, LQ5, sh_k59 hS, h41, eN]) | fail)
theorem cl_147 {G : pm_G} {d N : Nat} {S : pm_S} {v : Int32} {q : Int32 → pm_S → Prop} (hd : 20 ≤ d) (hS : Sh S) (h38 : pm_i S 38 0 = nI N) (hN : N ≤ 7)
    (h0 : ¬ (v = 0 ∨ v = 1) → ¬ (10 ≤ v ∧ v ≤ nI (9 + N)) → q (-1) S)
    (h1 : (v = 0 ∨ v = 1 ∨ (10 ≤ v ∧ v ≤ nI (9 + N))) → ∀ x, pm_W G d 147 (pm_QI q) 39 [.ref 0, .int v, .int x] [] S 0 0) : pm_CI G d 147 [.ref 0, .int v] S q := by
  have k25 : ∀ x, (x = 1 ∧ (10 ≤ v ∧ v ≤ nI (9 + N))) ∨ (x = 0 ∧ ¬ (10 ≤ v ∧ v ≤ nI (9 + N))) → pm_W G d 147 (pm_QI q) 25 [.ref 0, .int v, .float 0] [.int x] S 0 0 := by
    intro x hx
    try refine pm_wb_ok pb_c147 1 25 0 _ _ _ _ _ ?_
    try simp only [pm_WI0, pm_WI1, pm_WI2, pm_WI3, pm_WI4, pm_WI5, pm_WV, pm_WW, pm_WX, pb_B147, pm_if, pm_QI_at, pm_QL_at, pm_QV_at, pm_QR_at, pm_QR_at0, pm_QR_at1, Nat.reduceSub, Nat.reduceAdd, List.replicate_zero, List.replicate_succ, true_and, and_true, true_or, or_true, and_self, reduceIte, Nat.reduceEqDiff, Nat.reduceLT, Nat.reduceLeDiff, Nat.reduceMul, false_and, and_false, reduceCtorEq, false_or, or_false, not_true_eq_false, not_false_eq_true, true_implies, false_implies, implies_true, lf_10, eq_self, Int32.reduceLT, Int32.reduceLE, Int32.reduceAdd, Int32.reduceSub, pm_same, pm_i_wI, pm_l_wL, pm_l_wM, pm_oR_rf, pm_oQ_rf, nI_1, LQ1, LQ2, LQ5]
    refine ⟨by omega, lf_102 (fun z => ?_) (fun z => ?_)⟩
    · have fin := h1 (z.elim Or.inl (fun y => Or.inr (Or.inl y))) x
      try simp only [pm_WV, pm_WW, true_and, and_true, true_or, or_true, and_self, reduceIte, Nat.reduceEqDiff, Nat.reduceLT, Nat.reduceLeDiff, Nat.reduceMul, false_and, and_false, reduceCtorEq, false_or, or_false, not_true_eq_false, not_false_eq_true, true_implies, false_implies, implies_true, lf_10, eq_self, Int32.reduceLT, Int32.reduceLE, Int32.reduceAdd, Int32.reduceSub, pm_same, pm_i_wI, pm_l_wL, pm_l_wM, pm_oR_rf, pm_oQ_rf, nI_1, sw_e, LQ1, LQ2, pm_WI0, pm_WI1, pm_WI2, pm_WI3, pm_WI4, pm_WI5, pm_WV, pm_WW, pm_WX, pb_B147, pm_if, pm_QI_at, pm_QL_at, pm_QV_at, pm_QR_at, pm_QR_at0, pm_QR_at1, Nat.reduceSub, Nat.reduceAdd, List.replicate_zero, List.replicate_succ, true_and, and_true, true_or, or_true, and_self, reduceIte, Nat.reduceEqDiff, Nat.reduceLT, Nat.reduceLeDiff, Nat.reduceMul, false_and, and_false, reduceCtorEq, false_or, or_false, not_true_eq_false, not_false_eq_true, true_implies, false_implies, implies_true, lf_10, eq_self, Int32.reduceLT, Int32.reduceLE, Int32.reduceAdd, Int32.reduceSub, pm_same, pm_i_wI, pm_l_wL, pm_l_wM, pm_oR_rf, pm_oQ_rf, nI_1, LQ1, LQ2, LQ5]
      exact fin
    · rcases hx with ⟨ex, hx⟩ | ⟨ex, hx⟩
      · subst ex
        have fin := h1 (Or.inr (Or.inr hx)) 1
        try simp only [pm_WV, pm_WW, true_and, and_true, true_or, or_true, and_self, reduceIte, Nat.reduceEqDiff, Nat.reduceLT, Nat.reduceLeDiff, Nat.reduceMul, false_and, and_false, reduceCtorEq, false_or, or_false, not_true_eq_false, not_false_eq_true, true_implies, false_implies, implies_true, lf_10, eq_self, Int32.reduceLT, Int32.reduceLE, Int32.reduceAdd, Int32.reduceSub, pm_same, pm_i_wI, pm_l_wL, pm_l_wM, pm_oR_rf, pm_oQ_rf, nI_1, sw_e, LQ1, LQ2, pm_WI0, pm_WI1, pm_WI2, pm_WI3, pm_WI4, pm_WI5, pm_WV, pm_WW, pm_WX, pb_B147, pm_if, pm_QI_at, pm_QL_at, pm_QV_at, pm_QR_at, pm_QR_at0, pm_QR_at1, Nat.reduceSub, Nat.reduceAdd, List.replicate_zero, List.replicate_succ, true_and, and_true, true_or, or_true, and_self, reduceIte, Nat.reduceEqDiff, Nat.reduceLT, Nat.reduceLeDiff, Nat.reduceMul, false_and, and_false, reduceCtorEq, false_or, or_false, not_true_eq_false, not_false_eq_true, true_implies, false_implies, implies_true, lf_10, eq_self, Int32.reduceLT, Int32.reduceLE, Int32.reduceAdd, Int32.reduceSub, pm_same, pm_i_wI, pm_l_wL, pm_l_wM, pm_oR_rf, pm_oQ_rf, nI_1, LQ1, LQ2, LQ5]
        repeat' (first | exact fin | (refine pm_wb_ok pb_c147 1 _ 0 _ _ _ _ _ ?_; simp only [pm_WI0, pm_WI1, pm_WI2, pm_WI3, pm_WI4, pm_WI5, pm_WV, pm_WW, pm_WX, pb_B147, pm_if, pm_QI_at, pm_QL_at, pm_QV_at, pm_QR_at, pm_QR_at0, pm_QR_at1, Nat.reduceSub, Nat.reduceAdd, List.replicate_zero, List.replicate_succ, true_and, and_true, true_or, or_true, and_self, reduceIte, Nat.reduceEqDiff, Nat.reduceLT, Nat.reduceLeDiff, Nat.reduceMul, false_and, and_false, reduceCtorEq, false_or, or_false, not_true_eq_false, not_false_eq_true, true_implies, false_implies, implies_true, lf_10, eq_self, Int32.reduceLT, Int32.reduceLE, Int32.reduceAdd, Int32.reduceSub, pm_same, pm_i_wI, pm_l_wL, pm_l_wM, pm_oR_rf, pm_oQ_rf, nI_1, LQ1, LQ2, LQ5]) | fail)
      · subst ex
        have fin := h0 z hx
        try simp only [pm_WV, pm_WW, true_and, and_true, true_or, or_true, and_self, reduceIte, Nat.reduceEqDiff, Nat.reduceLT, Nat.reduceLeDiff, Nat.reduceMul, false_and, and_false, reduceCtorEq, false_or, or_false, not_true_eq_false, not_false_eq_true, true_implies, false_implies, implies_true, lf_10, eq_self, Int32.reduceLT, Int32.reduceLE, Int32.reduceAdd, Int32.reduceSub, pm_same, pm_i_wI, pm_l_wL, pm_l_wM, pm_oR_rf, pm_oQ_rf, nI_1, sw_e, LQ1, LQ2, pm_WI0, pm_WI1, pm_WI2, pm_WI3, pm_WI4, pm_WI5, pm_WV, pm_WW, pm_WX, pb_B147, pm_if, pm_QI_at, pm_QL_at, pm_QV_at, pm_QR_at, pm_QR_at0, pm_QR_at1, Nat.reduceSub, Nat.reduceAdd, List.replicate_zero, List.replicate_succ, true_and, and_true, true_or, or_true, and_self, reduceIte, Nat.reduceEqDiff, Nat.reduceLT, Nat.reduceLeDiff, Nat.reduceMul, false_and, and_false, reduceCtorEq, false_or, or_false, not_true_eq_false, not_false_eq_true, true_implies, false_implies, implies_true, lf_10, eq_self, Int32.reduceLT, Int32.reduceLE, Int32.reduceAdd, Int32.reduceSub, pm_same, pm_i_wI, pm_l_wL, pm_l_wM, pm_oR_rf, pm_oQ_rf, nI_1, LQ1, LQ2, LQ5]
        repeat' (first | exact fin | (refine pm_wb_ok pb_c147 1 _ 0 _ _ _ _ _ ?_; simp only [pm_WI0, pm_WI1, pm_WI2, pm_WI3, pm_WI4, pm_WI5, pm_WV, pm_WW, pm_WX, pb_B147, pm_if, pm_QI_at, pm_QL_at, pm_QV_at, pm_QR_at, pm_QR_at0, pm_QR_at1, Nat.reduceSub, Nat.reduceAdd, List.replicate_zero, List.replicate_succ, true_and, and_true, true_or, or_true, and_self, reduceIte, Nat.reduceEqDiff, Nat.reduceLT, Nat.reduceLeDiff, Nat.reduceMul, false_and, and_false, reduceCtorEq, false_or, or_false, not_true_eq_false, not_false_eq_true, true_implies, false_implies, implies_true, lf_10, eq_self, Int32.reduceLT, Int32.reduceLE, Int32.reduceAdd, Int32.reduceSub, pm_same, pm_i_wI, pm_l_wL, pm_l_wM, pm_oR_rf, pm_oQ_rf, nI_1, LQ1, LQ2, LQ5]) | fail)
  by_cases c : v < 10
  · have fin := k25 0 (Or.inr ⟨rfl, fun z => by have := Int32.not_lt.mpr z.1; exact this c⟩)
    refine pm_goI 147 1 pb_c147 (by decide) (Nat.le_of_ble_eq_true rfl) rfl ?_
    try simp only [show pm_mL 147 = 3 from rfl, pm_WI0, pm_WI1, pm_WI2, pm_WI3, pm_WI4, pm_WI5, pm_WV, pm_WW, pm_WX, pb_B147, pm_if, pm_QI_at, pm_QL_at, pm_QV_at, pm_QR_at, pm_QR_at0, pm_QR_at1, Nat.reduceSub, Nat.reduceAdd, List.replicate_zero, List.replicate_succ, true_and, and_true, true_or, or_true, and_self, reduceIte, Nat.reduceEqDiff, Nat.reduceLT, Nat.reduceLeDiff, Nat.reduceMul, false_and, and_false, reduceCtorEq, false_or, or_false, not_true_eq_false, not_false_eq_true, true_implies, false_implies, implies_true, lf_10, eq_self, Int32.reduceLT, Int32.reduceLE, Int32.reduceAdd, Int32.reduceSub, pm_same, pm_i_wI, pm_l_wL, pm_l_wM, pm_oR_rf, pm_oQ_rf, nI_1, LQ1, LQ2, LQ5, sh_k0 hS, sh_r0_11 hS, sh_r0_0 hS, sh_k38 hS, sh_k1 hS, h38, c]
    repeat' (first | exact fin | (refine pm_wb_ok pb_c147 1 _ 0 _ _ _ _ _ ?_; simp only [pm_WI0, pm_WI1, pm_WI2, pm_WI3, pm_WI4, pm_WI5, pm_WV, pm_WW, pm_WX, pb_B147, pm_if, pm_QI_at, pm_QL_at, pm_QV_at, pm_QR_at, pm_QR_at0, pm_QR_at1, Nat.reduceSub, Nat.reduceAdd, List.replicate_zero, List.replicate_succ, true_and, and_true, true_or, or_true, and_self, reduceIte, Nat.reduceEqDiff, Nat.reduceLT, Nat.reduceLeDiff, Nat.reduceMul, false_and, and_false, reduceCtorEq, false_or, or_false, not_true_eq_false, not_false_eq_true, true_implies, false_implies, implies_true, lf_10, eq_self, Int32.reduceLT, Int32.reduceLE, Int32.reduceAdd, Int32.reduceSub, pm_same, pm_i_wI, pm_l_wL, pm_l_wM, pm_oR_rf, pm_oQ_rf, nI_1, LQ1, LQ2, LQ5, sh_k0 hS, sh_r0_11 hS, sh_r0_0 hS, sh_k38 hS, sh_k1 hS, h38, c]) | fail)
  · by_cases hv : 10 ≤ v ∧ v ≤ nI (9 + N)
    · have fin := k25 1 (Or.inl ⟨rfl, hv⟩)
      obtain ⟨m, hm, ev⟩ := bo_v hN hv
      subst ev
      have em : nI (10 + m) - 10 = nI m := by
        have := nI_sub (a := 10 + m) (b := 10) (by omega)
        rw [show 10 + m - 10 = m by omega] at this; exact this
      have hle : ¬ nI N ≤ nI m := nI_ge hm (by omega)
      refine pm_goI 147 1 pb_c147 (by decide) (Nat.le_of_ble_eq_true rfl) rfl ?_
      try simp only [show pm_mL 147 = 3 from rfl, pm_WI0, pm_WI1, pm_WI2, pm_WI3, pm_WI4, pm_WI5, pm_WV, pm_WW, pm_WX, pb_B147, pm_if, pm_QI_at, pm_QL_at, pm_QV_at, pm_QR_at, pm_QR_at0, pm_QR_at1, Nat.reduceSub, Nat.reduceAdd, List.replicate_zero, List.replicate_succ, true_and, and_true, true_or, or_true, and_self, reduceIte, Nat.reduceEqDiff, Nat.reduceLT, Nat.reduceLeDiff, Nat.reduceMul, false_and, and_false, reduceCtorEq, false_or, or_false, not_true_eq_false, not_false_eq_true, true_implies, false_implies, implies_true, lf_10, eq_self, Int32.reduceLT, Int32.reduceLE, Int32.reduceAdd, Int32.reduceSub, pm_same, pm_i_wI, pm_l_wL, pm_l_wM, pm_oR_rf, pm_oQ_rf, nI_1, LQ1, LQ2, LQ5, sh_k0 hS, sh_r0_11 hS, sh_r0_0 hS, sh_k38 hS, sh_k1 hS, h38, c, em, hle]
      repeat' (first | exact fin | (refine pm_wb_ok pb_c147 1 _ 0 _ _ _ _ _ ?_; simp only [pm_WI0, pm_WI1, pm_WI2, pm_WI3, pm_WI4, pm_WI5, pm_WV, pm_WW, pm_WX, pb_B147, pm_if, pm_QI_at, pm_QL_at, pm_QV_at, pm_QR_at, pm_QR_at0, pm_QR_at1, Nat.reduceSub, Nat.reduceAdd, List.replicate_zero, List.replicate_succ, true_and, and_true, true_or, or_true, and_self, reduceIte, Nat.reduceEqDiff, Nat.reduceLT, Nat.reduceLeDiff, Nat.reduceMul, false_and, and_false, reduceCtorEq, false_or, or_false, not_true_eq_false, not_false_eq_true, true_implies, false_implies, implies_true, lf_10, eq_self, Int32.reduceLT, Int32.reduceLE, Int32.reduceAdd, Int32.reduceSub, pm_same, pm_i_wI, pm_l_wL, pm_l_wM, pm_oR_rf, pm_oQ_rf, nI_1, LQ1, LQ2, LQ5, sh_k0 hS, sh_r0_11 hS, sh_r0_0 hS, sh_k38 hS, sh_k1 hS, h38, c, em, hle]) | fail)
    · have fin := k25 0 (Or.inr ⟨rfl, hv⟩)
      have hle := bo_v2 hN hv c
      refine pm_goI 147 1 pb_c147 (by decide) (Nat.le_of_ble_eq_true rfl) rfl ?_
      try simp only [show pm_mL 147 = 3 from rfl, pm_WI0, pm_WI1, pm_WI2, pm_WI3, pm_WI4, pm_WI5, pm_WV, pm_WW, pm_WX, pb_B147, pm_if, pm_QI_at, pm_QL_at, pm_QV_at, pm_QR_at, pm_QR_at0, pm_QR_at1, Nat.reduceSub, Nat.reduceAdd, List.replicate_zero, List.replicate_succ, true_and, and_true, true_or, or_true, and_self, reduceIte, Nat.reduceEqDiff, Nat.reduceLT, Nat.reduceLeDiff, Nat.reduceMul, false_and, and_false, reduceCtorEq, false_or, or_false, not_true_eq_false, not_false_eq_true, true_implies, false_implies, implies_true, lf_10, eq_self, Int32.reduceLT, Int32.reduceLE, Int32.reduceAdd, Int32.reduceSub, pm_same, pm_i_wI, pm_l_wL, pm_l_wM, pm_oR_rf, pm_oQ_rf, nI_1, LQ1, LQ2, LQ5, sh_k0 hS, sh_r0_11 hS, sh_r0_0 hS, sh_k38 hS, sh_k1 hS, h38, c, hle]
      repeat' (first | exact fin | (refine pm_wb_ok pb_c147 1 _ 0 _ _ _ _ _ ?_; simp only [pm_WI0, pm_WI1, pm_WI2, pm_WI3, pm_WI4, pm_WI5, pm_WV, pm_WW, pm_WX, pb_B147, pm_if, pm_QI_at, pm_QL_at, pm_QV_at, pm_QR_at, pm_QR_at0, pm_QR_at1, Nat.reduceSub, Nat.reduceAdd, List.replicate_zero, List.replicate_succ, true_and, and_true, true_or, or_true, and_self, reduceIte, Nat.reduceEqDiff, Nat.reduceLT, Nat.reduceLeDiff, Nat.reduceMul, false_and, and_false, reduceCtorEq, false_or, or_false, not_true_eq_false, not_false_eq_true, true_implies, false_implies, implies_true, lf_10, eq_self, Int32.reduceLT, Int32.reduceLE, Int32.reduceAdd, Int32.reduceSub, pm_same, pm_i_wI, pm_l_wL, pm_l_wM, pm_oR_rf, pm_oQ_rf, nI_1, LQ1, LQ2, LQ5, sh_k0 hS, sh_r0_11 hS, sh_r0_0 hS, sh_k38 hS, sh_k1 hS, h38, c, hle]) | fail)
theorem pp_week {G : pm_G} {d : Nat} {A : iv_A} {S : pm_S} {v : Int32} (hd : 40 ≤ d) (hI : Inv A S) : pm_CI G d 147 [.ref 0, .int v] S (fun r S1 => pm_CI G d 248 [.ref 59, .int v] S1 (fun r' S2 => pv_end A r r' S2)) := by
  have hS := hI.sh
  have hMI := hI.mi
  obtain ⟨n20, hn⟩ := MI.c2 hMI
  obtain ⟨k38, ⟨i1, i2⟩, ⟨r39, r40, r41⟩, kk⟩ := hI.wk
  have hN : iv_c S 41 ≤ 7 := iv_le (n := 7) 7 i2 (by decide)
  have h41 : pm_i S 59 41 = nI (iv_c S 41) := iv_nn i1
  have h38 : pm_i S 38 0 = nI (iv_c S 41) := k38.trans h41
  obtain ⟨t0, t1⟩ := hI.day.2.1
  have he : pm_i S 59 0 = nI (iv_c S 0) := iv_nn t0
  have he2 : iv_c S 0 ≤ 9999 := iv_le (n := 9999) 9999 t1 (by decide)
  have he1 : pm_i S 1 0 = nI (iv_c S 0) := by rw [hI.day.1]; exact he
  have hn1 : pm_i S 1 2 = nI (iv_c S 2) := by rw [hI.day.2.2.2.1]; exact hn
  have r2 : pm_i S 2 = pm_i S 60 := hI.day.2.2.1
  obtain ⟨f, hf⟩ : ∃ f : Nat → Nat, ∀ k, f k = (pm_i S 90 k).toNatClampNeg := ⟨_, fun _ => rfl⟩
  obtain ⟨g, hg⟩ : ∃ g : Nat → Nat, ∀ k, g k = (pm_i S 91 k).toNatClampNeg := ⟨_, fun _ => rfl⟩
  obtain ⟨T, hT⟩ : ∃ T : Nat → Nat, ∀ u, T u = wd (pm_i S 60) (iv_c S 2) (iv_c S 0) (bo_w f u (iv_c S 41)) := ⟨_, fun _ => rfl⟩
  generalize hNN : iv_c S 41 = N at *
  have hW : ∀ k, k < N → pm_i S 90 k = nI (f k) ∧ 1 ≤ f k ∧ f k ≤ 9 := fun k hk => by
    obtain ⟨_, ⟨a1, a2⟩, _⟩ := kk k hk
    rw [hf]
    have a0 : (0 : Int32) ≤ pm_i S 90 k := by lia
    have e := iv_nn a0
    refine ⟨e, ?_, iv_le (n := 9) 9 a2 (by decide)⟩
    have b := Int32.le_iff_toInt_le.mp a1
    rw [e, nI_toInt (by have := iv_le (n := 9) 9 a2 (by decide); omega), show (1 : Int32).toInt = 1 from rfl] at b
    omega
  have hD : ∀ k, k < N → pm_i S 91 k = nI (g k) ∧ g k ≤ 9999 := fun k hk => by
    obtain ⟨_, _, a1, a2⟩ := kk k hk
    rw [hg]
    exact ⟨iv_nn a1, iv_le (n := 9999) 9999 a2 (by decide)⟩
  have hM : ∀ U, sc S U → bo_M U N (iv_c S 2) (iv_c S 0) f g T := fun U hU => ⟨⟨hU.sh hS, hN, n20, by omega⟩, ⟨hU.m41.trans h41, hU.m2.trans hn⟩, fun k hk => by rw [hU.r90]; exact hW k hk, fun k hk => by rw [hU.r91]; exact hD k hk, fun u => by rw [hU.r60]; exact hT u⟩
  have w63 : ∀ u, bo_w f u N ≤ 63 := fun u => Nat.le_trans (bo_w_le N (fun k hk => (hW k hk).2.2)) (by omega)
  have hT2 : ∀ u, T u < 2 ^ 16 := fun u => by rw [hT]; exact wd_lt _ (by omega) (by have := w63 u; omega) n20
  have hC : ∀ s p, bo_C T g s p ≤ 4295032832 := fun s p => bo_c_le (hT2 s)
  have O2 := bo_O_le hC hN
  have O0 := O2 0
  have Om : bo_O (bo_C T g) N 0 / 4294967296 < 2 ^ 16 ∧ bo_O (bo_C T g) N 0 % 4294967296 < 2 ^ 31 := by
    obtain ⟨m, o, e1, e2, e3⟩ := bo_o_g (N := N) hC (fun s p => bo_c_g (hT2 s)) hN (bo_n 0 N) 0 rfl (by rw [bo_n_0]; exact hN)
    rw [bo_n_0] at e1 e2 e3
    have e0 : bo_O (bo_C T g) N 0 = 4294967296 * m + o := by unfold bo_O; rw [bo_n_0]; exact e1
    rw [e0]
    omega
  have z0 : 0 < 2 ^ N := Nat.two_pow_pos N
  obtain ⟨l, _, hl⟩ := bo_go_all (C := bo_C T g) (N := N) hC hN (fun _ => 0)
  have hli := bo_P_i hl
  have eN : (9 : Int32) + nI N = nI (9 + N) := nI_add 9 N
  have weigh : ∀ q : pm_S → Prop, (∀ U, sc S U → (∀ u, u < 2 ^ N → pm_i U 42 u = nI (T u)) → (∀ u, u < 2 ^ N → pm_l U 43 u = nL (bo_O (bo_C T g) N u)) → q U) → pm_CV G (d - 1) 87 [.ref 38, .ref 1] S q := fun q h => lf_87 (f := f) (by omega) hS h38 hN hn1 n20 he1 (by omega) (fun k hk => by rw [r40]; exact (hW k hk).1) (fun k hk => (hW k hk).2.2) (fun k hk => by rw [r41]; exact (hD k hk).1) (fun k hk => (hD k hk).2) (fun u => by rw [r2]; exact hT u) h
  have mod : ∀ r U, sc S U → ((v = 0 → r = nI (bo_O (bo_C T g) N 0 / 4294967296)) ∧ (v = 1 → r = nI (bo_O (bo_C T g) N 0 % 4294967296)) ∧ ∀ m, m < N → v = nI (10 + m) → r = pm_i S 89 (l m)) → (v = 0 ∨ v = 1 ∨ (10 ≤ v ∧ v ≤ nI (9 + N))) → pm_CI G d 248 [.ref 59, .int v] U (fun r' S2 => pv_end A r r' S2) := by
    intro r U hU ⟨g0, g1, g2⟩ hv
    refine mo_248 (by omega) (hM U hU) (hU.m0.trans he) (fun z1 z2 => ?_) (fun V m hV hm => ⟨fun z => ⟨(g0 z).symm, A, (hI.sc hU).sc hV⟩, fun z => ⟨(g1 z).symm, A, (hI.sc hU).sc hV⟩, fun k hk z => ?_⟩)
    · rcases hv with hv | hv | hv
      · exact absurd (Or.inl hv) z1
      · exact absurd (Or.inr hv) z1
      · exact absurd hv z2
    · have e1 := bo_P_uq N 0 0 hl hm k hk
      rw [Nat.zero_add] at e1
      refine ⟨by rw [← e1]; exact (hli k hk).2.1, fun _ => ⟨?_, A, (hI.sc hU).sc hV⟩⟩
      rw [hV.r89, hU.r89, ← e1]; exact (g2 k hk z).symm
  have nz : ∀ (a m : Nat), a < 10 → m < N → ¬ nI a = nI (10 + m) := fun a m ha hm z => by
    have := (nI_eq (a := a) (b := 10 + m) (by omega) (by omega)).mp z
    omega
  refine cl_147 (by omega) hS h38 hN (fun z1 z2 => ?_) (fun hv x => ?_)
  · exact mo_248 (by omega) (hM S sc.rf) he (fun _ _ => pv_same hI) (fun V m hV hm => ⟨fun z => absurd (Or.inl z) z1, fun z => absurd (Or.inr z) z1, fun k hk z => by
      exfalso
      refine z2 ?_
      rw [z]
      exact ⟨nI_le (a := 10) (by omega) (by omega), nI_le (by omega) (by omega)⟩⟩)
  · skip
    try refine pm_wb_ok pb_c147 1 39 0 _ _ _ _ _ ?_
    try simp only [pm_WI0, pm_WI1, pm_WI2, pm_WI3, pm_WI4, pm_WI5, pm_WV, pm_WW, pm_WX, pb_B147, pm_if, pm_QI_at, pm_QL_at, pm_QV_at, pm_QR_at, pm_QR_at0, pm_QR_at1, Nat.reduceSub, Nat.reduceAdd, List.replicate_zero, List.replicate_succ, true_and, and_true, true_or, or_true, and_self, reduceIte, Nat.reduceEqDiff, Nat.reduceLT, Nat.reduceLeDiff, Nat.reduceMul, false_and, and_false, reduceCtorEq, false_or, or_false, not_true_eq_false, not_false_eq_true, true_implies, false_implies, implies_true, lf_10, eq_self, Int32.reduceLT, Int32.reduceLE, Int32.reduceAdd, Int32.reduceSub, pm_same, pm_i_wI, pm_l_wL, pm_l_wM, pm_oR_rf, pm_oQ_rf, nI_1, LQ1, LQ2, LQ5, sh_k0 hS, sh_r0_11 hS, sh_r0_0 hS, sh_k38 hS, sh_k1 hS]
    refine ⟨by omega, weigh _ (fun U hU ht hb => ?_)⟩
    have hSU := hU.sh hS
    rcases hv with hv | hv | hv
    · subst hv
      have fin := mod (nI (bo_O (bo_C T g) N 0 / 4294967296)) U hU ⟨fun _ => rfl, fun z => absurd z (by decide), fun m hm z => absurd z (nz 0 m (by omega) hm)⟩ (Or.inl rfl)
      try simp only [pm_WV, pm_WW, true_and, and_true, true_or, or_true, and_self, reduceIte, Nat.reduceEqDiff, Nat.reduceLT, Nat.reduceLeDiff, Nat.reduceMul, false_and, and_false, reduceCtorEq, false_or, or_false, not_true_eq_false, not_false_eq_true, true_implies, false_implies, implies_true, lf_10, eq_self, Int32.reduceLT, Int32.reduceLE, Int32.reduceAdd, Int32.reduceSub, pm_same, pm_i_wI, pm_l_wL, pm_l_wM, pm_oR_rf, pm_oQ_rf, nI_1, sw_e, LQ1, LQ2, pm_WI0, pm_WI1, pm_WI2, pm_WI3, pm_WI4, pm_WI5, pm_WV, pm_WW, pm_WX, pb_B147, pm_if, pm_QI_at, pm_QL_at, pm_QV_at, pm_QR_at, pm_QR_at0, pm_QR_at1, Nat.reduceSub, Nat.reduceAdd, List.replicate_zero, List.replicate_succ, true_and, and_true, true_or, or_true, and_self, reduceIte, Nat.reduceEqDiff, Nat.reduceLT, Nat.reduceLeDiff, Nat.reduceMul, false_and, and_false, reduceCtorEq, false_or, or_false, not_true_eq_false, not_false_eq_true, true_implies, false_implies, implies_true, lf_10, eq_self, Int32.reduceLT, Int32.reduceLE, Int32.reduceAdd, Int32.reduceSub, pm_same, pm_i_wI, pm_l_wL, pm_l_wM, pm_oR_rf, pm_oQ_rf, nI_1, LQ1, LQ2, LQ5, sh_k0 hSU, sh_r0_11 hSU, sh_r0_0 hSU, sh_k38 hSU, sh_k1 hSU]
      repeat' (first | exact fin | refine ⟨by omega, lf_91 hSU (hb 0 z0) Om.1 Om.2 ?_⟩ | (refine pm_wb_ok pb_c147 1 _ 0 _ _ _ _ _ ?_; simp only [pm_WI0, pm_WI1, pm_WI2, pm_WI3, pm_WI4, pm_WI5, pm_WV, pm_WW, pm_WX, pb_B147, pm_if, pm_QI_at, pm_QL_at, pm_QV_at, pm_QR_at, pm_QR_at0, pm_QR_at1, Nat.reduceSub, Nat.reduceAdd, List.replicate_zero, List.replicate_succ, true_and, and_true, true_or, or_true, and_self, reduceIte, Nat.reduceEqDiff, Nat.reduceLT, Nat.reduceLeDiff, Nat.reduceMul, false_and, and_false, reduceCtorEq, false_or, or_false, not_true_eq_false, not_false_eq_true, true_implies, false_implies, implies_true, lf_10, eq_self, Int32.reduceLT, Int32.reduceLE, Int32.reduceAdd, Int32.reduceSub, pm_same, pm_i_wI, pm_l_wL, pm_l_wM, pm_oR_rf, pm_oQ_rf, nI_1, LQ1, LQ2, LQ5, sh_k0 hSU, sh_r0_11 hSU, sh_r0_0 hSU, sh_k38 hSU, sh_k1 hSU]) | fail)
    · subst hv
      have fin := mod (nI (bo_O (bo_C T g) N 0 % 4294967296)) U hU ⟨fun z => absurd z (by decide), fun _ => rfl, fun m hm z => absurd z (nz 1 m (by omega) hm)⟩ (Or.inr (Or.inl rfl))
      try simp only [pm_WV, pm_WW, true_and, and_true, true_or, or_true, and_self, reduceIte, Nat.reduceEqDiff, Nat.reduceLT, Nat.reduceLeDiff, Nat.reduceMul, false_and, and_false, reduceCtorEq, false_or, or_false, not_true_eq_false, not_false_eq_true, true_implies, false_implies, implies_true, lf_10, eq_self, Int32.reduceLT, Int32.reduceLE, Int32.reduceAdd, Int32.reduceSub, pm_same, pm_i_wI, pm_l_wL, pm_l_wM, pm_oR_rf, pm_oQ_rf, nI_1, sw_e, LQ1, LQ2, pm_WI0, pm_WI1, pm_WI2, pm_WI3, pm_WI4, pm_WI5, pm_WV, pm_WW, pm_WX, pb_B147, pm_if, pm_QI_at, pm_QL_at, pm_QV_at, pm_QR_at, pm_QR_at0, pm_QR_at1, Nat.reduceSub, Nat.reduceAdd, List.replicate_zero, List.replicate_succ, true_and, and_true, true_or, or_true, and_self, reduceIte, Nat.reduceEqDiff, Nat.reduceLT, Nat.reduceLeDiff, Nat.reduceMul, false_and, and_false, reduceCtorEq, false_or, or_false, not_true_eq_false, not_false_eq_true, true_implies, false_implies, implies_true, lf_10, eq_self, Int32.reduceLT, Int32.reduceLE, Int32.reduceAdd, Int32.reduceSub, pm_same, pm_i_wI, pm_l_wL, pm_l_wM, pm_oR_rf, pm_oQ_rf, nI_1, LQ1, LQ2, LQ5, sh_k0 hSU, sh_r0_11 hSU, sh_r0_0 hSU, sh_k38 hSU, sh_k1 hSU]
      repeat' (first | exact fin | refine ⟨by omega, lf_92 hSU (hb 0 z0) Om.1 Om.2 ?_⟩ | (refine pm_wb_ok pb_c147 1 _ 0 _ _ _ _ _ ?_; simp only [pm_WI0, pm_WI1, pm_WI2, pm_WI3, pm_WI4, pm_WI5, pm_WV, pm_WW, pm_WX, pb_B147, pm_if, pm_QI_at, pm_QL_at, pm_QV_at, pm_QR_at, pm_QR_at0, pm_QR_at1, Nat.reduceSub, Nat.reduceAdd, List.replicate_zero, List.replicate_succ, true_and, and_true, true_or, or_true, and_self, reduceIte, Nat.reduceEqDiff, Nat.reduceLT, Nat.reduceLeDiff, Nat.reduceMul, false_and, and_false, reduceCtorEq, false_or, or_false, not_true_eq_false, not_false_eq_true, true_implies, false_implies, implies_true, lf_10, eq_self, Int32.reduceLT, Int32.reduceLE, Int32.reduceAdd, Int32.reduceSub, pm_same, pm_i_wI, pm_l_wL, pm_l_wM, pm_oR_rf, pm_oQ_rf, nI_1, LQ1, LQ2, LQ5, sh_k0 hSU, sh_r0_11 hSU, sh_r0_0 hSU, sh_k38 hSU, sh_k1 hSU]) | fail)
    · obtain ⟨m, hm, ev⟩ := bo_v hN hv
      subst ev
      have fin := mod (pm_i U 39 (l m)) U hU ⟨fun z => absurd z.symm (nz 0 m (by omega) hm), fun z => absurd z.symm (nz 1 m (by omega) hm), fun k hk z => by
        have := (nI_eq (a := 10 + m) (b := 10 + k) (by omega) (by omega)).mp z
        have ek : m = k := by omega
        rw [hU.r39, r39, ek]⟩ (Or.inr (Or.inr hv))
      have e0 : ¬ nI (10 + m) = 0 := fun z => nz 0 m (by omega) hm z.symm
      have e1 : ¬ nI (10 + m) = 1 := fun z => nz 1 m (by omega) hm z.symm
      have em : nI (10 + m) - 10 = nI m := by
        have := nI_sub (a := 10 + m) (b := 10) (by omega)
        rw [show 10 + m - 10 = m by omega] at this; exact this
      try simp only [pm_WV, pm_WW, true_and, and_true, true_or, or_true, and_self, reduceIte, Nat.reduceEqDiff, Nat.reduceLT, Nat.reduceLeDiff, Nat.reduceMul, false_and, and_false, reduceCtorEq, false_or, or_false, not_true_eq_false, not_false_eq_true, true_implies, false_implies, implies_true, lf_10, eq_self, Int32.reduceLT, Int32.reduceLE, Int32.reduceAdd, Int32.reduceSub, pm_same, pm_i_wI, pm_l_wL, pm_l_wM, pm_oR_rf, pm_oQ_rf, nI_1, sw_e, LQ1, LQ2, pm_WI0, pm_WI1, pm_WI2, pm_WI3, pm_WI4, pm_WI5, pm_WV, pm_WW, pm_WX, pb_B147, pm_if, pm_QI_at, pm_QL_at, pm_QV_at, pm_QR_at, pm_QR_at0, pm_QR_at1, Nat.reduceSub, Nat.reduceAdd, List.replicate_zero, List.replicate_succ, true_and, and_true, true_or, or_true, and_self, reduceIte, Nat.reduceEqDiff, Nat.reduceLT, Nat.reduceLeDiff, Nat.reduceMul, false_and, and_false, reduceCtorEq, false_or, or_false, not_true_eq_false, not_false_eq_true, true_implies, false_implies, implies_true, lf_10, eq_self, Int32.reduceLT, Int32.reduceLE, Int32.reduceAdd, Int32.reduceSub, pm_same, pm_i_wI, pm_l_wL, pm_l_wM, pm_oR_rf, pm_oQ_rf, nI_1, LQ1, LQ2, LQ5, sh_k0 hSU, sh_r0_11 hSU, sh_r0_0 hSU, sh_k38 hSU, sh_k1 hSU, e0, e1, em]
      repeat' (first | exact fin | refine ⟨by omega, lf_93 (T := T) (g := g) (O := bo_O (bo_C T g) N) (l := l) (by omega) hSU (hU.c38_0.trans h38) hN hm ht hT2 (fun k hk => by rw [hU.r41, r41]; exact (hD k hk).1) (fun k hk => (hD k hk).2) hb (fun u => by have := O2 u; omega) hli ?_⟩ | (refine pm_wb_ok pb_c147 1 _ 0 _ _ _ _ _ ?_; simp only [pm_WI0, pm_WI1, pm_WI2, pm_WI3, pm_WI4, pm_WI5, pm_WV, pm_WW, pm_WX, pb_B147, pm_if, pm_QI_at, pm_QL_at, pm_QV_at, pm_QR_at, pm_QR_at0, pm_QR_at1, Nat.reduceSub, Nat.reduceAdd, List.replicate_zero, List.replicate_succ, true_and, and_true, true_or, or_true, and_self, reduceIte, Nat.reduceEqDiff, Nat.reduceLT, Nat.reduceLeDiff, Nat.reduceMul, false_and, and_false, reduceCtorEq, false_or, or_false, not_true_eq_false, not_false_eq_true, true_implies, false_implies, implies_true, lf_10, eq_self, Int32.reduceLT, Int32.reduceLE, Int32.reduceAdd, Int32.reduceSub, pm_same, pm_i_wI, pm_l_wL, pm_l_wM, pm_oR_rf, pm_oQ_rf, nI_1, LQ1, LQ2, LQ5, sh_k0 hSU, sh_r0_11 hSU, sh_r0_0 hSU, sh_k38 hSU, sh_k1 hSU, e0, e1, em]) | fail)
