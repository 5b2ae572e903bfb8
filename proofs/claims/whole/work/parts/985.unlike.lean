/-! unlike -/
abbrev ul_S : Type := Nat × Int32 × Int32
def ul_t (P : Nat → Nat → Bool) (st : ul_S) (a b : Nat) : ul_S := if P a b then (st.1 + 1, if st.1 = 0 then nI a else st.2.1, if st.1 = 0 then nI b else st.2.2) else st
def ul_i (P : Nat → Nat → Bool) (N a : Nat) : Nat → ul_S → ul_S
  | 0, st => st
  | t + 1, st => ul_i P N a t (ul_t P st a (N - (t + 1)))
def ul_o (P : Nat → Nat → Bool) (N : Nat) : Nat → ul_S → ul_S
  | 0, st => st
  | r + 1, st => ul_o P N r (ul_i P N (N - (r + 1)) r st)
theorem ul_t_keep {P : Nat → Nat → Bool} {st : ul_S} {a b : Nat} (h : 0 < st.1) : (ul_t P st a b).2 = st.2 ∧ 0 < (ul_t P st a b).1 := by
  unfold ul_t
  split
  · refine ⟨?_, by show 0 < st.1 + 1; omega⟩
    show (_, _) = st.2
    rw [if_neg (by omega), if_neg (by omega)]
  · exact ⟨rfl, h⟩
theorem ul_i_keep {P : Nat → Nat → Bool} {N a : Nat} : ∀ t st, 0 < st.1 → (ul_i P N a t st).2 = st.2 ∧ 0 < (ul_i P N a t st).1
  | 0, st, h => ⟨rfl, h⟩
  | t + 1, st, h => by
    obtain ⟨e1, e2⟩ := ul_t_keep (P := P) (a := a) (b := N - (t + 1)) h
    obtain ⟨f1, f2⟩ := ul_i_keep (P := P) (N := N) (a := a) t _ e2
    exact ⟨f1.trans e1, f2⟩
theorem ul_o_keep {P : Nat → Nat → Bool} {N : Nat} : ∀ r st, 0 < st.1 → (ul_o P N r st).2 = st.2 ∧ 0 < (ul_o P N r st).1
  | 0, st, h => ⟨rfl, h⟩
  | r + 1, st, h => by
    obtain ⟨e1, e2⟩ := ul_i_keep (P := P) (N := N) (a := N - (r + 1)) r _ h
    obtain ⟨f1, f2⟩ := ul_o_keep (P := P) (N := N) r _ e2
    exact ⟨f1.trans e1, f2⟩
def ul_ok (st : ul_S) : Prop := st.1 = 0 → st.2 = (-1, -1)
theorem ul_t_ok {P : Nat → Nat → Bool} {st : ul_S} {a b : Nat} (h : ul_ok st) : ul_ok (ul_t P st a b) := by
  unfold ul_t
  split
  · exact fun z => absurd (show st.1 + 1 = 0 from z) (by omega)
  · exact h
theorem ul_t_le {P : Nat → Nat → Bool} {st : ul_S} {a b : Nat} : (ul_t P st a b).1 ≤ st.1 + 1 := by
  unfold ul_t
  split
  · exact Nat.le_refl _
  · omega
theorem ul_i_le {P : Nat → Nat → Bool} {N a : Nat} : ∀ t st, (ul_i P N a t st).1 ≤ st.1 + t
  | 0, st => Nat.le_refl _
  | t + 1, st => by
    have h1 := ul_i_le (P := P) (N := N) (a := a) t (ul_t P st a (N - (t + 1)))
    have h2 := ul_t_le (P := P) (st := st) (a := a) (b := N - (t + 1))
    show (ul_i P N a t (ul_t P st a (N - (t + 1)))).1 ≤ _
    omega
theorem ul_i_ok {P : Nat → Nat → Bool} {N a : Nat} : ∀ t st, ul_ok st → ul_ok (ul_i P N a t st)
  | 0, _, h => h
  | t + 1, _, h => ul_i_ok t _ (ul_t_ok h)
def ul_R (u : Int32) (F : ul_S) : Int32 := if u = 0 then nI F.1 else if u = 1 then F.2.1 else F.2.2
def ulP (S : pm_S) (a b : Nat) : Bool := decide ((fdd S a ∧ fdd S b ∧ alk S (pm_i S 59 0) a b) ∧ ¬ pm_i S 69 a = pm_i S 69 b)
theorem cl_134 {G : pm_G} {d : Nat} {A : iv_A} {S T : pm_S} {u : Int32} {q : Int32 → pm_S → Prop} (hd : 3 ≤ d) (hI : Inv A S) (hs : sc S T) (h17 : ∀ a, a < iv_c S 18 → fdd S a → pm_i T (iv_m A a) 17 = nI (wsC S a (pm_i S 59 0))) (hu : u = 0 ∨ u = 1 ∨ u = 2) : ∀ r (X : Value) st, r ≤ iv_c S 18 → (u = 0 ∨ st.1 = 0) → ul_ok st → st.1 + r * 40 ≤ 1600 → q (ul_R u (ul_o (ulP S) (iv_c S 18) r st)) T → pm_W G d 134 (pm_QI q) 19 [.ref 0, .int u, .int (nI st.1), .int (nI (iv_c S 18 - r)), X] [] T 0 0 := by
  have hM := hI.mi
  obtain ⟨n40, hn⟩ := MI.c18 hM
  have hIT := hI.sc hs
  have hT := hIT.sh
  have e4 : pm_i T 0 4 = nI (iv_c S 18) := by rw [hIT.e0_4, hs.m18]; exact hn
  intro r
  induction r with
  | zero =>
    intro X st hr hz hok hb hq
    have hq2 : q (ul_R u st) T := hq
    rw [Nat.sub_zero]
    refine pm_wb_ok pb_c134 1 19 0 _ _ _ _ _ ?_
    try simp only [pm_WI0, pm_WI1, pm_WI2, pm_WI3, pm_WI4, pm_WI5, pm_WV, pm_WW, pm_WX, pb_B134, pm_if, pm_QI_at, pm_QL_at, pm_QV_at, pm_QR_at, pm_QR_at0, pm_QR_at1, Nat.reduceSub, Nat.reduceAdd, List.replicate_zero, List.replicate_succ, true_and, and_true, true_or, or_true, and_self, reduceIte, Nat.reduceEqDiff, Nat.reduceLT, Nat.reduceLeDiff, Nat.reduceMul, false_and, and_false, reduceCtorEq, false_or, or_false, not_true_eq_false, not_false_eq_true, true_implies, false_implies, implies_true, lf_10, eq_self, Int32.reduceLT, Int32.reduceLE, Int32.reduceAdd, Int32.reduceSub, pm_same, pm_i_wI, pm_l_wL, pm_l_wM, pm_oR_rf, pm_oQ_rf, sh_k0 hT, sh_r0_3 hT, sh_k4 hT, sh_z4 hT, nI_1, LQ1, LQ2, LQ5, e4, Int32.le_refl]
    unfold ul_R at hq2
    rcases hu with rfl | rfl | rfl
    · rw [if_pos rfl] at hq2
      try refine pm_wb_ok pb_c134 2 113 0 _ _ _ _ _ ?_
      try simp only [pm_WI0, pm_WI1, pm_WI2, pm_WI3, pm_WI4, pm_WI5, pm_WV, pm_WW, pm_WX, pb_B134, pm_if, pm_QI_at, pm_QL_at, pm_QV_at, pm_QR_at, pm_QR_at0, pm_QR_at1, Nat.reduceSub, Nat.reduceAdd, List.replicate_zero, List.replicate_succ, true_and, and_true, true_or, or_true, and_self, reduceIte, Nat.reduceEqDiff, Nat.reduceLT, Nat.reduceLeDiff, Nat.reduceMul, false_and, and_false, reduceCtorEq, false_or, or_false, not_true_eq_false, not_false_eq_true, true_implies, false_implies, implies_true, lf_10, eq_self, Int32.reduceLT, Int32.reduceLE, Int32.reduceAdd, Int32.reduceSub, pm_same, pm_i_wI, pm_l_wL, pm_l_wM, pm_oR_rf, pm_oQ_rf, sh_k0 hT, sh_r0_3 hT, sh_k4 hT, sh_z4 hT, nI_1, LQ1, LQ2, LQ5]
      exact hq2
    · have e1 := hok (hz.resolve_left (by decide))
      rw [if_neg (by decide), if_pos rfl, e1] at hq2
      try refine pm_wb_ok pb_c134 3 113 0 _ _ _ _ _ ?_
      try simp only [pm_WI0, pm_WI1, pm_WI2, pm_WI3, pm_WI4, pm_WI5, pm_WV, pm_WW, pm_WX, pb_B134, pm_if, pm_QI_at, pm_QL_at, pm_QV_at, pm_QR_at, pm_QR_at0, pm_QR_at1, Nat.reduceSub, Nat.reduceAdd, List.replicate_zero, List.replicate_succ, true_and, and_true, true_or, or_true, and_self, reduceIte, Nat.reduceEqDiff, Nat.reduceLT, Nat.reduceLeDiff, Nat.reduceMul, false_and, and_false, reduceCtorEq, false_or, or_false, not_true_eq_false, not_false_eq_true, true_implies, false_implies, implies_true, lf_10, eq_self, Int32.reduceLT, Int32.reduceLE, Int32.reduceAdd, Int32.reduceSub, pm_same, pm_i_wI, pm_l_wL, pm_l_wM, pm_oR_rf, pm_oQ_rf, sh_k0 hT, sh_r0_3 hT, sh_k4 hT, sh_z4 hT, nI_1, LQ1, LQ2, LQ5]
      exact hq2
    · have e1 := hok (hz.resolve_left (by decide))
      rw [if_neg (by decide), if_neg (by decide), e1] at hq2
      try refine pm_wb_ok pb_c134 3 113 0 _ _ _ _ _ ?_
      try simp only [pm_WI0, pm_WI1, pm_WI2, pm_WI3, pm_WI4, pm_WI5, pm_WV, pm_WW, pm_WX, pb_B134, pm_if, pm_QI_at, pm_QL_at, pm_QV_at, pm_QR_at, pm_QR_at0, pm_QR_at1, Nat.reduceSub, Nat.reduceAdd, List.replicate_zero, List.replicate_succ, true_and, and_true, true_or, or_true, and_self, reduceIte, Nat.reduceEqDiff, Nat.reduceLT, Nat.reduceLeDiff, Nat.reduceMul, false_and, and_false, reduceCtorEq, false_or, or_false, not_true_eq_false, not_false_eq_true, true_implies, false_implies, implies_true, lf_10, eq_self, Int32.reduceLT, Int32.reduceLE, Int32.reduceAdd, Int32.reduceSub, pm_same, pm_i_wI, pm_l_wL, pm_l_wM, pm_oR_rf, pm_oQ_rf, sh_k0 hT, sh_r0_3 hT, sh_k4 hT, sh_z4 hT, nI_1, LQ1, LQ2, LQ5]
      exact hq2
  | succ r ih =>
    intro X st hr hz hok hb hq
    generalize hA : iv_c S 18 - (r + 1) = a at *
    have haN : a < iv_c S 18 := by omega
    have inner : ∀ t st, t ≤ r → (u = 0 ∨ st.1 = 0) → ul_ok st → st.1 + t + r * 40 ≤ 1600 → q (ul_R u (ul_o (ulP S) (iv_c S 18) r (ul_i (ulP S) (iv_c S 18) a t st))) T → pm_W G d 134 (pm_QI q) 32 [.ref 0, .int u, .int (nI st.1), .int (nI a), .int (nI (iv_c S 18 - t))] [] T 0 0 := by
      intro t
      induction t with
      | zero =>
        intro st ht hz hok hb hq
        have nx := ih (.int (nI (iv_c S 18 - 0))) st (by omega) hz hok (by omega) hq
        have ea : nI (a + 1) = nI (iv_c S 18 - r) := by congr 1; omega
        refine pm_wb_ok pb_c134 2 32 0 _ _ _ _ _ ?_
        try simp only [pm_WI0, pm_WI1, pm_WI2, pm_WI3, pm_WI4, pm_WI5, pm_WV, pm_WW, pm_WX, pb_B134, pm_if, pm_QI_at, pm_QL_at, pm_QV_at, pm_QR_at, pm_QR_at0, pm_QR_at1, Nat.reduceSub, Nat.reduceAdd, List.replicate_zero, List.replicate_succ, true_and, and_true, true_or, or_true, and_self, reduceIte, Nat.reduceEqDiff, Nat.reduceLT, Nat.reduceLeDiff, Nat.reduceMul, false_and, and_false, reduceCtorEq, false_or, or_false, not_true_eq_false, not_false_eq_true, true_implies, false_implies, implies_true, lf_10, eq_self, Int32.reduceLT, Int32.reduceLE, Int32.reduceAdd, Int32.reduceSub, pm_same, pm_i_wI, pm_l_wL, pm_l_wM, pm_oR_rf, pm_oQ_rf, sh_k0 hT, sh_r0_3 hT, sh_k4 hT, sh_z4 hT, nI_1, LQ1, LQ2, LQ5, e4, Int32.le_refl, Nat.sub_zero]
        rw [ea]
        exact pv_W nx (by simp [pv_le, pm_unk])
      | succ t iht =>
        intro st ht hz hok hb hq
        generalize hB : iv_c S 18 - (t + 1) = b at *
        have hbN : b < iv_c S 18 := by omega
        have hle : ¬ nI (iv_c S 18) ≤ nI b := nI_ge hbN (by omega)
        have hca := nI_clamp (n := a) (by omega)
        have hcb := nI_clamp (n := b) (by omega)
        have hva := vp_in_nI (n := a) (N := 40) (by omega) (by decide)
        have hvb := vp_in_nI (n := b) (N := 40) (by omega) (by decide)
        have haT : a < iv_c T 18 := by rw [hs.c (by omega)]; exact haN
        have hbT : b < iv_c T 18 := by rw [hs.c (by omega)]; exact hbN
        have wa := hIT.row haT
        have wb := hIT.row hbT
        have eb : nI (b + 1) = nI (iv_c S 18 - t) := by congr 1; omega
        have f8a : pm_i T (iv_m A a) 8 = pm_i S 69 a := by rw [wa.f8, hs.r69]
        have f8b : pm_i T (iv_m A b) 8 = pm_i S 69 b := by rw [wb.f8, hs.r69]
        have L1 := wsC_lt hM a (pm_i S 59 0)
        have L2 := wsC_lt hM b (pm_i S 59 0)
        have efa : fdd T a ↔ fdd S a := by unfold fdd; rw [hs.r62]
        have efb : fdd T b ↔ fdd S b := by unfold fdd; rw [hs.r62]
        have hq' : q (ul_R u (ul_o (ulP S) (iv_c S 18) r (ul_i (ulP S) (iv_c S 18) a t (ul_t (ulP S) st a b)))) T := by
          have : ul_i (ulP S) (iv_c S 18) a (t + 1) st = ul_i (ulP S) (iv_c S 18) a t (ul_t (ulP S) st a (iv_c S 18 - (t + 1))) := rfl
          rw [this, hB] at hq; exact hq
        have no : ulP S a b = false → pm_W G d 134 (pm_QI q) 101 [.ref 0, .int u, .int (nI st.1), .int (nI a), .int (nI b)] [] T 0 0 := by
          intro e
          have e2 : ul_t (ulP S) st a b = st := by unfold ul_t; rw [e]; rfl
          rw [e2] at hq'
          have nx := iht st (by omega) hz hok (by omega) hq'
          refine pm_wb_ok pb_c134 1 101 0 _ _ _ _ _ ?_
          try simp only [pm_WI0, pm_WI1, pm_WI2, pm_WI3, pm_WI4, pm_WI5, pm_WV, pm_WW, pm_WX, pb_B134, pm_if, pm_QI_at, pm_QL_at, pm_QV_at, pm_QR_at, pm_QR_at0, pm_QR_at1, Nat.reduceSub, Nat.reduceAdd, List.replicate_zero, List.replicate_succ, true_and, and_true, true_or, or_true, and_self, reduceIte, Nat.reduceEqDiff, Nat.reduceLT, Nat.reduceLeDiff, Nat.reduceMul, false_and, and_false, reduceCtorEq, false_or, or_false, not_true_eq_false, not_false_eq_true, true_implies, false_implies, implies_true, lf_10, eq_self, Int32.reduceLT, Int32.reduceLE, Int32.reduceAdd, Int32.reduceSub, pm_same, pm_i_wI, pm_l_wL, pm_l_wM, pm_oR_rf, pm_oQ_rf, sh_k0 hT, sh_r0_3 hT, sh_k4 hT, sh_z4 hT, nI_1, LQ1, LQ2, LQ5]
          rw [eb]
          exact pv_W nx (by simp [pv_le, pm_unk])
        refine pm_wb_ok pb_c134 1 32 0 _ _ _ _ _ ?_
        try simp only [pm_WI0, pm_WI1, pm_WI2, pm_WI3, pm_WI4, pm_WI5, pm_WV, pm_WW, pm_WX, pb_B134, pm_if, pm_QI_at, pm_QL_at, pm_QV_at, pm_QR_at, pm_QR_at0, pm_QR_at1, Nat.reduceSub, Nat.reduceAdd, List.replicate_zero, List.replicate_succ, true_and, and_true, true_or, or_true, and_self, reduceIte, Nat.reduceEqDiff, Nat.reduceLT, Nat.reduceLeDiff, Nat.reduceMul, false_and, and_false, reduceCtorEq, false_or, or_false, not_true_eq_false, not_false_eq_true, true_implies, false_implies, implies_true, lf_10, eq_self, Int32.reduceLT, Int32.reduceLE, Int32.reduceAdd, Int32.reduceSub, pm_same, pm_i_wI, pm_l_wL, pm_l_wM, pm_oR_rf, pm_oQ_rf, sh_k0 hT, sh_r0_3 hT, sh_k4 hT, sh_z4 hT, nI_1, LQ1, LQ2, LQ5, e4, hle, hca, hcb, wa.r, wb.r]
        refine ⟨hva, hvb, by omega, cl_133 (ca := wsC S a (pm_i S 59 0)) (cb := wsC S b (pm_i S 59 0)) (by omega) hIT haT hbT (fun z => h17 a haN (efa.mp z)) (fun z => h17 b hbN (efb.mp z)) (by omega) (by omega) (fun y1 y2 e => ?_) (fun e => ?_)⟩
        · try simp only [pm_WV, pm_WW, true_and, and_true, true_or, or_true, and_self, reduceIte, Nat.reduceEqDiff, Nat.reduceLT, Nat.reduceLeDiff, Nat.reduceMul, false_and, and_false, reduceCtorEq, false_or, or_false, not_true_eq_false, not_false_eq_true, true_implies, false_implies, implies_true, lf_10, eq_self, Int32.reduceLT, Int32.reduceLE, Int32.reduceAdd, Int32.reduceSub, pm_same, pm_i_wI, pm_l_wL, pm_l_wM, pm_oR_rf, pm_oQ_rf, nI_1, sw_e, LQ1, LQ2, pm_WI0, pm_WI1, pm_WI2, pm_WI3, pm_WI4, pm_WI5, pm_WV, pm_WW, pm_WX, pb_B134, pm_if, pm_QI_at, pm_QL_at, pm_QV_at, pm_QR_at, pm_QR_at0, pm_QR_at1, Nat.reduceSub, Nat.reduceAdd, List.replicate_zero, List.replicate_succ, true_and, and_true, true_or, or_true, and_self, reduceIte, Nat.reduceEqDiff, Nat.reduceLT, Nat.reduceLeDiff, Nat.reduceMul, false_and, and_false, reduceCtorEq, false_or, or_false, not_true_eq_false, not_false_eq_true, true_implies, false_implies, implies_true, lf_10, eq_self, Int32.reduceLT, Int32.reduceLE, Int32.reduceAdd, Int32.reduceSub, pm_same, pm_i_wI, pm_l_wL, pm_l_wM, pm_oR_rf, pm_oQ_rf, sh_k0 hT, sh_r0_3 hT, sh_k4 hT, sh_z4 hT, nI_1, LQ1, LQ2, LQ5, hca, hcb, wa.r, wb.r, wa.k, wb.k, f8a, f8b]
          refine ⟨hva, hvb, fun z => ?_, fun z => ?_⟩
          · have := no (decide_eq_false (fun y => y.2 z))
            exact pv_W this (by simp [pv_le, pm_unk])
          · have yes : ulP S a b = true := by
              rw [hs.r64, hs.r65] at e
              exact decide_eq_true ⟨⟨efa.mp y1, efb.mp y2, e⟩, z⟩
            have e2 : ul_t (ulP S) st a b = (st.1 + 1, if st.1 = 0 then nI a else st.2.1, if st.1 = 0 then nI b else st.2.2) := by unfold ul_t; rw [yes]; rfl
            rw [e2] at hq'
            rcases hu with rfl | rfl | rfl
            · have nx := iht _ (by omega) (Or.inl rfl) (fun z => absurd (show st.1 + 1 = 0 from z) (by omega)) (by show st.1 + 1 + t + r * 40 ≤ 1600; omega) hq'
              try simp only [pm_WV, pm_WW, true_and, and_true, true_or, or_true, and_self, reduceIte, Nat.reduceEqDiff, Nat.reduceLT, Nat.reduceLeDiff, Nat.reduceMul, false_and, and_false, reduceCtorEq, false_or, or_false, not_true_eq_false, not_false_eq_true, true_implies, false_implies, implies_true, lf_10, eq_self, Int32.reduceLT, Int32.reduceLE, Int32.reduceAdd, Int32.reduceSub, pm_same, pm_i_wI, pm_l_wL, pm_l_wM, pm_oR_rf, pm_oQ_rf, nI_1, sw_e, LQ1, LQ2, pm_WI0, pm_WI1, pm_WI2, pm_WI3, pm_WI4, pm_WI5, pm_WV, pm_WW, pm_WX, pb_B134, pm_if, pm_QI_at, pm_QL_at, pm_QV_at, pm_QR_at, pm_QR_at0, pm_QR_at1, Nat.reduceSub, Nat.reduceAdd, List.replicate_zero, List.replicate_succ, true_and, and_true, true_or, or_true, and_self, reduceIte, Nat.reduceEqDiff, Nat.reduceLT, Nat.reduceLeDiff, Nat.reduceMul, false_and, and_false, reduceCtorEq, false_or, or_false, not_true_eq_false, not_false_eq_true, true_implies, false_implies, implies_true, lf_10, eq_self, Int32.reduceLT, Int32.reduceLE, Int32.reduceAdd, Int32.reduceSub, pm_same, pm_i_wI, pm_l_wL, pm_l_wM, pm_oR_rf, pm_oQ_rf, sh_k0 hT, sh_r0_3 hT, sh_k4 hT, sh_z4 hT, nI_1, LQ1, LQ2, LQ5]
              try refine pm_wb_ok pb_c134 2 98 0 _ _ _ _ _ ?_
              try simp only [pm_WI0, pm_WI1, pm_WI2, pm_WI3, pm_WI4, pm_WI5, pm_WV, pm_WW, pm_WX, pb_B134, pm_if, pm_QI_at, pm_QL_at, pm_QV_at, pm_QR_at, pm_QR_at0, pm_QR_at1, Nat.reduceSub, Nat.reduceAdd, List.replicate_zero, List.replicate_succ, true_and, and_true, true_or, or_true, and_self, reduceIte, Nat.reduceEqDiff, Nat.reduceLT, Nat.reduceLeDiff, Nat.reduceMul, false_and, and_false, reduceCtorEq, false_or, or_false, not_true_eq_false, not_false_eq_true, true_implies, false_implies, implies_true, lf_10, eq_self, Int32.reduceLT, Int32.reduceLE, Int32.reduceAdd, Int32.reduceSub, pm_same, pm_i_wI, pm_l_wL, pm_l_wM, pm_oR_rf, pm_oQ_rf, sh_k0 hT, sh_r0_3 hT, sh_k4 hT, sh_z4 hT, nI_1, LQ1, LQ2, LQ5]
              rw [eb]
              exact pv_W nx (by simp [pv_le, pm_unk])
            · have z0 : st.1 = 0 := hz.resolve_left (by decide)
              have k1 := ul_i_keep (P := ulP S) (N := iv_c S 18) (a := a) t (st.1 + 1, if st.1 = 0 then nI a else st.2.1, if st.1 = 0 then nI b else st.2.2) (by show 0 < st.1 + 1; omega)
              have k2 := ul_o_keep (P := ulP S) (N := iv_c S 18) r _ k1.2
              unfold ul_R at hq'
              rw [if_neg (by decide), if_pos rfl, k2.1, k1.1] at hq'
              have hq2 : q (if st.1 = 0 then nI a else st.2.1) T := hq'
              rw [if_pos z0] at hq2
              try simp only [pm_WV, pm_WW, true_and, and_true, true_or, or_true, and_self, reduceIte, Nat.reduceEqDiff, Nat.reduceLT, Nat.reduceLeDiff, Nat.reduceMul, false_and, and_false, reduceCtorEq, false_or, or_false, not_true_eq_false, not_false_eq_true, true_implies, false_implies, implies_true, lf_10, eq_self, Int32.reduceLT, Int32.reduceLE, Int32.reduceAdd, Int32.reduceSub, pm_same, pm_i_wI, pm_l_wL, pm_l_wM, pm_oR_rf, pm_oQ_rf, nI_1, sw_e, LQ1, LQ2, pm_WI0, pm_WI1, pm_WI2, pm_WI3, pm_WI4, pm_WI5, pm_WV, pm_WW, pm_WX, pb_B134, pm_if, pm_QI_at, pm_QL_at, pm_QV_at, pm_QR_at, pm_QR_at0, pm_QR_at1, Nat.reduceSub, Nat.reduceAdd, List.replicate_zero, List.replicate_succ, true_and, and_true, true_or, or_true, and_self, reduceIte, Nat.reduceEqDiff, Nat.reduceLT, Nat.reduceLeDiff, Nat.reduceMul, false_and, and_false, reduceCtorEq, false_or, or_false, not_true_eq_false, not_false_eq_true, true_implies, false_implies, implies_true, lf_10, eq_self, Int32.reduceLT, Int32.reduceLE, Int32.reduceAdd, Int32.reduceSub, pm_same, pm_i_wI, pm_l_wL, pm_l_wM, pm_oR_rf, pm_oQ_rf, sh_k0 hT, sh_r0_3 hT, sh_k4 hT, sh_z4 hT, nI_1, LQ1, LQ2, LQ5]
              try refine pm_wb_ok pb_c134 2 95 0 _ _ _ _ _ ?_
              try simp only [pm_WI0, pm_WI1, pm_WI2, pm_WI3, pm_WI4, pm_WI5, pm_WV, pm_WW, pm_WX, pb_B134, pm_if, pm_QI_at, pm_QL_at, pm_QV_at, pm_QR_at, pm_QR_at0, pm_QR_at1, Nat.reduceSub, Nat.reduceAdd, List.replicate_zero, List.replicate_succ, true_and, and_true, true_or, or_true, and_self, reduceIte, Nat.reduceEqDiff, Nat.reduceLT, Nat.reduceLeDiff, Nat.reduceMul, false_and, and_false, reduceCtorEq, false_or, or_false, not_true_eq_false, not_false_eq_true, true_implies, false_implies, implies_true, lf_10, eq_self, Int32.reduceLT, Int32.reduceLE, Int32.reduceAdd, Int32.reduceSub, pm_same, pm_i_wI, pm_l_wL, pm_l_wM, pm_oR_rf, pm_oQ_rf, sh_k0 hT, sh_r0_3 hT, sh_k4 hT, sh_z4 hT, nI_1, LQ1, LQ2, LQ5]
              first | exact hq2 | (refine pm_wb_ok pb_c134 1 97 0 _ _ _ _ _ ?_; simp only [pm_WI0, pm_WI1, pm_WI2, pm_WI3, pm_WI4, pm_WI5, pm_WV, pm_WW, pm_WX, pb_B134, pm_if, pm_QI_at, pm_QL_at, pm_QV_at, pm_QR_at, pm_QR_at0, pm_QR_at1, Nat.reduceSub, Nat.reduceAdd, List.replicate_zero, List.replicate_succ, true_and, and_true, true_or, or_true, and_self, reduceIte, Nat.reduceEqDiff, Nat.reduceLT, Nat.reduceLeDiff, Nat.reduceMul, false_and, and_false, reduceCtorEq, false_or, or_false, not_true_eq_false, not_false_eq_true, true_implies, false_implies, implies_true, lf_10, eq_self, Int32.reduceLT, Int32.reduceLE, Int32.reduceAdd, Int32.reduceSub, pm_same, pm_i_wI, pm_l_wL, pm_l_wM, pm_oR_rf, pm_oQ_rf, sh_k0 hT, sh_r0_3 hT, sh_k4 hT, sh_z4 hT, nI_1, LQ1, LQ2, LQ5]; exact hq2) | skip
            · have z0 : st.1 = 0 := hz.resolve_left (by decide)
              have k1 := ul_i_keep (P := ulP S) (N := iv_c S 18) (a := a) t (st.1 + 1, if st.1 = 0 then nI a else st.2.1, if st.1 = 0 then nI b else st.2.2) (by show 0 < st.1 + 1; omega)
              have k2 := ul_o_keep (P := ulP S) (N := iv_c S 18) r _ k1.2
              unfold ul_R at hq'
              rw [if_neg (by decide), if_neg (by decide), k2.1, k1.1] at hq'
              have hq2 : q (if st.1 = 0 then nI b else st.2.2) T := hq'
              rw [if_pos z0] at hq2
              try simp only [pm_WV, pm_WW, true_and, and_true, true_or, or_true, and_self, reduceIte, Nat.reduceEqDiff, Nat.reduceLT, Nat.reduceLeDiff, Nat.reduceMul, false_and, and_false, reduceCtorEq, false_or, or_false, not_true_eq_false, not_false_eq_true, true_implies, false_implies, implies_true, lf_10, eq_self, Int32.reduceLT, Int32.reduceLE, Int32.reduceAdd, Int32.reduceSub, pm_same, pm_i_wI, pm_l_wL, pm_l_wM, pm_oR_rf, pm_oQ_rf, nI_1, sw_e, LQ1, LQ2, pm_WI0, pm_WI1, pm_WI2, pm_WI3, pm_WI4, pm_WI5, pm_WV, pm_WW, pm_WX, pb_B134, pm_if, pm_QI_at, pm_QL_at, pm_QV_at, pm_QR_at, pm_QR_at0, pm_QR_at1, Nat.reduceSub, Nat.reduceAdd, List.replicate_zero, List.replicate_succ, true_and, and_true, true_or, or_true, and_self, reduceIte, Nat.reduceEqDiff, Nat.reduceLT, Nat.reduceLeDiff, Nat.reduceMul, false_and, and_false, reduceCtorEq, false_or, or_false, not_true_eq_false, not_false_eq_true, true_implies, false_implies, implies_true, lf_10, eq_self, Int32.reduceLT, Int32.reduceLE, Int32.reduceAdd, Int32.reduceSub, pm_same, pm_i_wI, pm_l_wL, pm_l_wM, pm_oR_rf, pm_oQ_rf, sh_k0 hT, sh_r0_3 hT, sh_k4 hT, sh_z4 hT, nI_1, LQ1, LQ2, LQ5]
              try refine pm_wb_ok pb_c134 2 95 0 _ _ _ _ _ ?_
              try simp only [pm_WI0, pm_WI1, pm_WI2, pm_WI3, pm_WI4, pm_WI5, pm_WV, pm_WW, pm_WX, pb_B134, pm_if, pm_QI_at, pm_QL_at, pm_QV_at, pm_QR_at, pm_QR_at0, pm_QR_at1, Nat.reduceSub, Nat.reduceAdd, List.replicate_zero, List.replicate_succ, true_and, and_true, true_or, or_true, and_self, reduceIte, Nat.reduceEqDiff, Nat.reduceLT, Nat.reduceLeDiff, Nat.reduceMul, false_and, and_false, reduceCtorEq, false_or, or_false, not_true_eq_false, not_false_eq_true, true_implies, false_implies, implies_true, lf_10, eq_self, Int32.reduceLT, Int32.reduceLE, Int32.reduceAdd, Int32.reduceSub, pm_same, pm_i_wI, pm_l_wL, pm_l_wM, pm_oR_rf, pm_oQ_rf, sh_k0 hT, sh_r0_3 hT, sh_k4 hT, sh_z4 hT, nI_1, LQ1, LQ2, LQ5]
              first | exact hq2 | (refine pm_wb_ok pb_c134 1 97 0 _ _ _ _ _ ?_; simp only [pm_WI0, pm_WI1, pm_WI2, pm_WI3, pm_WI4, pm_WI5, pm_WV, pm_WW, pm_WX, pb_B134, pm_if, pm_QI_at, pm_QL_at, pm_QV_at, pm_QR_at, pm_QR_at0, pm_QR_at1, Nat.reduceSub, Nat.reduceAdd, List.replicate_zero, List.replicate_succ, true_and, and_true, true_or, or_true, and_self, reduceIte, Nat.reduceEqDiff, Nat.reduceLT, Nat.reduceLeDiff, Nat.reduceMul, false_and, and_false, reduceCtorEq, false_or, or_false, not_true_eq_false, not_false_eq_true, true_implies, false_implies, implies_true, lf_10, eq_self, Int32.reduceLT, Int32.reduceLE, Int32.reduceAdd, Int32.reduceSub, pm_same, pm_i_wI, pm_l_wL, pm_l_wM, pm_oR_rf, pm_oQ_rf, sh_k0 hT, sh_r0_3 hT, sh_k4 hT, sh_z4 hT, nI_1, LQ1, LQ2, LQ5]; exact hq2) | skip
        · have := no (decide_eq_false (fun y => e ⟨efa.mpr y.1.1, efb.mpr y.1.2.1, by rw [hs.r64, hs.r65]; exact y.1.2.2⟩))
          try simp only [pm_WV, pm_WW, true_and, and_true, true_or, or_true, and_self, reduceIte, Nat.reduceEqDiff, Nat.reduceLT, Nat.reduceLeDiff, Nat.reduceMul, false_and, and_false, reduceCtorEq, false_or, or_false, not_true_eq_false, not_false_eq_true, true_implies, false_implies, implies_true, lf_10, eq_self, Int32.reduceLT, Int32.reduceLE, Int32.reduceAdd, Int32.reduceSub, pm_same, pm_i_wI, pm_l_wL, pm_l_wM, pm_oR_rf, pm_oQ_rf, nI_1, sw_e, LQ1, LQ2, pm_WI0, pm_WI1, pm_WI2, pm_WI3, pm_WI4, pm_WI5, pm_WV, pm_WW, pm_WX, pb_B134, pm_if, pm_QI_at, pm_QL_at, pm_QV_at, pm_QR_at, pm_QR_at0, pm_QR_at1, Nat.reduceSub, Nat.reduceAdd, List.replicate_zero, List.replicate_succ, true_and, and_true, true_or, or_true, and_self, reduceIte, Nat.reduceEqDiff, Nat.reduceLT, Nat.reduceLeDiff, Nat.reduceMul, false_and, and_false, reduceCtorEq, false_or, or_false, not_true_eq_false, not_false_eq_true, true_implies, false_implies, implies_true, lf_10, eq_self, Int32.reduceLT, Int32.reduceLE, Int32.reduceAdd, Int32.reduceSub, pm_same, pm_i_wI, pm_l_wL, pm_l_wM, pm_oR_rf, pm_oQ_rf, sh_k0 hT, sh_r0_3 hT, sh_k4 hT, sh_z4 hT, nI_1, LQ1, LQ2, LQ5]
          exact pv_W this (by simp [pv_le, pm_unk])
    have hle : ¬ nI (iv_c S 18) ≤ nI a := nI_ge haN (by omega)
    have ea : nI (a + 1) = nI (iv_c S 18 - r) := by congr 1; omega
    have k0 := inner r st (Nat.le_refl r) hz hok (by omega) (by rw [← hA]; exact hq)
    refine pm_wb_ok pb_c134 1 19 0 _ _ _ _ _ ?_
    try simp only [pm_WI0, pm_WI1, pm_WI2, pm_WI3, pm_WI4, pm_WI5, pm_WV, pm_WW, pm_WX, pb_B134, pm_if, pm_QI_at, pm_QL_at, pm_QV_at, pm_QR_at, pm_QR_at0, pm_QR_at1, Nat.reduceSub, Nat.reduceAdd, List.replicate_zero, List.replicate_succ, true_and, and_true, true_or, or_true, and_self, reduceIte, Nat.reduceEqDiff, Nat.reduceLT, Nat.reduceLeDiff, Nat.reduceMul, false_and, and_false, reduceCtorEq, false_or, or_false, not_true_eq_false, not_false_eq_true, true_implies, false_implies, implies_true, lf_10, eq_self, Int32.reduceLT, Int32.reduceLE, Int32.reduceAdd, Int32.reduceSub, pm_same, pm_i_wI, pm_l_wL, pm_l_wM, pm_oR_rf, pm_oQ_rf, sh_k0 hT, sh_r0_3 hT, sh_k4 hT, sh_z4 hT, nI_1, LQ1, LQ2, LQ5, e4, hle]
    rw [ea]
    exact pv_W k0 (by simp [pv_le, pm_unk])
theorem mo_231 {G : pm_G} {d : Nat} {S : pm_S} {u : Int32} {q : Int32 → pm_S → Prop} (hd : 37 ≤ d) (hM : iv_MI S) (hu : u = 0 ∨ u = 1 ∨ u = 2) : ∀ r (X : Value) st T, r ≤ iv_c S 18 → sc S T → st.1 + r * 40 ≤ 1600 → (∀ U, sc S U → q (ul_R u (ul_o (ulP S) (iv_c S 18) r st)) U) → pm_W G d 231 (pm_QI q) 21 [.ref 59, .int u, .int (nI st.1), .int st.2.1, .int st.2.2, .int (nI (iv_c S 18 - r)), X] [] T 0 0 := by
  obtain ⟨n40, hn⟩ := MI.c18 hM
  intro r
  induction r with
  | zero =>
    intro X st T hr hs hb hq
    have hT := hs.sh hM.1
    have e4 : pm_i T 59 18 = nI (iv_c S 18) := by rw [hs.m18]; exact hn
    have hq2 : q (ul_R u st) T := hq T hs
    rw [Nat.sub_zero]
    refine pm_wb_ok pb_c231 1 21 0 _ _ _ _ _ ?_
    try simp only [pm_WI0, pm_WI1, pm_WI2, pm_WI3, pm_WI4, pm_WI5, pm_WV, pm_WW, pm_WX, pb_B231, pm_if, pm_QI_at, pm_QL_at, pm_QV_at, pm_QR_at, pm_QR_at0, pm_QR_at1, Nat.reduceSub, Nat.reduceAdd, List.replicate_zero, List.replicate_succ, true_and, and_true, true_or, or_true, and_self, reduceIte, Nat.reduceEqDiff, Nat.reduceLT, Nat.reduceLeDiff, Nat.reduceMul, false_and, and_false, reduceCtorEq, false_or, or_false, not_true_eq_false, not_false_eq_true, true_implies, false_implies, implies_true, lf_10, eq_self, Int32.reduceLT, Int32.reduceLE, Int32.reduceAdd, Int32.reduceSub, pm_same, pm_i_wI, pm_l_wL, pm_l_wM, pm_oR_rf, pm_oQ_rf, sh_k59 hT, sh_r59_12 hT, sh_k69 hT, sh_z69 hT, nI_1, LQ1, LQ2, LQ5, e4, Int32.le_refl]
    unfold ul_R at hq2
    rcases hu with rfl | rfl | rfl
    · rw [if_pos rfl] at hq2
      try refine pm_wb_ok pb_c231 2 130 0 _ _ _ _ _ ?_
      try simp only [pm_WI0, pm_WI1, pm_WI2, pm_WI3, pm_WI4, pm_WI5, pm_WV, pm_WW, pm_WX, pb_B231, pm_if, pm_QI_at, pm_QL_at, pm_QV_at, pm_QR_at, pm_QR_at0, pm_QR_at1, Nat.reduceSub, Nat.reduceAdd, List.replicate_zero, List.replicate_succ, true_and, and_true, true_or, or_true, and_self, reduceIte, Nat.reduceEqDiff, Nat.reduceLT, Nat.reduceLeDiff, Nat.reduceMul, false_and, and_false, reduceCtorEq, false_or, or_false, not_true_eq_false, not_false_eq_true, true_implies, false_implies, implies_true, lf_10, eq_self, Int32.reduceLT, Int32.reduceLE, Int32.reduceAdd, Int32.reduceSub, pm_same, pm_i_wI, pm_l_wL, pm_l_wM, pm_oR_rf, pm_oQ_rf, sh_k59 hT, sh_r59_12 hT, sh_k69 hT, sh_z69 hT, nI_1, LQ1, LQ2, LQ5]
      first | exact hq2 | (refine pm_wb_ok pb_c231 1 149 0 _ _ _ _ _ ?_; simp only [pm_WI0, pm_WI1, pm_WI2, pm_WI3, pm_WI4, pm_WI5, pm_WV, pm_WW, pm_WX, pb_B231, pm_if, pm_QI_at, pm_QL_at, pm_QV_at, pm_QR_at, pm_QR_at0, pm_QR_at1, Nat.reduceSub, Nat.reduceAdd, List.replicate_zero, List.replicate_succ, true_and, and_true, true_or, or_true, and_self, reduceIte, Nat.reduceEqDiff, Nat.reduceLT, Nat.reduceLeDiff, Nat.reduceMul, false_and, and_false, reduceCtorEq, false_or, or_false, not_true_eq_false, not_false_eq_true, true_implies, false_implies, implies_true, lf_10, eq_self, Int32.reduceLT, Int32.reduceLE, Int32.reduceAdd, Int32.reduceSub, pm_same, pm_i_wI, pm_l_wL, pm_l_wM, pm_oR_rf, pm_oQ_rf, sh_k59 hT, sh_r59_12 hT, sh_k69 hT, sh_z69 hT, nI_1, LQ1, LQ2, LQ5]; exact hq2)
    · rw [if_neg (by decide), if_pos rfl] at hq2
      try refine pm_wb_ok pb_c231 3 130 0 _ _ _ _ _ ?_
      try simp only [pm_WI0, pm_WI1, pm_WI2, pm_WI3, pm_WI4, pm_WI5, pm_WV, pm_WW, pm_WX, pb_B231, pm_if, pm_QI_at, pm_QL_at, pm_QV_at, pm_QR_at, pm_QR_at0, pm_QR_at1, Nat.reduceSub, Nat.reduceAdd, List.replicate_zero, List.replicate_succ, true_and, and_true, true_or, or_true, and_self, reduceIte, Nat.reduceEqDiff, Nat.reduceLT, Nat.reduceLeDiff, Nat.reduceMul, false_and, and_false, reduceCtorEq, false_or, or_false, not_true_eq_false, not_false_eq_true, true_implies, false_implies, implies_true, lf_10, eq_self, Int32.reduceLT, Int32.reduceLE, Int32.reduceAdd, Int32.reduceSub, pm_same, pm_i_wI, pm_l_wL, pm_l_wM, pm_oR_rf, pm_oQ_rf, sh_k59 hT, sh_r59_12 hT, sh_k69 hT, sh_z69 hT, nI_1, LQ1, LQ2, LQ5]
      first | exact hq2 | (refine pm_wb_ok pb_c231 1 149 0 _ _ _ _ _ ?_; simp only [pm_WI0, pm_WI1, pm_WI2, pm_WI3, pm_WI4, pm_WI5, pm_WV, pm_WW, pm_WX, pb_B231, pm_if, pm_QI_at, pm_QL_at, pm_QV_at, pm_QR_at, pm_QR_at0, pm_QR_at1, Nat.reduceSub, Nat.reduceAdd, List.replicate_zero, List.replicate_succ, true_and, and_true, true_or, or_true, and_self, reduceIte, Nat.reduceEqDiff, Nat.reduceLT, Nat.reduceLeDiff, Nat.reduceMul, false_and, and_false, reduceCtorEq, false_or, or_false, not_true_eq_false, not_false_eq_true, true_implies, false_implies, implies_true, lf_10, eq_self, Int32.reduceLT, Int32.reduceLE, Int32.reduceAdd, Int32.reduceSub, pm_same, pm_i_wI, pm_l_wL, pm_l_wM, pm_oR_rf, pm_oQ_rf, sh_k59 hT, sh_r59_12 hT, sh_k69 hT, sh_z69 hT, nI_1, LQ1, LQ2, LQ5]; exact hq2)
    · rw [if_neg (by decide), if_neg (by decide)] at hq2
      try refine pm_wb_ok pb_c231 4 130 0 _ _ _ _ _ ?_
      try simp only [pm_WI0, pm_WI1, pm_WI2, pm_WI3, pm_WI4, pm_WI5, pm_WV, pm_WW, pm_WX, pb_B231, pm_if, pm_QI_at, pm_QL_at, pm_QV_at, pm_QR_at, pm_QR_at0, pm_QR_at1, Nat.reduceSub, Nat.reduceAdd, List.replicate_zero, List.replicate_succ, true_and, and_true, true_or, or_true, and_self, reduceIte, Nat.reduceEqDiff, Nat.reduceLT, Nat.reduceLeDiff, Nat.reduceMul, false_and, and_false, reduceCtorEq, false_or, or_false, not_true_eq_false, not_false_eq_true, true_implies, false_implies, implies_true, lf_10, eq_self, Int32.reduceLT, Int32.reduceLE, Int32.reduceAdd, Int32.reduceSub, pm_same, pm_i_wI, pm_l_wL, pm_l_wM, pm_oR_rf, pm_oQ_rf, sh_k59 hT, sh_r59_12 hT, sh_k69 hT, sh_z69 hT, nI_1, LQ1, LQ2, LQ5]
      first | exact hq2 | (refine pm_wb_ok pb_c231 1 149 0 _ _ _ _ _ ?_; simp only [pm_WI0, pm_WI1, pm_WI2, pm_WI3, pm_WI4, pm_WI5, pm_WV, pm_WW, pm_WX, pb_B231, pm_if, pm_QI_at, pm_QL_at, pm_QV_at, pm_QR_at, pm_QR_at0, pm_QR_at1, Nat.reduceSub, Nat.reduceAdd, List.replicate_zero, List.replicate_succ, true_and, and_true, true_or, or_true, and_self, reduceIte, Nat.reduceEqDiff, Nat.reduceLT, Nat.reduceLeDiff, Nat.reduceMul, false_and, and_false, reduceCtorEq, false_or, or_false, not_true_eq_false, not_false_eq_true, true_implies, false_implies, implies_true, lf_10, eq_self, Int32.reduceLT, Int32.reduceLE, Int32.reduceAdd, Int32.reduceSub, pm_same, pm_i_wI, pm_l_wL, pm_l_wM, pm_oR_rf, pm_oQ_rf, sh_k59 hT, sh_r59_12 hT, sh_k69 hT, sh_z69 hT, nI_1, LQ1, LQ2, LQ5]; exact hq2)
  | succ r ih =>
    intro X st T hr hs hb hq
    have hT := hs.sh hM.1
    have e4 : pm_i T 59 18 = nI (iv_c S 18) := by rw [hs.m18]; exact hn
    generalize hA : iv_c S 18 - (r + 1) = a at *
    have haN : a < iv_c S 18 := by omega
    have inner : ∀ t st T, t ≤ r → sc S T → st.1 + t + r * 40 ≤ 1600 → (∀ U, sc S U → q (ul_R u (ul_o (ulP S) (iv_c S 18) r (ul_i (ulP S) (iv_c S 18) a t st))) U) → pm_W G d 231 (pm_QI q) 36 [.ref 59, .int u, .int (nI st.1), .int st.2.1, .int st.2.2, .int (nI a), .int (nI (iv_c S 18 - t))] [] T 0 0 := by
      intro t
      induction t with
      | zero =>
        intro st T ht hs hb hq
        have hT := hs.sh hM.1
        have e4 : pm_i T 59 18 = nI (iv_c S 18) := by rw [hs.m18]; exact hn
        have nx := ih (.int (nI (iv_c S 18 - 0))) st T (by omega) hs (by omega) hq
        have ea : nI (a + 1) = nI (iv_c S 18 - r) := by congr 1; omega
        refine pm_wb_ok pb_c231 2 36 0 _ _ _ _ _ ?_
        try simp only [pm_WI0, pm_WI1, pm_WI2, pm_WI3, pm_WI4, pm_WI5, pm_WV, pm_WW, pm_WX, pb_B231, pm_if, pm_QI_at, pm_QL_at, pm_QV_at, pm_QR_at, pm_QR_at0, pm_QR_at1, Nat.reduceSub, Nat.reduceAdd, List.replicate_zero, List.replicate_succ, true_and, and_true, true_or, or_true, and_self, reduceIte, Nat.reduceEqDiff, Nat.reduceLT, Nat.reduceLeDiff, Nat.reduceMul, false_and, and_false, reduceCtorEq, false_or, or_false, not_true_eq_false, not_false_eq_true, true_implies, false_implies, implies_true, lf_10, eq_self, Int32.reduceLT, Int32.reduceLE, Int32.reduceAdd, Int32.reduceSub, pm_same, pm_i_wI, pm_l_wL, pm_l_wM, pm_oR_rf, pm_oQ_rf, sh_k59 hT, sh_r59_12 hT, sh_k69 hT, sh_z69 hT, nI_1, LQ1, LQ2, LQ5, e4, Int32.le_refl, Nat.sub_zero]
        rw [ea]
        exact pv_W nx (by simp [pv_le, pm_unk])
      | succ t iht =>
        intro st T ht hs hb hq
        have hT := hs.sh hM.1
        have e4 : pm_i T 59 18 = nI (iv_c S 18) := by rw [hs.m18]; exact hn
        generalize hB : iv_c S 18 - (t + 1) = b at *
        have hbN : b < iv_c S 18 := by omega
        have hle : ¬ nI (iv_c S 18) ≤ nI b := nI_ge hbN (by omega)
        have hca := nI_clamp (n := a) (by omega)
        have hcb := nI_clamp (n := b) (by omega)
        have hva := vp_in_nI (n := a) (N := 40) (by omega) (by decide)
        have hvb := vp_in_nI (n := b) (N := 40) (by omega) (by decide)
        have eb : nI (b + 1) = nI (iv_c S 18 - t) := by congr 1; omega
        have g69 : pm_i T 69 = pm_i S 69 := hs.r69
        have hq' : ∀ U, sc S U → q (ul_R u (ul_o (ulP S) (iv_c S 18) r (ul_i (ulP S) (iv_c S 18) a t (ul_t (ulP S) st a b)))) U := fun U hsU => by
          have hh := hq U hsU
          have : ul_i (ulP S) (iv_c S 18) a (t + 1) st = ul_i (ulP S) (iv_c S 18) a t (ul_t (ulP S) st a (iv_c S 18 - (t + 1))) := rfl
          rw [this, hB] at hh; exact hh
        have no : ulP S a b = false → ∀ U, sc S U → pm_W G d 231 (pm_QI q) 118 [.ref 59, .int u, .int (nI st.1), .int st.2.1, .int st.2.2, .int (nI a), .int (nI b)] [] U 0 0 := by
          intro e U hsU
          have hU := hsU.sh hM.1
          have e2 : ul_t (ulP S) st a b = st := by unfold ul_t; rw [e]; rfl
          rw [e2] at hq'
          have nx := iht st U (by omega) hsU (by omega) hq'
          refine pm_wb_ok pb_c231 1 118 0 _ _ _ _ _ ?_
          try simp only [pm_WI0, pm_WI1, pm_WI2, pm_WI3, pm_WI4, pm_WI5, pm_WV, pm_WW, pm_WX, pb_B231, pm_if, pm_QI_at, pm_QL_at, pm_QV_at, pm_QR_at, pm_QR_at0, pm_QR_at1, Nat.reduceSub, Nat.reduceAdd, List.replicate_zero, List.replicate_succ, true_and, and_true, true_or, or_true, and_self, reduceIte, Nat.reduceEqDiff, Nat.reduceLT, Nat.reduceLeDiff, Nat.reduceMul, false_and, and_false, reduceCtorEq, false_or, or_false, not_true_eq_false, not_false_eq_true, true_implies, false_implies, implies_true, lf_10, eq_self, Int32.reduceLT, Int32.reduceLE, Int32.reduceAdd, Int32.reduceSub, pm_same, pm_i_wI, pm_l_wL, pm_l_wM, pm_oR_rf, pm_oQ_rf, sh_k59 hU, sh_r59_12 hU, sh_k69 hU, sh_z69 hU, nI_1, LQ1, LQ2, LQ5]
          rw [eb]
          exact pv_W nx (by simp [pv_le, pm_unk])
        refine pm_wb_ok pb_c231 1 36 0 _ _ _ _ _ ?_
        try simp only [pm_WI0, pm_WI1, pm_WI2, pm_WI3, pm_WI4, pm_WI5, pm_WV, pm_WW, pm_WX, pb_B231, pm_if, pm_QI_at, pm_QL_at, pm_QV_at, pm_QR_at, pm_QR_at0, pm_QR_at1, Nat.reduceSub, Nat.reduceAdd, List.replicate_zero, List.replicate_succ, true_and, and_true, true_or, or_true, and_self, reduceIte, Nat.reduceEqDiff, Nat.reduceLT, Nat.reduceLeDiff, Nat.reduceMul, false_and, and_false, reduceCtorEq, false_or, or_false, not_true_eq_false, not_false_eq_true, true_implies, false_implies, implies_true, lf_10, eq_self, Int32.reduceLT, Int32.reduceLE, Int32.reduceAdd, Int32.reduceSub, pm_same, pm_i_wI, pm_l_wL, pm_l_wM, pm_oR_rf, pm_oQ_rf, sh_k59 hT, sh_r59_12 hT, sh_k69 hT, sh_z69 hT, nI_1, LQ1, LQ2, LQ5, e4, hle]
        refine ⟨by omega, lf_228 hT hva (fun y1 => ?_) (fun y1 => ?_)⟩ <;> rw [hca, hs.r62] at y1
        · try simp only [pm_WV, pm_WW, true_and, and_true, true_or, or_true, and_self, reduceIte, Nat.reduceEqDiff, Nat.reduceLT, Nat.reduceLeDiff, Nat.reduceMul, false_and, and_false, reduceCtorEq, false_or, or_false, not_true_eq_false, not_false_eq_true, true_implies, false_implies, implies_true, lf_10, eq_self, Int32.reduceLT, Int32.reduceLE, Int32.reduceAdd, Int32.reduceSub, pm_same, pm_i_wI, pm_l_wL, pm_l_wM, pm_oR_rf, pm_oQ_rf, nI_1, sw_e, LQ1, LQ2, pm_WI0, pm_WI1, pm_WI2, pm_WI3, pm_WI4, pm_WI5, pm_WV, pm_WW, pm_WX, pb_B231, pm_if, pm_QI_at, pm_QL_at, pm_QV_at, pm_QR_at, pm_QR_at0, pm_QR_at1, Nat.reduceSub, Nat.reduceAdd, List.replicate_zero, List.replicate_succ, true_and, and_true, true_or, or_true, and_self, reduceIte, Nat.reduceEqDiff, Nat.reduceLT, Nat.reduceLeDiff, Nat.reduceMul, false_and, and_false, reduceCtorEq, false_or, or_false, not_true_eq_false, not_false_eq_true, true_implies, false_implies, implies_true, lf_10, eq_self, Int32.reduceLT, Int32.reduceLE, Int32.reduceAdd, Int32.reduceSub, pm_same, pm_i_wI, pm_l_wL, pm_l_wM, pm_oR_rf, pm_oQ_rf, sh_k59 hT, sh_r59_12 hT, sh_k69 hT, sh_z69 hT, nI_1, LQ1, LQ2, LQ5]
          refine ⟨by omega, lf_228 hT hvb (fun y2 => ?_) (fun y2 => ?_)⟩ <;> rw [hcb, hs.r62] at y2
          · try simp only [pm_WV, pm_WW, true_and, and_true, true_or, or_true, and_self, reduceIte, Nat.reduceEqDiff, Nat.reduceLT, Nat.reduceLeDiff, Nat.reduceMul, false_and, and_false, reduceCtorEq, false_or, or_false, not_true_eq_false, not_false_eq_true, true_implies, false_implies, implies_true, lf_10, eq_self, Int32.reduceLT, Int32.reduceLE, Int32.reduceAdd, Int32.reduceSub, pm_same, pm_i_wI, pm_l_wL, pm_l_wM, pm_oR_rf, pm_oQ_rf, nI_1, sw_e, LQ1, LQ2, pm_WI0, pm_WI1, pm_WI2, pm_WI3, pm_WI4, pm_WI5, pm_WV, pm_WW, pm_WX, pb_B231, pm_if, pm_QI_at, pm_QL_at, pm_QV_at, pm_QR_at, pm_QR_at0, pm_QR_at1, Nat.reduceSub, Nat.reduceAdd, List.replicate_zero, List.replicate_succ, true_and, and_true, true_or, or_true, and_self, reduceIte, Nat.reduceEqDiff, Nat.reduceLT, Nat.reduceLeDiff, Nat.reduceMul, false_and, and_false, reduceCtorEq, false_or, or_false, not_true_eq_false, not_false_eq_true, true_implies, false_implies, implies_true, lf_10, eq_self, Int32.reduceLT, Int32.reduceLE, Int32.reduceAdd, Int32.reduceSub, pm_same, pm_i_wI, pm_l_wL, pm_l_wM, pm_oR_rf, pm_oQ_rf, sh_k59 hT, sh_r59_12 hT, sh_k69 hT, sh_z69 hT, nI_1, LQ1, LQ2, LQ5, hca, hcb]
            rw [g69]
            refine ⟨hva, hvb, fun z => ?_, fun z => ?_⟩
            · have := no (decide_eq_false (fun y => y.2 z)) T hs
              exact pv_W this (by simp [pv_le, pm_unk])
            · have ealk : alk T (pm_i T 59 0) a b ↔ alk S (pm_i S 59 0) a b := by
                unfold alk; rw [hs.r64, hs.r65, hs.m0, wsC_me hs.me, wsC_me hs.me]
              refine ⟨by omega, mo_229 (by omega) (hM.scr hs) (by rw [hs.c (by omega)]; exact haN) (by rw [hs.c (by omega)]; exact hbN) (fun e U hs2 => ?_) (fun e U hs2 => ?_)⟩
              · have hsU := hs.tr hs2
                have hU := hsU.sh hM.1
                have yes : ulP S a b = true := decide_eq_true ⟨⟨y1, y2, ealk.mp e⟩, z⟩
                have e2 : ul_t (ulP S) st a b = (st.1 + 1, if st.1 = 0 then nI a else st.2.1, if st.1 = 0 then nI b else st.2.2) := by unfold ul_t; rw [yes]; rfl
                rw [e2] at hq'
                have nx := iht _ U (by omega) hsU (by show st.1 + 1 + t + r * 40 ≤ 1600; omega) hq'
                by_cases z0 : st.1 = 0
                · have n0 : nI st.1 = 0 := by rw [z0]; rfl
                  rw [if_pos z0, if_pos z0] at nx
                  try simp only [pm_WV, pm_WW, true_and, and_true, true_or, or_true, and_self, reduceIte, Nat.reduceEqDiff, Nat.reduceLT, Nat.reduceLeDiff, Nat.reduceMul, false_and, and_false, reduceCtorEq, false_or, or_false, not_true_eq_false, not_false_eq_true, true_implies, false_implies, implies_true, lf_10, eq_self, Int32.reduceLT, Int32.reduceLE, Int32.reduceAdd, Int32.reduceSub, pm_same, pm_i_wI, pm_l_wL, pm_l_wM, pm_oR_rf, pm_oQ_rf, nI_1, sw_e, LQ1, LQ2, pm_WI0, pm_WI1, pm_WI2, pm_WI3, pm_WI4, pm_WI5, pm_WV, pm_WW, pm_WX, pb_B231, pm_if, pm_QI_at, pm_QL_at, pm_QV_at, pm_QR_at, pm_QR_at0, pm_QR_at1, Nat.reduceSub, Nat.reduceAdd, List.replicate_zero, List.replicate_succ, true_and, and_true, true_or, or_true, and_self, reduceIte, Nat.reduceEqDiff, Nat.reduceLT, Nat.reduceLeDiff, Nat.reduceMul, false_and, and_false, reduceCtorEq, false_or, or_false, not_true_eq_false, not_false_eq_true, true_implies, false_implies, implies_true, lf_10, eq_self, Int32.reduceLT, Int32.reduceLE, Int32.reduceAdd, Int32.reduceSub, pm_same, pm_i_wI, pm_l_wL, pm_l_wM, pm_oR_rf, pm_oQ_rf, sh_k59 hU, sh_r59_12 hU, sh_k69 hU, sh_z69 hU, nI_1, LQ1, LQ2, LQ5, n0]
                  repeat' (first | exact pv_W nx (by simp [pv_le, pm_unk, z0, show nI 0 = 0 from rfl, show nI 1 = 1 from rfl]) | (refine pm_wb_ok pb_c231 1 _ 0 _ _ _ _ _ ?_; simp only [pm_WI0, pm_WI1, pm_WI2, pm_WI3, pm_WI4, pm_WI5, pm_WV, pm_WW, pm_WX, pb_B231, pm_if, pm_QI_at, pm_QL_at, pm_QV_at, pm_QR_at, pm_QR_at0, pm_QR_at1, Nat.reduceSub, Nat.reduceAdd, List.replicate_zero, List.replicate_succ, true_and, and_true, true_or, or_true, and_self, reduceIte, Nat.reduceEqDiff, Nat.reduceLT, Nat.reduceLeDiff, Nat.reduceMul, false_and, and_false, reduceCtorEq, false_or, or_false, not_true_eq_false, not_false_eq_true, true_implies, false_implies, implies_true, lf_10, eq_self, Int32.reduceLT, Int32.reduceLE, Int32.reduceAdd, Int32.reduceSub, pm_same, pm_i_wI, pm_l_wL, pm_l_wM, pm_oR_rf, pm_oQ_rf, sh_k59 hU, sh_r59_12 hU, sh_k69 hU, sh_z69 hU, nI_1, LQ1, LQ2, LQ5, n0]; try rw [eb]))
                · have n0 : ¬ nI st.1 = 0 := nI_ne0 (by omega) (by omega)
                  rw [if_neg z0, if_neg z0] at nx
                  try simp only [pm_WV, pm_WW, true_and, and_true, true_or, or_true, and_self, reduceIte, Nat.reduceEqDiff, Nat.reduceLT, Nat.reduceLeDiff, Nat.reduceMul, false_and, and_false, reduceCtorEq, false_or, or_false, not_true_eq_false, not_false_eq_true, true_implies, false_implies, implies_true, lf_10, eq_self, Int32.reduceLT, Int32.reduceLE, Int32.reduceAdd, Int32.reduceSub, pm_same, pm_i_wI, pm_l_wL, pm_l_wM, pm_oR_rf, pm_oQ_rf, nI_1, sw_e, LQ1, LQ2, pm_WI0, pm_WI1, pm_WI2, pm_WI3, pm_WI4, pm_WI5, pm_WV, pm_WW, pm_WX, pb_B231, pm_if, pm_QI_at, pm_QL_at, pm_QV_at, pm_QR_at, pm_QR_at0, pm_QR_at1, Nat.reduceSub, Nat.reduceAdd, List.replicate_zero, List.replicate_succ, true_and, and_true, true_or, or_true, and_self, reduceIte, Nat.reduceEqDiff, Nat.reduceLT, Nat.reduceLeDiff, Nat.reduceMul, false_and, and_false, reduceCtorEq, false_or, or_false, not_true_eq_false, not_false_eq_true, true_implies, false_implies, implies_true, lf_10, eq_self, Int32.reduceLT, Int32.reduceLE, Int32.reduceAdd, Int32.reduceSub, pm_same, pm_i_wI, pm_l_wL, pm_l_wM, pm_oR_rf, pm_oQ_rf, sh_k59 hU, sh_r59_12 hU, sh_k69 hU, sh_z69 hU, nI_1, LQ1, LQ2, LQ5, n0]
                  repeat' (first | exact pv_W nx (by simp [pv_le, pm_unk, nI_1]) | (refine pm_wb_ok pb_c231 1 _ 0 _ _ _ _ _ ?_; simp only [pm_WI0, pm_WI1, pm_WI2, pm_WI3, pm_WI4, pm_WI5, pm_WV, pm_WW, pm_WX, pb_B231, pm_if, pm_QI_at, pm_QL_at, pm_QV_at, pm_QR_at, pm_QR_at0, pm_QR_at1, Nat.reduceSub, Nat.reduceAdd, List.replicate_zero, List.replicate_succ, true_and, and_true, true_or, or_true, and_self, reduceIte, Nat.reduceEqDiff, Nat.reduceLT, Nat.reduceLeDiff, Nat.reduceMul, false_and, and_false, reduceCtorEq, false_or, or_false, not_true_eq_false, not_false_eq_true, true_implies, false_implies, implies_true, lf_10, eq_self, Int32.reduceLT, Int32.reduceLE, Int32.reduceAdd, Int32.reduceSub, pm_same, pm_i_wI, pm_l_wL, pm_l_wM, pm_oR_rf, pm_oQ_rf, sh_k59 hU, sh_r59_12 hU, sh_k69 hU, sh_z69 hU, nI_1, LQ1, LQ2, LQ5, n0]; try rw [eb]))
              · have := no (decide_eq_false (fun y => e (ealk.mpr y.1.2.2))) U (hs.tr hs2)
                try simp only [pm_WV, pm_WW, true_and, and_true, true_or, or_true, and_self, reduceIte, Nat.reduceEqDiff, Nat.reduceLT, Nat.reduceLeDiff, Nat.reduceMul, false_and, and_false, reduceCtorEq, false_or, or_false, not_true_eq_false, not_false_eq_true, true_implies, false_implies, implies_true, lf_10, eq_self, Int32.reduceLT, Int32.reduceLE, Int32.reduceAdd, Int32.reduceSub, pm_same, pm_i_wI, pm_l_wL, pm_l_wM, pm_oR_rf, pm_oQ_rf, nI_1, sw_e, LQ1, LQ2, pm_WI0, pm_WI1, pm_WI2, pm_WI3, pm_WI4, pm_WI5, pm_WV, pm_WW, pm_WX, pb_B231, pm_if, pm_QI_at, pm_QL_at, pm_QV_at, pm_QR_at, pm_QR_at0, pm_QR_at1, Nat.reduceSub, Nat.reduceAdd, List.replicate_zero, List.replicate_succ, true_and, and_true, true_or, or_true, and_self, reduceIte, Nat.reduceEqDiff, Nat.reduceLT, Nat.reduceLeDiff, Nat.reduceMul, false_and, and_false, reduceCtorEq, false_or, or_false, not_true_eq_false, not_false_eq_true, true_implies, false_implies, implies_true, lf_10, eq_self, Int32.reduceLT, Int32.reduceLE, Int32.reduceAdd, Int32.reduceSub, pm_same, pm_i_wI, pm_l_wL, pm_l_wM, pm_oR_rf, pm_oQ_rf, sh_k59 ((hs.tr hs2).sh hM.1), sh_r59_12 ((hs.tr hs2).sh hM.1), sh_k69 ((hs.tr hs2).sh hM.1), sh_z69 ((hs.tr hs2).sh hM.1), nI_1, LQ1, LQ2, LQ5]
                exact pv_W this (by simp [pv_le, pm_unk])
          · have := no (decide_eq_false (fun y => y2 y.1.2.1)) T hs
            try simp only [pm_WV, pm_WW, true_and, and_true, true_or, or_true, and_self, reduceIte, Nat.reduceEqDiff, Nat.reduceLT, Nat.reduceLeDiff, Nat.reduceMul, false_and, and_false, reduceCtorEq, false_or, or_false, not_true_eq_false, not_false_eq_true, true_implies, false_implies, implies_true, lf_10, eq_self, Int32.reduceLT, Int32.reduceLE, Int32.reduceAdd, Int32.reduceSub, pm_same, pm_i_wI, pm_l_wL, pm_l_wM, pm_oR_rf, pm_oQ_rf, nI_1, sw_e, LQ1, LQ2, pm_WI0, pm_WI1, pm_WI2, pm_WI3, pm_WI4, pm_WI5, pm_WV, pm_WW, pm_WX, pb_B231, pm_if, pm_QI_at, pm_QL_at, pm_QV_at, pm_QR_at, pm_QR_at0, pm_QR_at1, Nat.reduceSub, Nat.reduceAdd, List.replicate_zero, List.replicate_succ, true_and, and_true, true_or, or_true, and_self, reduceIte, Nat.reduceEqDiff, Nat.reduceLT, Nat.reduceLeDiff, Nat.reduceMul, false_and, and_false, reduceCtorEq, false_or, or_false, not_true_eq_false, not_false_eq_true, true_implies, false_implies, implies_true, lf_10, eq_self, Int32.reduceLT, Int32.reduceLE, Int32.reduceAdd, Int32.reduceSub, pm_same, pm_i_wI, pm_l_wL, pm_l_wM, pm_oR_rf, pm_oQ_rf, sh_k59 hT, sh_r59_12 hT, sh_k69 hT, sh_z69 hT, nI_1, LQ1, LQ2, LQ5]
            exact pv_W this (by simp [pv_le, pm_unk])
        · have := no (decide_eq_false (fun y => y1 y.1.1)) T hs
          try simp only [pm_WV, pm_WW, true_and, and_true, true_or, or_true, and_self, reduceIte, Nat.reduceEqDiff, Nat.reduceLT, Nat.reduceLeDiff, Nat.reduceMul, false_and, and_false, reduceCtorEq, false_or, or_false, not_true_eq_false, not_false_eq_true, true_implies, false_implies, implies_true, lf_10, eq_self, Int32.reduceLT, Int32.reduceLE, Int32.reduceAdd, Int32.reduceSub, pm_same, pm_i_wI, pm_l_wL, pm_l_wM, pm_oR_rf, pm_oQ_rf, nI_1, sw_e, LQ1, LQ2, pm_WI0, pm_WI1, pm_WI2, pm_WI3, pm_WI4, pm_WI5, pm_WV, pm_WW, pm_WX, pb_B231, pm_if, pm_QI_at, pm_QL_at, pm_QV_at, pm_QR_at, pm_QR_at0, pm_QR_at1, Nat.reduceSub, Nat.reduceAdd, List.replicate_zero, List.replicate_succ, true_and, and_true, true_or, or_true, and_self, reduceIte, Nat.reduceEqDiff, Nat.reduceLT, Nat.reduceLeDiff, Nat.reduceMul, false_and, and_false, reduceCtorEq, false_or, or_false, not_true_eq_false, not_false_eq_true, true_implies, false_implies, implies_true, lf_10, eq_self, Int32.reduceLT, Int32.reduceLE, Int32.reduceAdd, Int32.reduceSub, pm_same, pm_i_wI, pm_l_wL, pm_l_wM, pm_oR_rf, pm_oQ_rf, sh_k59 hT, sh_r59_12 hT, sh_k69 hT, sh_z69 hT, nI_1, LQ1, LQ2, LQ5]
          exact pv_W this (by simp [pv_le, pm_unk])
    have hle : ¬ nI (iv_c S 18) ≤ nI a := nI_ge haN (by omega)
    have ea : nI (a + 1) = nI (iv_c S 18 - r) := by congr 1; omega
    have k0 := inner r st T (Nat.le_refl r) hs (by omega) (by rw [← hA]; exact hq)
    refine pm_wb_ok pb_c231 1 21 0 _ _ _ _ _ ?_
    try simp only [pm_WI0, pm_WI1, pm_WI2, pm_WI3, pm_WI4, pm_WI5, pm_WV, pm_WW, pm_WX, pb_B231, pm_if, pm_QI_at, pm_QL_at, pm_QV_at, pm_QR_at, pm_QR_at0, pm_QR_at1, Nat.reduceSub, Nat.reduceAdd, List.replicate_zero, List.replicate_succ, true_and, and_true, true_or, or_true, and_self, reduceIte, Nat.reduceEqDiff, Nat.reduceLT, Nat.reduceLeDiff, Nat.reduceMul, false_and, and_false, reduceCtorEq, false_or, or_false, not_true_eq_false, not_false_eq_true, true_implies, false_implies, implies_true, lf_10, eq_self, Int32.reduceLT, Int32.reduceLE, Int32.reduceAdd, Int32.reduceSub, pm_same, pm_i_wI, pm_l_wL, pm_l_wM, pm_oR_rf, pm_oQ_rf, sh_k59 hT, sh_r59_12 hT, sh_k69 hT, sh_z69 hT, nI_1, LQ1, LQ2, LQ5, e4, hle]
    rw [ea]
    exact pv_W k0 (by simp [pv_le, pm_unk])
theorem ulP_me {S T : pm_S} (hs : sc S T) : ulP T = ulP S := by
  funext a b
  have e : ((fdd T a ∧ fdd T b ∧ alk T (pm_i T 59 0) a b) ∧ ¬ pm_i T 69 a = pm_i T 69 b) = ((fdd S a ∧ fdd S b ∧ alk S (pm_i S 59 0) a b) ∧ ¬ pm_i S 69 a = pm_i S 69 b) := by
    unfold fdd alk; rw [hs.r62, hs.r64, hs.r65, hs.m0, hs.r69, wsC_me hs.me, wsC_me hs.me]
  unfold ulP
  by_cases h : (fdd S a ∧ fdd S b ∧ alk S (pm_i S 59 0) a b) ∧ ¬ pm_i S 69 a = pm_i S 69 b
  · rw [decide_eq_true h, decide_eq_true (by rw [e]; exact h)]
  · rw [decide_eq_false h, decide_eq_false (by rw [e]; exact h)]
theorem pp_unlike {G : pm_G} {d : Nat} {A : iv_A} {S : pm_S} {u : Int32} (hd : 40 ≤ d) (hI : Inv A S) : pm_CI G d 134 [.ref 0, .int u] S (fun r S1 => pm_CI G d 231 [.ref 59, .int u] S1 (fun r' S2 => pv_end A r r' S2)) := by
  have hS := hI.sh
  obtain ⟨n40, hn⟩ := MI.c18 hI.mi
  by_cases hu : 0 ≤ u ∧ u ≤ 2
  · have hu2 : u = 0 ∨ u = 1 ∨ u = 2 := by obtain ⟨y1, y2⟩ := hu; lia
    have u0 : ¬ u < 0 := by lia
    have u2 := hu.2
    refine pm_goI 134 2 pb_c134 (by decide) (Nat.le_of_ble_eq_true rfl) rfl ?_
    try simp only [show pm_mL 134 = 5 from rfl, pm_WI0, pm_WI1, pm_WI2, pm_WI3, pm_WI4, pm_WI5, pm_WV, pm_WW, pm_WX, pb_B134, pm_if, pm_QI_at, pm_QL_at, pm_QV_at, pm_QR_at, pm_QR_at0, pm_QR_at1, Nat.reduceSub, Nat.reduceAdd, List.replicate_zero, List.replicate_succ, true_and, and_true, true_or, or_true, and_self, reduceIte, Nat.reduceEqDiff, Nat.reduceLT, Nat.reduceLeDiff, Nat.reduceMul, false_and, and_false, reduceCtorEq, false_or, or_false, not_true_eq_false, not_false_eq_true, true_implies, false_implies, implies_true, lf_10, eq_self, Int32.reduceLT, Int32.reduceLE, Int32.reduceAdd, Int32.reduceSub, pm_same, pm_i_wI, pm_l_wL, pm_l_wM, pm_oR_rf, pm_oQ_rf, sh_k0 hS, sh_r0_3 hS, sh_k4 hS, sh_z4 hS, nI_1, LQ1, LQ2, LQ5, u0, u2]
    refine ⟨by omega, cl_132 (by omega) hI (fun T hs h17 => ?_)⟩
    have hIT := hI.sc hs
    have hT := hIT.sh
    have k0 := cl_134 (G := G) (d := d) (q := fun r S1 => pm_CI G d 231 [.ref 59, .int u] S1 (fun r' S2 => pv_end A r r' S2)) (by omega) hI hs h17 hu2 (iv_c S 18) (.float 0) (0, -1, -1) (Nat.le_refl _) (Or.inr rfl) (fun _ => rfl) (by show 0 + iv_c S 18 * 40 ≤ 1600; omega) ?_
    · rw [Nat.sub_self] at k0
      try simp only [pm_WV, pm_WW, true_and, and_true, true_or, or_true, and_self, reduceIte, Nat.reduceEqDiff, Nat.reduceLT, Nat.reduceLeDiff, Nat.reduceMul, false_and, and_false, reduceCtorEq, false_or, or_false, not_true_eq_false, not_false_eq_true, true_implies, false_implies, implies_true, lf_10, eq_self, Int32.reduceLT, Int32.reduceLE, Int32.reduceAdd, Int32.reduceSub, pm_same, pm_i_wI, pm_l_wL, pm_l_wM, pm_oR_rf, pm_oQ_rf, nI_1, sw_e, LQ1, LQ2, pm_WI0, pm_WI1, pm_WI2, pm_WI3, pm_WI4, pm_WI5, pm_WV, pm_WW, pm_WX, pb_B134, pm_if, pm_QI_at, pm_QL_at, pm_QV_at, pm_QR_at, pm_QR_at0, pm_QR_at1, Nat.reduceSub, Nat.reduceAdd, List.replicate_zero, List.replicate_succ, true_and, and_true, true_or, or_true, and_self, reduceIte, Nat.reduceEqDiff, Nat.reduceLT, Nat.reduceLeDiff, Nat.reduceMul, false_and, and_false, reduceCtorEq, false_or, or_false, not_true_eq_false, not_false_eq_true, true_implies, false_implies, implies_true, lf_10, eq_self, Int32.reduceLT, Int32.reduceLE, Int32.reduceAdd, Int32.reduceSub, pm_same, pm_i_wI, pm_l_wL, pm_l_wM, pm_oR_rf, pm_oQ_rf, sh_k0 hT, sh_r0_3 hT, sh_k4 hT, sh_z4 hT, nI_1, LQ1, LQ2, LQ5]
      exact pv_W k0 (by simp [pv_le, pm_unk, show nI 0 = 0 from rfl])
    · have tc : iv_c T 18 = iv_c S 18 := hs.c (by omega)
      have k1 := mo_231 (G := G) (d := d) (q := fun r' S2 => pv_end A (ul_R u (ul_o (ulP S) (iv_c S 18) (iv_c S 18) (0, -1, -1))) r' S2) (by omega) hIT.mi hu2 (iv_c T 18) (.float 0) (0, -1, -1) T (Nat.le_refl _) sc.rf (by show 0 + iv_c T 18 * 40 ≤ 1600; omega) (fun U hsU => by rw [ulP_me hs, tc]; exact pv_same (hIT.sc hsU))
      rw [Nat.sub_self] at k1
      refine pm_goI 231 1 pb_c231 (by decide) (Nat.le_of_ble_eq_true rfl) rfl ?_
      try simp only [show pm_mL 231 = 7 from rfl, pm_WI0, pm_WI1, pm_WI2, pm_WI3, pm_WI4, pm_WI5, pm_WV, pm_WW, pm_WX, pb_B231, pm_if, pm_QI_at, pm_QL_at, pm_QV_at, pm_QR_at, pm_QR_at0, pm_QR_at1, Nat.reduceSub, Nat.reduceAdd, List.replicate_zero, List.replicate_succ, true_and, and_true, true_or, or_true, and_self, reduceIte, Nat.reduceEqDiff, Nat.reduceLT, Nat.reduceLeDiff, Nat.reduceMul, false_and, and_false, reduceCtorEq, false_or, or_false, not_true_eq_false, not_false_eq_true, true_implies, false_implies, implies_true, lf_10, eq_self, Int32.reduceLT, Int32.reduceLE, Int32.reduceAdd, Int32.reduceSub, pm_same, pm_i_wI, pm_l_wL, pm_l_wM, pm_oR_rf, pm_oQ_rf, sh_k59 hT, sh_r59_12 hT, sh_k69 hT, sh_z69 hT, nI_1, LQ1, LQ2, LQ5]
      refine ⟨by omega, lf_159 (fun _ => ?_) (fun z => absurd hu z)⟩
      try simp only [pm_WV, pm_WW, true_and, and_true, true_or, or_true, and_self, reduceIte, Nat.reduceEqDiff, Nat.reduceLT, Nat.reduceLeDiff, Nat.reduceMul, false_and, and_false, reduceCtorEq, false_or, or_false, not_true_eq_false, not_false_eq_true, true_implies, false_implies, implies_true, lf_10, eq_self, Int32.reduceLT, Int32.reduceLE, Int32.reduceAdd, Int32.reduceSub, pm_same, pm_i_wI, pm_l_wL, pm_l_wM, pm_oR_rf, pm_oQ_rf, nI_1, sw_e, LQ1, LQ2, pm_WI0, pm_WI1, pm_WI2, pm_WI3, pm_WI4, pm_WI5, pm_WV, pm_WW, pm_WX, pb_B231, pm_if, pm_QI_at, pm_QL_at, pm_QV_at, pm_QR_at, pm_QR_at0, pm_QR_at1, Nat.reduceSub, Nat.reduceAdd, List.replicate_zero, List.replicate_succ, true_and, and_true, true_or, or_true, and_self, reduceIte, Nat.reduceEqDiff, Nat.reduceLT, Nat.reduceLeDiff, Nat.reduceMul, false_and, and_false, reduceCtorEq, false_or, or_false, not_true_eq_false, not_false_eq_true, true_implies, false_implies, implies_true, lf_10, eq_self, Int32.reduceLT, Int32.reduceLE, Int32.reduceAdd, Int32.reduceSub, pm_same, pm_i_wI, pm_l_wL, pm_l_wM, pm_oR_rf, pm_oQ_rf, sh_k59 hT, sh_r59_12 hT, sh_k69 hT, sh_z69 hT, nI_1, LQ1, LQ2, LQ5]
      try refine pm_wb_ok pb_c231 1 11 0 _ _ _ _ _ ?_
      try simp only [pm_WI0, pm_WI1, pm_WI2, pm_WI3, pm_WI4, pm_WI5, pm_WV, pm_WW, pm_WX, pb_B231, pm_if, pm_QI_at, pm_QL_at, pm_QV_at, pm_QR_at, pm_QR_at0, pm_QR_at1, Nat.reduceSub, Nat.reduceAdd, List.replicate_zero, List.replicate_succ, true_and, and_true, true_or, or_true, and_self, reduceIte, Nat.reduceEqDiff, Nat.reduceLT, Nat.reduceLeDiff, Nat.reduceMul, false_and, and_false, reduceCtorEq, false_or, or_false, not_true_eq_false, not_false_eq_true, true_implies, false_implies, implies_true, lf_10, eq_self, Int32.reduceLT, Int32.reduceLE, Int32.reduceAdd, Int32.reduceSub, pm_same, pm_i_wI, pm_l_wL, pm_l_wM, pm_oR_rf, pm_oQ_rf, sh_k59 hT, sh_r59_12 hT, sh_k69 hT, sh_z69 hT, nI_1, LQ1, LQ2, LQ5]
      exact pv_W k1 (by simp [pv_le, pm_unk, show nI 0 = 0 from rfl])
  · have mo : pm_CI G d 231 [.ref 59, .int u] S (fun r' S2 => pv_end A (-1) r' S2) := by
      refine pm_goI 231 2 pb_c231 (by decide) (Nat.le_of_ble_eq_true rfl) rfl ?_
      try simp only [show pm_mL 231 = 7 from rfl, pm_WI0, pm_WI1, pm_WI2, pm_WI3, pm_WI4, pm_WI5, pm_WV, pm_WW, pm_WX, pb_B231, pm_if, pm_QI_at, pm_QL_at, pm_QV_at, pm_QR_at, pm_QR_at0, pm_QR_at1, Nat.reduceSub, Nat.reduceAdd, List.replicate_zero, List.replicate_succ, true_and, and_true, true_or, or_true, and_self, reduceIte, Nat.reduceEqDiff, Nat.reduceLT, Nat.reduceLeDiff, Nat.reduceMul, false_and, and_false, reduceCtorEq, false_or, or_false, not_true_eq_false, not_false_eq_true, true_implies, false_implies, implies_true, lf_10, eq_self, Int32.reduceLT, Int32.reduceLE, Int32.reduceAdd, Int32.reduceSub, pm_same, pm_i_wI, pm_l_wL, pm_l_wM, pm_oR_rf, pm_oQ_rf, sh_k59 hS, sh_r59_12 hS, sh_k69 hS, sh_z69 hS, nI_1, LQ1, LQ2, LQ5]
      refine ⟨by omega, lf_159 (fun z => absurd z hu) (fun _ => ?_)⟩
      try simp only [pm_WV, pm_WW, true_and, and_true, true_or, or_true, and_self, reduceIte, Nat.reduceEqDiff, Nat.reduceLT, Nat.reduceLeDiff, Nat.reduceMul, false_and, and_false, reduceCtorEq, false_or, or_false, not_true_eq_false, not_false_eq_true, true_implies, false_implies, implies_true, lf_10, eq_self, Int32.reduceLT, Int32.reduceLE, Int32.reduceAdd, Int32.reduceSub, pm_same, pm_i_wI, pm_l_wL, pm_l_wM, pm_oR_rf, pm_oQ_rf, nI_1, sw_e, LQ1, LQ2, pm_WI0, pm_WI1, pm_WI2, pm_WI3, pm_WI4, pm_WI5, pm_WV, pm_WW, pm_WX, pb_B231, pm_if, pm_QI_at, pm_QL_at, pm_QV_at, pm_QR_at, pm_QR_at0, pm_QR_at1, Nat.reduceSub, Nat.reduceAdd, List.replicate_zero, List.replicate_succ, true_and, and_true, true_or, or_true, and_self, reduceIte, Nat.reduceEqDiff, Nat.reduceLT, Nat.reduceLeDiff, Nat.reduceMul, false_and, and_false, reduceCtorEq, false_or, or_false, not_true_eq_false, not_false_eq_true, true_implies, false_implies, implies_true, lf_10, eq_self, Int32.reduceLT, Int32.reduceLE, Int32.reduceAdd, Int32.reduceSub, pm_same, pm_i_wI, pm_l_wL, pm_l_wM, pm_oR_rf, pm_oQ_rf, sh_k59 hS, sh_r59_12 hS, sh_k69 hS, sh_z69 hS, nI_1, LQ1, LQ2, LQ5]
      exact pv_same hI
    refine pm_goI 134 1 pb_c134 (by decide) (Nat.le_of_ble_eq_true rfl) rfl ?_
    try simp only [show pm_mL 134 = 5 from rfl, pm_WI0, pm_WI1, pm_WI2, pm_WI3, pm_WI4, pm_WI5, pm_WV, pm_WW, pm_WX, pb_B134, pm_if, pm_QI_at, pm_QL_at, pm_QV_at, pm_QR_at, pm_QR_at0, pm_QR_at1, Nat.reduceSub, Nat.reduceAdd, List.replicate_zero, List.replicate_succ, true_and, and_true, true_or, or_true, and_self, reduceIte, Nat.reduceEqDiff, Nat.reduceLT, Nat.reduceLeDiff, Nat.reduceMul, false_and, and_false, reduceCtorEq, false_or, or_false, not_true_eq_false, not_false_eq_true, true_implies, false_implies, implies_true, lf_10, eq_self, Int32.reduceLT, Int32.reduceLE, Int32.reduceAdd, Int32.reduceSub, pm_same, pm_i_wI, pm_l_wL, pm_l_wM, pm_oR_rf, pm_oQ_rf, sh_k0 hS, sh_r0_3 hS, sh_k4 hS, sh_z4 hS, nI_1, LQ1, LQ2, LQ5]
    repeat' (first | refine ⟨fun _ => ?_, fun _ => ?_⟩ | fail)
    all_goals first | exact mo | (exfalso; exact hu ⟨by lia, by lia⟩) | (refine pm_wb_ok pb_c134 1 9 0 _ _ _ _ _ ?_; simp only [pm_WI0, pm_WI1, pm_WI2, pm_WI3, pm_WI4, pm_WI5, pm_WV, pm_WW, pm_WX, pb_B134, pm_if, pm_QI_at, pm_QL_at, pm_QV_at, pm_QR_at, pm_QR_at0, pm_QR_at1, Nat.reduceSub, Nat.reduceAdd, List.replicate_zero, List.replicate_succ, true_and, and_true, true_or, or_true, and_self, reduceIte, Nat.reduceEqDiff, Nat.reduceLT, Nat.reduceLeDiff, Nat.reduceMul, false_and, and_false, reduceCtorEq, false_or, or_false, not_true_eq_false, not_false_eq_true, true_implies, false_implies, implies_true, lf_10, eq_self, Int32.reduceLT, Int32.reduceLE, Int32.reduceAdd, Int32.reduceSub, pm_same, pm_i_wI, pm_l_wL, pm_l_wM, pm_oR_rf, pm_oQ_rf, sh_k0 hS, sh_r0_3 hS, sh_k4 hS, sh_z4 hS, nI_1, LQ1, LQ2, LQ5]; exact mo) | skip
