/-! a PROMISE -/
def kp_2 (S : pm_S) (m a : Nat) : Prop := pm_i S 75 a = nI m ∧ pm_i S 74 m ≤ nI a ∧ pm_i S 76 a = pm_i S 72 m
def kp_1 (S : pm_S) (m a : Nat) : Prop := kp_2 S m a ∧ pm_i S 77 a ≤ pm_i S 73 m
def kp_P2 (S : pm_S) (m : Nat) : Prop := ∃ a, a < iv_c S 24 ∧ kp_2 S m a
def kp_P1 (S : pm_S) (m : Nat) : Prop := ∃ a, a < iv_c S 24 ∧ kp_1 S m a
theorem iv_acts_mem {S : pm_S} {m a : Nat} : a ∈ iv_acts S m ↔ a < iv_c S 24 ∧ pm_i S 75 a = nI m := by
  unfold iv_acts
  rw [List.mem_filter, List.mem_range]
  simp
theorem lf_64 {G : pm_G} {d : Nat} {A : iv_A} {S : pm_S} {m : Nat} {k : Int32} {q : Int32 → pm_S → Prop} (hI : Inv A S) (hm : m < iv_c S 18) (h1 : kp_P1 S m → q 1 S) (h2 : ¬ kp_P1 S m → kp_P2 S m → q 2 S) (h3 : ¬ kp_P1 S m → ¬ kp_P2 S m → pm_i S 73 m < k → q 3 S) (h0 : ¬ kp_P1 S m → ¬ kp_P2 S m → ¬ pm_i S 73 m < k → q 0 S) : pm_CI G d 64 [.ref (iv_m A m), .int k] S q := by
  have hw := hI.row hm
  have hk := hw.k
  have hc := (hI.act.2.2.2 m hm).1
  refine pm_goI 64 40 pb_c64 (by decide) (Nat.le_of_ble_eq_true rfl) rfl ?_
  try simp only [show pm_mL 64 = 4 from rfl, pm_WI0, pm_WI1, pm_WI2, pm_WI3, pm_WI4, pm_WI5, pm_WV, pm_WW, pm_WX, pb_B64, pm_if, pm_QI_at, pm_QL_at, pm_QV_at, pm_QR_at, pm_QR_at0, pm_QR_at1, Nat.reduceSub, Nat.reduceAdd, List.replicate_zero, List.replicate_succ, true_and, and_true, true_or, or_true, and_self, reduceIte, Nat.reduceEqDiff, Nat.reduceLT, Nat.reduceLeDiff, Nat.reduceMul, false_and, and_false, reduceCtorEq, false_or, or_false, not_true_eq_false, not_false_eq_true, true_implies, false_implies, implies_true, lf_10, eq_self, Int32.reduceLT, Int32.reduceLE, Int32.reduceAdd, Int32.reduceSub, pm_same, pm_i_wI, pm_l_wL, pm_l_wM, pm_oR_rf, pm_oQ_rf, nI_1, sw_e, LQ1, LQ2, hk, hc.r]
  refine pv_while (fun x : Bool × List Nat => [.ref (iv_m A m), .int k, .int (bI x.1), va_rf (ac_r A x.2)]) (fun _ => S) (fun x => iv_ch A S (ac_r A x.2) x.2 ∧ (∀ a, a ∈ x.2 → a ∈ iv_acts S m) ∧ (∀ a, a ∈ iv_acts S m → a ∈ x.2 ∨ ¬ kp_1 S m a) ∧ (x.1 = true → kp_P2 S m) ∧ (x.1 = false → ∀ a, a ∈ iv_acts S m → a ∈ x.2 ∨ ¬ kp_2 S m a)) (fun x => x.2.length) (fun x hx hk2 => ?_) (false, iv_acts S m) ⟨by rw [← hc.r]; exact hc, fun a ha => ha, fun a ha => Or.inl ha, fun z => (by cases z), fun _ a ha => Or.inl ha⟩
  obtain ⟨late, L⟩ := x
  obtain ⟨x1, x2, x3, x4, x5⟩ := hx
  simp only at x1 x2 x3 x4 x5 hk2 ⊢
  cases L with
  | nil =>
    have np : ¬ kp_P1 S m := fun ⟨a, ha, hp⟩ => by
      rcases x3 a (iv_acts_mem.mpr ⟨ha, hp.1.1⟩) with z | z
      · exact absurd z List.not_mem_nil
      · exact z hp
    have hra : ac_r A [] = none := rfl
    cases late
    · refine pm_wb_ok pb_c64 60 7 0 _ _ _ _ _ ?_
      try simp only [pm_WI0, pm_WI1, pm_WI2, pm_WI3, pm_WI4, pm_WI5, pm_WV, pm_WW, pm_WX, pb_B64, pm_if, pm_QI_at, pm_QL_at, pm_QV_at, pm_QR_at, pm_QR_at0, pm_QR_at1, Nat.reduceSub, Nat.reduceAdd, List.replicate_zero, List.replicate_succ, true_and, and_true, true_or, or_true, and_self, reduceIte, Nat.reduceEqDiff, Nat.reduceLT, Nat.reduceLeDiff, Nat.reduceMul, false_and, and_false, reduceCtorEq, false_or, or_false, not_true_eq_false, not_false_eq_true, true_implies, false_implies, implies_true, lf_10, eq_self, Int32.reduceLT, Int32.reduceLE, Int32.reduceAdd, Int32.reduceSub, pm_same, pm_i_wI, pm_l_wL, pm_l_wM, pm_oR_rf, pm_oQ_rf, nI_1, sw_e, LQ1, LQ2, hra, bI, hk, hw.f12, Bool.false_eq_true]
      have n2 : ¬ kp_P2 S m := fun ⟨a, ha, hp⟩ => by
        rcases x5 rfl a (iv_acts_mem.mpr ⟨ha, hp.1⟩) with z | z
        · exact absurd z List.not_mem_nil
        · exact z hp
      refine ⟨fun z => h0 np n2 (by lia), fun z => h3 np n2 (by lia)⟩
    · refine pm_wb_ok pb_c64 60 7 0 _ _ _ _ _ ?_
      try simp only [pm_WI0, pm_WI1, pm_WI2, pm_WI3, pm_WI4, pm_WI5, pm_WV, pm_WW, pm_WX, pb_B64, pm_if, pm_QI_at, pm_QL_at, pm_QV_at, pm_QR_at, pm_QR_at0, pm_QR_at1, Nat.reduceSub, Nat.reduceAdd, List.replicate_zero, List.replicate_succ, true_and, and_true, true_or, or_true, and_self, reduceIte, Nat.reduceEqDiff, Nat.reduceLT, Nat.reduceLeDiff, Nat.reduceMul, false_and, and_false, reduceCtorEq, false_or, or_false, not_true_eq_false, not_false_eq_true, true_implies, false_implies, implies_true, lf_10, eq_self, Int32.reduceLT, Int32.reduceLE, Int32.reduceAdd, Int32.reduceSub, pm_same, pm_i_wI, pm_l_wL, pm_l_wM, pm_oR_rf, pm_oQ_rf, nI_1, sw_e, LQ1, LQ2, hra, bI, hk, hw.f12, Bool.false_eq_true]
      exact h2 np (x4 rfl)
  | cons a L =>
    obtain ⟨y1, y2⟩ := x1.tl
    have haa := iv_acts_mem.mp (x2 a List.mem_cons_self)
    obtain ⟨⟨a1, a2, a3⟩, ⟨b0, b1, b2, b3, b4⟩, _⟩ := hI.act.2.2.1 a haa.1
    have hra : ac_r A (a :: L) = some (iv_a A a) := rfl
    have no1 : ¬ kp_1 S m a → ∀ x, x ∈ iv_acts S m → x ∈ L ∨ ¬ kp_1 S m x := fun hn x hx => by
      rcases x3 x hx with z | z
      · rcases List.mem_cons.mp z with rfl | z
        · exact Or.inr hn
        · exact Or.inl z
      · exact Or.inr z
    have no2 : ¬ kp_2 S m a → pm_W G d 64 (pm_QI q) 7 [.ref (iv_m A m), .int k, .int (bI late), va_rf (ac_r A L)] [] S 0 0 := fun hn => by
      refine hk2 (late, L) ⟨y1, fun b hb => x2 b (List.mem_cons_of_mem _ hb), no1 (fun z => hn z.1), x4, fun hf x hx => ?_⟩ (Nat.lt_succ_self _)
      rcases x5 hf x hx with z | z
      · rcases List.mem_cons.mp z with rfl | z
        · exact Or.inr hn
        · exact Or.inl z
      · exact Or.inr z
    have yes2 : kp_2 S m a → ¬ kp_1 S m a → pm_W G d 64 (pm_QI q) 7 [.ref (iv_m A m), .int k, .int 1, va_rf (ac_r A L)] [] S 0 0 := fun h2' hn => by
      have := hk2 (true, L) ⟨y1, fun b hb => x2 b (List.mem_cons_of_mem _ hb), no1 hn, fun _ => ⟨a, haa.1, h2'⟩, fun z => (by cases z)⟩ (Nat.lt_succ_self _)
      exact this
    refine pm_wb_ok pb_c64 60 7 0 _ _ _ _ _ ?_
    try simp only [pm_WI0, pm_WI1, pm_WI2, pm_WI3, pm_WI4, pm_WI5, pm_WV, pm_WW, pm_WX, pb_B64, pm_if, pm_QI_at, pm_QL_at, pm_QV_at, pm_QR_at, pm_QR_at0, pm_QR_at1, Nat.reduceSub, Nat.reduceAdd, List.replicate_zero, List.replicate_succ, true_and, and_true, true_or, or_true, and_self, reduceIte, Nat.reduceEqDiff, Nat.reduceLT, Nat.reduceLeDiff, Nat.reduceMul, false_and, and_false, reduceCtorEq, false_or, or_false, not_true_eq_false, not_false_eq_true, true_implies, false_implies, implies_true, lf_10, eq_self, Int32.reduceLT, Int32.reduceLE, Int32.reduceAdd, Int32.reduceSub, pm_same, pm_i_wI, pm_l_wL, pm_l_wM, pm_oR_rf, pm_oQ_rf, nI_1, sw_e, LQ1, LQ2, hra, a3, b0, b1, b4, y2, hk, hw.f11, hw.f12, hw.f13, pm_dem_rf, reduceCtorEq]
    refine ⟨fun c1 => ?_, fun c1 => ⟨fun c2 => ⟨fun c3 => ?_, fun c3 => ?_⟩, fun c2 => ?_⟩⟩
    · exact no2 (fun z => by have := z.2.1; lia)
    · first | exact h1 ⟨a, haa.1, ⟨haa.2, by lia, c2⟩, c3⟩ | exact yes2 ⟨haa.2, by lia, c2⟩ (fun z => by have := z.2; lia)
    · first | exact h1 ⟨a, haa.1, ⟨haa.2, by lia, c2⟩, by lia⟩ | exact yes2 ⟨haa.2, by lia, c2⟩ (fun z => by have := z.2; lia)
    · exact no2 (fun z => c2 z.2.2)
set_option maxRecDepth 8000 in
theorem mk_213 {G : pm_G} {d : Nat} {S : pm_S} {m n i : Nat} {q : Int32 → pm_S → Prop} {k : Int32} (hS : Sh S) (hm : m < 40) (hk : pm_i S 59 0 = k) (hn : pm_i S 59 24 = nI (iv_c S 24)) (hn2 : iv_c S 24 ≤ 150) (hp : pm_i S 74 m = nI i) (hi : i ≤ iv_c S 24) (hkind : pm_i S 62 m = 6) (h1 : kp_P1 S m → q 1 S) (h2 : ¬ kp_P1 S m → kp_P2 S m → q 2 S) (h3 : ¬ kp_P1 S m → ¬ kp_P2 S m → pm_i S 73 m < k → q 3 S) (h0 : ¬ kp_P1 S m → ¬ kp_P2 S m → ¬ pm_i S 73 m < k → q 0 S) : pm_W G d 213 (pm_QI q) 24 [.ref 59, .int (nI m), .float 0, .float 0, .float 0, .float 0] [] S 0 0 := by
  have hcm := nI_clamp (n := m) (by omega)
  have hvm := vp_in_nI (n := m) (N := 40) hm (by decide)
  have key : ∀ r j (t1 t2 : Bool) (X : Value), j + r = iv_c S 24 → i ≤ j → (t1 = true ↔ ∃ a, a < j ∧ kp_1 S m a) → (t2 = true ↔ ∃ a, a < j ∧ kp_2 S m a ∧ ¬ kp_1 S m a) → pm_W G d 213 (pm_QI q) 36 [.ref 59, .int (nI m), .int (bI t1), .int (bI t2), .int (nI j), X] [] S 0 0 := by
    intro r
    induction r with
    | zero =>
      intro j t1 t2 X hj hij e1 e2
      have hjn : j = iv_c S 24 := by omega
      subst hjn
      cases t1 <;> cases t2
      · refine pm_wb_ok pb_c213 1 36 0 _ _ _ _ _ ?_
        try simp only [pm_WI0, pm_WI1, pm_WI2, pm_WI3, pm_WI4, pm_WI5, pm_WV, pm_WW, pm_WX, pb_B213, pm_if, pm_QI_at, pm_QL_at, pm_QV_at, pm_QR_at, pm_QR_at0, pm_QR_at1, Nat.reduceSub, Nat.reduceAdd, List.replicate_zero, List.replicate_succ, true_and, and_true, true_or, or_true, and_self, reduceIte, Nat.reduceEqDiff, Nat.reduceLT, Nat.reduceLeDiff, Nat.reduceMul, false_and, and_false, reduceCtorEq, false_or, or_false, not_true_eq_false, not_false_eq_true, true_implies, false_implies, implies_true, lf_10, eq_self, Int32.reduceLT, Int32.reduceLE, Int32.reduceAdd, Int32.reduceSub, pm_same, pm_i_wI, pm_l_wL, pm_l_wM, pm_oR_rf, pm_oQ_rf, sh_k59 hS, sh_r59_5 hS, sh_k62 hS, sh_z62 hS, sh_r59_15 hS, sh_k72 hS, sh_z72 hS, sh_r59_16 hS, sh_k73 hS, sh_z73 hS, sh_r59_17 hS, sh_k74 hS, sh_z74 hS, sh_r59_19 hS, sh_k75 hS, sh_z75 hS, sh_r59_20 hS, sh_k76 hS, sh_z76 hS, sh_r59_21 hS, sh_k77 hS, sh_z77 hS, nI_1, LQ1, LQ2, hn, Int32.le_refl, bI, hcm, Bool.false_eq_true, hk]
        refine pm_wb_ok pb_c213 5 147 0 _ _ _ _ _ ?_
        try simp only [pm_WI0, pm_WI1, pm_WI2, pm_WI3, pm_WI4, pm_WI5, pm_WV, pm_WW, pm_WX, pb_B213, pm_if, pm_QI_at, pm_QL_at, pm_QV_at, pm_QR_at, pm_QR_at0, pm_QR_at1, Nat.reduceSub, Nat.reduceAdd, List.replicate_zero, List.replicate_succ, true_and, and_true, true_or, or_true, and_self, reduceIte, Nat.reduceEqDiff, Nat.reduceLT, Nat.reduceLeDiff, Nat.reduceMul, false_and, and_false, reduceCtorEq, false_or, or_false, not_true_eq_false, not_false_eq_true, true_implies, false_implies, implies_true, lf_10, eq_self, Int32.reduceLT, Int32.reduceLE, Int32.reduceAdd, Int32.reduceSub, pm_same, pm_i_wI, pm_l_wL, pm_l_wM, pm_oR_rf, pm_oQ_rf, sh_k59 hS, sh_r59_5 hS, sh_k62 hS, sh_z62 hS, sh_r59_15 hS, sh_k72 hS, sh_z72 hS, sh_r59_16 hS, sh_k73 hS, sh_z73 hS, sh_r59_17 hS, sh_k74 hS, sh_z74 hS, sh_r59_19 hS, sh_k75 hS, sh_z75 hS, sh_r59_20 hS, sh_k76 hS, sh_z76 hS, sh_r59_21 hS, sh_k77 hS, sh_z77 hS, nI_1, LQ1, LQ2, hn, Int32.le_refl, bI, hcm, Bool.false_eq_true, hk]
        have n1 : ¬ kp_P1 S m := fun z => by have := e1.mpr z; cases this
        have n2 : ¬ kp_P2 S m := fun ⟨a, ha, hp⟩ => by
          by_cases h : kp_1 S m a
          · exact n1 ⟨a, ha, h⟩
          · have := e2.mpr ⟨a, ha, hp, h⟩; cases this
        refine ⟨hvm, fun z => h0 n1 n2 (by lia), fun z => h3 n1 n2 (by lia)⟩
      · refine pm_wb_ok pb_c213 1 36 0 _ _ _ _ _ ?_
        try simp only [pm_WI0, pm_WI1, pm_WI2, pm_WI3, pm_WI4, pm_WI5, pm_WV, pm_WW, pm_WX, pb_B213, pm_if, pm_QI_at, pm_QL_at, pm_QV_at, pm_QR_at, pm_QR_at0, pm_QR_at1, Nat.reduceSub, Nat.reduceAdd, List.replicate_zero, List.replicate_succ, true_and, and_true, true_or, or_true, and_self, reduceIte, Nat.reduceEqDiff, Nat.reduceLT, Nat.reduceLeDiff, Nat.reduceMul, false_and, and_false, reduceCtorEq, false_or, or_false, not_true_eq_false, not_false_eq_true, true_implies, false_implies, implies_true, lf_10, eq_self, Int32.reduceLT, Int32.reduceLE, Int32.reduceAdd, Int32.reduceSub, pm_same, pm_i_wI, pm_l_wL, pm_l_wM, pm_oR_rf, pm_oQ_rf, sh_k59 hS, sh_r59_5 hS, sh_k62 hS, sh_z62 hS, sh_r59_15 hS, sh_k72 hS, sh_z72 hS, sh_r59_16 hS, sh_k73 hS, sh_z73 hS, sh_r59_17 hS, sh_k74 hS, sh_z74 hS, sh_r59_19 hS, sh_k75 hS, sh_z75 hS, sh_r59_20 hS, sh_k76 hS, sh_z76 hS, sh_r59_21 hS, sh_k77 hS, sh_z77 hS, nI_1, LQ1, LQ2, hn, Int32.le_refl, bI, hcm, Bool.false_eq_true, hk]
        refine pm_wb_ok pb_c213 5 147 0 _ _ _ _ _ ?_
        try simp only [pm_WI0, pm_WI1, pm_WI2, pm_WI3, pm_WI4, pm_WI5, pm_WV, pm_WW, pm_WX, pb_B213, pm_if, pm_QI_at, pm_QL_at, pm_QV_at, pm_QR_at, pm_QR_at0, pm_QR_at1, Nat.reduceSub, Nat.reduceAdd, List.replicate_zero, List.replicate_succ, true_and, and_true, true_or, or_true, and_self, reduceIte, Nat.reduceEqDiff, Nat.reduceLT, Nat.reduceLeDiff, Nat.reduceMul, false_and, and_false, reduceCtorEq, false_or, or_false, not_true_eq_false, not_false_eq_true, true_implies, false_implies, implies_true, lf_10, eq_self, Int32.reduceLT, Int32.reduceLE, Int32.reduceAdd, Int32.reduceSub, pm_same, pm_i_wI, pm_l_wL, pm_l_wM, pm_oR_rf, pm_oQ_rf, sh_k59 hS, sh_r59_5 hS, sh_k62 hS, sh_z62 hS, sh_r59_15 hS, sh_k72 hS, sh_z72 hS, sh_r59_16 hS, sh_k73 hS, sh_z73 hS, sh_r59_17 hS, sh_k74 hS, sh_z74 hS, sh_r59_19 hS, sh_k75 hS, sh_z75 hS, sh_r59_20 hS, sh_k76 hS, sh_z76 hS, sh_r59_21 hS, sh_k77 hS, sh_z77 hS, nI_1, LQ1, LQ2, hn, Int32.le_refl, bI, hcm, Bool.false_eq_true, hk]
        have n1 : ¬ kp_P1 S m := fun z => by have := e1.mpr z; cases this
        obtain ⟨a, ha, hp, _⟩ := e2.mp rfl
        exact h2 n1 ⟨a, ha, hp⟩
      · refine pm_wb_ok pb_c213 1 36 0 _ _ _ _ _ ?_
        try simp only [pm_WI0, pm_WI1, pm_WI2, pm_WI3, pm_WI4, pm_WI5, pm_WV, pm_WW, pm_WX, pb_B213, pm_if, pm_QI_at, pm_QL_at, pm_QV_at, pm_QR_at, pm_QR_at0, pm_QR_at1, Nat.reduceSub, Nat.reduceAdd, List.replicate_zero, List.replicate_succ, true_and, and_true, true_or, or_true, and_self, reduceIte, Nat.reduceEqDiff, Nat.reduceLT, Nat.reduceLeDiff, Nat.reduceMul, false_and, and_false, reduceCtorEq, false_or, or_false, not_true_eq_false, not_false_eq_true, true_implies, false_implies, implies_true, lf_10, eq_self, Int32.reduceLT, Int32.reduceLE, Int32.reduceAdd, Int32.reduceSub, pm_same, pm_i_wI, pm_l_wL, pm_l_wM, pm_oR_rf, pm_oQ_rf, sh_k59 hS, sh_r59_5 hS, sh_k62 hS, sh_z62 hS, sh_r59_15 hS, sh_k72 hS, sh_z72 hS, sh_r59_16 hS, sh_k73 hS, sh_z73 hS, sh_r59_17 hS, sh_k74 hS, sh_z74 hS, sh_r59_19 hS, sh_k75 hS, sh_z75 hS, sh_r59_20 hS, sh_k76 hS, sh_z76 hS, sh_r59_21 hS, sh_k77 hS, sh_z77 hS, nI_1, LQ1, LQ2, hn, Int32.le_refl, bI, hcm, Bool.false_eq_true, hk]
        refine pm_wb_ok pb_c213 5 147 0 _ _ _ _ _ ?_
        try simp only [pm_WI0, pm_WI1, pm_WI2, pm_WI3, pm_WI4, pm_WI5, pm_WV, pm_WW, pm_WX, pb_B213, pm_if, pm_QI_at, pm_QL_at, pm_QV_at, pm_QR_at, pm_QR_at0, pm_QR_at1, Nat.reduceSub, Nat.reduceAdd, List.replicate_zero, List.replicate_succ, true_and, and_true, true_or, or_true, and_self, reduceIte, Nat.reduceEqDiff, Nat.reduceLT, Nat.reduceLeDiff, Nat.reduceMul, false_and, and_false, reduceCtorEq, false_or, or_false, not_true_eq_false, not_false_eq_true, true_implies, false_implies, implies_true, lf_10, eq_self, Int32.reduceLT, Int32.reduceLE, Int32.reduceAdd, Int32.reduceSub, pm_same, pm_i_wI, pm_l_wL, pm_l_wM, pm_oR_rf, pm_oQ_rf, sh_k59 hS, sh_r59_5 hS, sh_k62 hS, sh_z62 hS, sh_r59_15 hS, sh_k72 hS, sh_z72 hS, sh_r59_16 hS, sh_k73 hS, sh_z73 hS, sh_r59_17 hS, sh_k74 hS, sh_z74 hS, sh_r59_19 hS, sh_k75 hS, sh_z75 hS, sh_r59_20 hS, sh_k76 hS, sh_z76 hS, sh_r59_21 hS, sh_k77 hS, sh_z77 hS, nI_1, LQ1, LQ2, hn, Int32.le_refl, bI, hcm, Bool.false_eq_true, hk]
        exact h1 (e1.mp rfl)
      · refine pm_wb_ok pb_c213 1 36 0 _ _ _ _ _ ?_
        try simp only [pm_WI0, pm_WI1, pm_WI2, pm_WI3, pm_WI4, pm_WI5, pm_WV, pm_WW, pm_WX, pb_B213, pm_if, pm_QI_at, pm_QL_at, pm_QV_at, pm_QR_at, pm_QR_at0, pm_QR_at1, Nat.reduceSub, Nat.reduceAdd, List.replicate_zero, List.replicate_succ, true_and, and_true, true_or, or_true, and_self, reduceIte, Nat.reduceEqDiff, Nat.reduceLT, Nat.reduceLeDiff, Nat.reduceMul, false_and, and_false, reduceCtorEq, false_or, or_false, not_true_eq_false, not_false_eq_true, true_implies, false_implies, implies_true, lf_10, eq_self, Int32.reduceLT, Int32.reduceLE, Int32.reduceAdd, Int32.reduceSub, pm_same, pm_i_wI, pm_l_wL, pm_l_wM, pm_oR_rf, pm_oQ_rf, sh_k59 hS, sh_r59_5 hS, sh_k62 hS, sh_z62 hS, sh_r59_15 hS, sh_k72 hS, sh_z72 hS, sh_r59_16 hS, sh_k73 hS, sh_z73 hS, sh_r59_17 hS, sh_k74 hS, sh_z74 hS, sh_r59_19 hS, sh_k75 hS, sh_z75 hS, sh_r59_20 hS, sh_k76 hS, sh_z76 hS, sh_r59_21 hS, sh_k77 hS, sh_z77 hS, nI_1, LQ1, LQ2, hn, Int32.le_refl, bI, hcm, Bool.false_eq_true, hk]
        refine pm_wb_ok pb_c213 5 147 0 _ _ _ _ _ ?_
        try simp only [pm_WI0, pm_WI1, pm_WI2, pm_WI3, pm_WI4, pm_WI5, pm_WV, pm_WW, pm_WX, pb_B213, pm_if, pm_QI_at, pm_QL_at, pm_QV_at, pm_QR_at, pm_QR_at0, pm_QR_at1, Nat.reduceSub, Nat.reduceAdd, List.replicate_zero, List.replicate_succ, true_and, and_true, true_or, or_true, and_self, reduceIte, Nat.reduceEqDiff, Nat.reduceLT, Nat.reduceLeDiff, Nat.reduceMul, false_and, and_false, reduceCtorEq, false_or, or_false, not_true_eq_false, not_false_eq_true, true_implies, false_implies, implies_true, lf_10, eq_self, Int32.reduceLT, Int32.reduceLE, Int32.reduceAdd, Int32.reduceSub, pm_same, pm_i_wI, pm_l_wL, pm_l_wM, pm_oR_rf, pm_oQ_rf, sh_k59 hS, sh_r59_5 hS, sh_k62 hS, sh_z62 hS, sh_r59_15 hS, sh_k72 hS, sh_z72 hS, sh_r59_16 hS, sh_k73 hS, sh_z73 hS, sh_r59_17 hS, sh_k74 hS, sh_z74 hS, sh_r59_19 hS, sh_k75 hS, sh_z75 hS, sh_r59_20 hS, sh_k76 hS, sh_z76 hS, sh_r59_21 hS, sh_k77 hS, sh_z77 hS, nI_1, LQ1, LQ2, hn, Int32.le_refl, bI, hcm, Bool.false_eq_true, hk]
        exact h1 (e1.mp rfl)
    | succ r ih =>
      intro j t1 t2 X hj hij e1 e2
      have hle : ¬ nI (iv_c S 24) ≤ nI j := nI_ge (by omega) (by omega)
      have hcj := nI_clamp (n := j) (by omega)
      have hvj := vp_in_nI (n := j) (N := 150) (by omega) (by decide)
      have hpj : pm_i S 74 m ≤ nI j := by rw [hp]; exact nI_le hij (by omega)
      have nx : ∀ (u1 u2 : Bool) (X : Value), (u1 = true ↔ t1 = true ∨ kp_1 S m j) → (u2 = true ↔ t2 = true ∨ (kp_2 S m j ∧ ¬ kp_1 S m j)) → pm_W G d 213 (pm_QI q) 36 [.ref 59, .int (nI m), .int (bI u1), .int (bI u2), .int (nI (j + 1)), X] [] S 0 0 := by
        intro u1 u2 X f1 f2
        refine ih (j + 1) u1 u2 X (by omega) (by omega) ?_ ?_
        · rw [f1, e1]
          constructor
          · rintro (⟨a, ha, h⟩ | h)
            · exact ⟨a, by omega, h⟩
            · exact ⟨j, by omega, h⟩
          · rintro ⟨a, ha, h⟩
            by_cases haj : a = j
            · subst haj; exact Or.inr h
            · exact Or.inl ⟨a, by omega, h⟩
        · rw [f2, e2]
          constructor
          · rintro (⟨a, ha, h⟩ | h)
            · exact ⟨a, by omega, h⟩
            · exact ⟨j, by omega, h⟩
          · rintro ⟨a, ha, h⟩
            by_cases haj : a = j
            · subst haj; exact Or.inr h
            · exact Or.inl ⟨a, by omega, h⟩
      by_cases hm2 : pm_i S 75 j = nI m
      · by_cases hs2 : pm_i S 76 j = pm_i S 72 m
        · have k2 : kp_2 S m j := ⟨hm2, hpj, hs2⟩
          by_cases hd2 : pm_i S 77 j ≤ pm_i S 73 m
          · have k1 : kp_1 S m j := ⟨k2, hd2⟩
            have hd3 : ¬ pm_i S 73 m < pm_i S 77 j := by lia
            have := fun X => nx true t2 X (by simp [k1]) (by simp [k1])
            cases t1 <;> cases t2
            all_goals
              try simp only [bI, reduceIte, Bool.false_eq_true] at this
              repeat' (first | exact this _ | exact hvj | exact hvm | refine ⟨?_, ?_⟩ | (refine pm_wb_ok pb_c213 1 _ 0 _ _ _ _ _ ?_; simp only [pm_WI0, pm_WI1, pm_WI2, pm_WI3, pm_WI4, pm_WI5, pm_WV, pm_WW, pm_WX, pb_B213, pm_if, pm_QI_at, pm_QL_at, pm_QV_at, pm_QR_at, pm_QR_at0, pm_QR_at1, Nat.reduceSub, Nat.reduceAdd, List.replicate_zero, List.replicate_succ, true_and, and_true, true_or, or_true, and_self, reduceIte, Nat.reduceEqDiff, Nat.reduceLT, Nat.reduceLeDiff, Nat.reduceMul, false_and, and_false, reduceCtorEq, false_or, or_false, not_true_eq_false, not_false_eq_true, true_implies, false_implies, implies_true, lf_10, eq_self, Int32.reduceLT, Int32.reduceLE, Int32.reduceAdd, Int32.reduceSub, pm_same, pm_i_wI, pm_l_wL, pm_l_wM, pm_oR_rf, pm_oQ_rf, sh_k59 hS, sh_r59_5 hS, sh_k62 hS, sh_z62 hS, sh_r59_15 hS, sh_k72 hS, sh_z72 hS, sh_r59_16 hS, sh_k73 hS, sh_z73 hS, sh_r59_17 hS, sh_k74 hS, sh_z74 hS, sh_r59_19 hS, sh_k75 hS, sh_z75 hS, sh_r59_20 hS, sh_k76 hS, sh_z76 hS, sh_r59_21 hS, sh_k77 hS, sh_z77 hS, nI_1, LQ1, LQ2, hn, hle, hcj, hcm, bI, Bool.false_eq_true, hm2, hs2, hd2, hd3]))
          · have k1 : ¬ kp_1 S m j := fun z => hd2 z.2
            have hd3 : pm_i S 73 m < pm_i S 77 j := by lia
            have := fun X => nx t1 true X (by simp [k1]) (by simp [k1, k2])
            cases t1 <;> cases t2
            all_goals
              try simp only [bI, reduceIte, Bool.false_eq_true] at this
              repeat' (first | exact this _ | exact hvj | exact hvm | refine ⟨?_, ?_⟩ | (refine pm_wb_ok pb_c213 1 _ 0 _ _ _ _ _ ?_; simp only [pm_WI0, pm_WI1, pm_WI2, pm_WI3, pm_WI4, pm_WI5, pm_WV, pm_WW, pm_WX, pb_B213, pm_if, pm_QI_at, pm_QL_at, pm_QV_at, pm_QR_at, pm_QR_at0, pm_QR_at1, Nat.reduceSub, Nat.reduceAdd, List.replicate_zero, List.replicate_succ, true_and, and_true, true_or, or_true, and_self, reduceIte, Nat.reduceEqDiff, Nat.reduceLT, Nat.reduceLeDiff, Nat.reduceMul, false_and, and_false, reduceCtorEq, false_or, or_false, not_true_eq_false, not_false_eq_true, true_implies, false_implies, implies_true, lf_10, eq_self, Int32.reduceLT, Int32.reduceLE, Int32.reduceAdd, Int32.reduceSub, pm_same, pm_i_wI, pm_l_wL, pm_l_wM, pm_oR_rf, pm_oQ_rf, sh_k59 hS, sh_r59_5 hS, sh_k62 hS, sh_z62 hS, sh_r59_15 hS, sh_k72 hS, sh_z72 hS, sh_r59_16 hS, sh_k73 hS, sh_z73 hS, sh_r59_17 hS, sh_k74 hS, sh_z74 hS, sh_r59_19 hS, sh_k75 hS, sh_z75 hS, sh_r59_20 hS, sh_k76 hS, sh_z76 hS, sh_r59_21 hS, sh_k77 hS, sh_z77 hS, nI_1, LQ1, LQ2, hn, hle, hcj, hcm, bI, Bool.false_eq_true, hm2, hs2, hd2, hd3]))
        · have k2 : ¬ kp_2 S m j := fun z => hs2 z.2.2
          have k1 : ¬ kp_1 S m j := fun z => k2 z.1
          have := fun X => nx t1 t2 X (by simp [k1]) (by simp [k2])
          cases t1 <;> cases t2
          all_goals
            try simp only [bI, reduceIte, Bool.false_eq_true] at this
            repeat' (first | exact this _ | exact hvj | exact hvm | refine ⟨?_, ?_⟩ | (refine pm_wb_ok pb_c213 1 _ 0 _ _ _ _ _ ?_; simp only [pm_WI0, pm_WI1, pm_WI2, pm_WI3, pm_WI4, pm_WI5, pm_WV, pm_WW, pm_WX, pb_B213, pm_if, pm_QI_at, pm_QL_at, pm_QV_at, pm_QR_at, pm_QR_at0, pm_QR_at1, Nat.reduceSub, Nat.reduceAdd, List.replicate_zero, List.replicate_succ, true_and, and_true, true_or, or_true, and_self, reduceIte, Nat.reduceEqDiff, Nat.reduceLT, Nat.reduceLeDiff, Nat.reduceMul, false_and, and_false, reduceCtorEq, false_or, or_false, not_true_eq_false, not_false_eq_true, true_implies, false_implies, implies_true, lf_10, eq_self, Int32.reduceLT, Int32.reduceLE, Int32.reduceAdd, Int32.reduceSub, pm_same, pm_i_wI, pm_l_wL, pm_l_wM, pm_oR_rf, pm_oQ_rf, sh_k59 hS, sh_r59_5 hS, sh_k62 hS, sh_z62 hS, sh_r59_15 hS, sh_k72 hS, sh_z72 hS, sh_r59_16 hS, sh_k73 hS, sh_z73 hS, sh_r59_17 hS, sh_k74 hS, sh_z74 hS, sh_r59_19 hS, sh_k75 hS, sh_z75 hS, sh_r59_20 hS, sh_k76 hS, sh_z76 hS, sh_r59_21 hS, sh_k77 hS, sh_z77 hS, nI_1, LQ1, LQ2, hn, hle, hcj, hcm, bI, Bool.false_eq_true, hm2, hs2]))
      · have k2 : ¬ kp_2 S m j := fun z => hm2 z.1
        have k1 : ¬ kp_1 S m j := fun z => k2 z.1
        have := fun X => nx t1 t2 X (by simp [k1]) (by simp [k2])
        cases t1 <;> cases t2
        all_goals
          try simp only [bI, reduceIte, Bool.false_eq_true] at this
          repeat' (first | exact this _ | exact hvj | exact hvm | refine ⟨?_, ?_⟩ | (refine pm_wb_ok pb_c213 1 _ 0 _ _ _ _ _ ?_; simp only [pm_WI0, pm_WI1, pm_WI2, pm_WI3, pm_WI4, pm_WI5, pm_WV, pm_WW, pm_WX, pb_B213, pm_if, pm_QI_at, pm_QL_at, pm_QV_at, pm_QR_at, pm_QR_at0, pm_QR_at1, Nat.reduceSub, Nat.reduceAdd, List.replicate_zero, List.replicate_succ, true_and, and_true, true_or, or_true, and_self, reduceIte, Nat.reduceEqDiff, Nat.reduceLT, Nat.reduceLeDiff, Nat.reduceMul, false_and, and_false, reduceCtorEq, false_or, or_false, not_true_eq_false, not_false_eq_true, true_implies, false_implies, implies_true, lf_10, eq_self, Int32.reduceLT, Int32.reduceLE, Int32.reduceAdd, Int32.reduceSub, pm_same, pm_i_wI, pm_l_wL, pm_l_wM, pm_oR_rf, pm_oQ_rf, sh_k59 hS, sh_r59_5 hS, sh_k62 hS, sh_z62 hS, sh_r59_15 hS, sh_k72 hS, sh_z72 hS, sh_r59_16 hS, sh_k73 hS, sh_z73 hS, sh_r59_17 hS, sh_k74 hS, sh_z74 hS, sh_r59_19 hS, sh_k75 hS, sh_z75 hS, sh_r59_20 hS, sh_k76 hS, sh_z76 hS, sh_r59_21 hS, sh_k77 hS, sh_z77 hS, nI_1, LQ1, LQ2, hn, hle, hcj, hcm, bI, Bool.false_eq_true, hm2]))
  refine pm_wb_ok pb_c213 1 24 0 _ _ _ _ _ ?_
  try simp only [pm_WI0, pm_WI1, pm_WI2, pm_WI3, pm_WI4, pm_WI5, pm_WV, pm_WW, pm_WX, pb_B213, pm_if, pm_QI_at, pm_QL_at, pm_QV_at, pm_QR_at, pm_QR_at0, pm_QR_at1, Nat.reduceSub, Nat.reduceAdd, List.replicate_zero, List.replicate_succ, true_and, and_true, true_or, or_true, and_self, reduceIte, Nat.reduceEqDiff, Nat.reduceLT, Nat.reduceLeDiff, Nat.reduceMul, false_and, and_false, reduceCtorEq, false_or, or_false, not_true_eq_false, not_false_eq_true, true_implies, false_implies, implies_true, lf_10, eq_self, Int32.reduceLT, Int32.reduceLE, Int32.reduceAdd, Int32.reduceSub, pm_same, pm_i_wI, pm_l_wL, pm_l_wM, pm_oR_rf, pm_oQ_rf, sh_k59 hS, sh_r59_5 hS, sh_k62 hS, sh_z62 hS, sh_r59_15 hS, sh_k72 hS, sh_z72 hS, sh_r59_16 hS, sh_k73 hS, sh_z73 hS, sh_r59_17 hS, sh_k74 hS, sh_z74 hS, sh_r59_19 hS, sh_k75 hS, sh_z75 hS, sh_r59_20 hS, sh_k76 hS, sh_z76 hS, sh_r59_21 hS, sh_k77 hS, sh_z77 hS, nI_1, LQ1, LQ2, hcm, hp]
  refine ⟨hvm, key (iv_c S 24 - i) i false false (.float 0) (by omega) (Nat.le_refl i) ⟨fun z => (by cases z), fun ⟨a, ha, hp1⟩ => ?_⟩ ⟨fun z => (by cases z), fun ⟨a, ha, hp1, _⟩ => ?_⟩⟩
  · have := hp1.1.2.1
    rw [hp] at this
    exact absurd ((nI_leI (by omega) (by omega)).mp this) (by omega)
  · have := hp1.2.1
    rw [hp] at this
    exact absurd ((nI_leI (by omega) (by omega)).mp this) (by omega)
theorem pp_kept {G : pm_G} {d : Nat} {A : iv_A} {S : pm_S} {m : Int32} (hd : 40 ≤ d) (hI : Inv A S) : pm_CI G d 118 [.ref 0, .int m] S (fun r S1 => pm_CI G d 213 [.ref 59, .int m] S1 (fun r' S2 => pv_end A r r' S2)) := by
  have hS := hI.sh
  have h18 := (MI.c18 hI.mi).1
  refine pm_goI 118 40 pb_c118 (by decide) (Nat.le_of_ble_eq_true rfl) rfl ?_
  try simp only [show pm_mL 118 = 3 from rfl, pm_WI0, pm_WI1, pm_WI2, pm_WI3, pm_WI4, pm_WI5, pm_WV, pm_WW, pm_WX, pb_B118, pm_if, pm_QI_at, pm_QL_at, pm_QV_at, pm_QR_at, pm_QR_at0, pm_QR_at1, Nat.reduceSub, Nat.reduceAdd, List.replicate_zero, List.replicate_succ, true_and, and_true, true_or, or_true, and_self, reduceIte, Nat.reduceEqDiff, Nat.reduceLT, Nat.reduceLeDiff, Nat.reduceMul, false_and, and_false, reduceCtorEq, false_or, or_false, not_true_eq_false, not_false_eq_true, true_implies, false_implies, implies_true, lf_10, eq_self, Int32.reduceLT, Int32.reduceLE, Int32.reduceAdd, Int32.reduceSub, pm_same, pm_i_wI, pm_l_wL, pm_l_wM, pm_oR_rf, pm_oQ_rf, sh_k0 hS, sh_r0_0 hS, sh_k1 hS, nI_1, LQ1, LQ2]
  refine ⟨by omega, lf_108 (v := m) hI (fun hx ha hw => ?_) (fun hx => ?_)⟩
  · have hmm := iv_nn hx.1
    have h40 : m.toNatClampNeg < 40 := by omega
    have hv := vp_in_nI (n := m.toNatClampNeg) (N := 40) h40 (by decide)
    have hvm : vp_in m 40 := by rw [hmm]; exact hv
    by_cases hk6 : pm_i S 62 m.toNatClampNeg = 6
    · have fin : ∀ r : Int32, ((kp_P1 S m.toNatClampNeg ∧ r = 1) ∨ (¬ kp_P1 S m.toNatClampNeg ∧ kp_P2 S m.toNatClampNeg ∧ r = 2) ∨ (¬ kp_P1 S m.toNatClampNeg ∧ ¬ kp_P2 S m.toNatClampNeg ∧ pm_i S 73 m.toNatClampNeg < pm_i S 59 0 ∧ r = 3) ∨ (¬ kp_P1 S m.toNatClampNeg ∧ ¬ kp_P2 S m.toNatClampNeg ∧ ¬ pm_i S 73 m.toNatClampNeg < pm_i S 59 0 ∧ r = 0)) → pm_CI G d 213 [.ref 59, .int m] S (fun r' S2 => pv_end A r r' S2) := by
        intro r hr
        have hok := hI.ok ha
        refine pm_goI 213 2 pb_c213 (by decide) (Nat.le_of_ble_eq_true rfl) rfl ?_
        try simp only [show pm_mL 213 = 6 from rfl, pm_WI0, pm_WI1, pm_WI2, pm_WI3, pm_WI4, pm_WI5, pm_WV, pm_WW, pm_WX, pb_B213, pm_if, pm_QI_at, pm_QL_at, pm_QV_at, pm_QR_at, pm_QR_at0, pm_QR_at1, Nat.reduceSub, Nat.reduceAdd, List.replicate_zero, List.replicate_succ, true_and, and_true, true_or, or_true, and_self, reduceIte, Nat.reduceEqDiff, Nat.reduceLT, Nat.reduceLeDiff, Nat.reduceMul, false_and, and_false, reduceCtorEq, false_or, or_false, not_true_eq_false, not_false_eq_true, true_implies, false_implies, implies_true, lf_10, eq_self, Int32.reduceLT, Int32.reduceLE, Int32.reduceAdd, Int32.reduceSub, pm_same, pm_i_wI, pm_l_wL, pm_l_wM, pm_oR_rf, pm_oQ_rf, sh_k59 hS, sh_r59_5 hS, sh_k62 hS, sh_z62 hS, sh_r59_15 hS, sh_k72 hS, sh_z72 hS, sh_r59_16 hS, sh_k73 hS, sh_z73 hS, sh_r59_17 hS, sh_k74 hS, sh_z74 hS, sh_r59_19 hS, sh_k75 hS, sh_z75 hS, sh_r59_20 hS, sh_k76 hS, sh_z76 hS, sh_r59_21 hS, sh_k77 hS, sh_z77 hS, nI_1, LQ1, LQ2]
        refine ⟨by omega, lf_173 hS (fun _ => ?_) (fun z => absurd hx z)⟩
        try simp only [pm_WV, pm_WW, true_and, and_true, true_or, or_true, and_self, reduceIte, Nat.reduceEqDiff, Nat.reduceLT, Nat.reduceLeDiff, Nat.reduceMul, false_and, and_false, reduceCtorEq, false_or, or_false, not_true_eq_false, not_false_eq_true, true_implies, false_implies, implies_true, lf_10, eq_self, Int32.reduceLT, Int32.reduceLE, Int32.reduceAdd, Int32.reduceSub, pm_same, pm_i_wI, pm_l_wL, pm_l_wM, pm_oR_rf, pm_oQ_rf, nI_1, sw_e, LQ1, LQ2, pm_WI0, pm_WI1, pm_WI2, pm_WI3, pm_WI4, pm_WI5, pm_WV, pm_WW, pm_WX, pb_B213, pm_if, pm_QI_at, pm_QL_at, pm_QV_at, pm_QR_at, pm_QR_at0, pm_QR_at1, Nat.reduceSub, Nat.reduceAdd, List.replicate_zero, List.replicate_succ, true_and, and_true, true_or, or_true, and_self, reduceIte, Nat.reduceEqDiff, Nat.reduceLT, Nat.reduceLeDiff, Nat.reduceMul, false_and, and_false, reduceCtorEq, false_or, or_false, not_true_eq_false, not_false_eq_true, true_implies, false_implies, implies_true, lf_10, eq_self, Int32.reduceLT, Int32.reduceLE, Int32.reduceAdd, Int32.reduceSub, pm_same, pm_i_wI, pm_l_wL, pm_l_wM, pm_oR_rf, pm_oQ_rf, sh_k59 hS, sh_r59_5 hS, sh_k62 hS, sh_z62 hS, sh_r59_15 hS, sh_k72 hS, sh_z72 hS, sh_r59_16 hS, sh_k73 hS, sh_z73 hS, sh_r59_17 hS, sh_k74 hS, sh_z74 hS, sh_r59_19 hS, sh_k75 hS, sh_z75 hS, sh_r59_20 hS, sh_k76 hS, sh_z76 hS, sh_r59_21 hS, sh_k77 hS, sh_z77 hS, nI_1, LQ1, LQ2, hk6]
        refine ⟨hvm, ?_⟩
        have h74 := hok.2.2.2.2.1
        have e74 := iv_nn h74.1
        have hle : (pm_i S 74 m.toNatClampNeg).toNatClampNeg ≤ iv_c S 24 := by
          have := h74.2
          have hc24 := (MI.c24 hI.mi).2
          rw [e74, hc24] at this
          exact (nI_leI (by have := (MI.c24 hI.mi).1; have := iv_le (n := 150) 150 (by have := hI.act.2.1.2; lia : pm_i S 74 m.toNatClampNeg ≤ 150) (by decide); omega) (by have := (MI.c24 hI.mi).1; omega)).mp this
        have kk := mk_213 (G := G) (d := d) (S := S) (m := m.toNatClampNeg) (n := 0) (i := (pm_i S 74 m.toNatClampNeg).toNatClampNeg) (k := pm_i S 59 0) (q := fun r' S2 => pv_end A r r' S2) hS h40 rfl (MI.c24 hI.mi).2 (MI.c24 hI.mi).1 e74 hle hk6 (fun p1 => ?_) (fun n1 p2 => ?_) (fun n1 n2 y => ?_) (fun n1 n2 y => ?_)
        · rw [← hmm] at kk
          first | exact kk | exact pv_W kk (by simp [pv_le, pm_unk])
        all_goals
          rcases hr with ⟨z1, rfl⟩ | ⟨z1, z2, rfl⟩ | ⟨z1, z2, z3, rfl⟩ | ⟨z1, z2, z3, rfl⟩
          all_goals first | exact pv_same hI | contradiction | (exfalso; exact absurd ‹_› ‹_›)
      try simp only [pm_WV, pm_WW, true_and, and_true, true_or, or_true, and_self, reduceIte, Nat.reduceEqDiff, Nat.reduceLT, Nat.reduceLeDiff, Nat.reduceMul, false_and, and_false, reduceCtorEq, false_or, or_false, not_true_eq_false, not_false_eq_true, true_implies, false_implies, implies_true, lf_10, eq_self, Int32.reduceLT, Int32.reduceLE, Int32.reduceAdd, Int32.reduceSub, pm_same, pm_i_wI, pm_l_wL, pm_l_wM, pm_oR_rf, pm_oQ_rf, nI_1, sw_e, LQ1, LQ2, pm_WI0, pm_WI1, pm_WI2, pm_WI3, pm_WI4, pm_WI5, pm_WV, pm_WW, pm_WX, pb_B118, pm_if, pm_QI_at, pm_QL_at, pm_QV_at, pm_QR_at, pm_QR_at0, pm_QR_at1, Nat.reduceSub, Nat.reduceAdd, List.replicate_zero, List.replicate_succ, true_and, and_true, true_or, or_true, and_self, reduceIte, Nat.reduceEqDiff, Nat.reduceLT, Nat.reduceLeDiff, Nat.reduceMul, false_and, and_false, reduceCtorEq, false_or, or_false, not_true_eq_false, not_false_eq_true, true_implies, false_implies, implies_true, lf_10, eq_self, Int32.reduceLT, Int32.reduceLE, Int32.reduceAdd, Int32.reduceSub, pm_same, pm_i_wI, pm_l_wL, pm_l_wM, pm_oR_rf, pm_oQ_rf, sh_k0 hS, sh_r0_0 hS, sh_k1 hS, nI_1, LQ1, LQ2, hw.k, hw.f6, hk6, hI.e1_0]
      refine ⟨by omega, lf_64 hI ha (fun p1 => fin 1 (Or.inl ⟨p1, rfl⟩)) (fun n1 p2 => fin 2 (Or.inr (Or.inl ⟨n1, p2, rfl⟩))) (fun n1 n2 y => fin 3 (Or.inr (Or.inr (Or.inl ⟨n1, n2, y, rfl⟩)))) (fun n1 n2 y => fin 0 (Or.inr (Or.inr (Or.inr ⟨n1, n2, y, rfl⟩))))⟩
    · try simp only [pm_WV, pm_WW, true_and, and_true, true_or, or_true, and_self, reduceIte, Nat.reduceEqDiff, Nat.reduceLT, Nat.reduceLeDiff, Nat.reduceMul, false_and, and_false, reduceCtorEq, false_or, or_false, not_true_eq_false, not_false_eq_true, true_implies, false_implies, implies_true, lf_10, eq_self, Int32.reduceLT, Int32.reduceLE, Int32.reduceAdd, Int32.reduceSub, pm_same, pm_i_wI, pm_l_wL, pm_l_wM, pm_oR_rf, pm_oQ_rf, nI_1, sw_e, LQ1, LQ2, pm_WI0, pm_WI1, pm_WI2, pm_WI3, pm_WI4, pm_WI5, pm_WV, pm_WW, pm_WX, pb_B118, pm_if, pm_QI_at, pm_QL_at, pm_QV_at, pm_QR_at, pm_QR_at0, pm_QR_at1, Nat.reduceSub, Nat.reduceAdd, List.replicate_zero, List.replicate_succ, true_and, and_true, true_or, or_true, and_self, reduceIte, Nat.reduceEqDiff, Nat.reduceLT, Nat.reduceLeDiff, Nat.reduceMul, false_and, and_false, reduceCtorEq, false_or, or_false, not_true_eq_false, not_false_eq_true, true_implies, false_implies, implies_true, lf_10, eq_self, Int32.reduceLT, Int32.reduceLE, Int32.reduceAdd, Int32.reduceSub, pm_same, pm_i_wI, pm_l_wL, pm_l_wM, pm_oR_rf, pm_oQ_rf, sh_k0 hS, sh_r0_0 hS, sh_k1 hS, nI_1, LQ1, LQ2, hw.k, hw.f6, hk6]
      refine pm_goI 213 4 pb_c213 (by decide) (Nat.le_of_ble_eq_true rfl) rfl ?_
      try simp only [show pm_mL 213 = 6 from rfl, pm_WI0, pm_WI1, pm_WI2, pm_WI3, pm_WI4, pm_WI5, pm_WV, pm_WW, pm_WX, pb_B213, pm_if, pm_QI_at, pm_QL_at, pm_QV_at, pm_QR_at, pm_QR_at0, pm_QR_at1, Nat.reduceSub, Nat.reduceAdd, List.replicate_zero, List.replicate_succ, true_and, and_true, true_or, or_true, and_self, reduceIte, Nat.reduceEqDiff, Nat.reduceLT, Nat.reduceLeDiff, Nat.reduceMul, false_and, and_false, reduceCtorEq, false_or, or_false, not_true_eq_false, not_false_eq_true, true_implies, false_implies, implies_true, lf_10, eq_self, Int32.reduceLT, Int32.reduceLE, Int32.reduceAdd, Int32.reduceSub, pm_same, pm_i_wI, pm_l_wL, pm_l_wM, pm_oR_rf, pm_oQ_rf, sh_k59 hS, sh_r59_5 hS, sh_k62 hS, sh_z62 hS, sh_r59_15 hS, sh_k72 hS, sh_z72 hS, sh_r59_16 hS, sh_k73 hS, sh_z73 hS, sh_r59_17 hS, sh_k74 hS, sh_z74 hS, sh_r59_19 hS, sh_k75 hS, sh_z75 hS, sh_r59_20 hS, sh_k76 hS, sh_z76 hS, sh_r59_21 hS, sh_k77 hS, sh_z77 hS, nI_1, LQ1, LQ2]
      refine ⟨by omega, lf_173 hS (fun _ => ?_) (fun z => absurd hx z)⟩
      try simp only [pm_WV, pm_WW, true_and, and_true, true_or, or_true, and_self, reduceIte, Nat.reduceEqDiff, Nat.reduceLT, Nat.reduceLeDiff, Nat.reduceMul, false_and, and_false, reduceCtorEq, false_or, or_false, not_true_eq_false, not_false_eq_true, true_implies, false_implies, implies_true, lf_10, eq_self, Int32.reduceLT, Int32.reduceLE, Int32.reduceAdd, Int32.reduceSub, pm_same, pm_i_wI, pm_l_wL, pm_l_wM, pm_oR_rf, pm_oQ_rf, nI_1, sw_e, LQ1, LQ2, pm_WI0, pm_WI1, pm_WI2, pm_WI3, pm_WI4, pm_WI5, pm_WV, pm_WW, pm_WX, pb_B213, pm_if, pm_QI_at, pm_QL_at, pm_QV_at, pm_QR_at, pm_QR_at0, pm_QR_at1, Nat.reduceSub, Nat.reduceAdd, List.replicate_zero, List.replicate_succ, true_and, and_true, true_or, or_true, and_self, reduceIte, Nat.reduceEqDiff, Nat.reduceLT, Nat.reduceLeDiff, Nat.reduceMul, false_and, and_false, reduceCtorEq, false_or, or_false, not_true_eq_false, not_false_eq_true, true_implies, false_implies, implies_true, lf_10, eq_self, Int32.reduceLT, Int32.reduceLE, Int32.reduceAdd, Int32.reduceSub, pm_same, pm_i_wI, pm_l_wL, pm_l_wM, pm_oR_rf, pm_oQ_rf, sh_k59 hS, sh_r59_5 hS, sh_k62 hS, sh_z62 hS, sh_r59_15 hS, sh_k72 hS, sh_z72 hS, sh_r59_16 hS, sh_k73 hS, sh_z73 hS, sh_r59_17 hS, sh_k74 hS, sh_z74 hS, sh_r59_19 hS, sh_k75 hS, sh_z75 hS, sh_r59_20 hS, sh_k76 hS, sh_z76 hS, sh_r59_21 hS, sh_k77 hS, sh_z77 hS, nI_1, LQ1, LQ2, hk6]
      first | exact ⟨hvm, pv_same hI⟩ | exact pv_same hI
  · try simp only [pm_WV, pm_WW, true_and, and_true, true_or, or_true, and_self, reduceIte, Nat.reduceEqDiff, Nat.reduceLT, Nat.reduceLeDiff, Nat.reduceMul, false_and, and_false, reduceCtorEq, false_or, or_false, not_true_eq_false, not_false_eq_true, true_implies, false_implies, implies_true, lf_10, eq_self, Int32.reduceLT, Int32.reduceLE, Int32.reduceAdd, Int32.reduceSub, pm_same, pm_i_wI, pm_l_wL, pm_l_wM, pm_oR_rf, pm_oQ_rf, nI_1, sw_e, LQ1, LQ2, pm_WI0, pm_WI1, pm_WI2, pm_WI3, pm_WI4, pm_WI5, pm_WV, pm_WW, pm_WX, pb_B118, pm_if, pm_QI_at, pm_QL_at, pm_QV_at, pm_QR_at, pm_QR_at0, pm_QR_at1, Nat.reduceSub, Nat.reduceAdd, List.replicate_zero, List.replicate_succ]
    refine pm_goI 213 4 pb_c213 (by decide) (Nat.le_of_ble_eq_true rfl) rfl ?_
    try simp only [show pm_mL 213 = 6 from rfl, pm_WI0, pm_WI1, pm_WI2, pm_WI3, pm_WI4, pm_WI5, pm_WV, pm_WW, pm_WX, pb_B213, pm_if, pm_QI_at, pm_QL_at, pm_QV_at, pm_QR_at, pm_QR_at0, pm_QR_at1, Nat.reduceSub, Nat.reduceAdd, List.replicate_zero, List.replicate_succ, true_and, and_true, true_or, or_true, and_self, reduceIte, Nat.reduceEqDiff, Nat.reduceLT, Nat.reduceLeDiff, Nat.reduceMul, false_and, and_false, reduceCtorEq, false_or, or_false, not_true_eq_false, not_false_eq_true, true_implies, false_implies, implies_true, lf_10, eq_self, Int32.reduceLT, Int32.reduceLE, Int32.reduceAdd, Int32.reduceSub, pm_same, pm_i_wI, pm_l_wL, pm_l_wM, pm_oR_rf, pm_oQ_rf, sh_k59 hS, sh_r59_5 hS, sh_k62 hS, sh_z62 hS, sh_r59_15 hS, sh_k72 hS, sh_z72 hS, sh_r59_16 hS, sh_k73 hS, sh_z73 hS, sh_r59_17 hS, sh_k74 hS, sh_z74 hS, sh_r59_19 hS, sh_k75 hS, sh_z75 hS, sh_r59_20 hS, sh_k76 hS, sh_z76 hS, sh_r59_21 hS, sh_k77 hS, sh_z77 hS, nI_1, LQ1, LQ2]
    refine ⟨by omega, lf_173 hS (fun z => absurd z hx) (fun _ => ?_)⟩
    try simp only [pm_WV, pm_WW, true_and, and_true, true_or, or_true, and_self, reduceIte, Nat.reduceEqDiff, Nat.reduceLT, Nat.reduceLeDiff, Nat.reduceMul, false_and, and_false, reduceCtorEq, false_or, or_false, not_true_eq_false, not_false_eq_true, true_implies, false_implies, implies_true, lf_10, eq_self, Int32.reduceLT, Int32.reduceLE, Int32.reduceAdd, Int32.reduceSub, pm_same, pm_i_wI, pm_l_wL, pm_l_wM, pm_oR_rf, pm_oQ_rf, nI_1, sw_e, LQ1, LQ2, pm_WI0, pm_WI1, pm_WI2, pm_WI3, pm_WI4, pm_WI5, pm_WV, pm_WW, pm_WX, pb_B213, pm_if, pm_QI_at, pm_QL_at, pm_QV_at, pm_QR_at, pm_QR_at0, pm_QR_at1, Nat.reduceSub, Nat.reduceAdd, List.replicate_zero, List.replicate_succ]
    exact pv_same hI
