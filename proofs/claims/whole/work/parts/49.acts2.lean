def oI : Option Nat → Int32
  | none => -1
  | some a => nI a
def ac_m (M : Nat → Int32) (m : Int32) (c : Nat → Bool) (a : Nat) : Bool := decide (M a = m) && c a
theorem ac_f_succ (c : Nat → Bool) (bt : Nat → Nat → Bool) (i : Nat) : ac_f c bt (List.range (i + 1)) none = ac_s c bt (ac_f c bt (List.range i) none) i := by
  unfold ac_f; rw [List.range_succ, List.foldl_append]; rfl
theorem ac_f_lt {c : Nat → Bool} {bt : Nat → Nat → Bool} {i b : Nat} (e : ac_f c bt (List.range i) none = some b) : b < i := by
  rcases ac_f_in e with e | e
  · exact List.mem_range.mp e
  · cases e
theorem lf_196 {G : pm_G} {d : Nat} {S : pm_S} {a m s k : Int32} {q : Int32 → pm_S → Prop} (hS : Sh S) (ha : vp_in a 150) (h1 : pm_i S 75 a.toNatClampNeg = m ∧ pm_i S 76 a.toNatClampNeg = s ∧ ¬ k < pm_i S 79 a.toNatClampNeg → q 1 S) (h0 : ¬ (pm_i S 75 a.toNatClampNeg = m ∧ pm_i S 76 a.toNatClampNeg = s ∧ ¬ k < pm_i S 79 a.toNatClampNeg) → q 0 S) : pm_CI G d 196 [.ref 59, .int a, .int m, .int s, .int k] S q := by
  refine pm_goI 196 40 pb_c196 (by decide) (Nat.le_of_ble_eq_true rfl) rfl ?_
  simp only [show pm_mL 196 = 5 from rfl, pm_WI0, pm_WI1, pm_WI2, pm_WI3, pm_WI4, pm_WI5, pm_WV, pm_WW, pm_WX, pb_B196, pm_if, pm_QI_at, pm_QL_at, pm_QV_at, pm_QR_at, pm_QR_at0, pm_QR_at1, Nat.reduceSub, Nat.reduceAdd, List.replicate_zero, List.replicate_succ, true_and, and_true, true_or, or_true, and_self, reduceIte, Nat.reduceEqDiff, Nat.reduceLT, Nat.reduceLeDiff, Nat.reduceMul, false_and, and_false, reduceCtorEq, false_or, or_false, not_true_eq_false, not_false_eq_true, true_implies, false_implies, implies_true, lf_10, eq_self, Int32.reduceLT, Int32.reduceLE, Int32.reduceAdd, Int32.reduceSub, sh_k59 hS, sh_r59_19 hS, sh_k75 hS, sh_z75 hS, sh_r59_20 hS, sh_k76 hS, sh_z76 hS, sh_r59_23 hS, sh_k79 hS, sh_z79 hS]
  repeat' (first | with_reducible refine ⟨fun _ => ?_, fun _ => ?_⟩ | with_reducible refine ⟨?_, ?_⟩ | fail)
  all_goals first | omega | exact ha | (refine h1 ?_; lia) | (refine h0 ?_; lia) | (exfalso; lia) | skip
theorem ac_195 {G : pm_G} {d : Nat} {S : pm_S} {m s k : Int32} {n : Nat} {q : Int32 → pm_S → Prop} (hd : 3 ≤ d) (hS : Sh S) (hn : pm_i S 59 24 = nI n) (hn2 : n ≤ 150) (h : q (oI (ac_f (ac_m (pm_i S 75) m (ac_c (pm_i S 76) (pm_i S 79) s k)) (ac_bt (pm_i S 77) false) (List.range n) none)) S) : pm_CI G d 195 [.ref 59, .int m, .int s, .int k] S q := by
  refine pm_goI 195 40 pb_c195 (by decide) (Nat.le_of_ble_eq_true rfl) rfl ?_
  simp only [show pm_mL 195 = 6 from rfl, pm_WI0, pm_WI1, pm_WI2, pm_WI3, pm_WI4, pm_WI5, pm_WV, pm_WW, pm_WX, pb_B195, pm_if, pm_QI_at, pm_QL_at, pm_QV_at, pm_QR_at, pm_QR_at0, pm_QR_at1, Nat.reduceSub, Nat.reduceAdd, List.replicate_zero, List.replicate_succ, true_and, and_true, true_or, or_true, and_self, reduceIte, Nat.reduceEqDiff, Nat.reduceLT, Nat.reduceLeDiff, Nat.reduceMul, false_and, and_false, reduceCtorEq, false_or, or_false, not_true_eq_false, not_false_eq_true, true_implies, false_implies, implies_true, lf_10, eq_self, Int32.reduceLT, Int32.reduceLE, Int32.reduceAdd, Int32.reduceSub, pm_same, pm_i_wI, pm_l_wL, pm_l_wM, pm_oR_rf, pm_oQ_rf, sh_k59 hS, sh_r59_21 hS, sh_k77 hS, sh_z77 hS]
  refine pv_loopR (fun i => [.ref 59, .int m, .int s, .int k, .int (oI (ac_f (ac_m (pm_i S 75) m (ac_c (pm_i S 76) (pm_i S 79) s k)) (ac_bt (pm_i S 77) false) (List.range i) none)), .int (nI i)]) n (fun i hi hk => ?_) ?_
  · have hc := nI_clamp (n := i) (by omega)
    have hle : ¬ nI n ≤ nI i := nI_ge hi (by omega)
    have hvi := vp_in_nI (n := i) (N := 150) (by omega) (by decide)
    have hb : ∀ b, ac_f (ac_m (pm_i S 75) m (ac_c (pm_i S 76) (pm_i S 79) s k)) (ac_bt (pm_i S 77) false) (List.range i) none = some b → b < i := fun b e => ac_f_lt e
    simp only [ac_f_succ] at hk
    revert hk hb
    generalize ac_f (ac_m (pm_i S 75) m (ac_c (pm_i S 76) (pm_i S 79) s k)) (ac_bt (pm_i S 77) false) (List.range i) none = acc
    intro hb hk
    refine pm_wb_ok pb_c195 60 6 0 _ _ _ _ _ ?_
    simp only [pm_WI0, pm_WI1, pm_WI2, pm_WI3, pm_WI4, pm_WI5, pm_WV, pm_WW, pm_WX, pb_B195, pm_if, pm_QI_at, pm_QL_at, pm_QV_at, pm_QR_at, pm_QR_at0, pm_QR_at1, Nat.reduceSub, Nat.reduceAdd, List.replicate_zero, List.replicate_succ, true_and, and_true, true_or, or_true, and_self, reduceIte, Nat.reduceEqDiff, Nat.reduceLT, Nat.reduceLeDiff, Nat.reduceMul, false_and, and_false, reduceCtorEq, false_or, or_false, not_true_eq_false, not_false_eq_true, true_implies, false_implies, implies_true, lf_10, eq_self, Int32.reduceLT, Int32.reduceLE, Int32.reduceAdd, Int32.reduceSub, pm_same, pm_i_wI, pm_l_wL, pm_l_wM, pm_oR_rf, pm_oQ_rf, sh_k59 hS, sh_r59_21 hS, sh_k77 hS, sh_z77 hS, hn, hc, hle, nI_1]
    refine ⟨by omega, lf_196 hS hvi (fun c => ?_) (fun c => ?_)⟩ <;> simp only [hc] at c <;> simp only [pm_WV, pm_WW, true_and, and_true, true_or, or_true, and_self, reduceIte, Nat.reduceEqDiff, Nat.reduceLT, Nat.reduceLeDiff, Nat.reduceMul, false_and, and_false, reduceCtorEq, false_or, or_false, not_true_eq_false, not_false_eq_true, true_implies, false_implies, implies_true, lf_10, eq_self, Int32.reduceLT, Int32.reduceLE, Int32.reduceAdd, Int32.reduceSub, pm_same, pm_i_wI, pm_l_wL, pm_l_wM, pm_oR_rf, pm_oQ_rf, sh_k59 hS, sh_r59_21 hS, sh_k77 hS, sh_z77 hS, hn, hc, nI_1]
    · have hyes : (ac_m (pm_i S 75) m (ac_c (pm_i S 76) (pm_i S 79) s k)) i = true := by unfold ac_m ac_c; simp [c]
      cases acc with
      | none =>
        refine ⟨fun _ => ?_, fun z => absurd (show oI none < 0 by decide) z⟩
        exact pv_W hk (by simp [pv_le, pm_unk, ac_s, ac_ok, hyes, oI])
      | some b =>
        have hbi := hb b rfl
        refine ⟨fun z => absurd z (nI_pos (by omega)), fun _ => ?_⟩
        have hcb : (oI (some b)).toNatClampNeg = b := nI_clamp (by omega)
        refine ⟨hvi, vp_in_nI (by omega) (by decide), ?_⟩
        rw [hcb]
        refine ⟨fun z => ?_, fun z => ?_⟩
        · exact pv_W hk (by simp [pv_le, pm_unk, ac_s, ac_ok, ac_bt, hyes, z])
        · exact pv_W hk (by simp [pv_le, pm_unk, ac_s, ac_ok, ac_bt, hyes, z, oI])
    · have hno : (ac_m (pm_i S 75) m (ac_c (pm_i S 76) (pm_i S 79) s k)) i = false := by
        unfold ac_m ac_c
        by_cases c1 : pm_i S 75 i = m
        · by_cases c2 : pm_i S 76 i = s
          · by_cases c3 : k < pm_i S 79 i
            · simp [c3]
            · exact absurd ⟨c1, c2, c3⟩ c
          · simp [c2]
        · simp [c1]
      exact pv_W hk (by rw [ac_s_none hno]; simp [pv_le, pm_unk])
  · refine pm_wb_ok pb_c195 60 6 0 _ _ _ _ _ ?_
    simp only [pm_WI0, pm_WI1, pm_WI2, pm_WI3, pm_WI4, pm_WI5, pm_WV, pm_WW, pm_WX, pb_B195, pm_if, pm_QI_at, pm_QL_at, pm_QV_at, pm_QR_at, pm_QR_at0, pm_QR_at1, Nat.reduceSub, Nat.reduceAdd, List.replicate_zero, List.replicate_succ, true_and, and_true, true_or, or_true, and_self, reduceIte, Nat.reduceEqDiff, Nat.reduceLT, Nat.reduceLeDiff, Nat.reduceMul, false_and, and_false, reduceCtorEq, false_or, or_false, not_true_eq_false, not_false_eq_true, true_implies, false_implies, implies_true, lf_10, eq_self, Int32.reduceLT, Int32.reduceLE, Int32.reduceAdd, Int32.reduceSub, pm_same, pm_i_wI, pm_l_wL, pm_l_wM, pm_oR_rf, pm_oQ_rf, sh_k59 hS, sh_r59_21 hS, sh_k77 hS, sh_z77 hS, hn, Int32.le_refl]
    exact h
theorem ac_197 {G : pm_G} {d : Nat} {S : pm_S} {m s k : Int32} {n : Nat} {q : Int32 → pm_S → Prop} (hd : 3 ≤ d) (hS : Sh S) (hn : pm_i S 59 24 = nI n) (hn2 : n ≤ 150) (h : q (oI (ac_f (ac_m (pm_i S 75) m (ac_c (pm_i S 76) (pm_i S 79) s k)) (ac_bt (pm_i S 77) true) (List.range n) none)) S) : pm_CI G d 197 [.ref 59, .int m, .int s, .int k] S q := by
  refine pm_goI 197 40 pb_c197 (by decide) (Nat.le_of_ble_eq_true rfl) rfl ?_
  simp only [show pm_mL 197 = 6 from rfl, pm_WI0, pm_WI1, pm_WI2, pm_WI3, pm_WI4, pm_WI5, pm_WV, pm_WW, pm_WX, pb_B197, pm_if, pm_QI_at, pm_QL_at, pm_QV_at, pm_QR_at, pm_QR_at0, pm_QR_at1, Nat.reduceSub, Nat.reduceAdd, List.replicate_zero, List.replicate_succ, true_and, and_true, true_or, or_true, and_self, reduceIte, Nat.reduceEqDiff, Nat.reduceLT, Nat.reduceLeDiff, Nat.reduceMul, false_and, and_false, reduceCtorEq, false_or, or_false, not_true_eq_false, not_false_eq_true, true_implies, false_implies, implies_true, lf_10, eq_self, Int32.reduceLT, Int32.reduceLE, Int32.reduceAdd, Int32.reduceSub, pm_same, pm_i_wI, pm_l_wL, pm_l_wM, pm_oR_rf, pm_oQ_rf, sh_k59 hS, sh_r59_21 hS, sh_k77 hS, sh_z77 hS]
  refine pv_loopR (fun i => [.ref 59, .int m, .int s, .int k, .int (oI (ac_f (ac_m (pm_i S 75) m (ac_c (pm_i S 76) (pm_i S 79) s k)) (ac_bt (pm_i S 77) true) (List.range i) none)), .int (nI i)]) n (fun i hi hk => ?_) ?_
  · have hc := nI_clamp (n := i) (by omega)
    have hle : ¬ nI n ≤ nI i := nI_ge hi (by omega)
    have hvi := vp_in_nI (n := i) (N := 150) (by omega) (by decide)
    have hb : ∀ b, ac_f (ac_m (pm_i S 75) m (ac_c (pm_i S 76) (pm_i S 79) s k)) (ac_bt (pm_i S 77) true) (List.range i) none = some b → b < i := fun b e => ac_f_lt e
    simp only [ac_f_succ] at hk
    revert hk hb
    generalize ac_f (ac_m (pm_i S 75) m (ac_c (pm_i S 76) (pm_i S 79) s k)) (ac_bt (pm_i S 77) true) (List.range i) none = acc
    intro hb hk
    refine pm_wb_ok pb_c197 60 6 0 _ _ _ _ _ ?_
    simp only [pm_WI0, pm_WI1, pm_WI2, pm_WI3, pm_WI4, pm_WI5, pm_WV, pm_WW, pm_WX, pb_B197, pm_if, pm_QI_at, pm_QL_at, pm_QV_at, pm_QR_at, pm_QR_at0, pm_QR_at1, Nat.reduceSub, Nat.reduceAdd, List.replicate_zero, List.replicate_succ, true_and, and_true, true_or, or_true, and_self, reduceIte, Nat.reduceEqDiff, Nat.reduceLT, Nat.reduceLeDiff, Nat.reduceMul, false_and, and_false, reduceCtorEq, false_or, or_false, not_true_eq_false, not_false_eq_true, true_implies, false_implies, implies_true, lf_10, eq_self, Int32.reduceLT, Int32.reduceLE, Int32.reduceAdd, Int32.reduceSub, pm_same, pm_i_wI, pm_l_wL, pm_l_wM, pm_oR_rf, pm_oQ_rf, sh_k59 hS, sh_r59_21 hS, sh_k77 hS, sh_z77 hS, hn, hc, hle, nI_1]
    refine ⟨by omega, lf_196 hS hvi (fun c => ?_) (fun c => ?_)⟩ <;> simp only [hc] at c <;> simp only [pm_WV, pm_WW, true_and, and_true, true_or, or_true, and_self, reduceIte, Nat.reduceEqDiff, Nat.reduceLT, Nat.reduceLeDiff, Nat.reduceMul, false_and, and_false, reduceCtorEq, false_or, or_false, not_true_eq_false, not_false_eq_true, true_implies, false_implies, implies_true, lf_10, eq_self, Int32.reduceLT, Int32.reduceLE, Int32.reduceAdd, Int32.reduceSub, pm_same, pm_i_wI, pm_l_wL, pm_l_wM, pm_oR_rf, pm_oQ_rf, sh_k59 hS, sh_r59_21 hS, sh_k77 hS, sh_z77 hS, hn, hc, nI_1]
    · have hyes : (ac_m (pm_i S 75) m (ac_c (pm_i S 76) (pm_i S 79) s k)) i = true := by unfold ac_m ac_c; simp [c]
      cases acc with
      | none =>
        refine ⟨fun _ => ?_, fun z => absurd (show oI none < 0 by decide) z⟩
        exact pv_W hk (by simp [pv_le, pm_unk, ac_s, ac_ok, hyes, oI])
      | some b =>
        have hbi := hb b rfl
        refine ⟨fun z => absurd z (nI_pos (by omega)), fun _ => ?_⟩
        have hcb : (oI (some b)).toNatClampNeg = b := nI_clamp (by omega)
        refine ⟨hvi, vp_in_nI (by omega) (by decide), ?_⟩
        rw [hcb]
        refine ⟨fun z => ?_, fun z => ?_⟩
        · exact pv_W hk (by simp [pv_le, pm_unk, ac_s, ac_ok, ac_bt, hyes, z])
        · exact pv_W hk (by simp [pv_le, pm_unk, ac_s, ac_ok, ac_bt, hyes, z, oI])
    · have hno : (ac_m (pm_i S 75) m (ac_c (pm_i S 76) (pm_i S 79) s k)) i = false := by
        unfold ac_m ac_c
        by_cases c1 : pm_i S 75 i = m
        · by_cases c2 : pm_i S 76 i = s
          · by_cases c3 : k < pm_i S 79 i
            · simp [c3]
            · exact absurd ⟨c1, c2, c3⟩ c
          · simp [c2]
        · simp [c1]
      exact pv_W hk (by rw [ac_s_none hno]; simp [pv_le, pm_unk])
  · refine pm_wb_ok pb_c197 60 6 0 _ _ _ _ _ ?_
    simp only [pm_WI0, pm_WI1, pm_WI2, pm_WI3, pm_WI4, pm_WI5, pm_WV, pm_WW, pm_WX, pb_B197, pm_if, pm_QI_at, pm_QL_at, pm_QV_at, pm_QR_at, pm_QR_at0, pm_QR_at1, Nat.reduceSub, Nat.reduceAdd, List.replicate_zero, List.replicate_succ, true_and, and_true, true_or, or_true, and_self, reduceIte, Nat.reduceEqDiff, Nat.reduceLT, Nat.reduceLeDiff, Nat.reduceMul, false_and, and_false, reduceCtorEq, false_or, or_false, not_true_eq_false, not_false_eq_true, true_implies, false_implies, implies_true, lf_10, eq_self, Int32.reduceLT, Int32.reduceLE, Int32.reduceAdd, Int32.reduceSub, pm_same, pm_i_wI, pm_l_wL, pm_l_wM, pm_oR_rf, pm_oQ_rf, sh_k59 hS, sh_r59_21 hS, sh_k77 hS, sh_z77 hS, hn, Int32.le_refl]
    exact h
/-- what the class finds in a chain is what the model finds among all -/
theorem ac_eq {A : iv_A} {S : pm_S} (hI : Inv A S) {m : Nat} (c : Nat → Bool) (bt : Nat → Nat → Bool) : ac_f c bt (iv_acts S m) none = ac_f (ac_m (pm_i S 75) (nI m) c) bt (List.range (iv_c S 24)) none := by
  unfold iv_acts; rw [ac_f_filter]; rfl
theorem ac_f_no {c : Nat → Bool} {bt : Nat → Nat → Bool} : ∀ {L : List Nat}, ac_f c bt L none = none ↔ ∀ a, a ∈ L → c a = false := by
  have some_ : ∀ (L : List Nat) (b : Nat), ∃ b', ac_f c bt L (some b) = some b' := by
    intro L
    induction L with
    | nil => intro b; exact ⟨b, rfl⟩
    | cons a L ih =>
      intro b
      show ∃ b', ac_f c bt L (ac_s c bt (some b) a) = some b'
      unfold ac_s
      split
      · exact ih a
      · exact ih b
  intro L
  induction L with
  | nil => exact ⟨fun _ a ha => absurd ha List.not_mem_nil, fun _ => rfl⟩
  | cons a L ih =>
    show ac_f c bt L (ac_s c bt none a) = none ↔ _
    by_cases hc : c a = true
    · have e : ac_s c bt none a = some a := by unfold ac_s ac_ok; simp [hc]
      rw [e]
      obtain ⟨b', hb'⟩ := some_ L a
      rw [hb']
      refine ⟨fun z => (by cases z), fun z => ?_⟩
      have := z a List.mem_cons_self
      rw [hc] at this; cases this
    · have hc' : c a = false := by simpa using hc
      rw [ac_s_none hc', ih]
      refine ⟨fun z b hb => ?_, fun z b hb => z b (List.mem_cons_of_mem _ hb)⟩
      rcases List.mem_cons.mp hb with rfl | hb
      · exact hc'
      · exact z b hb
/-- how many of a MATTER's ACTS -/
def ac_n (c : Nat → Bool) : List Nat → Nat
  | [] => 0
  | a :: L => (if c a then 1 else 0) + ac_n c L
theorem ac_n_app (c : Nat → Bool) : ∀ L M : List Nat, ac_n c (L ++ M) = ac_n c L + ac_n c M
  | [], M => by simp [ac_n]
  | a :: L, M => by have := ac_n_app c L M; simp only [List.cons_append, ac_n, this]; omega
theorem ac_n_filter (f c : Nat → Bool) : ∀ L : List Nat, ac_n c (L.filter f) = ac_n (fun a => f a && c a) L
  | [] => rfl
  | a :: L => by
    have ih := ac_n_filter f c L
    by_cases h : f a = true
    · rw [List.filter_cons_of_pos h]; simp only [ac_n, ih, h, Bool.true_and]
    · have h' : f a = false := by simpa using h
      rw [List.filter_cons_of_neg h]; simp [ac_n, ih, h']
theorem ac_n_range (c : Nat → Bool) : ∀ n, ac_n c (List.range n) = pv_cnt c n
  | 0 => rfl
  | n + 1 => by rw [List.range_succ, ac_n_app, ac_n_range c n]; simp [ac_n, pv_cnt]
theorem ac_n_le (c : Nat → Bool) : ∀ L : List Nat, ac_n c L ≤ L.length
  | [] => Nat.le_refl _
  | a :: L => by have := ac_n_le c L; simp only [ac_n, List.length_cons]; split <;> omega
theorem ac_n_0 {c : Nat → Bool} : ∀ {L : List Nat}, ac_n c L = 0 ↔ ∀ a, a ∈ L → c a = false
  | [] => ⟨fun _ a ha => absurd ha List.not_mem_nil, fun _ => rfl⟩
  | a :: L => by
    have ih := ac_n_0 (c := c) (L := L)
    simp only [ac_n]
    by_cases hc : c a = true
    · rw [if_pos hc]
      refine ⟨fun z => by omega, fun z => ?_⟩
      have := z a List.mem_cons_self
      rw [hc] at this; cases this
    · have hc' : c a = false := by simpa using hc
      rw [if_neg hc, Nat.zero_add, ih]
      refine ⟨fun z b hb => ?_, fun z b hb => z b (List.mem_cons_of_mem _ hb)⟩
      rcases List.mem_cons.mp hb with rfl | hb
      · exact hc'
      · exact z b hb
theorem ac_67 {G : pm_G} {d : Nat} {A : iv_A} {S : pm_S} {m : Nat} {s k : Int32} {q : Int32 → pm_S → Prop} (hI : Inv A S) (hm : m < iv_c S 18) (h : q (nI (ac_n (ac_c (pm_i S 76) (pm_i S 79) s k) (iv_acts S m))) S) : pm_CI G d 67 [.ref (iv_m A m), .int s, .int k] S q := by
  have hk := (hI.row hm).k
  have hc := (hI.act.2.2.2 m hm).1
  refine pm_goI 67 40 pb_c67 (by decide) (Nat.le_of_ble_eq_true rfl) rfl ?_
  simp only [show pm_mL 67 = 5 from rfl, pm_WI0, pm_WI1, pm_WI2, pm_WI3, pm_WI4, pm_WI5, pm_WV, pm_WW, pm_WX, pb_B67, pm_if, pm_QI_at, pm_QL_at, pm_QV_at, pm_QR_at, pm_QR_at0, pm_QR_at1, Nat.reduceSub, Nat.reduceAdd, List.replicate_zero, List.replicate_succ, true_and, and_true, true_or, or_true, and_self, reduceIte, Nat.reduceEqDiff, Nat.reduceLT, Nat.reduceLeDiff, Nat.reduceMul, false_and, and_false, reduceCtorEq, false_or, or_false, not_true_eq_false, not_false_eq_true, true_implies, false_implies, implies_true, lf_10, eq_self, Int32.reduceLT, Int32.reduceLE, Int32.reduceAdd, Int32.reduceSub, pm_same, pm_i_wI, pm_l_wL, pm_l_wM, pm_oR_rf, pm_oQ_rf, hk, hc.r]
  refine pv_while (fun x : Nat × List Nat => [.ref (iv_m A m), .int s, .int k, .int (nI x.1), va_rf (ac_r A x.2)]) (fun _ => S) (fun x => iv_ch A S (ac_r A x.2) x.2 ∧ (∀ a, a ∈ x.2 → a < iv_c S 24) ∧ x.1 + ac_n (ac_c (pm_i S 76) (pm_i S 79) s k) x.2 = ac_n (ac_c (pm_i S 76) (pm_i S 79) s k) (iv_acts S m)) (fun x => x.2.length) (fun x hx hk2 => ?_) (0, iv_acts S m) ⟨by rw [← hc.r]; exact hc, fun a ha => iv_acts_lt ha, Nat.zero_add _⟩
  obtain ⟨acc, L⟩ := x
  obtain ⟨x1, x2, x3⟩ := hx
  simp only at x1 x2 x3 hk2 ⊢
  cases L with
  | nil =>
    rw [← x3] at h
    refine pm_wb_ok pb_c67 60 8 0 _ _ _ _ _ ?_
    simp only [pm_WI0, pm_WI1, pm_WI2, pm_WI3, pm_WI4, pm_WI5, pm_WV, pm_WW, pm_WX, pb_B67, pm_if, pm_QI_at, pm_QL_at, pm_QV_at, pm_QR_at, pm_QR_at0, pm_QR_at1, Nat.reduceSub, Nat.reduceAdd, List.replicate_zero, List.replicate_succ, true_and, and_true, true_or, or_true, and_self, reduceIte, Nat.reduceEqDiff, Nat.reduceLT, Nat.reduceLeDiff, Nat.reduceMul, false_and, and_false, reduceCtorEq, false_or, or_false, not_true_eq_false, not_false_eq_true, true_implies, false_implies, implies_true, lf_10, eq_self, Int32.reduceLT, Int32.reduceLE, Int32.reduceAdd, Int32.reduceSub, pm_same, pm_i_wI, pm_l_wL, pm_l_wM, pm_oR_rf, pm_oQ_rf, ac_r, List.head?_nil, Option.map_none]
    exact h
  | cons a L =>
    obtain ⟨y1, y2⟩ := x1.tl
    obtain ⟨⟨a1, a2, a3⟩, ⟨b0, b1, b2, b3, b4⟩, _⟩ := hI.act.2.2.1 a (x2 a List.mem_cons_self)
    have go : ∀ acc', acc' = acc + (if ac_c (pm_i S 76) (pm_i S 79) s k a then 1 else 0) → pm_W G d 67 (pm_QI q) 8 [.ref (iv_m A m), .int s, .int k, .int (nI acc'), va_rf (ac_r A L)] [] S 0 0 := by
      intro acc' e
      refine hk2 (acc', L) ⟨y1, fun b hb => x2 b (List.mem_cons_of_mem _ hb), ?_⟩ (Nat.lt_succ_self _)
      rw [← x3, e]; simp only [ac_n]; omega
    have no : ac_c (pm_i S 76) (pm_i S 79) s k a = false → pm_W G d 67 (pm_QI q) 8 [.ref (iv_m A m), .int s, .int k, .int (nI acc), va_rf (ac_r A L)] [] S 0 0 := fun hf => go acc (by rw [hf]; rfl)
    have hra : ac_r A (a :: L) = some (iv_a A a) := rfl
    refine pm_wb_ok pb_c67 60 8 0 _ _ _ _ _ ?_
    simp only [pm_WI0, pm_WI1, pm_WI2, pm_WI3, pm_WI4, pm_WI5, pm_WV, pm_WW, pm_WX, pb_B67, pm_if, pm_QI_at, pm_QL_at, pm_QV_at, pm_QR_at, pm_QR_at0, pm_QR_at1, Nat.reduceSub, Nat.reduceAdd, List.replicate_zero, List.replicate_succ, true_and, and_true, true_or, or_true, and_self, reduceIte, Nat.reduceEqDiff, Nat.reduceLT, Nat.reduceLeDiff, Nat.reduceMul, false_and, and_false, reduceCtorEq, false_or, or_false, not_true_eq_false, not_false_eq_true, true_implies, false_implies, implies_true, lf_10, eq_self, Int32.reduceLT, Int32.reduceLE, Int32.reduceAdd, Int32.reduceSub, pm_same, pm_i_wI, pm_l_wL, pm_l_wM, pm_oR_rf, pm_oQ_rf, hra, a3, b0, b1, b3, y2, pm_dem_rf, reduceCtorEq, nI_1]
    refine ⟨fun c1 => ⟨fun c2 => ?_, fun c2 => ?_⟩, fun c1 => ?_⟩
    · exact no (by unfold ac_c; simp [c2])
    · exact go (acc + 1) (by unfold ac_c; simp [c1, c2])
    · exact no (by unfold ac_c; simp [c1])
