/-- the n-th WORKING DAY behind a DAY, by the state -/
def wdx (S : pm_S) (v u : Int32) : Int32 := nI (wd (pm_i S 60) (iv_c S 2) v.toNatClampNeg u.toNatClampNeg)
theorem iv_n20 {S : pm_S} (h : iv_Day S) : iv_c S 2 ≤ 20 ∧ pm_i S 59 2 = nI (iv_c S 2) := by
  obtain ⟨d1, ⟨d2, d2'⟩, d3, d4, ⟨d5, d5'⟩, d6, d7⟩ := h
  exact ⟨iv_le (n := 20) 20 d5' (by decide), iv_nn d5⟩
theorem dyx_24 {G : pm_G} {d : Nat} {S : pm_S} {v u : Int32} {q : Int32 → pm_S → Prop} (hd : 3 ≤ d) (hS : Sh S) (hD : iv_Day S) (hv : 0 ≤ v ∧ v ≤ 500000) (hu : 0 ≤ u ∧ u ≤ 500000) (h : q (wdx S v u) S) : pm_CI G d 24 [.ref 1, .int v, .int u] S q := by
  rw [iv_nn hv.1, iv_nn hu.1]
  have h1 := iv_le (n := 500000) 500000 hv.2 (by decide)
  have h2 := iv_le (n := 500000) 500000 hu.2 (by decide)
  refine dy_24 (n := iv_c S 2) hd hS (hD.2.2.2.1.trans (iv_n20 hD).2) (iv_n20 hD).1 (by omega) (by omega) ?_
  rw [hD.2.2.1]; exact h
theorem dyx_164 {G : pm_G} {d : Nat} {S : pm_S} {v u : Int32} {q : Int32 → pm_S → Prop} (hd : 3 ≤ d) (hS : Sh S) (hD : iv_Day S) (hv : 0 ≤ v ∧ v ≤ 500000) (hu : 0 ≤ u ∧ u ≤ 500000) (h : q (wdx S v u) S) : pm_CI G d 164 [.ref 59, .int v, .int u] S q := by
  rw [iv_nn hv.1, iv_nn hu.1]
  have h1 := iv_le (n := 500000) 500000 hv.2 (by decide)
  have h2 := iv_le (n := 500000) 500000 hu.2 (by decide)
  exact dy_164 (n := iv_c S 2) hd hS (iv_n20 hD).2 (iv_n20 hD).1 (by omega) (by omega) h
theorem pp_working {G : pm_G} {d : Nat} {A : iv_A} {S : pm_S} {v u : Int32} (hd : 40 ≤ d) (hI : Inv A S) : pm_CI G d 100 [.ref 0, .int v, .int u] S (fun r S1 => pm_CI G d 163 [.ref 59, .int v, .int u] S1 (fun r' S2 => pv_end A r r' S2)) := by
  have hS := hI.sh
  refine pm_goI 100 60 pb_c100 (by decide) (Nat.le_of_ble_eq_true rfl) rfl ?_
  simp only [show pm_mL 100 = 3 from rfl, pm_WI0, pm_WI1, pm_WI2, pm_WI3, pm_WI4, pm_WI5, pm_WV, pm_WW, pm_WX, pb_B100, pm_if, pm_QI_at, pm_QL_at, pm_QV_at, pm_QR_at, pm_QR_at0, pm_QR_at1, Nat.reduceSub, Nat.reduceAdd, List.replicate_zero, List.replicate_succ, true_and, and_true, true_or, or_true, and_self, reduceIte, Nat.reduceEqDiff, Nat.reduceLT, Nat.reduceLeDiff, Nat.reduceMul, false_and, and_false, reduceCtorEq, false_or, or_false, not_true_eq_false, not_false_eq_true, true_implies, false_implies, implies_true, lf_10, eq_self, Int32.reduceLT, Int32.reduceLE, Int32.reduceAdd, Int32.reduceSub, pm_same, pm_i_wI, pm_l_wL, pm_l_wM, pm_oR_rf, pm_oQ_rf, sh_k0 hS, sh_r0_0 hS, sh_k1 hS, Inv.e1_0 hI, Inv.e2 hI, Inv.e1_2 hI, Inv.e0_2 hI, Inv.e3 hI, Inv.e0_4 hI, Inv.e0_5 hI, Inv.e5_1 hI, Inv.e6 hI, Inv.e14_2 hI, Inv.e28_0 hI, Inv.e29 hI, Inv.e30 hI, Inv.e31 hI, Inv.e0_10 hI, Inv.e33_0 hI, Inv.e38_0 hI, Inv.e39 hI, Inv.e40 hI, Inv.e41 hI, Inv.e44_0 hI, Inv.e45 hI]
  repeat' (first | with_reducible refine ⟨fun _ => ?_, fun _ => ?_⟩ | with_reducible refine ⟨?_, ?_⟩ | (refine lf_99 (fun hc => ?_) (fun hc => ?_) <;> (first | simp only [pm_WV, pm_WW, true_and, and_true, true_or, or_true, and_self, reduceIte, Nat.reduceEqDiff, Nat.reduceLT, Nat.reduceLeDiff, Nat.reduceMul, false_and, and_false, reduceCtorEq, false_or, or_false, not_true_eq_false, not_false_eq_true, true_implies, false_implies, implies_true, lf_10, eq_self, Int32.reduceLT, Int32.reduceLE, Int32.reduceAdd, Int32.reduceSub, pm_same, pm_i_wI, pm_l_wL, pm_l_wM, pm_oR_rf, pm_oQ_rf, sh_k0 hS, sh_r0_0 hS, sh_k1 hS, Inv.e1_0 hI, Inv.e2 hI, Inv.e1_2 hI, Inv.e0_2 hI, Inv.e3 hI, Inv.e0_4 hI, Inv.e0_5 hI, Inv.e5_1 hI, Inv.e6 hI, Inv.e14_2 hI, Inv.e28_0 hI, Inv.e29 hI, Inv.e30 hI, Inv.e31 hI, Inv.e0_10 hI, Inv.e33_0 hI, Inv.e38_0 hI, Inv.e39 hI, Inv.e40 hI, Inv.e41 hI, Inv.e44_0 hI, Inv.e45 hI] at hc ⊢ | skip)) | (refine dyx_24 (by omega) hS hI.day (by lia) (by lia) ?_ <;> (first | simp only [pm_WV, pm_WW, true_and, and_true, true_or, or_true, and_self, reduceIte, Nat.reduceEqDiff, Nat.reduceLT, Nat.reduceLeDiff, Nat.reduceMul, false_and, and_false, reduceCtorEq, false_or, or_false, not_true_eq_false, not_false_eq_true, true_implies, false_implies, implies_true, lf_10, eq_self, Int32.reduceLT, Int32.reduceLE, Int32.reduceAdd, Int32.reduceSub, pm_same, pm_i_wI, pm_l_wL, pm_l_wM, pm_oR_rf, pm_oQ_rf, sh_k0 hS, sh_r0_0 hS, sh_k1 hS, Inv.e1_0 hI, Inv.e2 hI, Inv.e1_2 hI, Inv.e0_2 hI, Inv.e3 hI, Inv.e0_4 hI, Inv.e0_5 hI, Inv.e5_1 hI, Inv.e6 hI, Inv.e14_2 hI, Inv.e28_0 hI, Inv.e29 hI, Inv.e30 hI, Inv.e31 hI, Inv.e0_10 hI, Inv.e33_0 hI, Inv.e38_0 hI, Inv.e39 hI, Inv.e40 hI, Inv.e41 hI, Inv.e44_0 hI, Inv.e45 hI] | skip)) | fail)
  all_goals try first | omega | (exfalso; lia)
  all_goals try refine pm_goI 163 60 pb_c163 (by decide) (Nat.le_of_ble_eq_true rfl) rfl ?_
  all_goals (first | simp only [show pm_mL 163 = 3 from rfl, pm_WI0, pm_WI1, pm_WI2, pm_WI3, pm_WI4, pm_WI5, pm_WV, pm_WW, pm_WX, pb_B163, pm_if, pm_QI_at, pm_QL_at, pm_QV_at, pm_QR_at, pm_QR_at0, pm_QR_at1, Nat.reduceSub, Nat.reduceAdd, List.replicate_zero, List.replicate_succ, true_and, and_true, true_or, or_true, and_self, reduceIte, Nat.reduceEqDiff, Nat.reduceLT, Nat.reduceLeDiff, Nat.reduceMul, false_and, and_false, reduceCtorEq, false_or, or_false, not_true_eq_false, not_false_eq_true, true_implies, false_implies, implies_true, lf_10, eq_self, Int32.reduceLT, Int32.reduceLE, Int32.reduceAdd, Int32.reduceSub, pm_same, pm_i_wI, pm_l_wL, pm_l_wM, pm_oR_rf, pm_oQ_rf, sh_k59 hS, Inv.e1_0 hI, Inv.e2 hI, Inv.e1_2 hI, Inv.e0_2 hI, Inv.e3 hI, Inv.e0_4 hI, Inv.e0_5 hI, Inv.e5_1 hI, Inv.e6 hI, Inv.e14_2 hI, Inv.e28_0 hI, Inv.e29 hI, Inv.e30 hI, Inv.e31 hI, Inv.e0_10 hI, Inv.e33_0 hI, Inv.e38_0 hI, Inv.e39 hI, Inv.e40 hI, Inv.e41 hI, Inv.e44_0 hI, Inv.e45 hI] | skip)
  all_goals repeat' (first | with_reducible refine ⟨fun _ => ?_, fun _ => ?_⟩ | with_reducible refine ⟨?_, ?_⟩ | (refine lf_161 (by omega) (fun hc => ?_) (fun hc => ?_) <;> (first | simp only [pm_WV, pm_WW, true_and, and_true, true_or, or_true, and_self, reduceIte, Nat.reduceEqDiff, Nat.reduceLT, Nat.reduceLeDiff, Nat.reduceMul, false_and, and_false, reduceCtorEq, false_or, or_false, not_true_eq_false, not_false_eq_true, true_implies, false_implies, implies_true, lf_10, eq_self, Int32.reduceLT, Int32.reduceLE, Int32.reduceAdd, Int32.reduceSub, pm_same, pm_i_wI, pm_l_wL, pm_l_wM, pm_oR_rf, pm_oQ_rf, sh_k59 hS, Inv.e1_0 hI, Inv.e2 hI, Inv.e1_2 hI, Inv.e0_2 hI, Inv.e3 hI, Inv.e0_4 hI, Inv.e0_5 hI, Inv.e5_1 hI, Inv.e6 hI, Inv.e14_2 hI, Inv.e28_0 hI, Inv.e29 hI, Inv.e30 hI, Inv.e31 hI, Inv.e0_10 hI, Inv.e33_0 hI, Inv.e38_0 hI, Inv.e39 hI, Inv.e40 hI, Inv.e41 hI, Inv.e44_0 hI, Inv.e45 hI] at hc ⊢ | skip)) | (refine lf_159 (fun hc => ?_) (fun hc => ?_) <;> (first | simp only [pm_WV, pm_WW, true_and, and_true, true_or, or_true, and_self, reduceIte, Nat.reduceEqDiff, Nat.reduceLT, Nat.reduceLeDiff, Nat.reduceMul, false_and, and_false, reduceCtorEq, false_or, or_false, not_true_eq_false, not_false_eq_true, true_implies, false_implies, implies_true, lf_10, eq_self, Int32.reduceLT, Int32.reduceLE, Int32.reduceAdd, Int32.reduceSub, pm_same, pm_i_wI, pm_l_wL, pm_l_wM, pm_oR_rf, pm_oQ_rf, sh_k59 hS, Inv.e1_0 hI, Inv.e2 hI, Inv.e1_2 hI, Inv.e0_2 hI, Inv.e3 hI, Inv.e0_4 hI, Inv.e0_5 hI, Inv.e5_1 hI, Inv.e6 hI, Inv.e14_2 hI, Inv.e28_0 hI, Inv.e29 hI, Inv.e30 hI, Inv.e31 hI, Inv.e0_10 hI, Inv.e33_0 hI, Inv.e38_0 hI, Inv.e39 hI, Inv.e40 hI, Inv.e41 hI, Inv.e44_0 hI, Inv.e45 hI] at hc ⊢ | skip)) | (refine dyx_164 (by omega) hS hI.day (by lia) (by lia) ?_ <;> (first | simp only [pm_WV, pm_WW, true_and, and_true, true_or, or_true, and_self, reduceIte, Nat.reduceEqDiff, Nat.reduceLT, Nat.reduceLeDiff, Nat.reduceMul, false_and, and_false, reduceCtorEq, false_or, or_false, not_true_eq_false, not_false_eq_true, true_implies, false_implies, implies_true, lf_10, eq_self, Int32.reduceLT, Int32.reduceLE, Int32.reduceAdd, Int32.reduceSub, pm_same, pm_i_wI, pm_l_wL, pm_l_wM, pm_oR_rf, pm_oQ_rf, sh_k59 hS, Inv.e1_0 hI, Inv.e2 hI, Inv.e1_2 hI, Inv.e0_2 hI, Inv.e3 hI, Inv.e0_4 hI, Inv.e0_5 hI, Inv.e5_1 hI, Inv.e6 hI, Inv.e14_2 hI, Inv.e28_0 hI, Inv.e29 hI, Inv.e30 hI, Inv.e31 hI, Inv.e0_10 hI, Inv.e33_0 hI, Inv.e38_0 hI, Inv.e39 hI, Inv.e40 hI, Inv.e41 hI, Inv.e44_0 hI, Inv.e45 hI] | skip)) | fail)
  all_goals first | omega | with_reducible exact pv_same hI | with_reducible exact pv_sameL hI | (exfalso; lia) | skip
theorem pv_cnt_pos (c : Nat → Bool) : ∀ n, 0 < pv_cnt c n ↔ ∃ k, k < n ∧ c k = true
  | 0 => ⟨fun h => absurd h (Nat.lt_irrefl 0), fun ⟨k, hk, _⟩ => absurd hk (Nat.not_lt_zero k)⟩
  | n + 1 => by
    have ih := pv_cnt_pos c n
    unfold pv_cnt
    constructor
    · intro h
      by_cases hc : c n = true
      · exact ⟨n, Nat.lt_succ_self n, hc⟩
      · rw [if_neg hc] at h
        obtain ⟨k, hk, hk2⟩ := ih.mp h
        exact ⟨k, by omega, hk2⟩
    · rintro ⟨k, hk, hk2⟩
      by_cases hc : c n = true
      · rw [if_pos hc]; omega
      · rw [if_neg hc]
        have : k ≠ n := fun e => hc (e ▸ hk2)
        exact ih.mpr ⟨k, by omega, hk2⟩
/-- a DAY is OFF -/
def dy_off (F : Nat → Int32) (n : Nat) (v : Int32) : Prop := 5 ≤ v - v / 7 * 7 ∨ ∃ k, k < n ∧ F k = v
theorem dy_21 {G : pm_G} {d : Nat} {A : iv_A} {S : pm_S} {v : Int32} {q : Int32 → pm_S → Prop} (hd : 3 ≤ d) (hI : Inv A S) (hv : 0 ≤ v ∧ v ≤ 9999) (h1 : dy_off (pm_i S 60) (iv_c S 2) v → q 1 S) (h0 : ¬ dy_off (pm_i S 60) (iv_c S 2) v → q 0 S) : pm_CI G d 21 [.ref 1, .int v] S q := by
  have hS := hI.sh
  have hx : 0 < wd_in (pm_i S 60) (v - 1) v (iv_c S 2) ↔ ∃ k, k < iv_c S 2 ∧ pm_i S 60 k = v := by
    unfold wd_in
    rw [pv_cnt_pos]
    constructor
    · rintro ⟨k, hk, h⟩
      simp only [decide_eq_true_eq] at h
      exact ⟨k, hk, by lia⟩
    · rintro ⟨k, hk, h⟩
      exact ⟨k, hk, by simp only [decide_eq_true_eq]; lia⟩
  refine pm_goI 21 40 pb_c21 (by decide) (Nat.le_of_ble_eq_true rfl) rfl ?_
  simp only [show pm_mL 21 = 2 from rfl, pm_WI0, pm_WI1, pm_WI2, pm_WI3, pm_WI4, pm_WI5, pm_WV, pm_WW, pm_WX, pb_B21, pm_if, pm_QI_at, pm_QL_at, pm_QV_at, pm_QR_at, pm_QR_at0, pm_QR_at1, Nat.reduceSub, Nat.reduceAdd, List.replicate_zero, List.replicate_succ, true_and, and_true, true_or, or_true, and_self, reduceIte, Nat.reduceEqDiff, Nat.reduceLT, Nat.reduceLeDiff, Nat.reduceMul, false_and, and_false, reduceCtorEq, false_or, or_false, not_true_eq_false, not_false_eq_true, true_implies, false_implies, implies_true, lf_10, eq_self, Int32.reduceLT, Int32.reduceLE, Int32.reduceAdd, Int32.reduceSub, pm_same, pm_i_wI, pm_l_wL, pm_l_wM, pm_oR_rf, pm_oQ_rf, sh_k1 hS]
  refine ⟨by decide, fun z => h1 (Or.inl z), fun z => ⟨by omega, ?_⟩⟩
  · refine dy_22 (n := iv_c S 2) hS (hI.e1_2.trans (iv_n20 hI.day).2) (iv_n20 hI.day).1 ?_
    rw [hI.e2]
    have hb := wd_in_le (pm_i S 60) (v - 1) v (iv_c S 2)
    have hc := (iv_n20 hI.day).1
    refine ⟨fun y => ?_, fun y => ?_⟩
    · refine h0 (fun z2 => ?_)
      rcases z2 with z2 | z2
      · exact z z2
      · have := hx.mpr z2
        exact absurd (nI_lt (a := 0) this (by omega)) (by rw [nI_0]; lia)
    · refine h1 (Or.inr (hx.mp ?_))
      by_cases h00 : 0 < wd_in (pm_i S 60) (v - 1) v (iv_c S 2)
      · exact h00
      · exact absurd (show nI (wd_in (pm_i S 60) (v - 1) v (iv_c S 2)) ≤ 0 by rw [show wd_in (pm_i S 60) (v - 1) v (iv_c S 2) = 0 by omega]; decide) y
/-- OFF, by so many FEASTS -/
def dy_o (f : Nat → Int32) (v : Int32) : Nat → Bool
  | 0 => decide (¬ v - v / 7 * 7 ≤ 4)
  | i + 1 => dy_o f v i || decide (f i = v)
theorem dy_o_iff (f : Nat → Int32) (v : Int32) : ∀ n, dy_o f v n = true ↔ (5 ≤ v - v / 7 * 7 ∨ ∃ k, k < n ∧ f k = v)
  | 0 => by
    simp only [dy_o, decide_eq_true_eq]
    constructor
    · intro h; left; lia
    · rintro (h | ⟨k, hk, _⟩)
      · lia
      · omega
  | n + 1 => by
    have ih := dy_o_iff f v n
    simp only [dy_o, Bool.or_eq_true, decide_eq_true_eq, ih]
    constructor
    · rintro ((h | ⟨k, hk, h⟩) | h)
      · exact Or.inl h
      · exact Or.inr ⟨k, by omega, h⟩
      · exact Or.inr ⟨n, by omega, h⟩
    · rintro (h | ⟨k, hk, h⟩)
      · exact Or.inl (Or.inl h)
      · by_cases hkn : k = n
        · subst hkn; exact Or.inr h
        · exact Or.inl (Or.inr ⟨k, by omega, h⟩)
def bI (b : Bool) : Int32 := if b then 1 else 0
theorem dy_162 {G : pm_G} {d : Nat} {S : pm_S} {v : Int32} {q : Int32 → pm_S → Prop} {F : Nat → Int32} {n : Nat} (hd : 3 ≤ d) (hS : Sh S) (hF : pm_i S 60 = F) (hn : pm_i S 59 2 = nI n) (hn2 : n ≤ 20) (h1 : dy_off F n v → q 1 S) (h0 : ¬ dy_off F n v → q 0 S) : pm_CI G d 162 [.ref 59, .int v] S q := by
  subst hF
  have hq : q (bI (dy_o (pm_i S 60) v (n))) S := by
    have := dy_o_iff (pm_i S 60) v (n)
    cases hb : dy_o (pm_i S 60) v (n) with
    | true => exact h1 (this.mp hb)
    | false => exact h0 (fun z => by have := this.mpr z; rw [hb] at this; cases this)
  refine pm_goI 162 40 pb_c162 (by decide) (Nat.le_of_ble_eq_true rfl) rfl ?_
  simp only [show pm_mL 162 = 4 from rfl, pm_WI0, pm_WI1, pm_WI2, pm_WI3, pm_WI4, pm_WI5, pm_WV, pm_WW, pm_WX, pb_B162, pm_if, pm_QI_at, pm_QL_at, pm_QV_at, pm_QR_at, pm_QR_at0, pm_QR_at1, Nat.reduceSub, Nat.reduceAdd, List.replicate_zero, List.replicate_succ, true_and, and_true, true_or, or_true, and_self, reduceIte, Nat.reduceEqDiff, Nat.reduceLT, Nat.reduceLeDiff, Nat.reduceMul, false_and, and_false, reduceCtorEq, false_or, or_false, not_true_eq_false, not_false_eq_true, true_implies, false_implies, implies_true, lf_10, eq_self, Int32.reduceLT, Int32.reduceLE, Int32.reduceAdd, Int32.reduceSub, pm_same, pm_i_wI, pm_l_wL, pm_l_wM, pm_oR_rf, pm_oQ_rf, sh_k59 hS, sh_r59_1 hS, sh_k60 hS, sh_z60 hS]
  have key : pm_W G d 162 (pm_QI q) 16 [.ref 59, .int v, .int (bI (dy_o (pm_i S 60) v 0)), .int 0] [] S 0 0 := by
    refine pv_loopR (fun i => [.ref 59, .int v, .int (bI (dy_o (pm_i S 60) v i)), .int (nI i)]) (n) (fun i hi hk => ?_) ?_
    · have hc := nI_clamp (n := i) (by omega)
      have hle : ¬ nI (n) ≤ nI i := nI_ge hi (by omega)
      cases hb : dy_o (pm_i S 60) v i
      · refine pm_wb_ok pb_c162 40 16 0 _ _ _ _ _ ?_
        simp only [pm_WI0, pm_WI1, pm_WI2, pm_WI3, pm_WI4, pm_WI5, pm_WV, pm_WW, pm_WX, pb_B162, pm_if, pm_QI_at, pm_QL_at, pm_QV_at, pm_QR_at, pm_QR_at0, pm_QR_at1, Nat.reduceSub, Nat.reduceAdd, List.replicate_zero, List.replicate_succ, true_and, and_true, true_or, or_true, and_self, reduceIte, Nat.reduceEqDiff, Nat.reduceLT, Nat.reduceLeDiff, Nat.reduceMul, false_and, and_false, reduceCtorEq, false_or, or_false, not_true_eq_false, not_false_eq_true, true_implies, false_implies, implies_true, lf_10, eq_self, Int32.reduceLT, Int32.reduceLE, Int32.reduceAdd, Int32.reduceSub, pm_same, pm_i_wI, pm_l_wL, pm_l_wM, pm_oR_rf, pm_oQ_rf, sh_k59 hS, sh_r59_1 hS, sh_k60 hS, sh_z60 hS, hn, hc, hle, nI_1, bI, Bool.false_eq_true]
        repeat' (first | with_reducible refine ⟨fun _ => ?_, fun _ => ?_⟩ | with_reducible refine ⟨?_, ?_⟩ | fail)
        all_goals first | exact pv_vl (by omega) (by decide) | (refine pv_W hk ?_; simp [pv_le, pm_unk, dy_o, bI, nI_1, hb, *]) | skip
      · refine pm_wb_ok pb_c162 40 16 0 _ _ _ _ _ ?_
        simp only [pm_WI0, pm_WI1, pm_WI2, pm_WI3, pm_WI4, pm_WI5, pm_WV, pm_WW, pm_WX, pb_B162, pm_if, pm_QI_at, pm_QL_at, pm_QV_at, pm_QR_at, pm_QR_at0, pm_QR_at1, Nat.reduceSub, Nat.reduceAdd, List.replicate_zero, List.replicate_succ, true_and, and_true, true_or, or_true, and_self, reduceIte, Nat.reduceEqDiff, Nat.reduceLT, Nat.reduceLeDiff, Nat.reduceMul, false_and, and_false, reduceCtorEq, false_or, or_false, not_true_eq_false, not_false_eq_true, true_implies, false_implies, implies_true, lf_10, eq_self, Int32.reduceLT, Int32.reduceLE, Int32.reduceAdd, Int32.reduceSub, pm_same, pm_i_wI, pm_l_wL, pm_l_wM, pm_oR_rf, pm_oQ_rf, sh_k59 hS, sh_r59_1 hS, sh_k60 hS, sh_z60 hS, hn, hc, hle, nI_1, bI, Bool.false_eq_true]
        repeat' (first | with_reducible refine ⟨fun _ => ?_, fun _ => ?_⟩ | with_reducible refine ⟨?_, ?_⟩ | fail)
        all_goals first | exact pv_vl (by omega) (by decide) | (refine pv_W hk ?_; simp [pv_le, pm_unk, dy_o, bI, nI_1, hb, *]) | skip
    · refine pm_wb_ok pb_c162 40 16 0 _ _ _ _ _ ?_
      simp only [pm_WI0, pm_WI1, pm_WI2, pm_WI3, pm_WI4, pm_WI5, pm_WV, pm_WW, pm_WX, pb_B162, pm_if, pm_QI_at, pm_QL_at, pm_QV_at, pm_QR_at, pm_QR_at0, pm_QR_at1, Nat.reduceSub, Nat.reduceAdd, List.replicate_zero, List.replicate_succ, true_and, and_true, true_or, or_true, and_self, reduceIte, Nat.reduceEqDiff, Nat.reduceLT, Nat.reduceLeDiff, Nat.reduceMul, false_and, and_false, reduceCtorEq, false_or, or_false, not_true_eq_false, not_false_eq_true, true_implies, false_implies, implies_true, lf_10, eq_self, Int32.reduceLT, Int32.reduceLE, Int32.reduceAdd, Int32.reduceSub, pm_same, pm_i_wI, pm_l_wL, pm_l_wM, pm_oR_rf, pm_oQ_rf, sh_k59 hS, sh_r59_1 hS, sh_k60 hS, sh_z60 hS, hn, Int32.le_refl, bI]
      exact ⟨by split <;> simp, hq⟩
  refine ⟨by decide, fun z => ?_, fun z => ?_⟩
  · simpa [dy_o, bI, z] using key
  · simpa [dy_o, bI, z] using key
theorem lf_23 {G : pm_G} {d : Nat} {S : pm_S} {v : Int32} {q : Int32 → pm_S → Prop} (hS : Sh S) (hp : 0 ≤ pm_i S 1 2) (h1 : pm_i S 1 2 < 20 → q 1 (pm_wI (pm_wI S 2 (pm_i S 1 2).toNatClampNeg v) 1 2 (pm_i S 1 2 + 1))) (h0 : ¬ pm_i S 1 2 < 20 → q 0 S) : pm_CI G d 23 [.ref 1, .int v] S q := by
  refine pm_goI 23 40 pb_c23 (by decide) (Nat.le_of_ble_eq_true rfl) rfl ?_
  simp only [show pm_mL 23 = 2 from rfl, pm_WI0, pm_WI1, pm_WI2, pm_WI3, pm_WI4, pm_WI5, pm_WV, pm_WW, pm_WX, pb_B23, pm_if, pm_QI_at, pm_QL_at, pm_QV_at, pm_QR_at, pm_QR_at0, pm_QR_at1, Nat.reduceSub, Nat.reduceAdd, List.replicate_zero, List.replicate_succ, true_and, and_true, true_or, or_true, and_self, reduceIte, Nat.reduceEqDiff, Nat.reduceLT, Nat.reduceLeDiff, Nat.reduceMul, false_and, and_false, reduceCtorEq, false_or, or_false, not_true_eq_false, not_false_eq_true, true_implies, false_implies, implies_true, lf_10, eq_self, Int32.reduceLT, Int32.reduceLE, Int32.reduceAdd, Int32.reduceSub, pm_same, pm_i_wI, pm_l_wL, pm_l_wM, pm_oR_rf, pm_oQ_rf, sh_k1 hS, sh_r1_1 hS, sh_k2 hS, sh_z2 hS]
  repeat' (first | with_reducible refine ⟨fun _ => ?_, fun _ => ?_⟩ | with_reducible refine ⟨?_, ?_⟩ | fail)
  all_goals first | omega | exact iv_vl 20 (by lia) (by lia) (by decide) | (refine h0 ?_; lia) | (refine h1 ?_; lia) | skip
theorem iv_feast {A : iv_A} {S : pm_S} {v : Int32} (hv : 0 ≤ v ∧ v ≤ 9999) (ho : ¬ dy_off (pm_i S 60) (iv_c S 2) v) (h : pm_i S 59 2 < 20) (hI : Inv A S) : Inv A (pm_wI (pm_wI (pm_wI (pm_wI S 2 (pm_i S 59 2).toNatClampNeg v) 1 2 (pm_i S 59 2 + 1)) 60 (pm_i S 59 2).toNatClampNeg v) 59 2 (pm_i S 59 2 + 1)) := by
  obtain ⟨d1, d2, d3, d4, ⟨d5, d5'⟩, d6, d7⟩ := hI.day
  refine ⟨hI.sh, ?_, ?_, ?_, ?_, ?_, ?_, ?_, ?_, ?_, ?_, ?_, ?_⟩
  · have hm : v.toNatClampNeg % 7 < 5 := by
      have h1 : ¬ 5 ≤ v - v / 7 * 7 := fun z => ho (Or.inl z)
      have h2 := iv_le (n := 9999) 9999 hv.2 (by decide)
      rw [iv_nn hv.1, show nI v.toNatClampNeg - nI v.toNatClampNeg / 7 * 7 = nI (v.toNatClampNeg % 7) from pk_rem (d := 7) (by omega) (by omega) (by omega)] at h1
      by_cases h3 : v.toNatClampNeg % 7 < 5
      · exact h3
      · exact absurd (nI_le (a := 5) (by omega) (by omega)) h1
    have hne : ∀ k, k < iv_c S 2 → ¬ pm_i S 60 k = v := fun k hk z => ho (Or.inr ⟨k, hk, z⟩)
    unfold iv_Day iv_in
    simp only [pm_i_wI, pm_i_wI_eq, iv_row_ne, ne_eq, not_false_eq_true, upd, iv_c, Nat.reduceEqDiff, Nat.reduceLT, Nat.reduceLeDiff, false_and, and_false, true_and, and_true, and_self, reduceIte, eq_self]
    refine ⟨d1, d2, by rw [d3], ⟨by lia, by lia⟩, fun k hk => ?_, fun k j hkj hj => ?_⟩
    · by_cases hkn : k = (pm_i S 59 2).toNatClampNeg
      · simp only [if_pos hkn]; exact ⟨hv, hm⟩
      · simp only [if_neg hkn]; exact d6 k (iv_lt1 d5 h hk hkn)
    · by_cases hjn : j = (pm_i S 59 2).toNatClampNeg
      · simp only [if_pos hjn, if_neg (show ¬ k = (pm_i S 59 2).toNatClampNeg by omega)]
        exact hne k (by unfold iv_c; omega)
      · have hj2 := iv_lt1 d5 h hj hjn
        simp only [if_neg hjn, if_neg (show ¬ k = (pm_i S 59 2).toNatClampNeg by unfold iv_c at hj2; omega)]
        exact d7 k j hkj hj2
  · exact hI.per.cg (by (intro p j hr; (try simp only [pm_i_wI]); repeat rw [if_neg (fun z => by obtain ⟨z1, z2⟩ := z; subst z1; unfold iv_rPer at hr; omega)]))
  · exact hI.mat.cg (Nat.le_refl _) (fun _ _ => ⟨rfl, rfl⟩) (fun _ _ _ => rfl) (by (intro p j hr; (try simp only [pm_i_wI]); repeat rw [if_neg (fun z => by obtain ⟨z1, z2⟩ := z; subst z1; unfold iv_rMat at hr; omega)]))
  · exact hI.act.cg hI.mat (Nat.le_refl _) (fun _ _ => ⟨rfl, rfl⟩) (fun _ _ _ => rfl) (by (intro p j hr; (try simp only [pm_i_wI]); repeat rw [if_neg (fun z => by obtain ⟨z1, z2⟩ := z; subst z1; unfold iv_rAct at hr; omega)]))
  · exact hI.txt.cg (by (intro p j hr; (try simp only [pm_i_wI]); repeat rw [if_neg (fun z => by obtain ⟨z1, z2⟩ := z; subst z1; unfold iv_rTxt at hr; omega)]))
  · exact hI.law.cg (Nat.le_refl _) (fun _ _ => ⟨rfl, rfl⟩) (fun _ _ _ => rfl) (by (intro p j hr; (try simp only [pm_i_wI]); repeat rw [if_neg (fun z => by obtain ⟨z1, z2⟩ := z; subst z1; unfold iv_rLaw at hr; omega)]))
  · exact hI.cau.cg (by (intro p j hr; (try simp only [pm_i_wI]); repeat rw [if_neg (fun z => by obtain ⟨z1, z2⟩ := z; subst z1; unfold iv_rCau at hr; omega)]))
  · exact hI.red.cg (by (intro p j hr; (try simp only [pm_i_wI]); repeat rw [if_neg (fun z => by obtain ⟨z1, z2⟩ := z; subst z1; unfold iv_rRed at hr; omega)]))
  · exact hI.rep.cg (by (intro p j hr; (try simp only [pm_i_wI]); repeat rw [if_neg (fun z => by obtain ⟨z1, z2⟩ := z; subst z1; unfold iv_rRep at hr; omega)]))
  · exact hI.wk.cg (by (intro p j hr; (try simp only [pm_i_wI]); repeat rw [if_neg (fun z => by obtain ⟨z1, z2⟩ := z; subst z1; unfold iv_rWk at hr; omega)]))
  · exact hI.tp.cg (by (intro p j hr; (try simp only [pm_i_wI]); repeat rw [if_neg (fun z => by obtain ⟨z1, z2⟩ := z; subst z1; unfold iv_rTp at hr; omega)])) (fun _ _ => rfl)
  · exact hI.tr.cg (by (intro p j hr; (try simp only [pm_i_wI]); repeat rw [if_neg (fun z => by obtain ⟨z1, z2⟩ := z; subst z1; unfold iv_rTr at hr; omega)]))
theorem pp_feast {G : pm_G} {d : Nat} {A : iv_A} {S : pm_S} {v : Int32} (hd : 40 ≤ d) (hI : Inv A S) : pm_CI G d 98 [.ref 0, .int v] S (fun r S1 => pm_CI G d 160 [.ref 59, .int v] S1 (fun r' S2 => pv_end A r r' S2)) := by
  have hS := hI.sh
  obtain ⟨b1, b2⟩ := hI.day.2.2.2.2.1
  have e12 := hI.e1_2
  refine pm_goI 98 60 pb_c98 (by decide) (Nat.le_of_ble_eq_true rfl) rfl ?_
  simp only [show pm_mL 98 = 2 from rfl, pm_WI0, pm_WI1, pm_WI2, pm_WI3, pm_WI4, pm_WI5, pm_WV, pm_WW, pm_WX, pb_B98, pm_if, pm_QI_at, pm_QL_at, pm_QV_at, pm_QR_at, pm_QR_at0, pm_QR_at1, Nat.reduceSub, Nat.reduceAdd, List.replicate_zero, List.replicate_succ, true_and, and_true, true_or, or_true, and_self, reduceIte, Nat.reduceEqDiff, Nat.reduceLT, Nat.reduceLeDiff, Nat.reduceMul, false_and, and_false, reduceCtorEq, false_or, or_false, not_true_eq_false, not_false_eq_true, true_implies, false_implies, implies_true, lf_10, eq_self, Int32.reduceLT, Int32.reduceLE, Int32.reduceAdd, Int32.reduceSub, pm_same, pm_i_wI, pm_l_wL, pm_l_wM, pm_oR_rf, pm_oQ_rf, sh_k0 hS, sh_r0_0 hS, sh_k1 hS, Inv.e1_0 hI, Inv.e2 hI, Inv.e1_2 hI, Inv.e0_2 hI, Inv.e3 hI, Inv.e0_4 hI, Inv.e0_5 hI, Inv.e5_1 hI, Inv.e6 hI, Inv.e14_2 hI, Inv.e28_0 hI, Inv.e29 hI, Inv.e30 hI, Inv.e31 hI, Inv.e0_10 hI, Inv.e33_0 hI, Inv.e38_0 hI, Inv.e39 hI, Inv.e40 hI, Inv.e41 hI, Inv.e44_0 hI, Inv.e45 hI, sh_k1 hS, sh_r1_1 hS, sh_k2 hS, sh_z2 hS]
  repeat' (first | with_reducible refine ⟨fun _ => ?_, fun _ => ?_⟩ | with_reducible refine ⟨?_, ?_⟩ | (refine lf_99 (fun hc => ?_) (fun hc => ?_) <;> (first | simp only [pm_WV, pm_WW, true_and, and_true, true_or, or_true, and_self, reduceIte, Nat.reduceEqDiff, Nat.reduceLT, Nat.reduceLeDiff, Nat.reduceMul, false_and, and_false, reduceCtorEq, false_or, or_false, not_true_eq_false, not_false_eq_true, true_implies, false_implies, implies_true, lf_10, eq_self, Int32.reduceLT, Int32.reduceLE, Int32.reduceAdd, Int32.reduceSub, pm_same, pm_i_wI, pm_l_wL, pm_l_wM, pm_oR_rf, pm_oQ_rf, sh_k0 hS, sh_r0_0 hS, sh_k1 hS, Inv.e1_0 hI, Inv.e2 hI, Inv.e1_2 hI, Inv.e0_2 hI, Inv.e3 hI, Inv.e0_4 hI, Inv.e0_5 hI, Inv.e5_1 hI, Inv.e6 hI, Inv.e14_2 hI, Inv.e28_0 hI, Inv.e29 hI, Inv.e30 hI, Inv.e31 hI, Inv.e0_10 hI, Inv.e33_0 hI, Inv.e38_0 hI, Inv.e39 hI, Inv.e40 hI, Inv.e41 hI, Inv.e44_0 hI, Inv.e45 hI, sh_k1 hS, sh_r1_1 hS, sh_k2 hS, sh_z2 hS] at hc ⊢ | skip)) | (refine dy_21 (by omega) hI (by lia) (fun hc => ?_) (fun hc => ?_) <;> (first | simp only [pm_WV, pm_WW, true_and, and_true, true_or, or_true, and_self, reduceIte, Nat.reduceEqDiff, Nat.reduceLT, Nat.reduceLeDiff, Nat.reduceMul, false_and, and_false, reduceCtorEq, false_or, or_false, not_true_eq_false, not_false_eq_true, true_implies, false_implies, implies_true, lf_10, eq_self, Int32.reduceLT, Int32.reduceLE, Int32.reduceAdd, Int32.reduceSub, pm_same, pm_i_wI, pm_l_wL, pm_l_wM, pm_oR_rf, pm_oQ_rf, sh_k0 hS, sh_r0_0 hS, sh_k1 hS, Inv.e1_0 hI, Inv.e2 hI, Inv.e1_2 hI, Inv.e0_2 hI, Inv.e3 hI, Inv.e0_4 hI, Inv.e0_5 hI, Inv.e5_1 hI, Inv.e6 hI, Inv.e14_2 hI, Inv.e28_0 hI, Inv.e29 hI, Inv.e30 hI, Inv.e31 hI, Inv.e0_10 hI, Inv.e33_0 hI, Inv.e38_0 hI, Inv.e39 hI, Inv.e40 hI, Inv.e41 hI, Inv.e44_0 hI, Inv.e45 hI, sh_k1 hS, sh_r1_1 hS, sh_k2 hS, sh_z2 hS] at hc ⊢ | skip)) | (refine lf_23 hS (by rw [Inv.e1_2 hI]; exact b1) (fun hc => ?_) (fun hc => ?_) <;> (first | simp only [pm_WV, pm_WW, true_and, and_true, true_or, or_true, and_self, reduceIte, Nat.reduceEqDiff, Nat.reduceLT, Nat.reduceLeDiff, Nat.reduceMul, false_and, and_false, reduceCtorEq, false_or, or_false, not_true_eq_false, not_false_eq_true, true_implies, false_implies, implies_true, lf_10, eq_self, Int32.reduceLT, Int32.reduceLE, Int32.reduceAdd, Int32.reduceSub, pm_same, pm_i_wI, pm_l_wL, pm_l_wM, pm_oR_rf, pm_oQ_rf, sh_k0 hS, sh_r0_0 hS, sh_k1 hS, Inv.e1_0 hI, Inv.e2 hI, Inv.e1_2 hI, Inv.e0_2 hI, Inv.e3 hI, Inv.e0_4 hI, Inv.e0_5 hI, Inv.e5_1 hI, Inv.e6 hI, Inv.e14_2 hI, Inv.e28_0 hI, Inv.e29 hI, Inv.e30 hI, Inv.e31 hI, Inv.e0_10 hI, Inv.e33_0 hI, Inv.e38_0 hI, Inv.e39 hI, Inv.e40 hI, Inv.e41 hI, Inv.e44_0 hI, Inv.e45 hI, sh_k1 hS, sh_r1_1 hS, sh_k2 hS, sh_z2 hS] at hc ⊢ | skip)) | fail)
  all_goals try first | omega | (exfalso; lia) | exact iv_vl 20 (by lia) (by lia) (by decide)
  all_goals try refine pm_goI 160 60 pb_c160 (by decide) (Nat.le_of_ble_eq_true rfl) rfl ?_
  all_goals (first | simp only [show pm_mL 160 = 2 from rfl, pm_WI0, pm_WI1, pm_WI2, pm_WI3, pm_WI4, pm_WI5, pm_WV, pm_WW, pm_WX, pb_B160, pm_if, pm_QI_at, pm_QL_at, pm_QV_at, pm_QR_at, pm_QR_at0, pm_QR_at1, Nat.reduceSub, Nat.reduceAdd, List.replicate_zero, List.replicate_succ, true_and, and_true, true_or, or_true, and_self, reduceIte, Nat.reduceEqDiff, Nat.reduceLT, Nat.reduceLeDiff, Nat.reduceMul, false_and, and_false, reduceCtorEq, false_or, or_false, not_true_eq_false, not_false_eq_true, true_implies, false_implies, implies_true, lf_10, eq_self, Int32.reduceLT, Int32.reduceLE, Int32.reduceAdd, Int32.reduceSub, pm_same, pm_i_wI, pm_l_wL, pm_l_wM, pm_oR_rf, pm_oQ_rf, sh_k59 hS, sh_r59_1 hS, sh_k60 hS, sh_z60 hS, Inv.e1_0 hI, Inv.e2 hI, Inv.e1_2 hI, Inv.e0_2 hI, Inv.e3 hI, Inv.e0_4 hI, Inv.e0_5 hI, Inv.e5_1 hI, Inv.e6 hI, Inv.e14_2 hI, Inv.e28_0 hI, Inv.e29 hI, Inv.e30 hI, Inv.e31 hI, Inv.e0_10 hI, Inv.e33_0 hI, Inv.e38_0 hI, Inv.e39 hI, Inv.e40 hI, Inv.e41 hI, Inv.e44_0 hI, Inv.e45 hI] | skip)
  all_goals repeat' (first | with_reducible refine ⟨fun _ => ?_, fun _ => ?_⟩ | with_reducible refine ⟨?_, ?_⟩ | (refine lf_161 (by omega) (fun hc => ?_) (fun hc => ?_) <;> (first | simp only [pm_WV, pm_WW, true_and, and_true, true_or, or_true, and_self, reduceIte, Nat.reduceEqDiff, Nat.reduceLT, Nat.reduceLeDiff, Nat.reduceMul, false_and, and_false, reduceCtorEq, false_or, or_false, not_true_eq_false, not_false_eq_true, true_implies, false_implies, implies_true, lf_10, eq_self, Int32.reduceLT, Int32.reduceLE, Int32.reduceAdd, Int32.reduceSub, pm_same, pm_i_wI, pm_l_wL, pm_l_wM, pm_oR_rf, pm_oQ_rf, sh_k59 hS, sh_r59_1 hS, sh_k60 hS, sh_z60 hS, Inv.e1_0 hI, Inv.e2 hI, Inv.e1_2 hI, Inv.e0_2 hI, Inv.e3 hI, Inv.e0_4 hI, Inv.e0_5 hI, Inv.e5_1 hI, Inv.e6 hI, Inv.e14_2 hI, Inv.e28_0 hI, Inv.e29 hI, Inv.e30 hI, Inv.e31 hI, Inv.e0_10 hI, Inv.e33_0 hI, Inv.e38_0 hI, Inv.e39 hI, Inv.e40 hI, Inv.e41 hI, Inv.e44_0 hI, Inv.e45 hI] at hc ⊢ | skip)) | (refine dy_162 (F := pm_i S 60) (n := iv_c S 2) (by omega) hS (by first | rfl | (simp only [pm_i_wI, pm_i_wI_eq, iv_row_ne, ne_eq, not_false_eq_true, upd, iv_c, Nat.reduceEqDiff, Nat.reduceLT, Nat.reduceLeDiff, false_and, and_false, true_and, and_true, and_self, reduceIte, eq_self])) (by simp only [pm_i_wI, pm_i_wI_eq, iv_row_ne, ne_eq, not_false_eq_true, upd, iv_c, Nat.reduceEqDiff, Nat.reduceLT, Nat.reduceLeDiff, false_and, and_false, true_and, and_true, and_self, reduceIte, eq_self]; exact (iv_n20 hI.day).2) (iv_n20 hI.day).1 (fun hc => ?_) (fun hc => ?_) <;> (first | simp only [pm_WV, pm_WW, true_and, and_true, true_or, or_true, and_self, reduceIte, Nat.reduceEqDiff, Nat.reduceLT, Nat.reduceLeDiff, Nat.reduceMul, false_and, and_false, reduceCtorEq, false_or, or_false, not_true_eq_false, not_false_eq_true, true_implies, false_implies, implies_true, lf_10, eq_self, Int32.reduceLT, Int32.reduceLE, Int32.reduceAdd, Int32.reduceSub, pm_same, pm_i_wI, pm_l_wL, pm_l_wM, pm_oR_rf, pm_oQ_rf, sh_k59 hS, sh_r59_1 hS, sh_k60 hS, sh_z60 hS, Inv.e1_0 hI, Inv.e2 hI, Inv.e1_2 hI, Inv.e0_2 hI, Inv.e3 hI, Inv.e0_4 hI, Inv.e0_5 hI, Inv.e5_1 hI, Inv.e6 hI, Inv.e14_2 hI, Inv.e28_0 hI, Inv.e29 hI, Inv.e30 hI, Inv.e31 hI, Inv.e0_10 hI, Inv.e33_0 hI, Inv.e38_0 hI, Inv.e39 hI, Inv.e40 hI, Inv.e41 hI, Inv.e44_0 hI, Inv.e45 hI] at hc ⊢ | skip)) | fail)
  all_goals first | omega | with_reducible exact pv_same hI | with_reducible exact pv_sameL hI | exact iv_vl 20 (by lia) (by lia) (by decide) | (exfalso; lia) | ((with_reducible refine pv_to (iv_feast ?_ ?_ ?_ hI) ?_) <;> (try unfold iv_in) <;> first | lia | assumption) | skip
