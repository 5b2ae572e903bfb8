/-! good -/
def gdL (S : pm_S) (k : Int32) : gx_L := lawL S (lwo S (-1) k)
def gd_t (S : pm_S) (m : Nat) (k : Int32) (i : Nat) : Int32 := owT S m k (owS S m ((owA S m k).getD i 0)) (owD S m ((owA S m k).getD i 0))
def gd_s (S : pm_S) (m : Nat) (k : Int32) : Nat → Int64
  | 0 => 0
  | i + 1 => if owX S m k i = 1 then gd_s S m k i + (nI ((gdL S k).2.1 12)).toInt64 * (gd_t S m k i / nI ((gdL S k).2.1 13)).toInt64 else if owX S m k i = 2 then gd_s S m k i + (pm_i S 67 m).toInt64 else gd_s S m k i
def gd_f (S : pm_S) (m : Nat) (k : Int32) (x : Int64) : Int32 := (x * (1000 + (nI ((gdL S k).2.1 15)).toInt64 * ((k - pm_i S 66 m) / 365).toInt64) / 1000).toInt32
def gd_m (h : Int64) (l c : Int32) : Int64 := if (if c < l then c else l).toInt64 < h then (if c < l then c else l).toInt64 else h
theorem gd_min {h : Int64} {l c : Int32} : (if (if h < l.toInt64 then h else l.toInt64) < c.toInt64 then (if h < l.toInt64 then h else l.toInt64) else c.toInt64) = gd_m h l c := by
  apply Int64.toInt_inj.mp
  unfold gd_m
  by_cases h1 : c < l
  · rw [if_pos h1]
    have e1 := Int32.lt_iff_toInt_lt.mp h1
    by_cases h2 : h < l.toInt64
    · rw [if_pos h2]
      have e2 := Int64.lt_iff_toInt_lt.mp h2
      rw [Int32.toInt_toInt64] at e2
      by_cases h3 : h < c.toInt64
      · have e3 := Int64.lt_iff_toInt_lt.mp h3
        rw [if_pos h3, if_neg (fun z => by have := Int64.lt_iff_toInt_lt.mp z; omega)]
      · rw [if_neg h3]
        have e3 : ¬ h.toInt < c.toInt64.toInt := fun z => h3 (Int64.lt_iff_toInt_lt.mpr z)
        by_cases h4 : c.toInt64 < h
        · rw [if_pos h4]
        · rw [if_neg h4]
          have e4 : ¬ c.toInt64.toInt < h.toInt := fun z => h4 (Int64.lt_iff_toInt_lt.mpr z)
          omega
    · rw [if_neg h2]
      have e2 : ¬ h.toInt < l.toInt64.toInt := fun z => h2 (Int64.lt_iff_toInt_lt.mpr z)
      rw [Int32.toInt_toInt64] at e2
      rw [if_neg (fun z => by have := Int64.lt_iff_toInt_lt.mp z; rw [Int32.toInt_toInt64, Int32.toInt_toInt64] at this; omega), if_pos (Int64.lt_iff_toInt_lt.mpr (by rw [Int32.toInt_toInt64]; omega))]
  · rw [if_neg h1]
    have e1 : ¬ c.toInt < l.toInt := fun z => h1 (Int32.lt_iff_toInt_lt.mpr z)
    by_cases h2 : h < l.toInt64
    · rw [if_pos h2]
      have e2 := Int64.lt_iff_toInt_lt.mp h2
      rw [Int32.toInt_toInt64] at e2
      rw [if_pos (Int64.lt_iff_toInt_lt.mpr (by rw [Int32.toInt_toInt64]; omega)), if_neg (fun z => by have := Int64.lt_iff_toInt_lt.mp z; rw [Int32.toInt_toInt64] at this; omega)]
    · rw [if_neg h2]
      have e2 : ¬ h.toInt < l.toInt64.toInt := fun z => h2 (Int64.lt_iff_toInt_lt.mpr z)
      rw [Int32.toInt_toInt64] at e2
      by_cases h3 : l.toInt64 < c.toInt64
      · rw [if_pos h3]
        by_cases h4 : l.toInt64 < h
        · rw [if_pos h4]
        · rw [if_neg h4]
          have e4 : ¬ l.toInt64.toInt < h.toInt := fun z => h4 (Int64.lt_iff_toInt_lt.mpr z)
          rw [Int32.toInt_toInt64] at e4 ⊢
          omega
      · rw [if_neg h3]
        have e3 : ¬ l.toInt64.toInt < c.toInt64.toInt := fun z => h3 (Int64.lt_iff_toInt_lt.mpr z)
        rw [Int32.toInt_toInt64, Int32.toInt_toInt64] at e3
        by_cases h4 : l.toInt64 < h
        · rw [if_pos h4, Int32.toInt_toInt64, Int32.toInt_toInt64]; omega
        · rw [if_neg h4]
          have e4 : ¬ l.toInt64.toInt < h.toInt := fun z => h4 (Int64.lt_iff_toInt_lt.mpr z)
          rw [Int32.toInt_toInt64] at e4
          rw [Int32.toInt_toInt64]
          omega
def gdV (S : pm_S) (m : Nat) (k : Int32) : Int32 := gd_f S m k (gd_m (gd_s S m k (owN S m k)) (pm_i S 67 m) (nI ((gdL S k).2.1 14)))
theorem gdL_me {S T : pm_S} (h : me S T) (k : Int32) : gdL T k = gdL S k := by unfold gdL; rw [lawL_me h, lwo_me h]
theorem owT_me {S T : pm_S} (h : me S T) (m : Nat) (k : Int32) (s due : Nat) : owT T m k s due = owT S m k s due := by
  unfold owT; rw [fa_f_me h, h.row (p := 77) (by omega) (by omega)]
theorem gd_t_me {S T : pm_S} (h : me S T) (m : Nat) (k : Int32) (i : Nat) : gd_t T m k i = gd_t S m k i := by
  unfold gd_t; rw [owT_me h, owA_me h, owS_me h, owD_me h]
theorem gd_s_me {S T : pm_S} (h : me S T) (m : Nat) (k : Int32) : ∀ i, gd_s T m k i = gd_s S m k i
  | 0 => rfl
  | i + 1 => by
    unfold gd_s
    rw [gd_s_me h m k i, owX_me h, gdL_me h, gd_t_me h, h.row (p := 67) (by omega) (by omega)]
theorem gdV_me {S T : pm_S} (h : me S T) (m : Nat) (k : Int32) : gdV T m k = gdV S m k := by
  unfold gdV gd_f
  rw [gd_s_me h, gdL_me h, owN_me h, h.row (p := 67) (by omega) (by omega), h.row (p := 66) (by omega) (by omega)]
theorem owX_1 {S : pm_S} {m i : Nat} {k : Int32} (h : owX S m k i = 1) : ∃ a, fa_f S m (nI (owS S m ((owA S m k).getD i 0))) k = some a ∧ gd_t S m k i = pm_i S 77 a - nI (owD S m ((owA S m k).getD i 0)) := by
  unfold owX owW at h
  cases hf : fa_f S m (nI (owS S m ((owA S m k).getD i 0))) k with
  | some a => exact ⟨a, rfl, by unfold gd_t owT; rw [hf]⟩
  | none =>
    rw [hf] at h
    simp only at h
    exfalso
    revert h
    split
    · intro h; exact absurd h (by decide)
    · split
      · intro h; exact absurd h (by decide)
      · intro h; exact absurd h (by decide)
theorem gdL_wf {S : pm_S} (hM : iv_MI S) (k : Int32) : (∀ f, 10 ≤ f → f ≤ 16 → (gdL S k).2.1 f < 10000) ∧ 1 ≤ (gdL S k).2.1 13 := by
  have := lawL_wf hM (t := fun _ => false) (l := lwo S (-1) k) (fun i hi => lwo_lt hi)
  exact ⟨this.2.2.2.1, this.2.2.2.2.1⟩
theorem lf_11 {G : pm_G} {d : Nat} {A : iv_A} {S : pm_S} {m : Nat} {k : Int32} {q : Int32 → pm_S → Prop} (hd : 7 ≤ d) (hI : Inv A S) (hm : m < iv_c S 18) (h : ∀ T, sc S T → q (gdV S m k) T) : pm_CI G d 11 [.ref 14, .ref (iv_m A m), .int k] S q := by
  have hS := hI.sh
  have n10 := owN_le hI.mi m k
  refine pm_goI 11 1 pb_c11 (by decide) (Nat.le_of_ble_eq_true rfl) rfl ?_
  try simp only [show pm_mL 11 = 8 from rfl, pm_WI0, pm_WI1, pm_WI2, pm_WI3, pm_WI4, pm_WI5, pm_WV, pm_WW, pm_WX, pb_B11, pm_if, pm_QI_at, pm_QL_at, pm_QV_at, pm_QR_at, pm_QR_at0, pm_QR_at1, Nat.reduceSub, Nat.reduceAdd, List.replicate_zero, List.replicate_succ, true_and, and_true, true_or, or_true, and_self, reduceIte, Nat.reduceEqDiff, Nat.reduceLT, Nat.reduceLeDiff, Nat.reduceMul, false_and, and_false, reduceCtorEq, false_or, or_false, not_true_eq_false, not_false_eq_true, true_implies, false_implies, implies_true, lf_10, eq_self, Int32.reduceLT, Int32.reduceLE, Int32.reduceAdd, Int32.reduceSub, pm_same, pm_i_wI, pm_l_wL, pm_l_wM, pm_oR_rf, pm_oQ_rf, nI_1, sw_e, LQ1, LQ2, sh_k14 hS]
  refine ⟨by omega, lf_7 (by omega) hI hm (fun T hs hcw => ?_)⟩
  have hIT := hI.sc hs
  have hT := hIT.sh
  have hme := hs.me
  try simp only [pm_WV, pm_WW, true_and, and_true, true_or, or_true, and_self, reduceIte, Nat.reduceEqDiff, Nat.reduceLT, Nat.reduceLeDiff, Nat.reduceMul, false_and, and_false, reduceCtorEq, false_or, or_false, not_true_eq_false, not_false_eq_true, true_implies, false_implies, implies_true, lf_10, eq_self, Int32.reduceLT, Int32.reduceLE, Int32.reduceAdd, Int32.reduceSub, pm_same, pm_i_wI, pm_l_wL, pm_l_wM, pm_oR_rf, pm_oQ_rf, nI_1, sw_e, LQ1, LQ2, pm_WI0, pm_WI1, pm_WI2, pm_WI3, pm_WI4, pm_WI5, pm_WV, pm_WW, pm_WX, pb_B11, pm_if, pm_QI_at, pm_QL_at, pm_QV_at, pm_QR_at, pm_QR_at0, pm_QR_at1, Nat.reduceSub, Nat.reduceAdd, List.replicate_zero, List.replicate_succ, sh_k14 hT]
  refine ⟨by omega, lf_3 (by omega) hT hIT.law ?_⟩
  have t4 : pm_i T 14 4 = nI (owN S m k) := hcw.1
  obtain ⟨hc, hr⟩ := lw_ok hT hIT.law (lw_of (A := A) (S := T) (b := -1) (k := k))
  have hm2 : m < iv_c T 18 := by rw [hs.c (by omega)]; exact hm
  have hw := hIT.row hm2
  have eL : lawL T (lwo T (-1) k) = gdL S k := gdL_me hme k
  rw [eL] at hr
  obtain ⟨w1, w2⟩ := gdL_wf hI.mi k
  have f12 := hr.2.2.2.2.1 12 (by omega) (by omega)
  have f13 := hr.2.2.2.2.1 13 (by omega) (by omega)
  have f14 := hr.2.2.2.2.1 14 (by omega) (by omega)
  have f15 := hr.2.2.2.2.1 15 (by omega) (by omega)
  have g5 : pm_i T (iv_m A m) 5 = pm_i S 67 m := by rw [hw.f5, hs.r67]
  have g4 : pm_i T (iv_m A m) 4 = pm_i S 66 m := by rw [hw.f4, hs.r66]
  have hk14 := sh_k14 hT
  generalize lwp A (lwo T (-1) k) = lp at hc f12 f13 f14 f15 ⊢
  have b13 := w1 13 (by omega) (by omega)
  have p13 : ¬ nI ((gdL S k).2.1 13) ≤ 0 := nI_ge (a := 0) (by omega) (by omega)
  have n13 : ¬ nI ((gdL S k).2.1 13) = 0 := nI_ne0 (by omega) (by omega)
  try simp only [pm_WV, pm_WW, true_and, and_true, true_or, or_true, and_self, reduceIte, Nat.reduceEqDiff, Nat.reduceLT, Nat.reduceLeDiff, Nat.reduceMul, false_and, and_false, reduceCtorEq, false_or, or_false, not_true_eq_false, not_false_eq_true, true_implies, false_implies, implies_true, lf_10, eq_self, Int32.reduceLT, Int32.reduceLE, Int32.reduceAdd, Int32.reduceSub, pm_same, pm_i_wI, pm_l_wL, pm_l_wM, pm_oR_rf, pm_oQ_rf, nI_1, sw_e, LQ1, LQ2, pm_WI0, pm_WI1, pm_WI2, pm_WI3, pm_WI4, pm_WI5, pm_WV, pm_WW, pm_WX, pb_B11, pm_if, pm_QI_at, pm_QL_at, pm_QV_at, pm_QR_at, pm_QR_at0, pm_QR_at1, Nat.reduceSub, Nat.reduceAdd, List.replicate_zero, List.replicate_succ, sh_k14 hT]
  have key : pm_W G d 11 (pm_QI q) 20 [.ref 14, .ref (iv_m A m), .int k, .ref lp, .long (gd_s S m k 0), .float 0, .int (nI 0), .float 0] [] T 0 0 := by
    refine pv_loopR (fun i => [.ref 14, .ref (iv_m A m), .int k, .ref lp, .long (gd_s S m k i), .float 0, .int (nI i), .float 0]) (owN S m k) (fun i hi hk => ?_) ?_
    · have hle : ¬ nI (owN S m k) ≤ nI i := nI_ge hi (by omega)
      have hci := nI_clamp (n := i) (by omega)
      have hv := vp_in_nI (n := i) (N := 10) (by omega) (by decide)
      obtain ⟨_, _, x25, _, x27⟩ := hcw.2 i hi
      have e25 : pm_i T 25 i = owX S m k i := x25
      have e27 : pm_i T 27 i = gd_t S m k i := x27
      have ecs : gd_s S m k (i + 1) = if owX S m k i = 1 then gd_s S m k i + (nI ((gdL S k).2.1 12)).toInt64 * (gd_t S m k i / nI ((gdL S k).2.1 13)).toInt64 else if owX S m k i = 2 then gd_s S m k i + (pm_i S 67 m).toInt64 else gd_s S m k i := rfl
      by_cases e1 : owX S m k i = 1
      · rw [ecs, if_pos e1] at hk
        refine pm_wb_ok pb_c11 2 20 0 _ _ _ _ _ ?_
        try simp only [pm_WI0, pm_WI1, pm_WI2, pm_WI3, pm_WI4, pm_WI5, pm_WV, pm_WW, pm_WX, pb_B11, pm_if, pm_QI_at, pm_QL_at, pm_QV_at, pm_QR_at, pm_QR_at0, pm_QR_at1, Nat.reduceSub, Nat.reduceAdd, List.replicate_zero, List.replicate_succ, true_and, and_true, true_or, or_true, and_self, reduceIte, Nat.reduceEqDiff, Nat.reduceLT, Nat.reduceLeDiff, Nat.reduceMul, false_and, and_false, reduceCtorEq, false_or, or_false, not_true_eq_false, not_false_eq_true, true_implies, false_implies, implies_true, lf_10, eq_self, Int32.reduceLT, Int32.reduceLE, Int32.reduceAdd, Int32.reduceSub, pm_same, pm_i_wI, pm_l_wL, pm_l_wM, pm_oR_rf, pm_oQ_rf, nI_1, sw_e, LQ1, LQ2, hk14, sh_r14_7 hT, sh_r14_9 hT, sh_k25 hT, sh_z25 hT, sh_k27 hT, sh_z27 hT, t4, hle, hci, e25, e27, hc.1, f12, f13, hw.k, g5, e1, p13, n13]
        first | exact ⟨hv, hv, pv_W hk (by simp [pv_le, pm_unk])⟩ | exact ⟨hv, hv, n13, pv_W hk (by simp [pv_le, pm_unk])⟩ | skip
      · rw [ecs, if_neg e1] at hk
        by_cases e2 : owX S m k i = 2
        · rw [if_pos e2] at hk
          refine pm_wb_ok pb_c11 3 20 0 _ _ _ _ _ ?_
          try simp only [pm_WI0, pm_WI1, pm_WI2, pm_WI3, pm_WI4, pm_WI5, pm_WV, pm_WW, pm_WX, pb_B11, pm_if, pm_QI_at, pm_QL_at, pm_QV_at, pm_QR_at, pm_QR_at0, pm_QR_at1, Nat.reduceSub, Nat.reduceAdd, List.replicate_zero, List.replicate_succ, true_and, and_true, true_or, or_true, and_self, reduceIte, Nat.reduceEqDiff, Nat.reduceLT, Nat.reduceLeDiff, Nat.reduceMul, false_and, and_false, reduceCtorEq, false_or, or_false, not_true_eq_false, not_false_eq_true, true_implies, false_implies, implies_true, lf_10, eq_self, Int32.reduceLT, Int32.reduceLE, Int32.reduceAdd, Int32.reduceSub, pm_same, pm_i_wI, pm_l_wL, pm_l_wM, pm_oR_rf, pm_oQ_rf, nI_1, sw_e, LQ1, LQ2, hk14, sh_r14_7 hT, sh_r14_9 hT, sh_k25 hT, sh_z25 hT, sh_k27 hT, sh_z27 hT, t4, hle, hci, e25, e27, hc.1, f12, f13, hw.k, g5, e1, e2]
          first | exact ⟨hv, hv, pv_W hk (by simp [pv_le, pm_unk])⟩ | skip
        · rw [if_neg e2] at hk
          refine pm_wb_ok pb_c11 3 20 0 _ _ _ _ _ ?_
          try simp only [pm_WI0, pm_WI1, pm_WI2, pm_WI3, pm_WI4, pm_WI5, pm_WV, pm_WW, pm_WX, pb_B11, pm_if, pm_QI_at, pm_QL_at, pm_QV_at, pm_QR_at, pm_QR_at0, pm_QR_at1, Nat.reduceSub, Nat.reduceAdd, List.replicate_zero, List.replicate_succ, true_and, and_true, true_or, or_true, and_self, reduceIte, Nat.reduceEqDiff, Nat.reduceLT, Nat.reduceLeDiff, Nat.reduceMul, false_and, and_false, reduceCtorEq, false_or, or_false, not_true_eq_false, not_false_eq_true, true_implies, false_implies, implies_true, lf_10, eq_self, Int32.reduceLT, Int32.reduceLE, Int32.reduceAdd, Int32.reduceSub, pm_same, pm_i_wI, pm_l_wL, pm_l_wM, pm_oR_rf, pm_oQ_rf, nI_1, sw_e, LQ1, LQ2, hk14, sh_r14_7 hT, sh_r14_9 hT, sh_k25 hT, sh_z25 hT, sh_k27 hT, sh_z27 hT, t4, hle, hci, e25, e27, hc.1, f12, f13, hw.k, g5, e1, e2]
          first | exact ⟨hv, hv, pv_W hk (by simp [pv_le, pm_unk])⟩ | skip
    · refine pm_wb_ok pb_c11 1 20 0 _ _ _ _ _ ?_
      try simp only [pm_WI0, pm_WI1, pm_WI2, pm_WI3, pm_WI4, pm_WI5, pm_WV, pm_WW, pm_WX, pb_B11, pm_if, pm_QI_at, pm_QL_at, pm_QV_at, pm_QR_at, pm_QR_at0, pm_QR_at1, Nat.reduceSub, Nat.reduceAdd, List.replicate_zero, List.replicate_succ, true_and, and_true, true_or, or_true, and_self, reduceIte, Nat.reduceEqDiff, Nat.reduceLT, Nat.reduceLeDiff, Nat.reduceMul, false_and, and_false, reduceCtorEq, false_or, or_false, not_true_eq_false, not_false_eq_true, true_implies, false_implies, implies_true, lf_10, eq_self, Int32.reduceLT, Int32.reduceLE, Int32.reduceAdd, Int32.reduceSub, pm_same, pm_i_wI, pm_l_wL, pm_l_wM, pm_oR_rf, pm_oQ_rf, nI_1, sw_e, LQ1, LQ2, hk14, t4, Int32.le_refl]
      try refine pm_wb_ok pb_c11 1 101 0 _ _ _ _ _ ?_
      try simp only [pm_WI0, pm_WI1, pm_WI2, pm_WI3, pm_WI4, pm_WI5, pm_WV, pm_WW, pm_WX, pb_B11, pm_if, pm_QI_at, pm_QL_at, pm_QV_at, pm_QR_at, pm_QR_at0, pm_QR_at1, Nat.reduceSub, Nat.reduceAdd, List.replicate_zero, List.replicate_succ, true_and, and_true, true_or, or_true, and_self, reduceIte, Nat.reduceEqDiff, Nat.reduceLT, Nat.reduceLeDiff, Nat.reduceMul, false_and, and_false, reduceCtorEq, false_or, or_false, not_true_eq_false, not_false_eq_true, true_implies, false_implies, implies_true, lf_10, eq_self, Int32.reduceLT, Int32.reduceLE, Int32.reduceAdd, Int32.reduceSub, pm_same, pm_i_wI, pm_l_wL, pm_l_wM, pm_oR_rf, pm_oQ_rf, nI_1, sw_e, LQ1, LQ2, hk14, hc.1, hw.k, g5, g4, f14, f15, reduceCtorEq, show ((365 : Int32) = 0) = False from by decide, show ((1000 : Int64) = 0) = False from by decide]
      have hh := h T hs
      unfold gdV gd_f gd_m at hh
      first | exact hh | exact ⟨by omega, by omega, hh⟩ | skip
  first | exact pv_W key (by simp [pv_le, pm_unk, gd_s, show nI 0 = 0 from rfl]) | skip
theorem mo_226 {G : pm_G} {d : Nat} {S : pm_S} {m : Nat} {k : Int32} {q : Int32 → pm_S → Prop} (hd : 36 ≤ d) (hM : iv_MI S) (hm : m < iv_c S 18) (hk : pm_i S 66 m ≤ k ∧ k ≤ 9999) (h : ∀ T, sc S T → q (gdV S m k) T) : pm_CI G d 226 [.ref 59, .int (nI m), .int k] S q := by
  have hS := hM.1
  obtain ⟨n40, hn⟩ := MI.c18 hM
  have n10 := owN_le hM m k
  have hcm := nI_clamp (n := m) (by omega)
  have hvm := vp_in_nI (n := m) (N := 40) (by omega) (by decide)
  have h66 := (hM.2.2.1.2 m hm).1.2.2.2.2.1.1
  refine pm_goI 226 1 pb_c226 (by decide) (Nat.le_of_ble_eq_true rfl) rfl ?_
  try simp only [show pm_mL 226 = 6 from rfl, pm_WI0, pm_WI1, pm_WI2, pm_WI3, pm_WI4, pm_WI5, pm_WV, pm_WW, pm_WX, pb_B226, pm_if, pm_QI_at, pm_QL_at, pm_QV_at, pm_QR_at, pm_QR_at0, pm_QR_at1, Nat.reduceSub, Nat.reduceAdd, List.replicate_zero, List.replicate_succ, true_and, and_true, true_or, or_true, and_self, reduceIte, Nat.reduceEqDiff, Nat.reduceLT, Nat.reduceLeDiff, Nat.reduceMul, false_and, and_false, reduceCtorEq, false_or, or_false, not_true_eq_false, not_false_eq_true, true_implies, false_implies, implies_true, lf_10, eq_self, Int32.reduceLT, Int32.reduceLE, Int32.reduceAdd, Int32.reduceSub, pm_same, pm_i_wI, pm_l_wL, pm_l_wM, pm_oR_rf, pm_oQ_rf, sh_k59 hS, sh_r59_9 hS, sh_k66 hS, sh_z66 hS, sh_r59_10 hS, sh_k67 hS, sh_z67 hS, sh_r59_21 hS, sh_k77 hS, sh_z77 hS, sh_r59_64 hS, sh_k98 hS, sh_z98 hS, sh_r59_65 hS, sh_k99 hS, sh_z99 hS, sh_r59_66 hS, sh_k100 hS, sh_z100 hS, nI_1, LQ1, LQ2, LQ5]
  refine ⟨by omega, lf_173m hS hn n40 hm ?_⟩
  try simp only [pm_WV, pm_WW, true_and, and_true, true_or, or_true, and_self, reduceIte, Nat.reduceEqDiff, Nat.reduceLT, Nat.reduceLeDiff, Nat.reduceMul, false_and, and_false, reduceCtorEq, false_or, or_false, not_true_eq_false, not_false_eq_true, true_implies, false_implies, implies_true, lf_10, eq_self, Int32.reduceLT, Int32.reduceLE, Int32.reduceAdd, Int32.reduceSub, pm_same, pm_i_wI, pm_l_wL, pm_l_wM, pm_oR_rf, pm_oQ_rf, nI_1, sw_e, LQ1, LQ2, pm_WI0, pm_WI1, pm_WI2, pm_WI3, pm_WI4, pm_WI5, pm_WV, pm_WW, pm_WX, pb_B226, pm_if, pm_QI_at, pm_QL_at, pm_QV_at, pm_QR_at, pm_QR_at0, pm_QR_at1, Nat.reduceSub, Nat.reduceAdd, List.replicate_zero, List.replicate_succ, true_and, and_true, true_or, or_true, and_self, reduceIte, Nat.reduceEqDiff, Nat.reduceLT, Nat.reduceLeDiff, Nat.reduceMul, false_and, and_false, reduceCtorEq, false_or, or_false, not_true_eq_false, not_false_eq_true, true_implies, false_implies, implies_true, lf_10, eq_self, Int32.reduceLT, Int32.reduceLE, Int32.reduceAdd, Int32.reduceSub, pm_same, pm_i_wI, pm_l_wL, pm_l_wM, pm_oR_rf, pm_oQ_rf, sh_k59 hS, sh_r59_9 hS, sh_k66 hS, sh_z66 hS, sh_r59_10 hS, sh_k67 hS, sh_z67 hS, sh_r59_21 hS, sh_k77 hS, sh_z77 hS, sh_r59_64 hS, sh_k98 hS, sh_z98 hS, sh_r59_65 hS, sh_k99 hS, sh_z99 hS, sh_r59_66 hS, sh_k100 hS, sh_z100 hS, nI_1, LQ1, LQ2, LQ5]
  try refine pm_wb_ok pb_c226 1 10 0 _ _ _ _ _ ?_
  try simp only [pm_WI0, pm_WI1, pm_WI2, pm_WI3, pm_WI4, pm_WI5, pm_WV, pm_WW, pm_WX, pb_B226, pm_if, pm_QI_at, pm_QL_at, pm_QV_at, pm_QR_at, pm_QR_at0, pm_QR_at1, Nat.reduceSub, Nat.reduceAdd, List.replicate_zero, List.replicate_succ, true_and, and_true, true_or, or_true, and_self, reduceIte, Nat.reduceEqDiff, Nat.reduceLT, Nat.reduceLeDiff, Nat.reduceMul, false_and, and_false, reduceCtorEq, false_or, or_false, not_true_eq_false, not_false_eq_true, true_implies, false_implies, implies_true, lf_10, eq_self, Int32.reduceLT, Int32.reduceLE, Int32.reduceAdd, Int32.reduceSub, pm_same, pm_i_wI, pm_l_wL, pm_l_wM, pm_oR_rf, pm_oQ_rf, sh_k59 hS, sh_r59_9 hS, sh_k66 hS, sh_z66 hS, sh_r59_10 hS, sh_k67 hS, sh_z67 hS, sh_r59_21 hS, sh_k77 hS, sh_z77 hS, sh_r59_64 hS, sh_k98 hS, sh_z98 hS, sh_r59_65 hS, sh_k99 hS, sh_z99 hS, sh_r59_66 hS, sh_k100 hS, sh_z100 hS, nI_1, LQ1, LQ2, LQ5]
  refine ⟨by omega, lf_211m (by omega) hS (by omega) h66 (fun _ => ?_) (fun z => absurd hk z)⟩
  try simp only [pm_WV, pm_WW, true_and, and_true, true_or, or_true, and_self, reduceIte, Nat.reduceEqDiff, Nat.reduceLT, Nat.reduceLeDiff, Nat.reduceMul, false_and, and_false, reduceCtorEq, false_or, or_false, not_true_eq_false, not_false_eq_true, true_implies, false_implies, implies_true, lf_10, eq_self, Int32.reduceLT, Int32.reduceLE, Int32.reduceAdd, Int32.reduceSub, pm_same, pm_i_wI, pm_l_wL, pm_l_wM, pm_oR_rf, pm_oQ_rf, nI_1, sw_e, LQ1, LQ2, pm_WI0, pm_WI1, pm_WI2, pm_WI3, pm_WI4, pm_WI5, pm_WV, pm_WW, pm_WX, pb_B226, pm_if, pm_QI_at, pm_QL_at, pm_QV_at, pm_QR_at, pm_QR_at0, pm_QR_at1, Nat.reduceSub, Nat.reduceAdd, List.replicate_zero, List.replicate_succ, true_and, and_true, true_or, or_true, and_self, reduceIte, Nat.reduceEqDiff, Nat.reduceLT, Nat.reduceLeDiff, Nat.reduceMul, false_and, and_false, reduceCtorEq, false_or, or_false, not_true_eq_false, not_false_eq_true, true_implies, false_implies, implies_true, lf_10, eq_self, Int32.reduceLT, Int32.reduceLE, Int32.reduceAdd, Int32.reduceSub, pm_same, pm_i_wI, pm_l_wL, pm_l_wM, pm_oR_rf, pm_oQ_rf, sh_k59 hS, sh_r59_9 hS, sh_k66 hS, sh_z66 hS, sh_r59_10 hS, sh_k67 hS, sh_z67 hS, sh_r59_21 hS, sh_k77 hS, sh_z77 hS, sh_r59_64 hS, sh_k98 hS, sh_z98 hS, sh_r59_65 hS, sh_k99 hS, sh_z99 hS, sh_r59_66 hS, sh_k100 hS, sh_z100 hS, nI_1, LQ1, LQ2, LQ5]
  try refine pm_wb_ok pb_c226 1 22 0 _ _ _ _ _ ?_
  try simp only [pm_WI0, pm_WI1, pm_WI2, pm_WI3, pm_WI4, pm_WI5, pm_WV, pm_WW, pm_WX, pb_B226, pm_if, pm_QI_at, pm_QL_at, pm_QV_at, pm_QR_at, pm_QR_at0, pm_QR_at1, Nat.reduceSub, Nat.reduceAdd, List.replicate_zero, List.replicate_succ, true_and, and_true, true_or, or_true, and_self, reduceIte, Nat.reduceEqDiff, Nat.reduceLT, Nat.reduceLeDiff, Nat.reduceMul, false_and, and_false, reduceCtorEq, false_or, or_false, not_true_eq_false, not_false_eq_true, true_implies, false_implies, implies_true, lf_10, eq_self, Int32.reduceLT, Int32.reduceLE, Int32.reduceAdd, Int32.reduceSub, pm_same, pm_i_wI, pm_l_wL, pm_l_wM, pm_oR_rf, pm_oQ_rf, sh_k59 hS, sh_r59_9 hS, sh_k66 hS, sh_z66 hS, sh_r59_10 hS, sh_k67 hS, sh_z67 hS, sh_r59_21 hS, sh_k77 hS, sh_z77 hS, sh_r59_64 hS, sh_k98 hS, sh_z98 hS, sh_r59_65 hS, sh_k99 hS, sh_z99 hS, sh_r59_66 hS, sh_k100 hS, sh_z100 hS, nI_1, LQ1, LQ2, LQ5]
  refine ⟨by omega, mm_204 (by omega) hM hm (fun T hs hmw => ?_)⟩
  have hT := hs.sh hS
  have hMT := hM.scr hs
  obtain ⟨n12, hn31⟩ := MI.c31 hMT
  try simp only [pm_WV, pm_WW, true_and, and_true, true_or, or_true, and_self, reduceIte, Nat.reduceEqDiff, Nat.reduceLT, Nat.reduceLeDiff, Nat.reduceMul, false_and, and_false, reduceCtorEq, false_or, or_false, not_true_eq_false, not_false_eq_true, true_implies, false_implies, implies_true, lf_10, eq_self, Int32.reduceLT, Int32.reduceLE, Int32.reduceAdd, Int32.reduceSub, pm_same, pm_i_wI, pm_l_wL, pm_l_wM, pm_oR_rf, pm_oQ_rf, nI_1, sw_e, LQ1, LQ2, pm_WI0, pm_WI1, pm_WI2, pm_WI3, pm_WI4, pm_WI5, pm_WV, pm_WW, pm_WX, pb_B226, pm_if, pm_QI_at, pm_QL_at, pm_QV_at, pm_QR_at, pm_QR_at0, pm_QR_at1, Nat.reduceSub, Nat.reduceAdd, List.replicate_zero, List.replicate_succ, true_and, and_true, true_or, or_true, and_self, reduceIte, Nat.reduceEqDiff, Nat.reduceLT, Nat.reduceLeDiff, Nat.reduceMul, false_and, and_false, reduceCtorEq, false_or, or_false, not_true_eq_false, not_false_eq_true, true_implies, false_implies, implies_true, lf_10, eq_self, Int32.reduceLT, Int32.reduceLE, Int32.reduceAdd, Int32.reduceSub, pm_same, pm_i_wI, pm_l_wL, pm_l_wM, pm_oR_rf, pm_oQ_rf, sh_k59 hT, sh_r59_9 hT, sh_k66 hT, sh_z66 hT, sh_r59_10 hT, sh_k67 hT, sh_z67 hT, sh_r59_21 hT, sh_k77 hT, sh_z77 hT, sh_r59_64 hT, sh_k98 hT, sh_z98 hT, sh_r59_65 hT, sh_k99 hT, sh_z99 hT, sh_r59_66 hT, sh_k100 hT, sh_z100 hT, nI_1, LQ1, LQ2, LQ5]
  refine ⟨by omega, ml_176 hT hn31 n12 ?_⟩
  try simp only [pm_WV, pm_WW, true_and, and_true, true_or, or_true, and_self, reduceIte, Nat.reduceEqDiff, Nat.reduceLT, Nat.reduceLeDiff, Nat.reduceMul, false_and, and_false, reduceCtorEq, false_or, or_false, not_true_eq_false, not_false_eq_true, true_implies, false_implies, implies_true, lf_10, eq_self, Int32.reduceLT, Int32.reduceLE, Int32.reduceAdd, Int32.reduceSub, pm_same, pm_i_wI, pm_l_wL, pm_l_wM, pm_oR_rf, pm_oQ_rf, nI_1, sw_e, LQ1, LQ2, pm_WI0, pm_WI1, pm_WI2, pm_WI3, pm_WI4, pm_WI5, pm_WV, pm_WW, pm_WX, pb_B226, pm_if, pm_QI_at, pm_QL_at, pm_QV_at, pm_QR_at, pm_QR_at0, pm_QR_at1, Nat.reduceSub, Nat.reduceAdd, List.replicate_zero, List.replicate_succ, true_and, and_true, true_or, or_true, and_self, reduceIte, Nat.reduceEqDiff, Nat.reduceLT, Nat.reduceLeDiff, Nat.reduceMul, false_and, and_false, reduceCtorEq, false_or, or_false, not_true_eq_false, not_false_eq_true, true_implies, false_implies, implies_true, lf_10, eq_self, Int32.reduceLT, Int32.reduceLE, Int32.reduceAdd, Int32.reduceSub, pm_same, pm_i_wI, pm_l_wL, pm_l_wM, pm_oR_rf, pm_oQ_rf, sh_k59 hT, sh_r59_9 hT, sh_k66 hT, sh_z66 hT, sh_r59_10 hT, sh_k67 hT, sh_z67 hT, sh_r59_21 hT, sh_k77 hT, sh_z77 hT, sh_r59_64 hT, sh_k98 hT, sh_z98 hT, sh_r59_65 hT, sh_k99 hT, sh_z99 hT, sh_r59_66 hT, sh_k100 hT, sh_z100 hT, nI_1, LQ1, LQ2, LQ5]
  have hmT : m < iv_c T 18 := by rw [hs.c (by omega)]; exact hm
  refine ⟨by omega, ml_177F (t := tv T m k) (by omega) hMT (fun i hi => lwo_lt hi) (Or.inr ⟨m, hmT, rfl, rfl⟩) (fun U hs2 hF hl => ?_)⟩
  have hU := hs2.sh hT
  have hsU := hs.tr hs2
  have hme := hsU.me
  have eL : lawL T (lwo T (-1) k) = gdL S k := gdL_me hs.me k
  rw [eL] at hl
  obtain ⟨w1, w2⟩ := gdL_wf hM k
  have f12 : pm_i U 59 55 = nI ((gdL S k).2.1 12) := hl.2.2.2 12 (by omega) (by omega)
  have f13 : pm_i U 59 56 = nI ((gdL S k).2.1 13) := hl.2.2.2 13 (by omega) (by omega)
  have f14 : pm_i U 59 57 = nI ((gdL S k).2.1 14) := hl.2.2.2 14 (by omega) (by omega)
  have f15 : pm_i U 59 58 = nI ((gdL S k).2.1 15) := hl.2.2.2 15 (by omega) (by omega)
  have u68 : pm_i U 59 68 = nI (owN S m k) := by rw [hF 59 68 (by omega)]; exact hmw.1
  have u67 : pm_i U 67 m = pm_i S 67 m := by rw [hsU.r67]
  have u66 : pm_i U 66 m = pm_i S 66 m := by rw [hsU.r66]
  obtain ⟨n150, hn24⟩ := MI.c24 hM
  have u24 : pm_i U 59 24 = nI (iv_c S 24) := by rw [hsU.m24]; exact hn24
  have n13 : ¬ nI ((gdL S k).2.1 13) = 0 := nI_ne0 (by omega) (by have := w1 13 (by omega) (by omega); omega)
  have hh := h U hsU
  try simp only [pm_WV, pm_WW, true_and, and_true, true_or, or_true, and_self, reduceIte, Nat.reduceEqDiff, Nat.reduceLT, Nat.reduceLeDiff, Nat.reduceMul, false_and, and_false, reduceCtorEq, false_or, or_false, not_true_eq_false, not_false_eq_true, true_implies, false_implies, implies_true, lf_10, eq_self, Int32.reduceLT, Int32.reduceLE, Int32.reduceAdd, Int32.reduceSub, pm_same, pm_i_wI, pm_l_wL, pm_l_wM, pm_oR_rf, pm_oQ_rf, nI_1, sw_e, LQ1, LQ2, pm_WI0, pm_WI1, pm_WI2, pm_WI3, pm_WI4, pm_WI5, pm_WV, pm_WW, pm_WX, pb_B226, pm_if, pm_QI_at, pm_QL_at, pm_QV_at, pm_QR_at, pm_QR_at0, pm_QR_at1, Nat.reduceSub, Nat.reduceAdd, List.replicate_zero, List.replicate_succ, true_and, and_true, true_or, or_true, and_self, reduceIte, Nat.reduceEqDiff, Nat.reduceLT, Nat.reduceLeDiff, Nat.reduceMul, false_and, and_false, reduceCtorEq, false_or, or_false, not_true_eq_false, not_false_eq_true, true_implies, false_implies, implies_true, lf_10, eq_self, Int32.reduceLT, Int32.reduceLE, Int32.reduceAdd, Int32.reduceSub, pm_same, pm_i_wI, pm_l_wL, pm_l_wM, pm_oR_rf, pm_oQ_rf, sh_k59 hU, sh_r59_9 hU, sh_k66 hU, sh_z66 hU, sh_r59_10 hU, sh_k67 hU, sh_z67 hU, sh_r59_21 hU, sh_k77 hU, sh_z77 hU, sh_r59_64 hU, sh_k98 hU, sh_z98 hU, sh_r59_65 hU, sh_k99 hU, sh_z99 hU, sh_r59_66 hU, sh_k100 hU, sh_z100 hU, nI_1, LQ1, LQ2, LQ5]
  have key : pm_W G d 226 (pm_QI q) 45 [.ref 59, .int (nI m), .int k, .long (gd_s S m k 0), .float 0, .int (nI 0)] [] U 0 0 := by
    refine pv_loopR (fun i => [.ref 59, .int (nI m), .int k, .long (gd_s S m k i), .float 0, .int (nI i)]) (owN S m k) (fun i hi hk => ?_) ?_
    · have hle : ¬ nI (owN S m k) ≤ nI i := nI_ge hi (by omega)
      have hci := nI_clamp (n := i) (by omega)
      have hv := vp_in_nI (n := i) (N := 10) (by omega) (by decide)
      obtain ⟨x98, x99, x100, _⟩ := hmw.2 i hi
      have e98 : pm_i U 98 i = nI (owS S m ((owA S m k).getD i 0)) := by rw [hF 98 i (by omega)]; exact x98
      have e99 : pm_i U 99 i = nI (owD S m ((owA S m k).getD i 0)) := by rw [hF 99 i (by omega)]; exact x99
      have e100 : pm_i U 100 i = owX S m k i := by rw [hF 100 i (by omega)]; exact x100
      have ecs : gd_s S m k (i + 1) = if owX S m k i = 1 then gd_s S m k i + (nI ((gdL S k).2.1 12)).toInt64 * (gd_t S m k i / nI ((gdL S k).2.1 13)).toInt64 else if owX S m k i = 2 then gd_s S m k i + (pm_i S 67 m).toInt64 else gd_s S m k i := rfl
      by_cases e1 : owX S m k i = 1
      · rw [ecs, if_pos e1] at hk
        obtain ⟨a, ea, et⟩ := owX_1 e1
        have hal := fa_f_lt ea
        have hcl : (oI (some a)).toNatClampNeg = a := nI_clamp (by omega)
        have hva : vp_in (oI (some a)) 150 := vp_in_nI (by omega) (by decide)
        refine pm_wb_ok pb_c226 1 45 0 _ _ _ _ _ ?_
        try simp only [pm_WI0, pm_WI1, pm_WI2, pm_WI3, pm_WI4, pm_WI5, pm_WV, pm_WW, pm_WX, pb_B226, pm_if, pm_QI_at, pm_QL_at, pm_QV_at, pm_QR_at, pm_QR_at0, pm_QR_at1, Nat.reduceSub, Nat.reduceAdd, List.replicate_zero, List.replicate_succ, true_and, and_true, true_or, or_true, and_self, reduceIte, Nat.reduceEqDiff, Nat.reduceLT, Nat.reduceLeDiff, Nat.reduceMul, false_and, and_false, reduceCtorEq, false_or, or_false, not_true_eq_false, not_false_eq_true, true_implies, false_implies, implies_true, lf_10, eq_self, Int32.reduceLT, Int32.reduceLE, Int32.reduceAdd, Int32.reduceSub, pm_same, pm_i_wI, pm_l_wL, pm_l_wM, pm_oR_rf, pm_oQ_rf, sh_k59 hU, sh_r59_9 hU, sh_k66 hU, sh_z66 hU, sh_r59_10 hU, sh_k67 hU, sh_z67 hU, sh_r59_21 hU, sh_k77 hU, sh_z77 hU, sh_r59_64 hU, sh_k98 hU, sh_z98 hU, sh_r59_65 hU, sh_k99 hU, sh_z99 hU, sh_r59_66 hU, sh_k100 hU, sh_z100 hU, nI_1, LQ1, LQ2, LQ5, u68, hle, hci, e98, e99, e100, e1, f12]
        refine ⟨hv, hv, by omega, ac_195 (n := iv_c S 24) (by omega) hU u24 n150 ?_⟩
        have hfa : ac_f (ac_m (pm_i U 75) (nI m) (ac_c (pm_i U 76) (pm_i U 79) (nI (owS S m ((owA S m k).getD i 0))) k)) (ac_bt (pm_i U 77) false) (List.range (iv_c S 24)) none = some a := by
          rw [hsU.r75, hsU.r76, hsU.r77, hsU.r79]; exact ea
        rw [hfa]
        have u77 : pm_i U 77 a = pm_i S 77 a := by rw [hsU.r77]
        try simp only [pm_WV, pm_WW, true_and, and_true, true_or, or_true, and_self, reduceIte, Nat.reduceEqDiff, Nat.reduceLT, Nat.reduceLeDiff, Nat.reduceMul, false_and, and_false, reduceCtorEq, false_or, or_false, not_true_eq_false, not_false_eq_true, true_implies, false_implies, implies_true, lf_10, eq_self, Int32.reduceLT, Int32.reduceLE, Int32.reduceAdd, Int32.reduceSub, pm_same, pm_i_wI, pm_l_wL, pm_l_wM, pm_oR_rf, pm_oQ_rf, nI_1, sw_e, LQ1, LQ2, pm_WI0, pm_WI1, pm_WI2, pm_WI3, pm_WI4, pm_WI5, pm_WV, pm_WW, pm_WX, pb_B226, pm_if, pm_QI_at, pm_QL_at, pm_QV_at, pm_QR_at, pm_QR_at0, pm_QR_at1, Nat.reduceSub, Nat.reduceAdd, List.replicate_zero, List.replicate_succ, true_and, and_true, true_or, or_true, and_self, reduceIte, Nat.reduceEqDiff, Nat.reduceLT, Nat.reduceLeDiff, Nat.reduceMul, false_and, and_false, reduceCtorEq, false_or, or_false, not_true_eq_false, not_false_eq_true, true_implies, false_implies, implies_true, lf_10, eq_self, Int32.reduceLT, Int32.reduceLE, Int32.reduceAdd, Int32.reduceSub, pm_same, pm_i_wI, pm_l_wL, pm_l_wM, pm_oR_rf, pm_oQ_rf, sh_k59 hU, sh_r59_9 hU, sh_k66 hU, sh_z66 hU, sh_r59_10 hU, sh_k67 hU, sh_z67 hU, sh_r59_21 hU, sh_k77 hU, sh_z77 hU, sh_r59_64 hU, sh_k98 hU, sh_z98 hU, sh_r59_65 hU, sh_k99 hU, sh_z99 hU, sh_r59_66 hU, sh_k100 hU, sh_z100 hU, nI_1, LQ1, LQ2, LQ5, hcl, u77, hci, e99, f13, n13]
        rw [← et]
        refine ⟨hva, hv, ?_⟩
        refine pm_wb_ok pb_c226 1 130 0 _ _ _ _ _ ?_
        try simp only [pm_WI0, pm_WI1, pm_WI2, pm_WI3, pm_WI4, pm_WI5, pm_WV, pm_WW, pm_WX, pb_B226, pm_if, pm_QI_at, pm_QL_at, pm_QV_at, pm_QR_at, pm_QR_at0, pm_QR_at1, Nat.reduceSub, Nat.reduceAdd, List.replicate_zero, List.replicate_succ, true_and, and_true, true_or, or_true, and_self, reduceIte, Nat.reduceEqDiff, Nat.reduceLT, Nat.reduceLeDiff, Nat.reduceMul, false_and, and_false, reduceCtorEq, false_or, or_false, not_true_eq_false, not_false_eq_true, true_implies, false_implies, implies_true, lf_10, eq_self, Int32.reduceLT, Int32.reduceLE, Int32.reduceAdd, Int32.reduceSub, pm_same, pm_i_wI, pm_l_wL, pm_l_wM, pm_oR_rf, pm_oQ_rf, sh_k59 hU, sh_r59_9 hU, sh_k66 hU, sh_z66 hU, sh_r59_10 hU, sh_k67 hU, sh_z67 hU, sh_r59_21 hU, sh_k77 hU, sh_z77 hU, sh_r59_64 hU, sh_k98 hU, sh_z98 hU, sh_r59_65 hU, sh_k99 hU, sh_z99 hU, sh_r59_66 hU, sh_k100 hU, sh_z100 hU, nI_1, LQ1, LQ2, LQ5]
        exact pv_W hk (by simp [pv_le, pm_unk])
      · rw [ecs, if_neg e1] at hk
        by_cases e2 : owX S m k i = 2
        · rw [if_pos e2] at hk
          refine pm_wb_ok pb_c226 3 45 0 _ _ _ _ _ ?_
          try simp only [pm_WI0, pm_WI1, pm_WI2, pm_WI3, pm_WI4, pm_WI5, pm_WV, pm_WW, pm_WX, pb_B226, pm_if, pm_QI_at, pm_QL_at, pm_QV_at, pm_QR_at, pm_QR_at0, pm_QR_at1, Nat.reduceSub, Nat.reduceAdd, List.replicate_zero, List.replicate_succ, true_and, and_true, true_or, or_true, and_self, reduceIte, Nat.reduceEqDiff, Nat.reduceLT, Nat.reduceLeDiff, Nat.reduceMul, false_and, and_false, reduceCtorEq, false_or, or_false, not_true_eq_false, not_false_eq_true, true_implies, false_implies, implies_true, lf_10, eq_self, Int32.reduceLT, Int32.reduceLE, Int32.reduceAdd, Int32.reduceSub, pm_same, pm_i_wI, pm_l_wL, pm_l_wM, pm_oR_rf, pm_oQ_rf, sh_k59 hU, sh_r59_9 hU, sh_k66 hU, sh_z66 hU, sh_r59_10 hU, sh_k67 hU, sh_z67 hU, sh_r59_21 hU, sh_k77 hU, sh_z77 hU, sh_r59_64 hU, sh_k98 hU, sh_z98 hU, sh_r59_65 hU, sh_k99 hU, sh_z99 hU, sh_r59_66 hU, sh_k100 hU, sh_z100 hU, nI_1, LQ1, LQ2, LQ5, u68, hle, hci, e98, e99, e100, e1, e2, hcm, u67]
          first | exact ⟨hv, hv, hvm, pv_W hk (by simp [pv_le, pm_unk])⟩ | skip
        · rw [if_neg e2] at hk
          refine pm_wb_ok pb_c226 3 45 0 _ _ _ _ _ ?_
          try simp only [pm_WI0, pm_WI1, pm_WI2, pm_WI3, pm_WI4, pm_WI5, pm_WV, pm_WW, pm_WX, pb_B226, pm_if, pm_QI_at, pm_QL_at, pm_QV_at, pm_QR_at, pm_QR_at0, pm_QR_at1, Nat.reduceSub, Nat.reduceAdd, List.replicate_zero, List.replicate_succ, true_and, and_true, true_or, or_true, and_self, reduceIte, Nat.reduceEqDiff, Nat.reduceLT, Nat.reduceLeDiff, Nat.reduceMul, false_and, and_false, reduceCtorEq, false_or, or_false, not_true_eq_false, not_false_eq_true, true_implies, false_implies, implies_true, lf_10, eq_self, Int32.reduceLT, Int32.reduceLE, Int32.reduceAdd, Int32.reduceSub, pm_same, pm_i_wI, pm_l_wL, pm_l_wM, pm_oR_rf, pm_oQ_rf, sh_k59 hU, sh_r59_9 hU, sh_k66 hU, sh_z66 hU, sh_r59_10 hU, sh_k67 hU, sh_z67 hU, sh_r59_21 hU, sh_k77 hU, sh_z77 hU, sh_r59_64 hU, sh_k98 hU, sh_z98 hU, sh_r59_65 hU, sh_k99 hU, sh_z99 hU, sh_r59_66 hU, sh_k100 hU, sh_z100 hU, nI_1, LQ1, LQ2, LQ5, u68, hle, hci, e98, e99, e100, e1, e2]
          first | exact ⟨hv, hv, pv_W hk (by simp [pv_le, pm_unk])⟩ | skip
    · refine pm_wb_ok pb_c226 1 45 0 _ _ _ _ _ ?_
      try simp only [pm_WI0, pm_WI1, pm_WI2, pm_WI3, pm_WI4, pm_WI5, pm_WV, pm_WW, pm_WX, pb_B226, pm_if, pm_QI_at, pm_QL_at, pm_QV_at, pm_QR_at, pm_QR_at0, pm_QR_at1, Nat.reduceSub, Nat.reduceAdd, List.replicate_zero, List.replicate_succ, true_and, and_true, true_or, or_true, and_self, reduceIte, Nat.reduceEqDiff, Nat.reduceLT, Nat.reduceLeDiff, Nat.reduceMul, false_and, and_false, reduceCtorEq, false_or, or_false, not_true_eq_false, not_false_eq_true, true_implies, false_implies, implies_true, lf_10, eq_self, Int32.reduceLT, Int32.reduceLE, Int32.reduceAdd, Int32.reduceSub, pm_same, pm_i_wI, pm_l_wL, pm_l_wM, pm_oR_rf, pm_oQ_rf, sh_k59 hU, sh_r59_9 hU, sh_k66 hU, sh_z66 hU, sh_r59_10 hU, sh_k67 hU, sh_z67 hU, sh_r59_21 hU, sh_k77 hU, sh_z77 hU, sh_r59_64 hU, sh_k98 hU, sh_z98 hU, sh_r59_65 hU, sh_k99 hU, sh_z99 hU, sh_r59_66 hU, sh_k100 hU, sh_z100 hU, nI_1, LQ1, LQ2, LQ5, u68, Int32.le_refl]
      unfold gdV gd_f at hh
      rw [← gd_min] at hh
      generalize gd_s S m k (owN S m k) = sm at hh ⊢
      have fin : ∀ y, y = (if (if sm < (pm_i S 67 m).toInt64 then sm else (pm_i S 67 m).toInt64) < (nI ((gdL S k).2.1 14)).toInt64 then (if sm < (pm_i S 67 m).toInt64 then sm else (pm_i S 67 m).toInt64) else (nI ((gdL S k).2.1 14)).toInt64) → pm_W G d 226 (pm_QI q) 179 [.ref 59, .int (nI m), .int k, .float 0, .float 0, .float 0] [.long y] U 0 0 := by
        intro y hy
        subst hy
        refine pm_wb_ok pb_c226 1 179 0 _ _ _ _ _ ?_
        try simp only [pm_WI0, pm_WI1, pm_WI2, pm_WI3, pm_WI4, pm_WI5, pm_WV, pm_WW, pm_WX, pb_B226, pm_if, pm_QI_at, pm_QL_at, pm_QV_at, pm_QR_at, pm_QR_at0, pm_QR_at1, Nat.reduceSub, Nat.reduceAdd, List.replicate_zero, List.replicate_succ, true_and, and_true, true_or, or_true, and_self, reduceIte, Nat.reduceEqDiff, Nat.reduceLT, Nat.reduceLeDiff, Nat.reduceMul, false_and, and_false, reduceCtorEq, false_or, or_false, not_true_eq_false, not_false_eq_true, true_implies, false_implies, implies_true, lf_10, eq_self, Int32.reduceLT, Int32.reduceLE, Int32.reduceAdd, Int32.reduceSub, pm_same, pm_i_wI, pm_l_wL, pm_l_wM, pm_oR_rf, pm_oQ_rf, sh_k59 hU, sh_r59_9 hU, sh_k66 hU, sh_z66 hU, sh_r59_10 hU, sh_k67 hU, sh_z67 hU, sh_r59_21 hU, sh_k77 hU, sh_z77 hU, sh_r59_64 hU, sh_k98 hU, sh_z98 hU, sh_r59_65 hU, sh_k99 hU, sh_z99 hU, sh_r59_66 hU, sh_k100 hU, sh_z100 hU, nI_1, LQ1, LQ2, LQ5, f15, hcm, u66, show ((365 : Int32) = 0) = False from by decide, show ((1000 : Int64) = 0) = False from by decide]
        first | exact ⟨hvm, hh⟩ | skip
      have mid : ∀ x, x = (if sm < (pm_i S 67 m).toInt64 then sm else (pm_i S 67 m).toInt64) → pm_W G d 226 (pm_QI q) 159 [.ref 59, .int (nI m), .int k, .float 0, .float 0, .float 0] [.long x] U 0 0 := by
        intro x hx
        by_cases h3 : x < (nI ((gdL S k).2.1 14)).toInt64
        · have h3c : lg_cmp x (nI ((gdL S k).2.1 14)).toInt64 < 0 := lc_lt.mpr h3
          have h3d : ¬ 0 ≤ lg_cmp x (nI ((gdL S k).2.1 14)).toInt64 := by lia
          have := fin x (by rw [← hx, if_pos h3])
          refine pm_wb_ok pb_c226 1 159 0 _ _ _ _ _ ?_
          try simp only [pm_WI0, pm_WI1, pm_WI2, pm_WI3, pm_WI4, pm_WI5, pm_WV, pm_WW, pm_WX, pb_B226, pm_if, pm_QI_at, pm_QL_at, pm_QV_at, pm_QR_at, pm_QR_at0, pm_QR_at1, Nat.reduceSub, Nat.reduceAdd, List.replicate_zero, List.replicate_succ, true_and, and_true, true_or, or_true, and_self, reduceIte, Nat.reduceEqDiff, Nat.reduceLT, Nat.reduceLeDiff, Nat.reduceMul, false_and, and_false, reduceCtorEq, false_or, or_false, not_true_eq_false, not_false_eq_true, true_implies, false_implies, implies_true, lf_10, eq_self, Int32.reduceLT, Int32.reduceLE, Int32.reduceAdd, Int32.reduceSub, pm_same, pm_i_wI, pm_l_wL, pm_l_wM, pm_oR_rf, pm_oQ_rf, sh_k59 hU, sh_r59_9 hU, sh_k66 hU, sh_z66 hU, sh_r59_10 hU, sh_k67 hU, sh_z67 hU, sh_r59_21 hU, sh_k77 hU, sh_z77 hU, sh_r59_64 hU, sh_k98 hU, sh_z98 hU, sh_r59_65 hU, sh_k99 hU, sh_z99 hU, sh_r59_66 hU, sh_k100 hU, sh_z100 hU, nI_1, LQ1, LQ2, LQ5, f14, h3c, h3d]
          first | exact pv_W this (by simp [pv_le, pm_unk]) | skip
        · have h3c : ¬ lg_cmp x (nI ((gdL S k).2.1 14)).toInt64 < 0 := fun z => h3 (lc_lt.mp z)
          have h3d : 0 ≤ lg_cmp x (nI ((gdL S k).2.1 14)).toInt64 := by lia
          have := fin (nI ((gdL S k).2.1 14)).toInt64 (by rw [← hx, if_neg h3])
          refine pm_wb_ok pb_c226 2 159 0 _ _ _ _ _ ?_
          try simp only [pm_WI0, pm_WI1, pm_WI2, pm_WI3, pm_WI4, pm_WI5, pm_WV, pm_WW, pm_WX, pb_B226, pm_if, pm_QI_at, pm_QL_at, pm_QV_at, pm_QR_at, pm_QR_at0, pm_QR_at1, Nat.reduceSub, Nat.reduceAdd, List.replicate_zero, List.replicate_succ, true_and, and_true, true_or, or_true, and_self, reduceIte, Nat.reduceEqDiff, Nat.reduceLT, Nat.reduceLeDiff, Nat.reduceMul, false_and, and_false, reduceCtorEq, false_or, or_false, not_true_eq_false, not_false_eq_true, true_implies, false_implies, implies_true, lf_10, eq_self, Int32.reduceLT, Int32.reduceLE, Int32.reduceAdd, Int32.reduceSub, pm_same, pm_i_wI, pm_l_wL, pm_l_wM, pm_oR_rf, pm_oQ_rf, sh_k59 hU, sh_r59_9 hU, sh_k66 hU, sh_z66 hU, sh_r59_10 hU, sh_k67 hU, sh_z67 hU, sh_r59_21 hU, sh_k77 hU, sh_z77 hU, sh_r59_64 hU, sh_k98 hU, sh_z98 hU, sh_r59_65 hU, sh_k99 hU, sh_z99 hU, sh_r59_66 hU, sh_k100 hU, sh_z100 hU, nI_1, LQ1, LQ2, LQ5, f14, h3c, h3d]
          first | exact pv_W this (by simp [pv_le, pm_unk]) | skip
      by_cases h2 : sm < (pm_i S 67 m).toInt64
      · have h2c : lg_cmp sm (pm_i S 67 m).toInt64 < 0 := lc_lt.mpr h2
        have h2d : ¬ 0 ≤ lg_cmp sm (pm_i S 67 m).toInt64 := by lia
        have := mid sm (by rw [if_pos h2])
        refine pm_wb_ok pb_c226 1 136 0 _ _ _ _ _ ?_
        try simp only [pm_WI0, pm_WI1, pm_WI2, pm_WI3, pm_WI4, pm_WI5, pm_WV, pm_WW, pm_WX, pb_B226, pm_if, pm_QI_at, pm_QL_at, pm_QV_at, pm_QR_at, pm_QR_at0, pm_QR_at1, Nat.reduceSub, Nat.reduceAdd, List.replicate_zero, List.replicate_succ, true_and, and_true, true_or, or_true, and_self, reduceIte, Nat.reduceEqDiff, Nat.reduceLT, Nat.reduceLeDiff, Nat.reduceMul, false_and, and_false, reduceCtorEq, false_or, or_false, not_true_eq_false, not_false_eq_true, true_implies, false_implies, implies_true, lf_10, eq_self, Int32.reduceLT, Int32.reduceLE, Int32.reduceAdd, Int32.reduceSub, pm_same, pm_i_wI, pm_l_wL, pm_l_wM, pm_oR_rf, pm_oQ_rf, sh_k59 hU, sh_r59_9 hU, sh_k66 hU, sh_z66 hU, sh_r59_10 hU, sh_k67 hU, sh_z67 hU, sh_r59_21 hU, sh_k77 hU, sh_z77 hU, sh_r59_64 hU, sh_k98 hU, sh_z98 hU, sh_r59_65 hU, sh_k99 hU, sh_z99 hU, sh_r59_66 hU, sh_k100 hU, sh_z100 hU, nI_1, LQ1, LQ2, LQ5, hcm, u67, h2c, h2d]
        first | exact ⟨hvm, pv_W this (by simp [pv_le, pm_unk])⟩ | skip
      · have h2c : ¬ lg_cmp sm (pm_i S 67 m).toInt64 < 0 := fun z => h2 (lc_lt.mp z)
        have h2d : 0 ≤ lg_cmp sm (pm_i S 67 m).toInt64 := by lia
        have := mid (pm_i S 67 m).toInt64 (by rw [if_neg h2])
        refine pm_wb_ok pb_c226 2 136 0 _ _ _ _ _ ?_
        try simp only [pm_WI0, pm_WI1, pm_WI2, pm_WI3, pm_WI4, pm_WI5, pm_WV, pm_WW, pm_WX, pb_B226, pm_if, pm_QI_at, pm_QL_at, pm_QV_at, pm_QR_at, pm_QR_at0, pm_QR_at1, Nat.reduceSub, Nat.reduceAdd, List.replicate_zero, List.replicate_succ, true_and, and_true, true_or, or_true, and_self, reduceIte, Nat.reduceEqDiff, Nat.reduceLT, Nat.reduceLeDiff, Nat.reduceMul, false_and, and_false, reduceCtorEq, false_or, or_false, not_true_eq_false, not_false_eq_true, true_implies, false_implies, implies_true, lf_10, eq_self, Int32.reduceLT, Int32.reduceLE, Int32.reduceAdd, Int32.reduceSub, pm_same, pm_i_wI, pm_l_wL, pm_l_wM, pm_oR_rf, pm_oQ_rf, sh_k59 hU, sh_r59_9 hU, sh_k66 hU, sh_z66 hU, sh_r59_10 hU, sh_k67 hU, sh_z67 hU, sh_r59_21 hU, sh_k77 hU, sh_z77 hU, sh_r59_64 hU, sh_k98 hU, sh_z98 hU, sh_r59_65 hU, sh_k99 hU, sh_z99 hU, sh_r59_66 hU, sh_k100 hU, sh_z100 hU, nI_1, LQ1, LQ2, LQ5, hcm, u67, h2c, h2d]
        first | exact ⟨hvm, hvm, pv_W this (by simp [pv_le, pm_unk])⟩ | skip
  first | exact pv_W key (by simp [pv_le, pm_unk, gd_s, show nI 0 = 0 from rfl]) | skip
theorem pp_good {G : pm_G} {d : Nat} {A : iv_A} {S : pm_S} {v k : Int32} (hd : 40 ≤ d) (hI : Inv A S) : pm_CI G d 130 [.ref 0, .int v, .int k] S (fun r S1 => pm_CI G d 226 [.ref 59, .int v, .int k] S1 (fun r' S2 => pv_end A r r' S2)) := by
  have hS := hI.sh
  have hM := hI.mi
  obtain ⟨n40, hn⟩ := MI.c18 hM
  by_cases hv : 0 ≤ v ∧ v < pm_i S 59 18
  · obtain ⟨m, hm, rfl⟩ := mt_of hn n40 hv
    have hw := hI.row hm
    have h66 := (hM.2.2.1.2 m hm).1.2.2.2.2.1.1
    by_cases hk : pm_i S 66 m ≤ k ∧ k ≤ 9999
    · skip
      refine pm_goI 130 4 pb_c130 (by decide) (Nat.le_of_ble_eq_true rfl) rfl ?_
      try simp only [show pm_mL 130 = 4 from rfl, pm_WI0, pm_WI1, pm_WI2, pm_WI3, pm_WI4, pm_WI5, pm_WV, pm_WW, pm_WX, pb_B130, pm_if, pm_QI_at, pm_QL_at, pm_QV_at, pm_QR_at, pm_QR_at0, pm_QR_at1, Nat.reduceSub, Nat.reduceAdd, List.replicate_zero, List.replicate_succ, true_and, and_true, true_or, or_true, and_self, reduceIte, Nat.reduceEqDiff, Nat.reduceLT, Nat.reduceLeDiff, Nat.reduceMul, false_and, and_false, reduceCtorEq, false_or, or_false, not_true_eq_false, not_false_eq_true, true_implies, false_implies, implies_true, lf_10, eq_self, Int32.reduceLT, Int32.reduceLE, Int32.reduceAdd, Int32.reduceSub, pm_same, pm_i_wI, pm_l_wL, pm_l_wM, pm_oR_rf, pm_oQ_rf, sh_k0 hS, sh_r0_7 hS, sh_k14 hS, nI_1, LQ1, LQ2, LQ5]
      refine ⟨by omega, lf_108m hI hm ?_⟩
      try simp only [pm_WV, pm_WW, true_and, and_true, true_or, or_true, and_self, reduceIte, Nat.reduceEqDiff, Nat.reduceLT, Nat.reduceLeDiff, Nat.reduceMul, false_and, and_false, reduceCtorEq, false_or, or_false, not_true_eq_false, not_false_eq_true, true_implies, false_implies, implies_true, lf_10, eq_self, Int32.reduceLT, Int32.reduceLE, Int32.reduceAdd, Int32.reduceSub, pm_same, pm_i_wI, pm_l_wL, pm_l_wM, pm_oR_rf, pm_oQ_rf, nI_1, sw_e, LQ1, LQ2, pm_WI0, pm_WI1, pm_WI2, pm_WI3, pm_WI4, pm_WI5, pm_WV, pm_WW, pm_WX, pb_B130, pm_if, pm_QI_at, pm_QL_at, pm_QV_at, pm_QR_at, pm_QR_at0, pm_QR_at1, Nat.reduceSub, Nat.reduceAdd, List.replicate_zero, List.replicate_succ, true_and, and_true, true_or, or_true, and_self, reduceIte, Nat.reduceEqDiff, Nat.reduceLT, Nat.reduceLeDiff, Nat.reduceMul, false_and, and_false, reduceCtorEq, false_or, or_false, not_true_eq_false, not_false_eq_true, true_implies, false_implies, implies_true, lf_10, eq_self, Int32.reduceLT, Int32.reduceLE, Int32.reduceAdd, Int32.reduceSub, pm_same, pm_i_wI, pm_l_wL, pm_l_wM, pm_oR_rf, pm_oQ_rf, sh_k0 hS, sh_r0_7 hS, sh_k14 hS, nI_1, LQ1, LQ2, LQ5, hw.k]
      refine ⟨by omega, lf_63m hI hm (fun _ => ?_) (fun z => absurd hk z)⟩
      try simp only [pm_WV, pm_WW, true_and, and_true, true_or, or_true, and_self, reduceIte, Nat.reduceEqDiff, Nat.reduceLT, Nat.reduceLeDiff, Nat.reduceMul, false_and, and_false, reduceCtorEq, false_or, or_false, not_true_eq_false, not_false_eq_true, true_implies, false_implies, implies_true, lf_10, eq_self, Int32.reduceLT, Int32.reduceLE, Int32.reduceAdd, Int32.reduceSub, pm_same, pm_i_wI, pm_l_wL, pm_l_wM, pm_oR_rf, pm_oQ_rf, nI_1, sw_e, LQ1, LQ2, pm_WI0, pm_WI1, pm_WI2, pm_WI3, pm_WI4, pm_WI5, pm_WV, pm_WW, pm_WX, pb_B130, pm_if, pm_QI_at, pm_QL_at, pm_QV_at, pm_QR_at, pm_QR_at0, pm_QR_at1, Nat.reduceSub, Nat.reduceAdd, List.replicate_zero, List.replicate_succ, true_and, and_true, true_or, or_true, and_self, reduceIte, Nat.reduceEqDiff, Nat.reduceLT, Nat.reduceLeDiff, Nat.reduceMul, false_and, and_false, reduceCtorEq, false_or, or_false, not_true_eq_false, not_false_eq_true, true_implies, false_implies, implies_true, lf_10, eq_self, Int32.reduceLT, Int32.reduceLE, Int32.reduceAdd, Int32.reduceSub, pm_same, pm_i_wI, pm_l_wL, pm_l_wM, pm_oR_rf, pm_oQ_rf, sh_k0 hS, sh_r0_7 hS, sh_k14 hS, nI_1, LQ1, LQ2, LQ5, hw.k]
      refine ⟨by omega, lf_11 (by omega) hI hm (fun T hs => ?_)⟩
      have hIT := hI.sc hs
      have := mo_226 (G := G) (d := d) (q := fun r' S2 => pv_end A (gdV S m k) r' S2) (by omega) hIT.mi (by rw [hs.c (by omega)]; exact hm) (by rw [hs.r66]; exact hk) (fun U hs2 => pv_to (hIT.sc hs2) (gdV_me hs.me m k))
      try simp only [pm_WV, pm_WW, true_and, and_true, true_or, or_true, and_self, reduceIte, Nat.reduceEqDiff, Nat.reduceLT, Nat.reduceLeDiff, Nat.reduceMul, false_and, and_false, reduceCtorEq, false_or, or_false, not_true_eq_false, not_false_eq_true, true_implies, false_implies, implies_true, lf_10, eq_self, Int32.reduceLT, Int32.reduceLE, Int32.reduceAdd, Int32.reduceSub, pm_same, pm_i_wI, pm_l_wL, pm_l_wM, pm_oR_rf, pm_oQ_rf, nI_1, sw_e, LQ1, LQ2, pm_WI0, pm_WI1, pm_WI2, pm_WI3, pm_WI4, pm_WI5, pm_WV, pm_WW, pm_WX, pb_B130, pm_if, pm_QI_at, pm_QL_at, pm_QV_at, pm_QR_at, pm_QR_at0, pm_QR_at1, Nat.reduceSub, Nat.reduceAdd, List.replicate_zero, List.replicate_succ, true_and, and_true, true_or, or_true, and_self, reduceIte, Nat.reduceEqDiff, Nat.reduceLT, Nat.reduceLeDiff, Nat.reduceMul, false_and, and_false, reduceCtorEq, false_or, or_false, not_true_eq_false, not_false_eq_true, true_implies, false_implies, implies_true, lf_10, eq_self, Int32.reduceLT, Int32.reduceLE, Int32.reduceAdd, Int32.reduceSub, pm_same, pm_i_wI, pm_l_wL, pm_l_wM, pm_oR_rf, pm_oQ_rf, sh_k0 hS, sh_r0_7 hS, sh_k14 hS, nI_1, LQ1, LQ2, LQ5]
      first | exact this | skip
    · have mo : pm_CI G d 226 [.ref 59, .int (nI m), .int k] S (fun r' S2 => pv_end A (-2) r' S2) := by
        refine pm_goI 226 1 pb_c226 (by decide) (Nat.le_of_ble_eq_true rfl) rfl ?_
        try simp only [show pm_mL 226 = 6 from rfl, pm_WI0, pm_WI1, pm_WI2, pm_WI3, pm_WI4, pm_WI5, pm_WV, pm_WW, pm_WX, pb_B226, pm_if, pm_QI_at, pm_QL_at, pm_QV_at, pm_QR_at, pm_QR_at0, pm_QR_at1, Nat.reduceSub, Nat.reduceAdd, List.replicate_zero, List.replicate_succ, true_and, and_true, true_or, or_true, and_self, reduceIte, Nat.reduceEqDiff, Nat.reduceLT, Nat.reduceLeDiff, Nat.reduceMul, false_and, and_false, reduceCtorEq, false_or, or_false, not_true_eq_false, not_false_eq_true, true_implies, false_implies, implies_true, lf_10, eq_self, Int32.reduceLT, Int32.reduceLE, Int32.reduceAdd, Int32.reduceSub, pm_same, pm_i_wI, pm_l_wL, pm_l_wM, pm_oR_rf, pm_oQ_rf, sh_k59 hS, sh_r59_9 hS, sh_k66 hS, sh_z66 hS, sh_r59_10 hS, sh_k67 hS, sh_z67 hS, sh_r59_21 hS, sh_k77 hS, sh_z77 hS, sh_r59_64 hS, sh_k98 hS, sh_z98 hS, sh_r59_65 hS, sh_k99 hS, sh_z99 hS, sh_r59_66 hS, sh_k100 hS, sh_z100 hS, nI_1, LQ1, LQ2, LQ5]
        refine ⟨by omega, lf_173m hS hn n40 hm ?_⟩
        try simp only [pm_WV, pm_WW, true_and, and_true, true_or, or_true, and_self, reduceIte, Nat.reduceEqDiff, Nat.reduceLT, Nat.reduceLeDiff, Nat.reduceMul, false_and, and_false, reduceCtorEq, false_or, or_false, not_true_eq_false, not_false_eq_true, true_implies, false_implies, implies_true, lf_10, eq_self, Int32.reduceLT, Int32.reduceLE, Int32.reduceAdd, Int32.reduceSub, pm_same, pm_i_wI, pm_l_wL, pm_l_wM, pm_oR_rf, pm_oQ_rf, nI_1, sw_e, LQ1, LQ2, pm_WI0, pm_WI1, pm_WI2, pm_WI3, pm_WI4, pm_WI5, pm_WV, pm_WW, pm_WX, pb_B226, pm_if, pm_QI_at, pm_QL_at, pm_QV_at, pm_QR_at, pm_QR_at0, pm_QR_at1, Nat.reduceSub, Nat.reduceAdd, List.replicate_zero, List.replicate_succ, true_and, and_true, true_or, or_true, and_self, reduceIte, Nat.reduceEqDiff, Nat.reduceLT, Nat.reduceLeDiff, Nat.reduceMul, false_and, and_false, reduceCtorEq, false_or, or_false, not_true_eq_false, not_false_eq_true, true_implies, false_implies, implies_true, lf_10, eq_self, Int32.reduceLT, Int32.reduceLE, Int32.reduceAdd, Int32.reduceSub, pm_same, pm_i_wI, pm_l_wL, pm_l_wM, pm_oR_rf, pm_oQ_rf, sh_k59 hS, sh_r59_9 hS, sh_k66 hS, sh_z66 hS, sh_r59_10 hS, sh_k67 hS, sh_z67 hS, sh_r59_21 hS, sh_k77 hS, sh_z77 hS, sh_r59_64 hS, sh_k98 hS, sh_z98 hS, sh_r59_65 hS, sh_k99 hS, sh_z99 hS, sh_r59_66 hS, sh_k100 hS, sh_z100 hS, nI_1, LQ1, LQ2, LQ5]
        try refine pm_wb_ok pb_c226 1 10 0 _ _ _ _ _ ?_
        try simp only [pm_WI0, pm_WI1, pm_WI2, pm_WI3, pm_WI4, pm_WI5, pm_WV, pm_WW, pm_WX, pb_B226, pm_if, pm_QI_at, pm_QL_at, pm_QV_at, pm_QR_at, pm_QR_at0, pm_QR_at1, Nat.reduceSub, Nat.reduceAdd, List.replicate_zero, List.replicate_succ, true_and, and_true, true_or, or_true, and_self, reduceIte, Nat.reduceEqDiff, Nat.reduceLT, Nat.reduceLeDiff, Nat.reduceMul, false_and, and_false, reduceCtorEq, false_or, or_false, not_true_eq_false, not_false_eq_true, true_implies, false_implies, implies_true, lf_10, eq_self, Int32.reduceLT, Int32.reduceLE, Int32.reduceAdd, Int32.reduceSub, pm_same, pm_i_wI, pm_l_wL, pm_l_wM, pm_oR_rf, pm_oQ_rf, sh_k59 hS, sh_r59_9 hS, sh_k66 hS, sh_z66 hS, sh_r59_10 hS, sh_k67 hS, sh_z67 hS, sh_r59_21 hS, sh_k77 hS, sh_z77 hS, sh_r59_64 hS, sh_k98 hS, sh_z98 hS, sh_r59_65 hS, sh_k99 hS, sh_z99 hS, sh_r59_66 hS, sh_k100 hS, sh_z100 hS, nI_1, LQ1, LQ2, LQ5]
        refine ⟨by omega, lf_211m (by omega) hS (by omega) h66 (fun z => absurd z hk) (fun _ => ?_)⟩
        try simp only [pm_WV, pm_WW, true_and, and_true, true_or, or_true, and_self, reduceIte, Nat.reduceEqDiff, Nat.reduceLT, Nat.reduceLeDiff, Nat.reduceMul, false_and, and_false, reduceCtorEq, false_or, or_false, not_true_eq_false, not_false_eq_true, true_implies, false_implies, implies_true, lf_10, eq_self, Int32.reduceLT, Int32.reduceLE, Int32.reduceAdd, Int32.reduceSub, pm_same, pm_i_wI, pm_l_wL, pm_l_wM, pm_oR_rf, pm_oQ_rf, nI_1, sw_e, LQ1, LQ2, pm_WI0, pm_WI1, pm_WI2, pm_WI3, pm_WI4, pm_WI5, pm_WV, pm_WW, pm_WX, pb_B226, pm_if, pm_QI_at, pm_QL_at, pm_QV_at, pm_QR_at, pm_QR_at0, pm_QR_at1, Nat.reduceSub, Nat.reduceAdd, List.replicate_zero, List.replicate_succ, true_and, and_true, true_or, or_true, and_self, reduceIte, Nat.reduceEqDiff, Nat.reduceLT, Nat.reduceLeDiff, Nat.reduceMul, false_and, and_false, reduceCtorEq, false_or, or_false, not_true_eq_false, not_false_eq_true, true_implies, false_implies, implies_true, lf_10, eq_self, Int32.reduceLT, Int32.reduceLE, Int32.reduceAdd, Int32.reduceSub, pm_same, pm_i_wI, pm_l_wL, pm_l_wM, pm_oR_rf, pm_oQ_rf, sh_k59 hS, sh_r59_9 hS, sh_k66 hS, sh_z66 hS, sh_r59_10 hS, sh_k67 hS, sh_z67 hS, sh_r59_21 hS, sh_k77 hS, sh_z77 hS, sh_r59_64 hS, sh_k98 hS, sh_z98 hS, sh_r59_65 hS, sh_k99 hS, sh_z99 hS, sh_r59_66 hS, sh_k100 hS, sh_z100 hS, nI_1, LQ1, LQ2, LQ5]
        exact pv_same hI
      refine pm_goI 130 4 pb_c130 (by decide) (Nat.le_of_ble_eq_true rfl) rfl ?_
      try simp only [show pm_mL 130 = 4 from rfl, pm_WI0, pm_WI1, pm_WI2, pm_WI3, pm_WI4, pm_WI5, pm_WV, pm_WW, pm_WX, pb_B130, pm_if, pm_QI_at, pm_QL_at, pm_QV_at, pm_QR_at, pm_QR_at0, pm_QR_at1, Nat.reduceSub, Nat.reduceAdd, List.replicate_zero, List.replicate_succ, true_and, and_true, true_or, or_true, and_self, reduceIte, Nat.reduceEqDiff, Nat.reduceLT, Nat.reduceLeDiff, Nat.reduceMul, false_and, and_false, reduceCtorEq, false_or, or_false, not_true_eq_false, not_false_eq_true, true_implies, false_implies, implies_true, lf_10, eq_self, Int32.reduceLT, Int32.reduceLE, Int32.reduceAdd, Int32.reduceSub, pm_same, pm_i_wI, pm_l_wL, pm_l_wM, pm_oR_rf, pm_oQ_rf, sh_k0 hS, sh_r0_7 hS, sh_k14 hS, nI_1, LQ1, LQ2, LQ5]
      refine ⟨by omega, lf_108m hI hm ?_⟩
      try simp only [pm_WV, pm_WW, true_and, and_true, true_or, or_true, and_self, reduceIte, Nat.reduceEqDiff, Nat.reduceLT, Nat.reduceLeDiff, Nat.reduceMul, false_and, and_false, reduceCtorEq, false_or, or_false, not_true_eq_false, not_false_eq_true, true_implies, false_implies, implies_true, lf_10, eq_self, Int32.reduceLT, Int32.reduceLE, Int32.reduceAdd, Int32.reduceSub, pm_same, pm_i_wI, pm_l_wL, pm_l_wM, pm_oR_rf, pm_oQ_rf, nI_1, sw_e, LQ1, LQ2, pm_WI0, pm_WI1, pm_WI2, pm_WI3, pm_WI4, pm_WI5, pm_WV, pm_WW, pm_WX, pb_B130, pm_if, pm_QI_at, pm_QL_at, pm_QV_at, pm_QR_at, pm_QR_at0, pm_QR_at1, Nat.reduceSub, Nat.reduceAdd, List.replicate_zero, List.replicate_succ, true_and, and_true, true_or, or_true, and_self, reduceIte, Nat.reduceEqDiff, Nat.reduceLT, Nat.reduceLeDiff, Nat.reduceMul, false_and, and_false, reduceCtorEq, false_or, or_false, not_true_eq_false, not_false_eq_true, true_implies, false_implies, implies_true, lf_10, eq_self, Int32.reduceLT, Int32.reduceLE, Int32.reduceAdd, Int32.reduceSub, pm_same, pm_i_wI, pm_l_wL, pm_l_wM, pm_oR_rf, pm_oQ_rf, sh_k0 hS, sh_r0_7 hS, sh_k14 hS, nI_1, LQ1, LQ2, LQ5, hw.k]
      refine ⟨by omega, lf_63m hI hm (fun z => absurd z hk) (fun _ => ?_)⟩
      try simp only [pm_WV, pm_WW, true_and, and_true, true_or, or_true, and_self, reduceIte, Nat.reduceEqDiff, Nat.reduceLT, Nat.reduceLeDiff, Nat.reduceMul, false_and, and_false, reduceCtorEq, false_or, or_false, not_true_eq_false, not_false_eq_true, true_implies, false_implies, implies_true, lf_10, eq_self, Int32.reduceLT, Int32.reduceLE, Int32.reduceAdd, Int32.reduceSub, pm_same, pm_i_wI, pm_l_wL, pm_l_wM, pm_oR_rf, pm_oQ_rf, nI_1, sw_e, LQ1, LQ2, pm_WI0, pm_WI1, pm_WI2, pm_WI3, pm_WI4, pm_WI5, pm_WV, pm_WW, pm_WX, pb_B130, pm_if, pm_QI_at, pm_QL_at, pm_QV_at, pm_QR_at, pm_QR_at0, pm_QR_at1, Nat.reduceSub, Nat.reduceAdd, List.replicate_zero, List.replicate_succ, true_and, and_true, true_or, or_true, and_self, reduceIte, Nat.reduceEqDiff, Nat.reduceLT, Nat.reduceLeDiff, Nat.reduceMul, false_and, and_false, reduceCtorEq, false_or, or_false, not_true_eq_false, not_false_eq_true, true_implies, false_implies, implies_true, lf_10, eq_self, Int32.reduceLT, Int32.reduceLE, Int32.reduceAdd, Int32.reduceSub, pm_same, pm_i_wI, pm_l_wL, pm_l_wM, pm_oR_rf, pm_oQ_rf, sh_k0 hS, sh_r0_7 hS, sh_k14 hS, nI_1, LQ1, LQ2, LQ5, hw.k]
      exact mo
  · have mo : pm_CI G d 226 [.ref 59, .int v, .int k] S (fun r' S2 => pv_end A (-1) r' S2) := by
      refine pm_goI 226 2 pb_c226 (by decide) (Nat.le_of_ble_eq_true rfl) rfl ?_
      try simp only [show pm_mL 226 = 6 from rfl, pm_WI0, pm_WI1, pm_WI2, pm_WI3, pm_WI4, pm_WI5, pm_WV, pm_WW, pm_WX, pb_B226, pm_if, pm_QI_at, pm_QL_at, pm_QV_at, pm_QR_at, pm_QR_at0, pm_QR_at1, Nat.reduceSub, Nat.reduceAdd, List.replicate_zero, List.replicate_succ, true_and, and_true, true_or, or_true, and_self, reduceIte, Nat.reduceEqDiff, Nat.reduceLT, Nat.reduceLeDiff, Nat.reduceMul, false_and, and_false, reduceCtorEq, false_or, or_false, not_true_eq_false, not_false_eq_true, true_implies, false_implies, implies_true, lf_10, eq_self, Int32.reduceLT, Int32.reduceLE, Int32.reduceAdd, Int32.reduceSub, pm_same, pm_i_wI, pm_l_wL, pm_l_wM, pm_oR_rf, pm_oQ_rf, sh_k59 hS, sh_r59_9 hS, sh_k66 hS, sh_z66 hS, sh_r59_10 hS, sh_k67 hS, sh_z67 hS, sh_r59_21 hS, sh_k77 hS, sh_z77 hS, sh_r59_64 hS, sh_k98 hS, sh_z98 hS, sh_r59_65 hS, sh_k99 hS, sh_z99 hS, sh_r59_66 hS, sh_k100 hS, sh_z100 hS, nI_1, LQ1, LQ2, LQ5]
      refine ⟨by omega, lf_173n hS hv ?_⟩
      try simp only [pm_WV, pm_WW, true_and, and_true, true_or, or_true, and_self, reduceIte, Nat.reduceEqDiff, Nat.reduceLT, Nat.reduceLeDiff, Nat.reduceMul, false_and, and_false, reduceCtorEq, false_or, or_false, not_true_eq_false, not_false_eq_true, true_implies, false_implies, implies_true, lf_10, eq_self, Int32.reduceLT, Int32.reduceLE, Int32.reduceAdd, Int32.reduceSub, pm_same, pm_i_wI, pm_l_wL, pm_l_wM, pm_oR_rf, pm_oQ_rf, nI_1, sw_e, LQ1, LQ2, pm_WI0, pm_WI1, pm_WI2, pm_WI3, pm_WI4, pm_WI5, pm_WV, pm_WW, pm_WX, pb_B226, pm_if, pm_QI_at, pm_QL_at, pm_QV_at, pm_QR_at, pm_QR_at0, pm_QR_at1, Nat.reduceSub, Nat.reduceAdd, List.replicate_zero, List.replicate_succ, true_and, and_true, true_or, or_true, and_self, reduceIte, Nat.reduceEqDiff, Nat.reduceLT, Nat.reduceLeDiff, Nat.reduceMul, false_and, and_false, reduceCtorEq, false_or, or_false, not_true_eq_false, not_false_eq_true, true_implies, false_implies, implies_true, lf_10, eq_self, Int32.reduceLT, Int32.reduceLE, Int32.reduceAdd, Int32.reduceSub, pm_same, pm_i_wI, pm_l_wL, pm_l_wM, pm_oR_rf, pm_oQ_rf, sh_k59 hS, sh_r59_9 hS, sh_k66 hS, sh_z66 hS, sh_r59_10 hS, sh_k67 hS, sh_z67 hS, sh_r59_21 hS, sh_k77 hS, sh_z77 hS, sh_r59_64 hS, sh_k98 hS, sh_z98 hS, sh_r59_65 hS, sh_k99 hS, sh_z99 hS, sh_r59_66 hS, sh_k100 hS, sh_z100 hS, nI_1, LQ1, LQ2, LQ5]
      exact pv_same hI
    refine pm_goI 130 2 pb_c130 (by decide) (Nat.le_of_ble_eq_true rfl) rfl ?_
    try simp only [show pm_mL 130 = 4 from rfl, pm_WI0, pm_WI1, pm_WI2, pm_WI3, pm_WI4, pm_WI5, pm_WV, pm_WW, pm_WX, pb_B130, pm_if, pm_QI_at, pm_QL_at, pm_QV_at, pm_QR_at, pm_QR_at0, pm_QR_at1, Nat.reduceSub, Nat.reduceAdd, List.replicate_zero, List.replicate_succ, true_and, and_true, true_or, or_true, and_self, reduceIte, Nat.reduceEqDiff, Nat.reduceLT, Nat.reduceLeDiff, Nat.reduceMul, false_and, and_false, reduceCtorEq, false_or, or_false, not_true_eq_false, not_false_eq_true, true_implies, false_implies, implies_true, lf_10, eq_self, Int32.reduceLT, Int32.reduceLE, Int32.reduceAdd, Int32.reduceSub, pm_same, pm_i_wI, pm_l_wL, pm_l_wM, pm_oR_rf, pm_oQ_rf, sh_k0 hS, sh_r0_7 hS, sh_k14 hS, nI_1, LQ1, LQ2, LQ5]
    refine ⟨by omega, lf_108n hI hv ?_⟩
    try simp only [pm_WV, pm_WW, true_and, and_true, true_or, or_true, and_self, reduceIte, Nat.reduceEqDiff, Nat.reduceLT, Nat.reduceLeDiff, Nat.reduceMul, false_and, and_false, reduceCtorEq, false_or, or_false, not_true_eq_false, not_false_eq_true, true_implies, false_implies, implies_true, lf_10, eq_self, Int32.reduceLT, Int32.reduceLE, Int32.reduceAdd, Int32.reduceSub, pm_same, pm_i_wI, pm_l_wL, pm_l_wM, pm_oR_rf, pm_oQ_rf, nI_1, sw_e, LQ1, LQ2, pm_WI0, pm_WI1, pm_WI2, pm_WI3, pm_WI4, pm_WI5, pm_WV, pm_WW, pm_WX, pb_B130, pm_if, pm_QI_at, pm_QL_at, pm_QV_at, pm_QR_at, pm_QR_at0, pm_QR_at1, Nat.reduceSub, Nat.reduceAdd, List.replicate_zero, List.replicate_succ, true_and, and_true, true_or, or_true, and_self, reduceIte, Nat.reduceEqDiff, Nat.reduceLT, Nat.reduceLeDiff, Nat.reduceMul, false_and, and_false, reduceCtorEq, false_or, or_false, not_true_eq_false, not_false_eq_true, true_implies, false_implies, implies_true, lf_10, eq_self, Int32.reduceLT, Int32.reduceLE, Int32.reduceAdd, Int32.reduceSub, pm_same, pm_i_wI, pm_l_wL, pm_l_wM, pm_oR_rf, pm_oQ_rf, sh_k0 hS, sh_r0_7 hS, sh_k14 hS, nI_1, LQ1, LQ2, LQ5]
    exact mo
