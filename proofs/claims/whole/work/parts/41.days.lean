theorem dy_22 {G : pm_G} {d : Nat} {S : pm_S} {b t : Int32} {n : Nat} {q : Int32 → pm_S → Prop} (hS : Sh S) (hn : pm_i S 1 2 = nI n) (hn2 : n ≤ 20) (h : q (nI (wd_in (pm_i S 2) b t n)) S) : pm_CI G d 22 [.ref 1, .int b, .int t] S q := by
  refine pm_goI 22 40 pb_c22 (by decide) (Nat.le_of_ble_eq_true rfl) rfl ?_
  simp only [show pm_mL 22 = 5 from rfl, pm_WI0, pm_WI1, pm_WI2, pm_WI3, pm_WI4, pm_WI5, pm_WV, pm_WW, pm_WX, pb_B22, pm_if, pm_QI_at, pm_QL_at, pm_QV_at, pm_QR_at, pm_QR_at0, pm_QR_at1, Nat.reduceSub, Nat.reduceAdd, List.replicate_zero, List.replicate_succ, true_and, and_true, true_or, or_true, and_self, reduceIte, Nat.reduceEqDiff, Nat.reduceLT, Nat.reduceLeDiff, Nat.reduceMul, false_and, and_false, reduceCtorEq, false_or, or_false, not_true_eq_false, not_false_eq_true, true_implies, false_implies, implies_true, lf_10, eq_self, Int32.reduceLT, Int32.reduceLE, Int32.reduceAdd, Int32.reduceSub, pm_same, pm_i_wI, pm_l_wL, pm_l_wM, pm_oR_rf, pm_oQ_rf, sh_k1 hS, sh_r1_1 hS, sh_k2 hS, sh_z2 hS]
  refine pv_loopR (fun i => [.ref 1, .int b, .int t, .int (nI (wd_in (pm_i S 2) b t i)), .int (nI i)]) (n) (fun i hi hk => ?_) ?_
  · have hc := nI_clamp (n := i) (by omega)
    have hle : ¬ nI (n) ≤ nI i := nI_ge hi (by omega)
    refine pm_wb_ok pb_c22 60 5 0 _ _ _ _ _ ?_
    simp only [pm_WI0, pm_WI1, pm_WI2, pm_WI3, pm_WI4, pm_WI5, pm_WV, pm_WW, pm_WX, pb_B22, pm_if, pm_QI_at, pm_QL_at, pm_QV_at, pm_QR_at, pm_QR_at0, pm_QR_at1, Nat.reduceSub, Nat.reduceAdd, List.replicate_zero, List.replicate_succ, true_and, and_true, true_or, or_true, and_self, reduceIte, Nat.reduceEqDiff, Nat.reduceLT, Nat.reduceLeDiff, Nat.reduceMul, false_and, and_false, reduceCtorEq, false_or, or_false, not_true_eq_false, not_false_eq_true, true_implies, false_implies, implies_true, lf_10, eq_self, Int32.reduceLT, Int32.reduceLE, Int32.reduceAdd, Int32.reduceSub, pm_same, pm_i_wI, pm_l_wL, pm_l_wM, pm_oR_rf, pm_oQ_rf, sh_k1 hS, sh_r1_1 hS, sh_k2 hS, sh_z2 hS, hn, hc, hle, nI_1]
    repeat' (first | with_reducible refine ⟨fun _ => ?_, fun _ => ?_⟩ | with_reducible refine ⟨?_, ?_⟩ | fail)
    all_goals first | exact pv_vl (by omega) (by decide) | (refine pv_W hk ?_; simp [pv_le, pm_unk, wd_in, pv_cnt, nI_1, *]) | skip
  · refine pm_wb_ok pb_c22 60 5 0 _ _ _ _ _ ?_
    simp only [pm_WI0, pm_WI1, pm_WI2, pm_WI3, pm_WI4, pm_WI5, pm_WV, pm_WW, pm_WX, pb_B22, pm_if, pm_QI_at, pm_QL_at, pm_QV_at, pm_QR_at, pm_QR_at0, pm_QR_at1, Nat.reduceSub, Nat.reduceAdd, List.replicate_zero, List.replicate_succ, true_and, and_true, true_or, or_true, and_self, reduceIte, Nat.reduceEqDiff, Nat.reduceLT, Nat.reduceLeDiff, Nat.reduceMul, false_and, and_false, reduceCtorEq, false_or, or_false, not_true_eq_false, not_false_eq_true, true_implies, false_implies, implies_true, lf_10, eq_self, Int32.reduceLT, Int32.reduceLE, Int32.reduceAdd, Int32.reduceSub, pm_same, pm_i_wI, pm_l_wL, pm_l_wM, pm_oR_rf, pm_oQ_rf, sh_k1 hS, sh_r1_1 hS, sh_k2 hS, sh_z2 hS, hn, Int32.le_refl]
    exact h
theorem dy_166 {G : pm_G} {d : Nat} {S : pm_S} {b t : Int32} {n : Nat} {q : Int32 → pm_S → Prop} (hS : Sh S) (hn : pm_i S 59 2 = nI n) (hn2 : n ≤ 20) (h : q (nI (wd_in (pm_i S 60) b t n)) S) : pm_CI G d 166 [.ref 59, .int b, .int t] S q := by
  refine pm_goI 166 40 pb_c166 (by decide) (Nat.le_of_ble_eq_true rfl) rfl ?_
  simp only [show pm_mL 166 = 5 from rfl, pm_WI0, pm_WI1, pm_WI2, pm_WI3, pm_WI4, pm_WI5, pm_WV, pm_WW, pm_WX, pb_B166, pm_if, pm_QI_at, pm_QL_at, pm_QV_at, pm_QR_at, pm_QR_at0, pm_QR_at1, Nat.reduceSub, Nat.reduceAdd, List.replicate_zero, List.replicate_succ, true_and, and_true, true_or, or_true, and_self, reduceIte, Nat.reduceEqDiff, Nat.reduceLT, Nat.reduceLeDiff, Nat.reduceMul, false_and, and_false, reduceCtorEq, false_or, or_false, not_true_eq_false, not_false_eq_true, true_implies, false_implies, implies_true, lf_10, eq_self, Int32.reduceLT, Int32.reduceLE, Int32.reduceAdd, Int32.reduceSub, pm_same, pm_i_wI, pm_l_wL, pm_l_wM, pm_oR_rf, pm_oQ_rf, sh_k59 hS, sh_r59_1 hS, sh_k60 hS, sh_z60 hS]
  refine pv_loopR (fun i => [.ref 59, .int b, .int t, .int (nI (wd_in (pm_i S 60) b t i)), .int (nI i)]) (n) (fun i hi hk => ?_) ?_
  · have hc := nI_clamp (n := i) (by omega)
    have hle : ¬ nI (n) ≤ nI i := nI_ge hi (by omega)
    refine pm_wb_ok pb_c166 60 5 0 _ _ _ _ _ ?_
    simp only [pm_WI0, pm_WI1, pm_WI2, pm_WI3, pm_WI4, pm_WI5, pm_WV, pm_WW, pm_WX, pb_B166, pm_if, pm_QI_at, pm_QL_at, pm_QV_at, pm_QR_at, pm_QR_at0, pm_QR_at1, Nat.reduceSub, Nat.reduceAdd, List.replicate_zero, List.replicate_succ, true_and, and_true, true_or, or_true, and_self, reduceIte, Nat.reduceEqDiff, Nat.reduceLT, Nat.reduceLeDiff, Nat.reduceMul, false_and, and_false, reduceCtorEq, false_or, or_false, not_true_eq_false, not_false_eq_true, true_implies, false_implies, implies_true, lf_10, eq_self, Int32.reduceLT, Int32.reduceLE, Int32.reduceAdd, Int32.reduceSub, pm_same, pm_i_wI, pm_l_wL, pm_l_wM, pm_oR_rf, pm_oQ_rf, sh_k59 hS, sh_r59_1 hS, sh_k60 hS, sh_z60 hS, hn, hc, hle, nI_1]
    repeat' (first | with_reducible refine ⟨fun _ => ?_, fun _ => ?_⟩ | with_reducible refine ⟨?_, ?_⟩ | fail)
    all_goals first | exact pv_vl (by omega) (by decide) | (refine pv_W hk ?_; simp [pv_le, pm_unk, wd_in, pv_cnt, nI_1, *]) | skip
  · refine pm_wb_ok pb_c166 60 5 0 _ _ _ _ _ ?_
    simp only [pm_WI0, pm_WI1, pm_WI2, pm_WI3, pm_WI4, pm_WI5, pm_WV, pm_WW, pm_WX, pb_B166, pm_if, pm_QI_at, pm_QL_at, pm_QV_at, pm_QR_at, pm_QR_at0, pm_QR_at1, Nat.reduceSub, Nat.reduceAdd, List.replicate_zero, List.replicate_succ, true_and, and_true, true_or, or_true, and_self, reduceIte, Nat.reduceEqDiff, Nat.reduceLT, Nat.reduceLeDiff, Nat.reduceMul, false_and, and_false, reduceCtorEq, false_or, or_false, not_true_eq_false, not_false_eq_true, true_implies, false_implies, implies_true, lf_10, eq_self, Int32.reduceLT, Int32.reduceLE, Int32.reduceAdd, Int32.reduceSub, pm_same, pm_i_wI, pm_l_wL, pm_l_wM, pm_oR_rf, pm_oQ_rf, sh_k59 hS, sh_r59_1 hS, sh_k60 hS, sh_z60 hS, hn, Int32.le_refl]
    exact h
/-- the n-th weekday behind a DAY -/
def wd_b (e k : Nat) : Nat := 7 * ((5 * (e / 7) + min (e % 7) 4 + k) / 5) + (5 * (e / 7) + min (e % 7) 4 + k) % 5
theorem wd_b_lt {e k : Nat} (he : e < 2 ^ 20) (hk : k < 2 ^ 20) : wd_b e k < 2 ^ 24 := by unfold wd_b; omega
theorem wd_b_mono {e k l : Nat} (h : k ≤ l) : wd_b e k ≤ wd_b e l := by unfold wd_b; omega
theorem i7 : (7 : Int32) = nI 7 := rfl
theorem i5 : (5 : Int32) = nI 5 := rfl
theorem i4 : (4 : Int32) = nI 4 := rfl
theorem i1 : (1 : Int32) = nI 1 := rfl
theorem dy_25 {G : pm_G} {d : Nat} {S : pm_S} {e k : Nat} {q : Int32 → pm_S → Prop} (hd : 0 < d) (he : e < 2 ^ 20) (hk : k < 2 ^ 20) (h : q (nI (wd_b e k)) S) : pm_CI G d 25 [.int (nI e), .int (nI k)] S q := by
  refine pm_goI 25 40 pb_c25 (by decide) (Nat.le_of_ble_eq_true rfl) rfl ?_
  simp only [show pm_mL 25 = 4 from rfl, pm_WI0, pm_WI1, pm_WI2, pm_WI3, pm_WI4, pm_WI5, pm_WV, pm_WW, pm_WX, pb_B25, pm_if, pm_QI_at, pm_QL_at, pm_QV_at, pm_QR_at, pm_QR_at0, pm_QR_at1, Nat.reduceSub, Nat.reduceAdd, List.replicate_zero, List.replicate_succ, true_and, and_true, true_or, or_true, and_self, reduceIte, Nat.reduceEqDiff, Nat.reduceLT, Nat.reduceLeDiff, Nat.reduceMul, false_and, and_false, reduceCtorEq, false_or, or_false, not_true_eq_false, not_false_eq_true, true_implies, false_implies, implies_true, lf_10, eq_self, Int32.reduceLT, Int32.reduceLE, Int32.reduceAdd, Int32.reduceSub]
  have r1 : nI e / 7 = nI (e / 7) := pk_div (d := 7) (by omega) (by omega) (by omega)
  have r2 : nI e - nI (e / 7) * 7 = nI (e % 7) := by rw [← r1]; exact pk_rem (d := 7) (by omega) (by omega) (by omega)
  have r3 : (if (5 : Int32) < nI (e % 7 + 1) then 5 else nI (e % 7 + 1)) = nI (min (e % 7) 4 + 1) := by
    by_cases hm : 5 < e % 7 + 1
    · rw [if_pos (by rw [i5]; exact nI_lt hm (by omega)), show min (e % 7) 4 = 4 by omega]; rfl
    · rw [if_neg (by rw [i5]; exact nI_nlt (by omega) (by omega)), show min (e % 7) 4 = e % 7 by omega]
  simp only [r1, r2, nI_1, r3, show (5 : Int32) * nI (e / 7) = nI (5 * (e / 7)) from pk_mul 5 _, nI_add]
  have r4 : nI (5 * (e / 7) + (min (e % 7) 4 + 1) + k) - 1 = nI (5 * (e / 7) + min (e % 7) 4 + k) := by
    rw [show 5 * (e / 7) + (min (e % 7) 4 + 1) + k = 5 * (e / 7) + min (e % 7) 4 + k + 1 by omega]; exact nI_pred _
  simp only [r4]
  have r5 : nI (5 * (e / 7) + min (e % 7) 4 + k) / 5 = nI ((5 * (e / 7) + min (e % 7) 4 + k) / 5) := pk_div (d := 5) (by omega) (by omega) (by omega)
  have r6 : nI (5 * (e / 7) + min (e % 7) 4 + k) - nI ((5 * (e / 7) + min (e % 7) 4 + k) / 5) * 5 = nI ((5 * (e / 7) + min (e % 7) 4 + k) % 5) := by rw [← r5]; exact pk_rem (d := 5) (by omega) (by omega) (by omega)
  simp only [r5, r6, show (7 : Int32) * nI ((5 * (e / 7) + min (e % 7) 4 + k) / 5) = nI (7 * ((5 * (e / 7) + min (e % 7) 4 + k) / 5)) from pk_mul 7 _, nI_add]
  exact ⟨by decide, by decide, hd, by decide, by decide, h⟩
theorem wd_fin {a : Nat} (ha : a < 2 ^ 30) : (7 : Int32) * (nI a / 5) + (nI a - nI a / 5 * 5) = nI (7 * (a / 5) + a % 5) := by
  have r5 : nI a / 5 = nI (a / 5) := pk_div (d := 5) (by omega) (by omega) (by omega)
  have r6 : nI a - nI a / 5 * 5 = nI (a % 5) := pk_rem (d := 5) (by omega) (by omega) (by omega)
  rw [r6, r5, show (7 : Int32) * nI (a / 5) = nI (7 * (a / 5)) from pk_mul 7 _, nI_add]
theorem dy_165 {G : pm_G} {d : Nat} {S : pm_S} {e k : Nat} {q : Int32 → pm_S → Prop} (hd : 0 < d) (he : e < 2 ^ 20) (hk : k < 2 ^ 20) (h : q (nI (wd_b e k)) S) : pm_CI G d 165 [.int (nI e), .int (nI k)] S q := by
  refine pm_goI 165 40 pb_c165 (by decide) (Nat.le_of_ble_eq_true rfl) rfl ?_
  simp only [show pm_mL 165 = 3 from rfl, pm_WI0, pm_WI1, pm_WI2, pm_WI3, pm_WI4, pm_WI5, pm_WV, pm_WW, pm_WX, pb_B165, pm_if, pm_QI_at, pm_QL_at, pm_QV_at, pm_QR_at, pm_QR_at0, pm_QR_at1, Nat.reduceSub, Nat.reduceAdd, List.replicate_zero, List.replicate_succ, true_and, and_true, true_or, or_true, and_self, reduceIte, Nat.reduceEqDiff, Nat.reduceLT, Nat.reduceLeDiff, Nat.reduceMul, false_and, and_false, reduceCtorEq, false_or, or_false, not_true_eq_false, not_false_eq_true, true_implies, false_implies, implies_true, lf_10, eq_self, Int32.reduceLT, Int32.reduceLE, Int32.reduceAdd, Int32.reduceSub]
  have r1 : nI e / 7 = nI (e / 7) := pk_div (d := 7) (by omega) (by omega) (by omega)
  have r2 : nI e - nI (e / 7) * 7 = nI (e % 7) := by rw [← r1]; exact pk_rem (d := 7) (by omega) (by omega) (by omega)
  simp only [r1, r2, show (5 : Int32) * nI (e / 7) = nI (5 * (e / 7)) from pk_mul 5 _, nI_add]
  have s1 : nI (5 * (e / 7)) + 4 + nI k = nI (5 * (e / 7) + 4 + k) := by rw [i4, nI_add, nI_add]
  simp only [s1]
  rw [wd_fin (by omega), wd_fin (by omega)]
  refine ⟨by decide, by decide, fun z => ⟨by decide, by decide, ?_⟩, fun z => ⟨by decide, by decide, by decide, ?_⟩⟩
  · have : 4 ≤ e % 7 := by rw [i4] at z; exact (nI_leI (by omega) (by omega)).mp z
    unfold wd_b at h
    rw [show min (e % 7) 4 = 4 by omega] at h; exact h
  · have : ¬ 4 ≤ e % 7 := fun y => z (by rw [i4]; exact nI_le y (by omega))
    unfold wd_b at h
    rw [show min (e % 7) 4 = e % 7 by omega] at h; exact h
theorem pv_cnt_mono {c c' : Nat → Bool} (h : ∀ k, c k = true → c' k = true) : ∀ n, pv_cnt c n ≤ pv_cnt c' n
  | 0 => Nat.le_refl _
  | n + 1 => by
    have := pv_cnt_mono h n
    have h1 := h n
    unfold pv_cnt
    by_cases hc : c n = true
    · rw [if_pos hc, if_pos (h1 hc)]; omega
    · rw [if_neg hc]; split <;> omega
theorem wd_in_le (f : Nat → Int32) (b t : Int32) (n : Nat) : wd_in f b t n ≤ n := pv_cnt_le _ n
theorem wd_in_mono {f : Nat → Int32} {b t t' : Int32} {n : Nat} (h : t ≤ t') : wd_in f b t n ≤ wd_in f b t' n := by
  refine pv_cnt_mono (fun k hk => ?_) n
  simp only [decide_eq_true_eq] at hk ⊢
  exact ⟨hk.1, by have := hk.2; lia⟩
/-- FEASTS passed, round by round -/
def wd_m (f : Nat → Int32) (n e k : Nat) : Nat → Nat
  | 0 => 0
  | i + 1 => wd_in f (nI e) (nI (wd_b e (k + wd_m f n e k i))) n
theorem wd_m_le (f : Nat → Int32) (n e k i : Nat) : wd_m f n e k i ≤ n := by
  cases i with
  | zero => exact Nat.zero_le _
  | succ i => exact wd_in_le _ _ _ _
theorem wd_m_mono (f : Nat → Int32) {n e k : Nat} (he : e < 2 ^ 20) (hk : k < 2 ^ 19) (hn : n ≤ 20) : ∀ i, wd_m f n e k i ≤ wd_m f n e k (i + 1)
  | 0 => Nat.zero_le _
  | i + 1 => by
    have ih := wd_m_mono f he hk hn i
    have h1 := wd_m_le f n e k i
    have h2 := wd_m_le f n e k (i + 1)
    show wd_in _ _ _ _ ≤ wd_in _ _ _ _
    refine wd_in_mono (nI_le (wd_b_mono (by omega)) ?_)
    have := wd_b_lt (e := e) (k := k + wd_m f n e k (i + 1)) he (by omega)
    omega
theorem wd_m_fix (f : Nat → Int32) (n e k : Nat) {i : Nat} (h : wd_m f n e k (i + 1) = wd_m f n e k i) : ∀ j, wd_m f n e k (i + j) = wd_m f n e k i
  | 0 => rfl
  | j + 1 => by
    have ih := wd_m_fix f n e k h j
    show wd_in f (nI e) (nI (wd_b e (k + wd_m f n e k (i + j)))) n = _
    rw [ih]; exact h
theorem wd_m_ge (f : Nat → Int32) {n e k : Nat} (he : e < 2 ^ 20) (hk : k < 2 ^ 19) (hn : n ≤ 20) : ∀ i, (∀ j, j < i → ¬ wd_m f n e k (j + 1) = wd_m f n e k j) → i ≤ wd_m f n e k i
  | 0, _ => Nat.zero_le _
  | i + 1, h => by
    have := wd_m_ge f he hk hn i (fun j hj => h j (by omega))
    have h1 := h i (by omega)
    have h2 := wd_m_mono f he hk hn i
    omega
/-- the n-th WORKING DAY behind a DAY -/
def wd (f : Nat → Int32) (n e k : Nat) : Nat := if k = 0 then e else wd_b e (k + wd_m f n e k 20)
theorem wd_m_20 (f : Nat → Int32) {n e k i : Nat} (he : e < 2 ^ 20) (hk : k < 2 ^ 19) (hn : n ≤ 20) (hi : i ≤ 20) (h : wd_m f n e k (i + 1) ≤ wd_m f n e k i) : wd_m f n e k 20 = wd_m f n e k i := by
  have h1 := wd_m_mono f he hk hn i
  have := wd_m_fix f n e k (i := i) (by omega) (20 - i)
  rw [show i + (20 - i) = 20 by omega] at this
  exact this
theorem dy_24 {G : pm_G} {d : Nat} {S : pm_S} {n e k : Nat} {q : Int32 → pm_S → Prop} (hd : 3 ≤ d) (hS : Sh S) (hn : pm_i S 1 2 = nI n) (hn2 : n ≤ 20) (he : e < 2 ^ 20) (hk0 : k < 2 ^ 19) (h : q (nI (wd (pm_i S 2) n e k)) S) : pm_CI G d 24 [.ref 1, .int (nI e), .int (nI k)] S q := by
  refine pm_goI 24 40 pb_c24 (by decide) (Nat.le_of_ble_eq_true rfl) rfl ?_
  simp only [show pm_mL 24 = 6 from rfl, pm_WI0, pm_WI1, pm_WI2, pm_WI3, pm_WI4, pm_WI5, pm_WV, pm_WW, pm_WX, pb_B24, pm_if, pm_QI_at, pm_QL_at, pm_QV_at, pm_QR_at, pm_QR_at0, pm_QR_at1, Nat.reduceSub, Nat.reduceAdd, List.replicate_zero, List.replicate_succ, true_and, and_true, true_or, or_true, and_self, reduceIte, Nat.reduceEqDiff, Nat.reduceLT, Nat.reduceLeDiff, Nat.reduceMul, false_and, and_false, reduceCtorEq, false_or, or_false, not_true_eq_false, not_false_eq_true, true_implies, false_implies, implies_true, lf_10, eq_self, Int32.reduceLT, Int32.reduceLE, Int32.reduceAdd, Int32.reduceSub, pm_same, pm_i_wI, pm_l_wL, pm_l_wM, pm_oR_rf, pm_oQ_rf, sh_k1 hS]
  refine ⟨fun z => ?_, fun z => ?_⟩
  · have hk1 : ¬ k = 0 := fun y => absurd (show (1 : Int32) ≤ nI 0 by rw [← y]; exact z) (by decide)
    unfold wd at h
    rw [if_neg hk1] at h
    refine pv_loopR (fun i => [.ref 1, .int (nI e), .int (nI k), .int (nI (wd_m (pm_i S 2) n e k i)), .int (nI i), .float 0]) 20 (fun i hi hk => ?_) ?_
    · have hle : ¬ nI 20 ≤ nI i := nI_ge hi (by omega)
      have hm := wd_m_le (pm_i S 2) n e k i
      have hm' := wd_m_le (pm_i S 2) n e k (i + 1)
      refine pm_wb_ok pb_c24 40 12 0 _ _ _ _ _ ?_
      simp only [pm_WI0, pm_WI1, pm_WI2, pm_WI3, pm_WI4, pm_WI5, pm_WV, pm_WW, pm_WX, pb_B24, pm_if, pm_QI_at, pm_QL_at, pm_QV_at, pm_QR_at, pm_QR_at0, pm_QR_at1, Nat.reduceSub, Nat.reduceAdd, List.replicate_zero, List.replicate_succ, true_and, and_true, true_or, or_true, and_self, reduceIte, Nat.reduceEqDiff, Nat.reduceLT, Nat.reduceLeDiff, Nat.reduceMul, false_and, and_false, reduceCtorEq, false_or, or_false, not_true_eq_false, not_false_eq_true, true_implies, false_implies, implies_true, lf_10, eq_self, Int32.reduceLT, Int32.reduceLE, Int32.reduceAdd, Int32.reduceSub, pm_same, pm_i_wI, pm_l_wL, pm_l_wM, pm_oR_rf, pm_oQ_rf, sh_k1 hS, nI_1, nI_add, show (20 : Int32) = nI 20 from rfl, hle]
      refine ⟨by omega, dy_25 (by omega) he (by omega) ⟨by omega, sh_k1 hS, dy_22 hS hn hn2 ?_⟩⟩
      refine ⟨fun y => ?_, fun y => ?_⟩
      · have y1 : wd_m (pm_i S 2) n e k (i + 1) = wd_m (pm_i S 2) n e k i := (nI_eq (by omega) (by omega)).mp y
        have y2 := wd_m_20 (pm_i S 2) he hk0 hn2 (by omega) (Nat.le_of_eq y1)
        exact ⟨by omega, dy_25 (by omega) he (by omega) (by rw [← y2]; exact h)⟩
      · exact pv_W hk (by simp [pv_le, pm_unk, wd_m])
    · have hm := wd_m_le (pm_i S 2) n e k 20
      refine pm_wb_ok pb_c24 40 12 0 _ _ _ _ _ ?_
      simp only [pm_WI0, pm_WI1, pm_WI2, pm_WI3, pm_WI4, pm_WI5, pm_WV, pm_WW, pm_WX, pb_B24, pm_if, pm_QI_at, pm_QL_at, pm_QV_at, pm_QR_at, pm_QR_at0, pm_QR_at1, Nat.reduceSub, Nat.reduceAdd, List.replicate_zero, List.replicate_succ, true_and, and_true, true_or, or_true, and_self, reduceIte, Nat.reduceEqDiff, Nat.reduceLT, Nat.reduceLeDiff, Nat.reduceMul, false_and, and_false, reduceCtorEq, false_or, or_false, not_true_eq_false, not_false_eq_true, true_implies, false_implies, implies_true, lf_10, eq_self, Int32.reduceLT, Int32.reduceLE, Int32.reduceAdd, Int32.reduceSub, pm_same, pm_i_wI, pm_l_wL, pm_l_wM, pm_oR_rf, pm_oQ_rf, sh_k1 hS, nI_1, nI_add, show (20 : Int32) = nI 20 from rfl, Int32.le_refl]
      exact ⟨by omega, dy_25 (by omega) he (by omega) h⟩
  · have hk1 : k = 0 := by
      by_cases h0 : k = 0
      · exact h0
      · exact absurd (nI_le (a := 1) (b := k) (by omega) (by omega)) z
    subst hk1; exact h
theorem dy_164 {G : pm_G} {d : Nat} {S : pm_S} {n e k : Nat} {q : Int32 → pm_S → Prop} (hd : 3 ≤ d) (hS : Sh S) (hn : pm_i S 59 2 = nI n) (hn2 : n ≤ 20) (he : e < 2 ^ 20) (hk0 : k < 2 ^ 19) (h : q (nI (wd (pm_i S 60) n e k)) S) : pm_CI G d 164 [.ref 59, .int (nI e), .int (nI k)] S q := by
  refine pm_goI 164 40 pb_c164 (by decide) (Nat.le_of_ble_eq_true rfl) rfl ?_
  simp only [show pm_mL 164 = 5 from rfl, pm_WI0, pm_WI1, pm_WI2, pm_WI3, pm_WI4, pm_WI5, pm_WV, pm_WW, pm_WX, pb_B164, pm_if, pm_QI_at, pm_QL_at, pm_QV_at, pm_QR_at, pm_QR_at0, pm_QR_at1, Nat.reduceSub, Nat.reduceAdd, List.replicate_zero, List.replicate_succ, true_and, and_true, true_or, or_true, and_self, reduceIte, Nat.reduceEqDiff, Nat.reduceLT, Nat.reduceLeDiff, Nat.reduceMul, false_and, and_false, reduceCtorEq, false_or, or_false, not_true_eq_false, not_false_eq_true, true_implies, false_implies, implies_true, lf_10, eq_self, Int32.reduceLT, Int32.reduceLE, Int32.reduceAdd, Int32.reduceSub, pm_same, pm_i_wI, pm_l_wL, pm_l_wM, pm_oR_rf, pm_oQ_rf, sh_k59 hS]
  refine ⟨fun z => ⟨by omega, dy_165 (by omega) he (by omega) ?_⟩, fun z => ?_⟩
  · have hk1 : ¬ k = 0 := fun y => absurd (show (0 : Int32) < nI 0 by rw [← y]; exact z) (by decide)
    unfold wd at h
    rw [if_neg hk1] at h
    refine pv_while (fun i => [.ref 59, .int (nI e), .int (nI k), .int (nI (wd_m (pm_i S 60) n e k i)), .int (nI (wd_b e (k + wd_m (pm_i S 60) n e k i)))]) (fun _ => S) (fun i => i ≤ 20 ∧ ∀ j, j < i → ¬ wd_m (pm_i S 60) n e k (j + 1) = wd_m (pm_i S 60) n e k j) (fun i => 20 - i) (fun i hi hk => ?_) 0 ⟨by omega, fun j hj => absurd hj (Nat.not_lt_zero j)⟩
    have hm := wd_m_le (pm_i S 60) n e k i
    have hm' := wd_m_le (pm_i S 60) n e k (i + 1)
    have hg := wd_m_ge (pm_i S 60) he hk0 hn2 i hi.2
    refine pm_wb_ok pb_c164 40 15 0 _ _ _ _ _ ?_
    simp only [pm_WI0, pm_WI1, pm_WI2, pm_WI3, pm_WI4, pm_WI5, pm_WV, pm_WW, pm_WX, pb_B164, pm_if, pm_QI_at, pm_QL_at, pm_QV_at, pm_QR_at, pm_QR_at0, pm_QR_at1, Nat.reduceSub, Nat.reduceAdd, List.replicate_zero, List.replicate_succ, true_and, and_true, true_or, or_true, and_self, reduceIte, Nat.reduceEqDiff, Nat.reduceLT, Nat.reduceLeDiff, Nat.reduceMul, false_and, and_false, reduceCtorEq, false_or, or_false, not_true_eq_false, not_false_eq_true, true_implies, false_implies, implies_true, lf_10, eq_self, Int32.reduceLT, Int32.reduceLE, Int32.reduceAdd, Int32.reduceSub, pm_same, pm_i_wI, pm_l_wL, pm_l_wM, pm_oR_rf, pm_oQ_rf, sh_k59 hS, nI_1, nI_add]
    refine ⟨by omega, dy_166 hS hn hn2 ?_⟩
    refine ⟨fun y => ?_, fun y => ?_⟩
    · have y1 : wd_m (pm_i S 60) n e k (i + 1) ≤ wd_m (pm_i S 60) n e k i := (nI_leI (by omega) (by omega)).mp y
      rw [← wd_m_20 (pm_i S 60) he hk0 hn2 hi.1 y1]; exact h
    · have y1 : ¬ wd_m (pm_i S 60) n e k (i + 1) ≤ wd_m (pm_i S 60) n e k i := fun u => y (nI_le u (by omega))
      refine ⟨by omega, sh_k59 hS, dy_166 hS hn hn2 ⟨by omega, ?_⟩⟩
      simp only [nI_add]
      refine dy_165 (by omega) he (by show k + wd_m (pm_i S 60) n e k (i + 1) < 2 ^ 20; omega) ?_
      have hi20 : i < 20 := by omega
      exact pv_W (hk (i + 1) ⟨by omega, fun j hj => by by_cases hji : j = i; (· subst hji; omega); exact hi.2 j (by omega)⟩ (by omega)) (by simp [pv_le, pm_unk, wd_m])
  · have hk1 : k = 0 := by
      by_cases h0 : k = 0
      · exact h0
      · exact absurd (nI_lt (a := 0) (b := k) (by omega) (by omega)) z
    subst hk1; exact h
