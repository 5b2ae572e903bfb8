/-! like cases: sets of WRONGS -/
def owB (S : pm_S) (m : Nat) (k : Int32) (i : Nat) : Nat := owS S m ((owA S m k).getD i 0)
def wt_c (W : Nat → Int32) (B : Nat → Nat) : Nat → Nat
  | 0 => 0
  | i + 1 => if W i = 1 then wt_c W B i ||| 2 ^ (2 * B i + 1) else if W i = 2 then wt_c W B i ||| 2 ^ (2 * B i + 2) else wt_c W B i
def wt_l (u : Int32) (W : Nat → Int32) (B : Nat → Nat) : Nat → Nat
  | 0 => 0
  | i + 1 => if W i = u then wt_l u W B i ||| 2 ^ B i else wt_l u W B i
theorem wt_c_lt {W : Nat → Int32} {B : Nat → Nat} : ∀ n, (∀ i, i < n → B i ≤ 9) → wt_c W B n < 2 ^ 21
  | 0, _ => Nat.two_pow_pos 21
  | n + 1, h => by
    have h1 := wt_c_lt (W := W) n (fun i hi => h i (by omega))
    have h2 := h n (by omega)
    unfold wt_c
    split
    · exact Nat.or_lt_two_pow h1 (Nat.pow_lt_pow_right (by omega) (by omega))
    · split
      · exact Nat.or_lt_two_pow h1 (Nat.pow_lt_pow_right (by omega) (by omega))
      · exact h1
theorem wt_l_lt {u : Int32} {W : Nat → Int32} {B : Nat → Nat} : ∀ n, (∀ i, i < n → B i ≤ 9) → wt_l u W B n < 2 ^ 10
  | 0, _ => Nat.two_pow_pos 10
  | n + 1, h => by
    have h1 := wt_l_lt (u := u) (W := W) n (fun i hi => h i (by omega))
    have h2 := h n (by omega)
    unfold wt_l
    split
    · exact Nat.or_lt_two_pow h1 (Nat.pow_lt_pow_right (by omega) (by omega))
    · exact h1
theorem wt_c_1 {W : Nat → Int32} {B : Nat → Nat} (s : Nat) : ∀ n, (wt_c W B n).testBit (2 * s + 1) = (wt_l 1 W B n).testBit s
  | 0 => by show Nat.testBit 0 _ = Nat.testBit 0 _; rw [Nat.zero_testBit, Nat.zero_testBit]
  | n + 1 => by
    have ih := wt_c_1 (W := W) (B := B) s n
    unfold wt_c wt_l
    by_cases h1 : W n = 1
    · rw [if_pos h1, if_pos h1, Nat.testBit_or, Nat.testBit_or, ih, Nat.testBit_two_pow, Nat.testBit_two_pow]
      congr 1
      by_cases h : B n = s
      · rw [decide_eq_true h, decide_eq_true (by omega)]
      · rw [decide_eq_false h, decide_eq_false (by omega)]
    · rw [if_neg h1, if_neg h1]
      split
      · rw [Nat.testBit_or, Nat.testBit_two_pow, decide_eq_false (by omega), Bool.or_false, ih]
      · exact ih
theorem wt_c_2 {W : Nat → Int32} {B : Nat → Nat} (s : Nat) : ∀ n, (wt_c W B n).testBit (2 * s + 2) = (wt_l 2 W B n).testBit s
  | 0 => by show Nat.testBit 0 _ = Nat.testBit 0 _; rw [Nat.zero_testBit, Nat.zero_testBit]
  | n + 1 => by
    have ih := wt_c_2 (W := W) (B := B) s n
    unfold wt_c wt_l
    by_cases h1 : W n = 1
    · have h2 : ¬ W n = 2 := by rw [h1]; decide
      rw [if_pos h1, if_neg h2, Nat.testBit_or, Nat.testBit_two_pow, decide_eq_false (by omega), Bool.or_false, ih]
    · rw [if_neg h1]
      by_cases h2 : W n = 2
      · rw [if_pos h2, if_pos h2, Nat.testBit_or, Nat.testBit_or, ih, Nat.testBit_two_pow, Nat.testBit_two_pow]
        congr 1
        by_cases h : B n = s
        · rw [decide_eq_true h, decide_eq_true (by omega)]
        · rw [decide_eq_false h, decide_eq_false (by omega)]
      · rw [if_neg h2, if_neg h2]; exact ih
theorem wt_c_0 {W : Nat → Int32} {B : Nat → Nat} : ∀ n, (wt_c W B n).testBit 0 = false
  | 0 => by show Nat.testBit 0 _ = false; rw [Nat.zero_testBit]
  | n + 1 => by
    have ih := wt_c_0 (W := W) (B := B) n
    unfold wt_c
    split
    · rw [Nat.testBit_or, Nat.testBit_two_pow, ih, decide_eq_false (by omega)]; rfl
    · split
      · rw [Nat.testBit_or, Nat.testBit_two_pow, ih, decide_eq_false (by omega)]; rfl
      · exact ih
theorem wt_eq {W V : Nat → Int32} {B C : Nat → Nat} {n p : Nat} : wt_c W B n = wt_c V C p ↔ wt_l 1 W B n = wt_l 1 V C p ∧ wt_l 2 W B n = wt_l 2 V C p := by
  constructor
  · intro h
    refine ⟨Nat.eq_of_testBit_eq (fun s => ?_), Nat.eq_of_testBit_eq (fun s => ?_)⟩
    · rw [← wt_c_1, ← wt_c_1, h]
    · rw [← wt_c_2, ← wt_c_2, h]
  · intro ⟨h1, h2⟩
    refine Nat.eq_of_testBit_eq (fun i => ?_)
    have : i = 0 ∨ (∃ s, i = 2 * s + 1) ∨ ∃ s, i = 2 * s + 2 := by
      by_cases h0 : i = 0
      · exact Or.inl h0
      · by_cases h3 : i % 2 = 1
        · exact Or.inr (Or.inl ⟨i / 2, by omega⟩)
        · exact Or.inr (Or.inr ⟨i / 2 - 1, by omega⟩)
    rcases this with rfl | ⟨s, rfl⟩ | ⟨s, rfl⟩
    · rw [wt_c_0, wt_c_0]
    · rw [wt_c_1, wt_c_1, h1]
    · rw [wt_c_2, wt_c_2, h2]
theorem wt_or (a b : Nat) : nI a ||| nI b = nI (a ||| b) := by
  apply Int32.toBitVec_inj.mp
  show BitVec.ofNat 32 a ||| BitVec.ofNat 32 b = BitVec.ofNat 32 (a ||| b)
  apply BitVec.eq_of_getLsbD_eq
  intro i hi
  rw [BitVec.getLsbD_or, BitVec.getLsbD_ofNat, BitVec.getLsbD_ofNat, BitVec.getLsbD_ofNat, Nat.testBit_or]
  cases decide (i < 32) <;> rfl
theorem wt_sh : ∀ s, s < 31 → (1 : Int32) <<< (nI s &&& 31) = nI (2 ^ s) := by decide
def wsC (S : pm_S) (m : Nat) (k : Int32) : Nat := wt_c (owX S m k) (owB S m k) (owN S m k)
def wsL (S : pm_S) (m : Nat) (k u : Int32) : Nat := wt_l u (owX S m k) (owB S m k) (owN S m k)
theorem owB_me {S T : pm_S} (h : me S T) (m : Nat) (k : Int32) : owB T m k = owB S m k := by
  funext i; unfold owB; rw [owA_me h, owS_me h]
theorem wsC_me {S T : pm_S} (h : me S T) (m : Nat) (k : Int32) : wsC T m k = wsC S m k := by
  have e : owX T m k = owX S m k := funext (fun i => owX_me h m k i)
  unfold wsC; rw [e, owB_me h, owN_me h]
theorem wsL_me {S T : pm_S} (h : me S T) (m : Nat) (k u : Int32) : wsL T m k u = wsL S m k u := by
  have e : owX T m k = owX S m k := funext (fun i => owX_me h m k i)
  unfold wsL; rw [e, owB_me h, owN_me h]
theorem owB_le {S : pm_S} (hM : iv_MI S) (m : Nat) (k : Int32) (i : Nat) (hi : i < owN S m k) : owB S m k i ≤ 9 := by
  have hwf := lawL_wf hM (t := tv S m k) (l := lwo S (pm_i S 64 m) (pm_i S 66 m)) (fun i hi => lwo_lt hi)
  have hc : (owA S m k).getD i 0 < (owL S m).1.length := owO_mem hi
  have hmem : (owL S m).1.getD ((owA S m k).getD i 0) gx_o0 ∈ (owL S m).1 := by
    rw [List.getD_eq_getElem?_getD, List.getElem?_eq_getElem hc]; exact List.getElem_mem hc
  exact (hwf.2.1 _ hmem).1.2
theorem wsC_lt {S : pm_S} (hM : iv_MI S) (m : Nat) (k : Int32) : wsC S m k < 2 ^ 21 := wt_c_lt _ (fun i hi => owB_le hM m k i hi)
theorem wsL_lt {S : pm_S} (hM : iv_MI S) (m : Nat) (k u : Int32) : wsL S m k u < 2 ^ 10 := wt_l_lt _ (fun i hi => owB_le hM m k i hi)
theorem lf_12 {G : pm_G} {d : Nat} {A : iv_A} {S : pm_S} {m : Nat} {k : Int32} {q : Int32 → pm_S → Prop} (hd : 7 ≤ d) (hI : Inv A S) (hm : m < iv_c S 18) (h : ∀ T, sc S T → cF S T → q (nI (wsC S m k)) T) : pm_CI G d 12 [.ref 14, .ref (iv_m A m), .int k] S q := by
  have hS := hI.sh
  have hM := hI.mi
  have n10 := owN_le hM m k
  refine pm_goI 12 1 pb_c12 (by decide) (Nat.le_of_ble_eq_true rfl) rfl ?_
  try simp only [show pm_mL 12 = 5 from rfl, pm_WI0, pm_WI1, pm_WI2, pm_WI3, pm_WI4, pm_WI5, pm_WV, pm_WW, pm_WX, pb_B12, pm_if, pm_QI_at, pm_QL_at, pm_QV_at, pm_QR_at, pm_QR_at0, pm_QR_at1, Nat.reduceSub, Nat.reduceAdd, List.replicate_zero, List.replicate_succ, true_and, and_true, true_or, or_true, and_self, reduceIte, Nat.reduceEqDiff, Nat.reduceLT, Nat.reduceLeDiff, Nat.reduceMul, false_and, and_false, reduceCtorEq, false_or, or_false, not_true_eq_false, not_false_eq_true, true_implies, false_implies, implies_true, lf_10, eq_self, Int32.reduceLT, Int32.reduceLE, Int32.reduceAdd, Int32.reduceSub, pm_same, pm_i_wI, pm_l_wL, pm_l_wM, pm_oR_rf, pm_oQ_rf, nI_1, sw_e, LQ1, LQ2, sh_k14 hS]
  refine ⟨by omega, lf_7F (by omega) hI hm (fun T hs hF hcw => ?_)⟩
  try simp only [pm_WV, pm_WW, true_and, and_true, true_or, or_true, and_self, reduceIte, Nat.reduceEqDiff, Nat.reduceLT, Nat.reduceLeDiff, Nat.reduceMul, false_and, and_false, reduceCtorEq, false_or, or_false, not_true_eq_false, not_false_eq_true, true_implies, false_implies, implies_true, lf_10, eq_self, Int32.reduceLT, Int32.reduceLE, Int32.reduceAdd, Int32.reduceSub, pm_same, pm_i_wI, pm_l_wL, pm_l_wM, pm_oR_rf, pm_oQ_rf, nI_1, sw_e, LQ1, LQ2, pm_WI0, pm_WI1, pm_WI2, pm_WI3, pm_WI4, pm_WI5, pm_WV, pm_WW, pm_WX, pb_B12, pm_if, pm_QI_at, pm_QL_at, pm_QV_at, pm_QR_at, pm_QR_at0, pm_QR_at1, Nat.reduceSub, Nat.reduceAdd, List.replicate_zero, List.replicate_succ, true_and, and_true, true_or, or_true, and_self, reduceIte, Nat.reduceEqDiff, Nat.reduceLT, Nat.reduceLeDiff, Nat.reduceMul, false_and, and_false, reduceCtorEq, false_or, or_false, not_true_eq_false, not_false_eq_true, true_implies, false_implies, implies_true, lf_10, eq_self, Int32.reduceLT, Int32.reduceLE, Int32.reduceAdd, Int32.reduceSub, pm_same, pm_i_wI, pm_l_wL, pm_l_wM, pm_oR_rf, pm_oQ_rf, nI_1, sw_e, LQ1, LQ2]
  have hT := hs.sh hS
  have t4 : pm_i T 14 4 = nI (owN S m k) := hcw.1
  have key : pm_W G d 12 (pm_QI q) 12 [.ref 14, .ref (iv_m A m), .int k, .int (nI (wt_c (owX S m k) (owB S m k) 0)), .int (nI 0)] [] T 0 0 := by
    refine pv_loopR (fun i => [.ref 14, .ref (iv_m A m), .int k, .int (nI (wt_c (owX S m k) (owB S m k) i)), .int (nI i)]) (owN S m k) (fun i hi hk => ?_) ?_
    · have hle : ¬ nI (owN S m k) ≤ nI i := nI_ge hi (by omega)
      have hci := nI_clamp (n := i) (by omega)
      have hv := vp_in_nI (n := i) (N := 10) (by omega) (by decide)
      obtain ⟨x23, _, x25, _⟩ := hcw.2 i hi
      have e23 : pm_i T 23 i = nI (owB S m k i) := x23
      have e25 : pm_i T 25 i = owX S m k i := x25
      have hb9 := owB_le hM m k i hi
      have ecs : wt_c (owX S m k) (owB S m k) (i + 1) = if owX S m k i = 1 then wt_c (owX S m k) (owB S m k) i ||| 2 ^ (2 * owB S m k i + 1) else if owX S m k i = 2 then wt_c (owX S m k) (owB S m k) i ||| 2 ^ (2 * owB S m k i + 2) else wt_c (owX S m k) (owB S m k) i := rfl
      have m2 : (2 : Int32) * nI (owB S m k i) = nI (2 * owB S m k i) := pk_mul 2 _
      have a1 : nI (2 * owB S m k i) + 1 = nI (2 * owB S m k i + 1) := nI_add _ 1
      have a2 : nI (2 * owB S m k i) + 2 = nI (2 * owB S m k i + 2) := nI_add _ 2
      have s1 := wt_sh (2 * owB S m k i + 1) (by omega)
      have s2 := wt_sh (2 * owB S m k i + 2) (by omega)
      refine pm_wb_ok pb_c12 1 12 0 _ _ _ _ _ ?_
      try simp only [pm_WI0, pm_WI1, pm_WI2, pm_WI3, pm_WI4, pm_WI5, pm_WV, pm_WW, pm_WX, pb_B12, pm_if, pm_QI_at, pm_QL_at, pm_QV_at, pm_QR_at, pm_QR_at0, pm_QR_at1, Nat.reduceSub, Nat.reduceAdd, List.replicate_zero, List.replicate_succ, true_and, and_true, true_or, or_true, and_self, reduceIte, Nat.reduceEqDiff, Nat.reduceLT, Nat.reduceLeDiff, Nat.reduceMul, false_and, and_false, reduceCtorEq, false_or, or_false, not_true_eq_false, not_false_eq_true, true_implies, false_implies, implies_true, lf_10, eq_self, Int32.reduceLT, Int32.reduceLE, Int32.reduceAdd, Int32.reduceSub, pm_same, pm_i_wI, pm_l_wL, pm_l_wM, pm_oR_rf, pm_oQ_rf, nI_1, sw_e, LQ1, LQ2, sh_k14 hT, t4, hle]
      refine ⟨by omega, lf_9 hT (by omega) (fun y => ?_) (fun y => ?_)⟩ <;> rw [e25] at y
      · by_cases e1 : owX S m k i = 1
        · rw [ecs, if_pos e1] at hk
          try simp only [pm_WV, pm_WW, true_and, and_true, true_or, or_true, and_self, reduceIte, Nat.reduceEqDiff, Nat.reduceLT, Nat.reduceLeDiff, Nat.reduceMul, false_and, and_false, reduceCtorEq, false_or, or_false, not_true_eq_false, not_false_eq_true, true_implies, false_implies, implies_true, lf_10, eq_self, Int32.reduceLT, Int32.reduceLE, Int32.reduceAdd, Int32.reduceSub, pm_same, pm_i_wI, pm_l_wL, pm_l_wM, pm_oR_rf, pm_oQ_rf, nI_1, sw_e, LQ1, LQ2, pm_WI0, pm_WI1, pm_WI2, pm_WI3, pm_WI4, pm_WI5, pm_WV, pm_WW, pm_WX, pb_B12, pm_if, pm_QI_at, pm_QL_at, pm_QV_at, pm_QR_at, pm_QR_at0, pm_QR_at1, Nat.reduceSub, Nat.reduceAdd, List.replicate_zero, List.replicate_succ, true_and, and_true, true_or, or_true, and_self, reduceIte, Nat.reduceEqDiff, Nat.reduceLT, Nat.reduceLeDiff, Nat.reduceMul, false_and, and_false, reduceCtorEq, false_or, or_false, not_true_eq_false, not_false_eq_true, true_implies, false_implies, implies_true, lf_10, eq_self, Int32.reduceLT, Int32.reduceLE, Int32.reduceAdd, Int32.reduceSub, pm_same, pm_i_wI, pm_l_wL, pm_l_wM, pm_oR_rf, pm_oQ_rf, nI_1, sw_e, LQ1, LQ2, sh_k14 hT, sh_r14_5 hT, sh_r14_7 hT, sh_k23 hT, sh_z23 hT, sh_k25 hT, sh_z25 hT, hci, e23, e25, e1, m2, a1, s1, wt_or]
          try refine pm_wb_ok pb_c12 1 52 0 _ _ _ _ _ ?_
          try simp only [pm_WI0, pm_WI1, pm_WI2, pm_WI3, pm_WI4, pm_WI5, pm_WV, pm_WW, pm_WX, pb_B12, pm_if, pm_QI_at, pm_QL_at, pm_QV_at, pm_QR_at, pm_QR_at0, pm_QR_at1, Nat.reduceSub, Nat.reduceAdd, List.replicate_zero, List.replicate_succ, true_and, and_true, true_or, or_true, and_self, reduceIte, Nat.reduceEqDiff, Nat.reduceLT, Nat.reduceLeDiff, Nat.reduceMul, false_and, and_false, reduceCtorEq, false_or, or_false, not_true_eq_false, not_false_eq_true, true_implies, false_implies, implies_true, lf_10, eq_self, Int32.reduceLT, Int32.reduceLE, Int32.reduceAdd, Int32.reduceSub, pm_same, pm_i_wI, pm_l_wL, pm_l_wM, pm_oR_rf, pm_oQ_rf, nI_1, sw_e, LQ1, LQ2]
          first | exact ⟨hv, hv, pv_W hk (by simp [pv_le, pm_unk])⟩ | (refine ⟨hv, hv, ?_⟩; refine pm_wb_ok pb_c12 1 52 0 _ _ _ _ _ ?_; simp only [pm_WI0, pm_WI1, pm_WI2, pm_WI3, pm_WI4, pm_WI5, pm_WV, pm_WW, pm_WX, pb_B12, pm_if, pm_QI_at, pm_QL_at, pm_QV_at, pm_QR_at, pm_QR_at0, pm_QR_at1, Nat.reduceSub, Nat.reduceAdd, List.replicate_zero, List.replicate_succ, true_and, and_true, true_or, or_true, and_self, reduceIte, Nat.reduceEqDiff, Nat.reduceLT, Nat.reduceLeDiff, Nat.reduceMul, false_and, and_false, reduceCtorEq, false_or, or_false, not_true_eq_false, not_false_eq_true, true_implies, false_implies, implies_true, lf_10, eq_self, Int32.reduceLT, Int32.reduceLE, Int32.reduceAdd, Int32.reduceSub, pm_same, pm_i_wI, pm_l_wL, pm_l_wM, pm_oR_rf, pm_oQ_rf, nI_1, sw_e, LQ1, LQ2]; exact pv_W hk (by simp [pv_le, pm_unk]))
        · have e2 : owX S m k i = 2 := y.resolve_left e1
          rw [ecs, if_neg e1, if_pos e2] at hk
          try simp only [pm_WV, pm_WW, true_and, and_true, true_or, or_true, and_self, reduceIte, Nat.reduceEqDiff, Nat.reduceLT, Nat.reduceLeDiff, Nat.reduceMul, false_and, and_false, reduceCtorEq, false_or, or_false, not_true_eq_false, not_false_eq_true, true_implies, false_implies, implies_true, lf_10, eq_self, Int32.reduceLT, Int32.reduceLE, Int32.reduceAdd, Int32.reduceSub, pm_same, pm_i_wI, pm_l_wL, pm_l_wM, pm_oR_rf, pm_oQ_rf, nI_1, sw_e, LQ1, LQ2, pm_WI0, pm_WI1, pm_WI2, pm_WI3, pm_WI4, pm_WI5, pm_WV, pm_WW, pm_WX, pb_B12, pm_if, pm_QI_at, pm_QL_at, pm_QV_at, pm_QR_at, pm_QR_at0, pm_QR_at1, Nat.reduceSub, Nat.reduceAdd, List.replicate_zero, List.replicate_succ, true_and, and_true, true_or, or_true, and_self, reduceIte, Nat.reduceEqDiff, Nat.reduceLT, Nat.reduceLeDiff, Nat.reduceMul, false_and, and_false, reduceCtorEq, false_or, or_false, not_true_eq_false, not_false_eq_true, true_implies, false_implies, implies_true, lf_10, eq_self, Int32.reduceLT, Int32.reduceLE, Int32.reduceAdd, Int32.reduceSub, pm_same, pm_i_wI, pm_l_wL, pm_l_wM, pm_oR_rf, pm_oQ_rf, nI_1, sw_e, LQ1, LQ2, sh_k14 hT, sh_r14_5 hT, sh_r14_7 hT, sh_k23 hT, sh_z23 hT, sh_k25 hT, sh_z25 hT, hci, e23, e25, e2, m2, a2, s2, wt_or]
          try refine pm_wb_ok pb_c12 1 52 0 _ _ _ _ _ ?_
          try simp only [pm_WI0, pm_WI1, pm_WI2, pm_WI3, pm_WI4, pm_WI5, pm_WV, pm_WW, pm_WX, pb_B12, pm_if, pm_QI_at, pm_QL_at, pm_QV_at, pm_QR_at, pm_QR_at0, pm_QR_at1, Nat.reduceSub, Nat.reduceAdd, List.replicate_zero, List.replicate_succ, true_and, and_true, true_or, or_true, and_self, reduceIte, Nat.reduceEqDiff, Nat.reduceLT, Nat.reduceLeDiff, Nat.reduceMul, false_and, and_false, reduceCtorEq, false_or, or_false, not_true_eq_false, not_false_eq_true, true_implies, false_implies, implies_true, lf_10, eq_self, Int32.reduceLT, Int32.reduceLE, Int32.reduceAdd, Int32.reduceSub, pm_same, pm_i_wI, pm_l_wL, pm_l_wM, pm_oR_rf, pm_oQ_rf, nI_1, sw_e, LQ1, LQ2]
          first | exact ⟨hv, hv, pv_W hk (by simp [pv_le, pm_unk])⟩ | (refine ⟨hv, hv, ?_⟩; refine pm_wb_ok pb_c12 1 52 0 _ _ _ _ _ ?_; simp only [pm_WI0, pm_WI1, pm_WI2, pm_WI3, pm_WI4, pm_WI5, pm_WV, pm_WW, pm_WX, pb_B12, pm_if, pm_QI_at, pm_QL_at, pm_QV_at, pm_QR_at, pm_QR_at0, pm_QR_at1, Nat.reduceSub, Nat.reduceAdd, List.replicate_zero, List.replicate_succ, true_and, and_true, true_or, or_true, and_self, reduceIte, Nat.reduceEqDiff, Nat.reduceLT, Nat.reduceLeDiff, Nat.reduceMul, false_and, and_false, reduceCtorEq, false_or, or_false, not_true_eq_false, not_false_eq_true, true_implies, false_implies, implies_true, lf_10, eq_self, Int32.reduceLT, Int32.reduceLE, Int32.reduceAdd, Int32.reduceSub, pm_same, pm_i_wI, pm_l_wL, pm_l_wM, pm_oR_rf, pm_oQ_rf, nI_1, sw_e, LQ1, LQ2]; exact pv_W hk (by simp [pv_le, pm_unk]))
      · rw [ecs, if_neg (fun z => y (Or.inl z)), if_neg (fun z => y (Or.inr z))] at hk
        try simp only [pm_WV, pm_WW, true_and, and_true, true_or, or_true, and_self, reduceIte, Nat.reduceEqDiff, Nat.reduceLT, Nat.reduceLeDiff, Nat.reduceMul, false_and, and_false, reduceCtorEq, false_or, or_false, not_true_eq_false, not_false_eq_true, true_implies, false_implies, implies_true, lf_10, eq_self, Int32.reduceLT, Int32.reduceLE, Int32.reduceAdd, Int32.reduceSub, pm_same, pm_i_wI, pm_l_wL, pm_l_wM, pm_oR_rf, pm_oQ_rf, nI_1, sw_e, LQ1, LQ2, pm_WI0, pm_WI1, pm_WI2, pm_WI3, pm_WI4, pm_WI5, pm_WV, pm_WW, pm_WX, pb_B12, pm_if, pm_QI_at, pm_QL_at, pm_QV_at, pm_QR_at, pm_QR_at0, pm_QR_at1, Nat.reduceSub, Nat.reduceAdd, List.replicate_zero, List.replicate_succ, true_and, and_true, true_or, or_true, and_self, reduceIte, Nat.reduceEqDiff, Nat.reduceLT, Nat.reduceLeDiff, Nat.reduceMul, false_and, and_false, reduceCtorEq, false_or, or_false, not_true_eq_false, not_false_eq_true, true_implies, false_implies, implies_true, lf_10, eq_self, Int32.reduceLT, Int32.reduceLE, Int32.reduceAdd, Int32.reduceSub, pm_same, pm_i_wI, pm_l_wL, pm_l_wM, pm_oR_rf, pm_oQ_rf, nI_1, sw_e, LQ1, LQ2]
        try refine pm_wb_ok pb_c12 1 52 0 _ _ _ _ _ ?_
        try simp only [pm_WI0, pm_WI1, pm_WI2, pm_WI3, pm_WI4, pm_WI5, pm_WV, pm_WW, pm_WX, pb_B12, pm_if, pm_QI_at, pm_QL_at, pm_QV_at, pm_QR_at, pm_QR_at0, pm_QR_at1, Nat.reduceSub, Nat.reduceAdd, List.replicate_zero, List.replicate_succ, true_and, and_true, true_or, or_true, and_self, reduceIte, Nat.reduceEqDiff, Nat.reduceLT, Nat.reduceLeDiff, Nat.reduceMul, false_and, and_false, reduceCtorEq, false_or, or_false, not_true_eq_false, not_false_eq_true, true_implies, false_implies, implies_true, lf_10, eq_self, Int32.reduceLT, Int32.reduceLE, Int32.reduceAdd, Int32.reduceSub, pm_same, pm_i_wI, pm_l_wL, pm_l_wM, pm_oR_rf, pm_oQ_rf, nI_1, sw_e, LQ1, LQ2]
        first | exact pv_W hk (by simp [pv_le, pm_unk]) | skip
    · refine pm_wb_ok pb_c12 1 12 0 _ _ _ _ _ ?_
      try simp only [pm_WI0, pm_WI1, pm_WI2, pm_WI3, pm_WI4, pm_WI5, pm_WV, pm_WW, pm_WX, pb_B12, pm_if, pm_QI_at, pm_QL_at, pm_QV_at, pm_QR_at, pm_QR_at0, pm_QR_at1, Nat.reduceSub, Nat.reduceAdd, List.replicate_zero, List.replicate_succ, true_and, and_true, true_or, or_true, and_self, reduceIte, Nat.reduceEqDiff, Nat.reduceLT, Nat.reduceLeDiff, Nat.reduceMul, false_and, and_false, reduceCtorEq, false_or, or_false, not_true_eq_false, not_false_eq_true, true_implies, false_implies, implies_true, lf_10, eq_self, Int32.reduceLT, Int32.reduceLE, Int32.reduceAdd, Int32.reduceSub, pm_same, pm_i_wI, pm_l_wL, pm_l_wM, pm_oR_rf, pm_oQ_rf, nI_1, sw_e, LQ1, LQ2, sh_k14 hT, t4, Int32.le_refl]
      try refine pm_wb_ok pb_c12 1 58 0 _ _ _ _ _ ?_
      try simp only [pm_WI0, pm_WI1, pm_WI2, pm_WI3, pm_WI4, pm_WI5, pm_WV, pm_WW, pm_WX, pb_B12, pm_if, pm_QI_at, pm_QL_at, pm_QV_at, pm_QR_at, pm_QR_at0, pm_QR_at1, Nat.reduceSub, Nat.reduceAdd, List.replicate_zero, List.replicate_succ, true_and, and_true, true_or, or_true, and_self, reduceIte, Nat.reduceEqDiff, Nat.reduceLT, Nat.reduceLeDiff, Nat.reduceMul, false_and, and_false, reduceCtorEq, false_or, or_false, not_true_eq_false, not_false_eq_true, true_implies, false_implies, implies_true, lf_10, eq_self, Int32.reduceLT, Int32.reduceLE, Int32.reduceAdd, Int32.reduceSub, pm_same, pm_i_wI, pm_l_wL, pm_l_wM, pm_oR_rf, pm_oQ_rf, nI_1, sw_e, LQ1, LQ2]
      exact h T hs hF
  exact pv_W key (by simp [pv_le, pm_unk, wt_c, show nI 0 = 0 from rfl])
theorem mm_230 {G : pm_G} {d : Nat} {S : pm_S} {m : Nat} {q : pm_S → Prop} (hd : 34 ≤ d) (hM : iv_MI S) (hm : m < iv_c S 18) (h : ∀ T, sc S T → pm_i T 59 69 = nI (wsL S m (pm_i S 59 0) 1) → pm_i T 59 70 = nI (wsL S m (pm_i S 59 0) 2) → q T) : pm_CV G d 230 [.ref 59, .int (nI m)] S q := by
  have hS := hM.1
  have n10 := owN_le hM m (pm_i S 59 0)
  refine pm_goV 230 1 pb_c230 (by decide) (Nat.le_of_ble_eq_true rfl) rfl ?_
  try simp only [show pm_mL 230 = 3 from rfl, pm_WI0, pm_WI1, pm_WI2, pm_WI3, pm_WI4, pm_WI5, pm_WV, pm_WW, pm_WX, pb_B230, pm_if, pm_QI_at, pm_QL_at, pm_QV_at, pm_QR_at, pm_QR_at0, pm_QR_at1, Nat.reduceSub, Nat.reduceAdd, List.replicate_zero, List.replicate_succ, true_and, and_true, true_or, or_true, and_self, reduceIte, Nat.reduceEqDiff, Nat.reduceLT, Nat.reduceLeDiff, Nat.reduceMul, false_and, and_false, reduceCtorEq, false_or, or_false, not_true_eq_false, not_false_eq_true, true_implies, false_implies, implies_true, lf_10, eq_self, Int32.reduceLT, Int32.reduceLE, Int32.reduceAdd, Int32.reduceSub, pm_same, pm_i_wI, pm_l_wL, pm_l_wM, pm_oR_rf, pm_oQ_rf, sh_k59 hS, sh_r59_64 hS, sh_k98 hS, sh_z98 hS, sh_r59_66 hS, sh_k100 hS, sh_z100 hS, nI_1, LQ1, LQ2, LQ5]
  refine ⟨by omega, mm_204 (by omega) hM hm (fun T hs hmw => ?_)⟩
  have hT := hs.sh hS
  have hb9 : ∀ i, i < owN S m (pm_i S 59 0) → owB S m (pm_i S 59 0) i ≤ 9 := fun i hi => owB_le hM m _ i hi
  generalize hk0 : pm_i S 59 0 = k at *
  try simp only [pm_WV, pm_WW, true_and, and_true, true_or, or_true, and_self, reduceIte, Nat.reduceEqDiff, Nat.reduceLT, Nat.reduceLeDiff, Nat.reduceMul, false_and, and_false, reduceCtorEq, false_or, or_false, not_true_eq_false, not_false_eq_true, true_implies, false_implies, implies_true, lf_10, eq_self, Int32.reduceLT, Int32.reduceLE, Int32.reduceAdd, Int32.reduceSub, pm_same, pm_i_wI, pm_l_wL, pm_l_wM, pm_oR_rf, pm_oQ_rf, nI_1, sw_e, LQ1, LQ2, pm_WI0, pm_WI1, pm_WI2, pm_WI3, pm_WI4, pm_WI5, pm_WV, pm_WW, pm_WX, pb_B230, pm_if, pm_QI_at, pm_QL_at, pm_QV_at, pm_QR_at, pm_QR_at0, pm_QR_at1, Nat.reduceSub, Nat.reduceAdd, List.replicate_zero, List.replicate_succ, true_and, and_true, true_or, or_true, and_self, reduceIte, Nat.reduceEqDiff, Nat.reduceLT, Nat.reduceLeDiff, Nat.reduceMul, false_and, and_false, reduceCtorEq, false_or, or_false, not_true_eq_false, not_false_eq_true, true_implies, false_implies, implies_true, lf_10, eq_self, Int32.reduceLT, Int32.reduceLE, Int32.reduceAdd, Int32.reduceSub, pm_same, pm_i_wI, pm_l_wL, pm_l_wM, pm_oR_rf, pm_oQ_rf, sh_k59 hT, sh_r59_64 hT, sh_k98 hT, sh_z98 hT, sh_r59_66 hT, sh_k100 hT, sh_z100 hT, nI_1, LQ1, LQ2, LQ5]
  have key : ∀ r i Y, i + r = owN S m k → sc S Y → mwr S Y m k (owA S m k) → pm_i Y 59 69 = nI (wt_l 1 (owX S m k) (owB S m k) i) → pm_i Y 59 70 = nI (wt_l 2 (owX S m k) (owB S m k) i) → pm_W G d 230 (pm_QV q) 21 [.ref 59, .int (nI m), .int (nI i)] [] Y 0 0 := by
    intro r
    induction r with
    | zero =>
      intro i Y hi hsY hw h69 h70
      have hY := hsY.sh hS
      obtain rfl : i = owN S m k := by omega
      have y68 : pm_i Y 59 68 = nI (owN S m k) := hw.1
      refine pm_wb_ok pb_c230 1 21 0 _ _ _ _ _ ?_
      try simp only [pm_WI0, pm_WI1, pm_WI2, pm_WI3, pm_WI4, pm_WI5, pm_WV, pm_WW, pm_WX, pb_B230, pm_if, pm_QI_at, pm_QL_at, pm_QV_at, pm_QR_at, pm_QR_at0, pm_QR_at1, Nat.reduceSub, Nat.reduceAdd, List.replicate_zero, List.replicate_succ, true_and, and_true, true_or, or_true, and_self, reduceIte, Nat.reduceEqDiff, Nat.reduceLT, Nat.reduceLeDiff, Nat.reduceMul, false_and, and_false, reduceCtorEq, false_or, or_false, not_true_eq_false, not_false_eq_true, true_implies, false_implies, implies_true, lf_10, eq_self, Int32.reduceLT, Int32.reduceLE, Int32.reduceAdd, Int32.reduceSub, pm_same, pm_i_wI, pm_l_wL, pm_l_wM, pm_oR_rf, pm_oQ_rf, sh_k59 hY, sh_r59_64 hY, sh_k98 hY, sh_z98 hY, sh_r59_66 hY, sh_k100 hY, sh_z100 hY, nI_1, LQ1, LQ2, LQ5, y68, Int32.le_refl]
      try refine pm_wb_ok pb_c230 1 97 0 _ _ _ _ _ ?_
      try simp only [pm_WI0, pm_WI1, pm_WI2, pm_WI3, pm_WI4, pm_WI5, pm_WV, pm_WW, pm_WX, pb_B230, pm_if, pm_QI_at, pm_QL_at, pm_QV_at, pm_QR_at, pm_QR_at0, pm_QR_at1, Nat.reduceSub, Nat.reduceAdd, List.replicate_zero, List.replicate_succ, true_and, and_true, true_or, or_true, and_self, reduceIte, Nat.reduceEqDiff, Nat.reduceLT, Nat.reduceLeDiff, Nat.reduceMul, false_and, and_false, reduceCtorEq, false_or, or_false, not_true_eq_false, not_false_eq_true, true_implies, false_implies, implies_true, lf_10, eq_self, Int32.reduceLT, Int32.reduceLE, Int32.reduceAdd, Int32.reduceSub, pm_same, pm_i_wI, pm_l_wL, pm_l_wM, pm_oR_rf, pm_oQ_rf, sh_k59 hY, sh_r59_64 hY, sh_k98 hY, sh_z98 hY, sh_r59_66 hY, sh_k100 hY, sh_z100 hY, nI_1, LQ1, LQ2, LQ5]
      exact h Y hsY h69 h70
    | succ r ih =>
      intro i Y hi hsY hw h69 h70
      have hY := hsY.sh hS
      have y68 : pm_i Y 59 68 = nI (owN S m k) := hw.1
      have hi2 : i < owN S m k := by omega
      have hle : ¬ nI (owN S m k) ≤ nI i := nI_ge hi2 (by omega)
      have hci := nI_clamp (n := i) (by omega)
      have hv := vp_in_nI (n := i) (N := 10) (by omega) (by decide)
      obtain ⟨x98, _, x100, _⟩ := hw.2 i hi2
      have e98 : pm_i Y 98 i = nI (owB S m k i) := x98
      have e100 : pm_i Y 100 i = owX S m k i := x100
      have b9 := hb9 i hi2
      have s1 := wt_sh (owB S m k i) (by omega)
      have nx : ∀ v1 v2, v1 = nI (wt_l 1 (owX S m k) (owB S m k) (i + 1)) → v2 = nI (wt_l 2 (owX S m k) (owB S m k) (i + 1)) → pm_W G d 230 (pm_QV q) 21 [.ref 59, .int (nI m), .int (nI (i + 1))] [] (pm_wI (pm_wI Y 59 69 v1) 59 70 v2) 0 0 := by
        intro v1 v2 e1 e2
        refine ih (i + 1) _ (by omega) ((hsY.wI (by unfold sc_q; omega)).wI (by unfold sc_q; omega)) ⟨?_, fun j hj => ?_⟩ ?_ ?_
        · rw [pm_i_wI, if_neg (by omega), pm_i_wI, if_neg (by omega)]; exact hw.1
        · rw [pm_i_wI_ne (by omega), pm_i_wI_ne (by omega), pm_i_wI_ne (by omega), pm_i_wI_ne (by omega), pm_i_wI_ne (by omega), pm_i_wI_ne (by omega), pm_i_wI_ne (by omega), pm_i_wI_ne (by omega)]; exact hw.2 j hj
        · rw [pm_i_wI, if_neg (by omega), pm_i_wI, if_pos ⟨rfl, rfl⟩]; exact e1
        · rw [pm_i_wI, if_pos ⟨rfl, rfl⟩]; exact e2
      have l1 : wt_l 1 (owX S m k) (owB S m k) (i + 1) = if owX S m k i = 1 then wt_l 1 (owX S m k) (owB S m k) i ||| 2 ^ owB S m k i else wt_l 1 (owX S m k) (owB S m k) i := rfl
      have l2 : wt_l 2 (owX S m k) (owB S m k) (i + 1) = if owX S m k i = 2 then wt_l 2 (owX S m k) (owB S m k) i ||| 2 ^ owB S m k i else wt_l 2 (owX S m k) (owB S m k) i := rfl
      have z0 : ∀ x, nI x ||| 0 = nI x := fun x => by rw [show (0 : Int32) = nI 0 from rfl, wt_or, Nat.or_zero]
      rw [l1, l2] at nx
      by_cases e1 : owX S m k i = 1
      · have e2 : ¬ owX S m k i = 2 := by rw [e1]; decide
        rw [if_pos e1, if_neg e2] at nx
        have nx := nx _ _ rfl rfl
        refine pm_wb_ok pb_c230 1 21 0 _ _ _ _ _ ?_
        try simp only [pm_WI0, pm_WI1, pm_WI2, pm_WI3, pm_WI4, pm_WI5, pm_WV, pm_WW, pm_WX, pb_B230, pm_if, pm_QI_at, pm_QL_at, pm_QV_at, pm_QR_at, pm_QR_at0, pm_QR_at1, Nat.reduceSub, Nat.reduceAdd, List.replicate_zero, List.replicate_succ, true_and, and_true, true_or, or_true, and_self, reduceIte, Nat.reduceEqDiff, Nat.reduceLT, Nat.reduceLeDiff, Nat.reduceMul, false_and, and_false, reduceCtorEq, false_or, or_false, not_true_eq_false, not_false_eq_true, true_implies, false_implies, implies_true, lf_10, eq_self, Int32.reduceLT, Int32.reduceLE, Int32.reduceAdd, Int32.reduceSub, pm_same, pm_i_wI, pm_l_wL, pm_l_wM, pm_oR_rf, pm_oQ_rf, sh_k59 hY, sh_r59_64 hY, sh_k98 hY, sh_z98 hY, sh_r59_66 hY, sh_k100 hY, sh_z100 hY, nI_1, LQ1, LQ2, LQ5, y68, hle, hci, e98, e100, h69, h70, s1, wt_or, z0, e1, e2]
        repeat' (first | exact hv | exact pv_W nx (by simp [pv_le, pm_unk]) | refine ⟨hv, ?_⟩ | (refine pm_wb_ok pb_c230 1 _ 0 _ _ _ _ _ ?_; simp only [pm_WI0, pm_WI1, pm_WI2, pm_WI3, pm_WI4, pm_WI5, pm_WV, pm_WW, pm_WX, pb_B230, pm_if, pm_QI_at, pm_QL_at, pm_QV_at, pm_QR_at, pm_QR_at0, pm_QR_at1, Nat.reduceSub, Nat.reduceAdd, List.replicate_zero, List.replicate_succ, true_and, and_true, true_or, or_true, and_self, reduceIte, Nat.reduceEqDiff, Nat.reduceLT, Nat.reduceLeDiff, Nat.reduceMul, false_and, and_false, reduceCtorEq, false_or, or_false, not_true_eq_false, not_false_eq_true, true_implies, false_implies, implies_true, lf_10, eq_self, Int32.reduceLT, Int32.reduceLE, Int32.reduceAdd, Int32.reduceSub, pm_same, pm_i_wI, pm_l_wL, pm_l_wM, pm_oR_rf, pm_oQ_rf, sh_k59 hY, sh_r59_64 hY, sh_k98 hY, sh_z98 hY, sh_r59_66 hY, sh_k100 hY, sh_z100 hY, nI_1, LQ1, LQ2, LQ5, y68, hle, hci, e98, e100, h69, h70, s1, wt_or, z0, e1, e2]))
      · rw [if_neg e1] at nx
        by_cases e2 : owX S m k i = 2
        · rw [if_pos e2] at nx
          have nx := nx _ _ rfl rfl
          refine pm_wb_ok pb_c230 1 21 0 _ _ _ _ _ ?_
          try simp only [pm_WI0, pm_WI1, pm_WI2, pm_WI3, pm_WI4, pm_WI5, pm_WV, pm_WW, pm_WX, pb_B230, pm_if, pm_QI_at, pm_QL_at, pm_QV_at, pm_QR_at, pm_QR_at0, pm_QR_at1, Nat.reduceSub, Nat.reduceAdd, List.replicate_zero, List.replicate_succ, true_and, and_true, true_or, or_true, and_self, reduceIte, Nat.reduceEqDiff, Nat.reduceLT, Nat.reduceLeDiff, Nat.reduceMul, false_and, and_false, reduceCtorEq, false_or, or_false, not_true_eq_false, not_false_eq_true, true_implies, false_implies, implies_true, lf_10, eq_self, Int32.reduceLT, Int32.reduceLE, Int32.reduceAdd, Int32.reduceSub, pm_same, pm_i_wI, pm_l_wL, pm_l_wM, pm_oR_rf, pm_oQ_rf, sh_k59 hY, sh_r59_64 hY, sh_k98 hY, sh_z98 hY, sh_r59_66 hY, sh_k100 hY, sh_z100 hY, nI_1, LQ1, LQ2, LQ5, y68, hle, hci, e98, e100, h69, h70, s1, wt_or, z0, e1, e2]
          repeat' (first | exact hv | exact pv_W nx (by simp [pv_le, pm_unk]) | refine ⟨hv, ?_⟩ | (refine pm_wb_ok pb_c230 1 _ 0 _ _ _ _ _ ?_; simp only [pm_WI0, pm_WI1, pm_WI2, pm_WI3, pm_WI4, pm_WI5, pm_WV, pm_WW, pm_WX, pb_B230, pm_if, pm_QI_at, pm_QL_at, pm_QV_at, pm_QR_at, pm_QR_at0, pm_QR_at1, Nat.reduceSub, Nat.reduceAdd, List.replicate_zero, List.replicate_succ, true_and, and_true, true_or, or_true, and_self, reduceIte, Nat.reduceEqDiff, Nat.reduceLT, Nat.reduceLeDiff, Nat.reduceMul, false_and, and_false, reduceCtorEq, false_or, or_false, not_true_eq_false, not_false_eq_true, true_implies, false_implies, implies_true, lf_10, eq_self, Int32.reduceLT, Int32.reduceLE, Int32.reduceAdd, Int32.reduceSub, pm_same, pm_i_wI, pm_l_wL, pm_l_wM, pm_oR_rf, pm_oQ_rf, sh_k59 hY, sh_r59_64 hY, sh_k98 hY, sh_z98 hY, sh_r59_66 hY, sh_k100 hY, sh_z100 hY, nI_1, LQ1, LQ2, LQ5, y68, hle, hci, e98, e100, h69, h70, s1, wt_or, z0, e1, e2]))
        · rw [if_neg e2] at nx
          have nx := nx _ _ rfl rfl
          refine pm_wb_ok pb_c230 1 21 0 _ _ _ _ _ ?_
          try simp only [pm_WI0, pm_WI1, pm_WI2, pm_WI3, pm_WI4, pm_WI5, pm_WV, pm_WW, pm_WX, pb_B230, pm_if, pm_QI_at, pm_QL_at, pm_QV_at, pm_QR_at, pm_QR_at0, pm_QR_at1, Nat.reduceSub, Nat.reduceAdd, List.replicate_zero, List.replicate_succ, true_and, and_true, true_or, or_true, and_self, reduceIte, Nat.reduceEqDiff, Nat.reduceLT, Nat.reduceLeDiff, Nat.reduceMul, false_and, and_false, reduceCtorEq, false_or, or_false, not_true_eq_false, not_false_eq_true, true_implies, false_implies, implies_true, lf_10, eq_self, Int32.reduceLT, Int32.reduceLE, Int32.reduceAdd, Int32.reduceSub, pm_same, pm_i_wI, pm_l_wL, pm_l_wM, pm_oR_rf, pm_oQ_rf, sh_k59 hY, sh_r59_64 hY, sh_k98 hY, sh_z98 hY, sh_r59_66 hY, sh_k100 hY, sh_z100 hY, nI_1, LQ1, LQ2, LQ5, y68, hle, hci, e98, e100, h69, h70, s1, wt_or, z0, e1, e2]
          repeat' (first | exact hv | exact pv_W nx (by simp [pv_le, pm_unk]) | refine ⟨hv, ?_⟩ | (refine pm_wb_ok pb_c230 1 _ 0 _ _ _ _ _ ?_; simp only [pm_WI0, pm_WI1, pm_WI2, pm_WI3, pm_WI4, pm_WI5, pm_WV, pm_WW, pm_WX, pb_B230, pm_if, pm_QI_at, pm_QL_at, pm_QV_at, pm_QR_at, pm_QR_at0, pm_QR_at1, Nat.reduceSub, Nat.reduceAdd, List.replicate_zero, List.replicate_succ, true_and, and_true, true_or, or_true, and_self, reduceIte, Nat.reduceEqDiff, Nat.reduceLT, Nat.reduceLeDiff, Nat.reduceMul, false_and, and_false, reduceCtorEq, false_or, or_false, not_true_eq_false, not_false_eq_true, true_implies, false_implies, implies_true, lf_10, eq_self, Int32.reduceLT, Int32.reduceLE, Int32.reduceAdd, Int32.reduceSub, pm_same, pm_i_wI, pm_l_wL, pm_l_wM, pm_oR_rf, pm_oQ_rf, sh_k59 hY, sh_r59_64 hY, sh_k98 hY, sh_z98 hY, sh_r59_66 hY, sh_k100 hY, sh_z100 hY, nI_1, LQ1, LQ2, LQ5, y68, hle, hci, e98, e100, h69, h70, s1, wt_or, z0, e1, e2]))
  have k0 := key (owN S m k) 0 (pm_wI (pm_wI T 59 69 0) 59 70 0) (by omega) ((hs.wI (by unfold sc_q; omega)).wI (by unfold sc_q; omega)) ⟨by rw [pm_i_wI, if_neg (by omega), pm_i_wI, if_neg (by omega)]; exact hmw.1, fun j hj => by rw [pm_i_wI_ne (by omega), pm_i_wI_ne (by omega), pm_i_wI_ne (by omega), pm_i_wI_ne (by omega), pm_i_wI_ne (by omega), pm_i_wI_ne (by omega), pm_i_wI_ne (by omega), pm_i_wI_ne (by omega)]; exact hmw.2 j hj⟩ (by rw [pm_i_wI, if_neg (by omega), pm_i_wI, if_pos ⟨rfl, rfl⟩]; rfl) (by rw [pm_i_wI, if_pos ⟨rfl, rfl⟩]; rfl)
  exact pv_W k0 (by simp [pv_le, pm_unk, show nI 0 = 0 from rfl])
