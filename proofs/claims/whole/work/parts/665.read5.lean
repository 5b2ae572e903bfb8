/-! THE TEXT's E read by the class -/
def cPC (G : pm_G) (j : Nat) (S0 : pm_S) (D : Nat) (W : Nat → Nat) (n k dd : Nat) (R : Nat → gx_R (List Nat)) : Prop := ∀ (d : Nat) (S : pm_S) (p : Nat) (L : gx_L) (q : Int32 → pm_S → Prop), dd ≤ d → rs S0 D W n S p L → L.2.2.length ≤ p →
  (∀ x e S', R p = (x, some e) → rs S0 D W n S' x (L.1, L.2.1, L.2.2 ++ e) → q 1 S') → (∀ x e S', R p = (x, none) → rs S0 D W n S' x (L.1, L.2.1, L.2.2 ++ e) → e.length + p ≤ x → q 0 S') → pm_CI G d j [.ref 5, .int (nI (6 - k))] S q
def cFC (G : pm_G) (S0 : pm_S) (D : Nat) (W : Nat → Nat) (n k : Nat) : Prop := cPC G 50 S0 D W n k (7 + 2 * k) (fun p => gx_F (gx_b (pm_i S0 6) n) 160 k p)
def cEC (G : pm_G) (S0 : pm_S) (D : Nat) (W : Nat → Nat) (n k : Nat) : Prop := cPC G 49 S0 D W n k (8 + 2 * k) (fun p => gx_EE (gx_F (gx_b (pm_i S0 6) n) 160 k) (gx_b (pm_i S0 6) n) 160 p)
section CRD
variable {G : pm_G} {S0 : pm_S} {D n : Nat} {W : Nat → Nat}
theorem rs.L {S : pm_S} {p : Nat} {L L' : gx_L} (h : rs S0 D W n S p L) (e : L = L') : rs S0 D W n S p L' := by rw [← e]; exact h
theorem rs.l0 {S : pm_S} {p : Nat} {L : gx_L} (h : rs S0 D W n S p L) : rs S0 D W n S p (L.1, L.2.1, L.2.2 ++ []) := by rw [List.append_nil]; exact h
theorem rd50_80 (hS0 : Sh S0) (hd0 : dl S0 D W) {d : Nat} (hd : 2 ≤ d) {b : Int32} (hb : b = 0 ∨ b = 1) {v : Value} {j : Nat} (hj : j ≤ 6) {q : Int32 → pm_S → Prop} : ∀ (m i : Nat) (S : pm_S) (x : Nat) (L : gx_L), i + m = j → rs S0 D W n S x L → L.2.2.length + m ≤ 160 → (∀ S', rs S0 D W n S' x (L.1, L.2.1, L.2.2 ++ List.replicate m 8) → q b S') → pm_W G d 50 (pm_QI q) 80 [.ref 5, v, .int (nI j), .int b, .int (nI i)] [] S 0 0 := by
  intro m
  induction m with
  | zero =>
    intro i S x L hi hr hl h
    have hS := hr.sh hS0
    have hdl := hr.todl hd0
    have ht := hr.text hd0
    have hr3 := hr.2.2.1
    have hn := hr3.2.2.2.1
    have hpn := hr3.2.2.1
    have hr5 : pm_r S 5 3 = some D := hdl.1
    have hkD : pm_k S D = 5 := hdl.2.1
    have rB : gx_b (pm_i S 6) n = gx_b (pm_i S0 6) n := by rw [ht]
    have : i = j := by omega
    subst this
    refine pm_wb_ok pb_c50 3 80 0 _ _ _ _ _ ?_
    try simp only [pm_WI0, pm_WI1, pm_WI2, pm_WI3, pm_WI4, pm_WI5, pm_WV, pm_WW, pm_WX, pb_B50, pm_if, pm_QI_at, pm_QL_at, pm_QV_at, pm_QR_at, pm_QR_at0, pm_QR_at1, Nat.reduceSub, Nat.reduceAdd, List.replicate_zero, List.replicate_succ, true_and, and_true, true_or, or_true, and_self, reduceIte, Nat.reduceEqDiff, Nat.reduceLT, Nat.reduceLeDiff, Nat.reduceMul, false_and, and_false, reduceCtorEq, false_or, or_false, not_true_eq_false, not_false_eq_true, true_implies, false_implies, implies_true, lf_10, eq_self, Int32.reduceLT, Int32.reduceLE, Int32.reduceAdd, Int32.reduceSub, Int32.reduceDiv, Int32.reduceMul, pm_same, pm_i_wI, pm_l_wL, pm_l_wM, pm_oR_rf, pm_oQ_rf, sh_k5 hS, nI_1, sw_e, LQ1, LQ2, Int32.le_refl]
    exact ⟨hb, h S hr.l0⟩
  | succ m ih =>
    intro i S x L hi hr hl h
    have hS := hr.sh hS0
    have hdl := hr.todl hd0
    have ht := hr.text hd0
    have hr3 := hr.2.2.1
    have hn := hr3.2.2.2.1
    have hpn := hr3.2.2.1
    have hr5 : pm_r S 5 3 = some D := hdl.1
    have hkD : pm_k S D = 5 := hdl.2.1
    have rB : gx_b (pm_i S 6) n = gx_b (pm_i S0 6) n := by rw [ht]
    have hle : ¬ nI j ≤ nI i := nI_ge (by omega) (by omega)
    refine pm_wb_ok pb_c50 3 80 0 _ _ _ _ _ ?_
    try simp only [pm_WI0, pm_WI1, pm_WI2, pm_WI3, pm_WI4, pm_WI5, pm_WV, pm_WW, pm_WX, pb_B50, pm_if, pm_QI_at, pm_QL_at, pm_QV_at, pm_QR_at, pm_QR_at0, pm_QR_at1, Nat.reduceSub, Nat.reduceAdd, List.replicate_zero, List.replicate_succ, true_and, and_true, true_or, or_true, and_self, reduceIte, Nat.reduceEqDiff, Nat.reduceLT, Nat.reduceLeDiff, Nat.reduceMul, false_and, and_false, reduceCtorEq, false_or, or_false, not_true_eq_false, not_false_eq_true, true_implies, false_implies, implies_true, lf_10, eq_self, Int32.reduceLT, Int32.reduceLE, Int32.reduceAdd, Int32.reduceSub, Int32.reduceDiv, Int32.reduceMul, pm_same, pm_i_wI, pm_l_wL, pm_l_wM, pm_oR_rf, pm_oQ_rf, sh_k5 hS, nI_1, sw_e, LQ1, LQ2, hr5, hkD, hle]
    refine ⟨by omega, rd_38 (k := 8) (s := 0) (m := 0) hd0 hr (by omega) (by omega) (by omega) (by omega) (fun S' hS' => ?_)⟩
    refine ih (i + 1) S' x _ (by omega) hS' (by simp; omega) (fun S2 hS2 => h S2 (hS2.L ?_))
    show (L.1, L.2.1, (L.2.2 ++ [gx_st 8 0 0]) ++ List.replicate m 8) = (L.1, L.2.1, L.2.2 ++ List.replicate (m + 1) 8)
    rw [List.append_assoc]; rfl
theorem rd50_77 (hS0 : Sh S0) (hd0 : dl S0 D W) {d : Nat} (hd : 2 ≤ d) {b : Int32} (hb : b = 0 ∨ b = 1) {v u : Value} {j : Nat} (hj : j ≤ 6) {q : Int32 → pm_S → Prop} {S : pm_S} {x : Nat} {L : gx_L} (hr : rs S0 D W n S x L) (hl : L.2.2.length + j ≤ 160) (h : ∀ S', rs S0 D W n S' x (L.1, L.2.1, L.2.2 ++ List.replicate j 8) → q b S') : pm_W G d 50 (pm_QI q) 77 [.ref 5, v, .int (nI j), .int b, u] [] S 0 0 := by
  have hS := hr.sh hS0
  have hdl := hr.todl hd0
  have ht := hr.text hd0
  have hr3 := hr.2.2.1
  have hn := hr3.2.2.2.1
  have hpn := hr3.2.2.1
  have hr5 : pm_r S 5 3 = some D := hdl.1
  have hkD : pm_k S D = 5 := hdl.2.1
  have rB : gx_b (pm_i S 6) n = gx_b (pm_i S0 6) n := by rw [ht]
  refine pm_wb_ok pb_c50 1 77 0 _ _ _ _ _ ?_
  try simp only [pm_WI0, pm_WI1, pm_WI2, pm_WI3, pm_WI4, pm_WI5, pm_WV, pm_WW, pm_WX, pb_B50, pm_if, pm_QI_at, pm_QL_at, pm_QV_at, pm_QR_at, pm_QR_at0, pm_QR_at1, Nat.reduceSub, Nat.reduceAdd, List.replicate_zero, List.replicate_succ, true_and, and_true, true_or, or_true, and_self, reduceIte, Nat.reduceEqDiff, Nat.reduceLT, Nat.reduceLeDiff, Nat.reduceMul, false_and, and_false, reduceCtorEq, false_or, or_false, not_true_eq_false, not_false_eq_true, true_implies, false_implies, implies_true, lf_10, eq_self, Int32.reduceLT, Int32.reduceLE, Int32.reduceAdd, Int32.reduceSub, Int32.reduceDiv, Int32.reduceMul, pm_same, pm_i_wI, pm_l_wL, pm_l_wM, pm_oR_rf, pm_oQ_rf, sh_k5 hS, nI_1, sw_e, LQ1, LQ2]
  exact rd50_80 hS0 hd0 hd hb hj j 0 S x L (by omega) hr hl h
theorem rd50_72 (hS0 : Sh S0) (hd0 : dl S0 D W) {d : Nat} (hd : 7 ≤ d) {v u u2 : Value} {j : Nat} (hj : j ≤ 6) {q : Int32 → pm_S → Prop} {S : pm_S} {p : Nat} {L : gx_L} (hr : rs S0 D W n S p L) (hl : L.2.2.length + j ≤ p) (h1 : ∀ x e S', gx_test (gx_b (pm_i S0 6) n) p = (x, some e) → rs S0 D W n S' x (L.1, L.2.1, L.2.2 ++ (e ++ List.replicate j 8)) → q 1 S') (h0 : ∀ x e S', gx_test (gx_b (pm_i S0 6) n) p = (x, none) → rs S0 D W n S' x (L.1, L.2.1, L.2.2 ++ e) → e.length + p ≤ x + j → q 0 S') : pm_W G d 50 (pm_QI q) 72 [.ref 5, v, .int (nI j), u, u2] [] S 0 0 := by
  have hS := hr.sh hS0
  have hdl := hr.todl hd0
  have ht := hr.text hd0
  have hr3 := hr.2.2.1
  have hn := hr3.2.2.2.1
  have hpn := hr3.2.2.1
  have hr5 : pm_r S 5 3 = some D := hdl.1
  have hkD : pm_k S D = 5 := hdl.2.1
  have rB : gx_b (pm_i S 6) n = gx_b (pm_i S0 6) n := by rw [ht]
  have hok := gx_test_ok (B := gx_b (pm_i S0 6) n) gx_b_eof hpn
  refine pm_wb_ok pb_c50 1 72 0 _ _ _ _ _ ?_
  try simp only [pm_WI0, pm_WI1, pm_WI2, pm_WI3, pm_WI4, pm_WI5, pm_WV, pm_WW, pm_WX, pb_B50, pm_if, pm_QI_at, pm_QL_at, pm_QV_at, pm_QR_at, pm_QR_at0, pm_QR_at1, Nat.reduceSub, Nat.reduceAdd, List.replicate_zero, List.replicate_succ, true_and, and_true, true_or, or_true, and_self, reduceIte, Nat.reduceEqDiff, Nat.reduceLT, Nat.reduceLeDiff, Nat.reduceMul, false_and, and_false, reduceCtorEq, false_or, or_false, not_true_eq_false, not_false_eq_true, true_implies, false_implies, implies_true, lf_10, eq_self, Int32.reduceLT, Int32.reduceLE, Int32.reduceAdd, Int32.reduceSub, Int32.reduceDiv, Int32.reduceMul, pm_same, pm_i_wI, pm_l_wL, pm_l_wM, pm_oR_rf, pm_oQ_rf, sh_k5 hS, nI_1, sw_e, LQ1, LQ2]
  refine ⟨by omega, rd_51 (by omega) hS0 hd0 hr (by omega) (fun x e S' he hS' => ?_) (fun x S' he hS' => ?_)⟩
  · obtain ⟨a, b, c, dd, f⟩ := hok.2 x e he
    try simp only [pm_WV, pm_WW, true_and, and_true, true_or, or_true, and_self, reduceIte, Nat.reduceEqDiff, Nat.reduceLT, Nat.reduceLeDiff, Nat.reduceMul, false_and, and_false, reduceCtorEq, false_or, or_false, not_true_eq_false, not_false_eq_true, true_implies, false_implies, implies_true, lf_10, eq_self, Int32.reduceLT, Int32.reduceLE, Int32.reduceAdd, Int32.reduceSub, Int32.reduceDiv, Int32.reduceMul, pm_same, pm_i_wI, pm_l_wL, pm_l_wM, pm_oR_rf, pm_oQ_rf, sh_k5 hS, nI_1, sw_e, LQ1, LQ2, pm_WI0, pm_WI1, pm_WI2, pm_WI3, pm_WI4, pm_WI5, pm_WV, pm_WW, pm_WX, pb_B50, pm_if, pm_QI_at, pm_QL_at, pm_QV_at, pm_QR_at, pm_QR_at0, pm_QR_at1, Nat.reduceSub, Nat.reduceAdd, List.replicate_zero, List.replicate_succ]
    refine rd50_77 hS0 hd0 (by omega) (Or.inr rfl) hj hS' (by simp; omega) (fun S2 hS2 => h1 x e S2 he (hS2.L ?_))
    show (L.1, L.2.1, (L.2.2 ++ e) ++ List.replicate j 8) = _
    rw [List.append_assoc]
  · have := hok.1 x he
    try simp only [pm_WV, pm_WW, true_and, and_true, true_or, or_true, and_self, reduceIte, Nat.reduceEqDiff, Nat.reduceLT, Nat.reduceLeDiff, Nat.reduceMul, false_and, and_false, reduceCtorEq, false_or, or_false, not_true_eq_false, not_false_eq_true, true_implies, false_implies, implies_true, lf_10, eq_self, Int32.reduceLT, Int32.reduceLE, Int32.reduceAdd, Int32.reduceSub, Int32.reduceDiv, Int32.reduceMul, pm_same, pm_i_wI, pm_l_wL, pm_l_wM, pm_oR_rf, pm_oQ_rf, sh_k5 hS, nI_1, sw_e, LQ1, LQ2, pm_WI0, pm_WI1, pm_WI2, pm_WI3, pm_WI4, pm_WI5, pm_WV, pm_WW, pm_WX, pb_B50, pm_if, pm_QI_at, pm_QL_at, pm_QV_at, pm_QR_at, pm_QR_at0, pm_QR_at1, Nat.reduceSub, Nat.reduceAdd, List.replicate_zero, List.replicate_succ]
    exact rd50_77 hS0 hd0 (by omega) (Or.inl rfl) hj hS' (by omega) (fun S2 hS2 => h0 x _ S2 he hS2 (by simp; omega))
theorem rd50_25 (hS0 : Sh S0) (hd0 : dl S0 D W) {k : Nat} (hE : cEC G S0 D W n k) {d : Nat} (hd : 9 + 2 * k ≤ d) {u u2 : Value} {j wi : Nat} (hj : wi + j + (k + 1) = 6) {q : Int32 → pm_S → Prop} {S : pm_S} {p : Nat} {L : gx_L} (hr : rs S0 D W n S p L) (hl : L.2.2.length + j ≤ p) (y33 : ¬ gx_b (pm_i S0 6) n p = 33) (h1 : ∀ x e S', gx_F (gx_b (pm_i S0 6) n) 160 (k + 1) p = (x, some e) → rs S0 D W n S' x (L.1, L.2.1, L.2.2 ++ (e ++ List.replicate j 8)) → q 1 S') (h0 : ∀ x e S', gx_F (gx_b (pm_i S0 6) n) 160 (k + 1) p = (x, none) → rs S0 D W n S' x (L.1, L.2.1, L.2.2 ++ e) → e.length + p ≤ x + j → q 0 S') : pm_W G d 50 (pm_QI q) 25 [.ref 5, .int (nI wi), .int (nI j), u, u2] [] S 0 0 := by
  have hS := hr.sh hS0
  have hdl := hr.todl hd0
  have ht := hr.text hd0
  have hr3 := hr.2.2.1
  have hn := hr3.2.2.2.1
  have hpn := hr3.2.2.1
  have hr5 : pm_r S 5 3 = some D := hdl.1
  have hkD : pm_k S D = 5 := hdl.2.1
  have rB : gx_b (pm_i S 6) n = gx_b (pm_i S0 6) n := by rw [ht]
  have hle : ¬ (6 : Int32) ≤ nI (wi + j) := nI_ge (a := wi + j) (b := 6) (by omega) (by omega)
  have hwj : nI wi + nI j = nI (wi + j) := nI_add wi j
  have hwj1 : nI (wi + j) + 1 = nI (6 - k) := by rw [nI_1]; congr 1; omega
  refine pm_wb_ok pb_c50 1 25 0 _ _ _ _ _ ?_
  try simp only [pm_WI0, pm_WI1, pm_WI2, pm_WI3, pm_WI4, pm_WI5, pm_WV, pm_WW, pm_WX, pb_B50, pm_if, pm_QI_at, pm_QL_at, pm_QV_at, pm_QR_at, pm_QR_at0, pm_QR_at1, Nat.reduceSub, Nat.reduceAdd, List.replicate_zero, List.replicate_succ, true_and, and_true, true_or, or_true, and_self, reduceIte, Nat.reduceEqDiff, Nat.reduceLT, Nat.reduceLeDiff, Nat.reduceMul, false_and, and_false, reduceCtorEq, false_or, or_false, not_true_eq_false, not_false_eq_true, true_implies, false_implies, implies_true, lf_10, eq_self, Int32.reduceLT, Int32.reduceLE, Int32.reduceAdd, Int32.reduceSub, Int32.reduceDiv, Int32.reduceMul, pm_same, pm_i_wI, pm_l_wL, pm_l_wM, pm_oR_rf, pm_oQ_rf, sh_k5 hS, nI_1, sw_e, LQ1, LQ2, hwj, hle]
  refine ⟨by omega, rd_46 (c := 40) (n := n) hS hr3 (by omega) (fun y => ?_) (fun y => ?_)⟩ <;> rw [rB] at y
  · have hlt : p < n := gx_lt gx_b_eof y (by omega)
    have ec : gx_F (gx_b (pm_i S0 6) n) 160 (k + 1) p = gx_bd (gx_EE (gx_F (gx_b (pm_i S0 6) n) 160 k) (gx_b (pm_i S0 6) n) 160 (p + 1)) (fun s q => if gx_b (pm_i S0 6) n q = 41 then (q + 1, some s) else (q, none)) := by rw [gx_F, if_neg y33, if_pos y]
    have hr2 := hr.mv hd0 (q := p + 1) (by omega)
    have hr2s := hr2.sh hS0
    refine ⟨fun z => absurd z (by decide), fun _ => ?_⟩
    rw [show wi + j + 1 = 6 - k from by omega]
    refine ⟨by omega, sh_k5 hr2s, hE (d - 1) _ (p + 1) L _ (by omega) hr2 (by omega) (fun x e S' he hS' => ?_) (fun x e S' he hS' hle2 => ?_)⟩
    · have hok := (gx_EE_ok gx_b_eof (fun p hp => gx_F_ok gx_b_eof 160 k p hp) 160 (p := p + 1) (by omega)).2 x e he
      have hS2 := hS'.sh hS0
      have hrB2 : gx_b (pm_i S' 6) n = gx_b (pm_i S0 6) n := by rw [hS'.text hd0]
      rw [gx_bd_some he] at ec
      have hk5 : pm_k S' 5 = 6 := sh_k5 hS2
      try simp only [pm_WV, pm_WW, true_and, and_true, true_or, or_true, and_self, reduceIte, Nat.reduceEqDiff, Nat.reduceLT, Nat.reduceLeDiff, Nat.reduceMul, false_and, and_false, reduceCtorEq, false_or, or_false, not_true_eq_false, not_false_eq_true, true_implies, false_implies, implies_true, lf_10, eq_self, Int32.reduceLT, Int32.reduceLE, Int32.reduceAdd, Int32.reduceSub, Int32.reduceDiv, Int32.reduceMul, pm_same, pm_i_wI, pm_l_wL, pm_l_wM, pm_oR_rf, pm_oQ_rf, sh_k5 hS, nI_1, sw_e, LQ1, LQ2, pm_WI0, pm_WI1, pm_WI2, pm_WI3, pm_WI4, pm_WI5, pm_WV, pm_WW, pm_WX, pb_B50, pm_if, pm_QI_at, pm_QL_at, pm_QV_at, pm_QR_at, pm_QR_at0, pm_QR_at1, Nat.reduceSub, Nat.reduceAdd, List.replicate_zero, List.replicate_succ, hk5]
      refine ⟨by omega, rd_46 (c := 41) (n := n) hS2 hS'.2.2.1 (by omega) (fun y2 => ?_) (fun y2 => ?_)⟩ <;> rw [hrB2] at y2
      · have hlt2 : x < n := gx_lt gx_b_eof y2 (by omega)
        rw [if_pos y2] at ec
        try simp only [pm_WV, pm_WW, true_and, and_true, true_or, or_true, and_self, reduceIte, Nat.reduceEqDiff, Nat.reduceLT, Nat.reduceLeDiff, Nat.reduceMul, false_and, and_false, reduceCtorEq, false_or, or_false, not_true_eq_false, not_false_eq_true, true_implies, false_implies, implies_true, lf_10, eq_self, Int32.reduceLT, Int32.reduceLE, Int32.reduceAdd, Int32.reduceSub, Int32.reduceDiv, Int32.reduceMul, pm_same, pm_i_wI, pm_l_wL, pm_l_wM, pm_oR_rf, pm_oQ_rf, sh_k5 hS, nI_1, sw_e, LQ1, LQ2, pm_WI0, pm_WI1, pm_WI2, pm_WI3, pm_WI4, pm_WI5, pm_WV, pm_WW, pm_WX, pb_B50, pm_if, pm_QI_at, pm_QL_at, pm_QV_at, pm_QR_at, pm_QR_at0, pm_QR_at1, Nat.reduceSub, Nat.reduceAdd, List.replicate_zero, List.replicate_succ]
        refine pm_wb_ok pb_c50 1 68 0 _ _ _ _ _ ?_
        try simp only [pm_WI0, pm_WI1, pm_WI2, pm_WI3, pm_WI4, pm_WI5, pm_WV, pm_WW, pm_WX, pb_B50, pm_if, pm_QI_at, pm_QL_at, pm_QV_at, pm_QR_at, pm_QR_at0, pm_QR_at1, Nat.reduceSub, Nat.reduceAdd, List.replicate_zero, List.replicate_succ, true_and, and_true, true_or, or_true, and_self, reduceIte, Nat.reduceEqDiff, Nat.reduceLT, Nat.reduceLeDiff, Nat.reduceMul, false_and, and_false, reduceCtorEq, false_or, or_false, not_true_eq_false, not_false_eq_true, true_implies, false_implies, implies_true, lf_10, eq_self, Int32.reduceLT, Int32.reduceLE, Int32.reduceAdd, Int32.reduceSub, Int32.reduceDiv, Int32.reduceMul, pm_same, pm_i_wI, pm_l_wL, pm_l_wM, pm_oR_rf, pm_oQ_rf, sh_k5 hS, nI_1, sw_e, LQ1, LQ2]
        refine rd50_77 hS0 hd0 (by omega) (Or.inr rfl) (by omega) (hS'.mv hd0 (q := x + 1) (by omega)) (by simp; omega) (fun S2 hS2 => h1 (x + 1) e S2 ec (hS2.L ?_))
        show (L.1, L.2.1, (L.2.2 ++ e) ++ List.replicate j 8) = _
        rw [List.append_assoc]
      · rw [if_neg y2] at ec
        try simp only [pm_WV, pm_WW, true_and, and_true, true_or, or_true, and_self, reduceIte, Nat.reduceEqDiff, Nat.reduceLT, Nat.reduceLeDiff, Nat.reduceMul, false_and, and_false, reduceCtorEq, false_or, or_false, not_true_eq_false, not_false_eq_true, true_implies, false_implies, implies_true, lf_10, eq_self, Int32.reduceLT, Int32.reduceLE, Int32.reduceAdd, Int32.reduceSub, Int32.reduceDiv, Int32.reduceMul, pm_same, pm_i_wI, pm_l_wL, pm_l_wM, pm_oR_rf, pm_oQ_rf, sh_k5 hS, nI_1, sw_e, LQ1, LQ2, pm_WI0, pm_WI1, pm_WI2, pm_WI3, pm_WI4, pm_WI5, pm_WV, pm_WW, pm_WX, pb_B50, pm_if, pm_QI_at, pm_QL_at, pm_QV_at, pm_QR_at, pm_QR_at0, pm_QR_at1, Nat.reduceSub, Nat.reduceAdd, List.replicate_zero, List.replicate_succ]
        refine pm_wb_ok pb_c50 2 67 0 _ _ _ _ _ ?_
        try simp only [pm_WI0, pm_WI1, pm_WI2, pm_WI3, pm_WI4, pm_WI5, pm_WV, pm_WW, pm_WX, pb_B50, pm_if, pm_QI_at, pm_QL_at, pm_QV_at, pm_QR_at, pm_QR_at0, pm_QR_at1, Nat.reduceSub, Nat.reduceAdd, List.replicate_zero, List.replicate_succ, true_and, and_true, true_or, or_true, and_self, reduceIte, Nat.reduceEqDiff, Nat.reduceLT, Nat.reduceLeDiff, Nat.reduceMul, false_and, and_false, reduceCtorEq, false_or, or_false, not_true_eq_false, not_false_eq_true, true_implies, false_implies, implies_true, lf_10, eq_self, Int32.reduceLT, Int32.reduceLE, Int32.reduceAdd, Int32.reduceSub, Int32.reduceDiv, Int32.reduceMul, pm_same, pm_i_wI, pm_l_wL, pm_l_wM, pm_oR_rf, pm_oQ_rf, sh_k5 hS, nI_1, sw_e, LQ1, LQ2]
        refine rd50_77 hS0 hd0 (by omega) (Or.inl rfl) (by omega) hS' (by simp; omega) (fun S2 hS2 => h0 x (e ++ List.replicate j 8) S2 ec (hS2.L ?_) (by simp; omega))
        show (L.1, L.2.1, (L.2.2 ++ e) ++ List.replicate j 8) = _
        rw [List.append_assoc]
    · have hxn := ((gx_EE_ok gx_b_eof (fun p hp => gx_F_ok gx_b_eof 160 k p hp) 160 (p := p + 1) (by omega)).1 x he).2
      rw [gx_bd_none he] at ec
      try simp only [pm_WV, pm_WW, true_and, and_true, true_or, or_true, and_self, reduceIte, Nat.reduceEqDiff, Nat.reduceLT, Nat.reduceLeDiff, Nat.reduceMul, false_and, and_false, reduceCtorEq, false_or, or_false, not_true_eq_false, not_false_eq_true, true_implies, false_implies, implies_true, lf_10, eq_self, Int32.reduceLT, Int32.reduceLE, Int32.reduceAdd, Int32.reduceSub, Int32.reduceDiv, Int32.reduceMul, pm_same, pm_i_wI, pm_l_wL, pm_l_wM, pm_oR_rf, pm_oQ_rf, sh_k5 hS, nI_1, sw_e, LQ1, LQ2, pm_WI0, pm_WI1, pm_WI2, pm_WI3, pm_WI4, pm_WI5, pm_WV, pm_WW, pm_WX, pb_B50, pm_if, pm_QI_at, pm_QL_at, pm_QV_at, pm_QR_at, pm_QR_at0, pm_QR_at1, Nat.reduceSub, Nat.reduceAdd, List.replicate_zero, List.replicate_succ]
      refine pm_wb_ok pb_c50 2 67 0 _ _ _ _ _ ?_
      try simp only [pm_WI0, pm_WI1, pm_WI2, pm_WI3, pm_WI4, pm_WI5, pm_WV, pm_WW, pm_WX, pb_B50, pm_if, pm_QI_at, pm_QL_at, pm_QV_at, pm_QR_at, pm_QR_at0, pm_QR_at1, Nat.reduceSub, Nat.reduceAdd, List.replicate_zero, List.replicate_succ, true_and, and_true, true_or, or_true, and_self, reduceIte, Nat.reduceEqDiff, Nat.reduceLT, Nat.reduceLeDiff, Nat.reduceMul, false_and, and_false, reduceCtorEq, false_or, or_false, not_true_eq_false, not_false_eq_true, true_implies, false_implies, implies_true, lf_10, eq_self, Int32.reduceLT, Int32.reduceLE, Int32.reduceAdd, Int32.reduceSub, Int32.reduceDiv, Int32.reduceMul, pm_same, pm_i_wI, pm_l_wL, pm_l_wM, pm_oR_rf, pm_oQ_rf, sh_k5 hS, nI_1, sw_e, LQ1, LQ2]
      refine rd50_77 hS0 hd0 (by omega) (Or.inl rfl) (by omega) hS' (by simp; omega) (fun S2 hS2 => h0 x (e ++ List.replicate j 8) S2 ec (hS2.L ?_) (by simp; omega))
      show (L.1, L.2.1, (L.2.2 ++ e) ++ List.replicate j 8) = _
      rw [List.append_assoc]
  · have ec : gx_F (gx_b (pm_i S0 6) n) 160 (k + 1) p = gx_test (gx_b (pm_i S0 6) n) p := by rw [gx_F, if_neg y33, if_neg y]
    rw [ec] at h1 h0
    try simp only [pm_WV, pm_WW, true_and, and_true, true_or, or_true, and_self, reduceIte, Nat.reduceEqDiff, Nat.reduceLT, Nat.reduceLeDiff, Nat.reduceMul, false_and, and_false, reduceCtorEq, false_or, or_false, not_true_eq_false, not_false_eq_true, true_implies, false_implies, implies_true, lf_10, eq_self, Int32.reduceLT, Int32.reduceLE, Int32.reduceAdd, Int32.reduceSub, Int32.reduceDiv, Int32.reduceMul, pm_same, pm_i_wI, pm_l_wL, pm_l_wM, pm_oR_rf, pm_oQ_rf, sh_k5 hS, nI_1, sw_e, LQ1, LQ2, pm_WI0, pm_WI1, pm_WI2, pm_WI3, pm_WI4, pm_WI5, pm_WV, pm_WW, pm_WX, pb_B50, pm_if, pm_QI_at, pm_QL_at, pm_QV_at, pm_QR_at, pm_QR_at0, pm_QR_at1, Nat.reduceSub, Nat.reduceAdd, List.replicate_zero, List.replicate_succ]
    exact rd50_72 hS0 hd0 (by omega) (by omega) hr hl h1 h0
theorem rd50_2 (hS0 : Sh S0) (hd0 : dl S0 D W) {wi : Nat} : ∀ (k : Nat), (∀ k', k' < k → cEC G S0 D W n k') → ∀ (d j : Nat) (S : pm_S) (p : Nat) (L : gx_L) (q : Int32 → pm_S → Prop) (u u2 : Value), 7 + 2 * k ≤ d → wi + j + k = 6 → rs S0 D W n S p L → L.2.2.length + j ≤ p → (∀ x e S', gx_F (gx_b (pm_i S0 6) n) 160 k p = (x, some e) → rs S0 D W n S' x (L.1, L.2.1, L.2.2 ++ (e ++ List.replicate j 8)) → q 1 S') → (∀ x e S', gx_F (gx_b (pm_i S0 6) n) 160 k p = (x, none) → rs S0 D W n S' x (L.1, L.2.1, L.2.2 ++ e) → e.length + p ≤ x + j → q 0 S') → pm_W G d 50 (pm_QI q) 2 [.ref 5, .int (nI wi), .int (nI j), u, u2] [] S 0 0 := by
  intro k
  induction k with
  | zero =>
    intro _ d j S p L q u u2 hd hj hr hl h1 h0
    have hS := hr.sh hS0
    have hdl := hr.todl hd0
    have ht := hr.text hd0
    have hr3 := hr.2.2.1
    have hn := hr3.2.2.2.1
    have hpn := hr3.2.2.1
    have hr5 : pm_r S 5 3 = some D := hdl.1
    have hkD : pm_k S D = 5 := hdl.2.1
    have rB : gx_b (pm_i S 6) n = gx_b (pm_i S0 6) n := by rw [ht]
    have hle : (6 : Int32) ≤ nI (wi + j) := nI_le (a := 6) (b := wi + j) (by omega) (by omega)
    have hwj : nI wi + nI j = nI (wi + j) := nI_add wi j
    refine pm_wb_ok pb_c50 1 2 0 _ _ _ _ _ ?_
    try simp only [pm_WI0, pm_WI1, pm_WI2, pm_WI3, pm_WI4, pm_WI5, pm_WV, pm_WW, pm_WX, pb_B50, pm_if, pm_QI_at, pm_QL_at, pm_QV_at, pm_QR_at, pm_QR_at0, pm_QR_at1, Nat.reduceSub, Nat.reduceAdd, List.replicate_zero, List.replicate_succ, true_and, and_true, true_or, or_true, and_self, reduceIte, Nat.reduceEqDiff, Nat.reduceLT, Nat.reduceLeDiff, Nat.reduceMul, false_and, and_false, reduceCtorEq, false_or, or_false, not_true_eq_false, not_false_eq_true, true_implies, false_implies, implies_true, lf_10, eq_self, Int32.reduceLT, Int32.reduceLE, Int32.reduceAdd, Int32.reduceSub, Int32.reduceDiv, Int32.reduceMul, pm_same, pm_i_wI, pm_l_wL, pm_l_wM, pm_oR_rf, pm_oQ_rf, sh_k5 hS, nI_1, sw_e, LQ1, LQ2, hwj, hle]
    refine pm_wb_ok pb_c50 1 25 0 _ _ _ _ _ ?_
    try simp only [pm_WI0, pm_WI1, pm_WI2, pm_WI3, pm_WI4, pm_WI5, pm_WV, pm_WW, pm_WX, pb_B50, pm_if, pm_QI_at, pm_QL_at, pm_QV_at, pm_QR_at, pm_QR_at0, pm_QR_at1, Nat.reduceSub, Nat.reduceAdd, List.replicate_zero, List.replicate_succ, true_and, and_true, true_or, or_true, and_self, reduceIte, Nat.reduceEqDiff, Nat.reduceLT, Nat.reduceLeDiff, Nat.reduceMul, false_and, and_false, reduceCtorEq, false_or, or_false, not_true_eq_false, not_false_eq_true, true_implies, false_implies, implies_true, lf_10, eq_self, Int32.reduceLT, Int32.reduceLE, Int32.reduceAdd, Int32.reduceSub, Int32.reduceDiv, Int32.reduceMul, pm_same, pm_i_wI, pm_l_wL, pm_l_wM, pm_oR_rf, pm_oQ_rf, sh_k5 hS, nI_1, sw_e, LQ1, LQ2, hwj, hle]
    exact rd50_72 hS0 hd0 (by omega) (by omega) hr hl h1 h0
  | succ k ih =>
    intro hE d j S p L q u u2 hd hj hr hl h1 h0
    have hS := hr.sh hS0
    have hdl := hr.todl hd0
    have ht := hr.text hd0
    have hr3 := hr.2.2.1
    have hn := hr3.2.2.2.1
    have hpn := hr3.2.2.1
    have hr5 : pm_r S 5 3 = some D := hdl.1
    have hkD : pm_k S D = 5 := hdl.2.1
    have rB : gx_b (pm_i S 6) n = gx_b (pm_i S0 6) n := by rw [ht]
    have hle : ¬ (6 : Int32) ≤ nI (wi + j) := nI_ge (a := wi + j) (b := 6) (by omega) (by omega)
    have hwj : nI wi + nI j = nI (wi + j) := nI_add wi j
    refine pm_wb_ok pb_c50 1 2 0 _ _ _ _ _ ?_
    try simp only [pm_WI0, pm_WI1, pm_WI2, pm_WI3, pm_WI4, pm_WI5, pm_WV, pm_WW, pm_WX, pb_B50, pm_if, pm_QI_at, pm_QL_at, pm_QV_at, pm_QR_at, pm_QR_at0, pm_QR_at1, Nat.reduceSub, Nat.reduceAdd, List.replicate_zero, List.replicate_succ, true_and, and_true, true_or, or_true, and_self, reduceIte, Nat.reduceEqDiff, Nat.reduceLT, Nat.reduceLeDiff, Nat.reduceMul, false_and, and_false, reduceCtorEq, false_or, or_false, not_true_eq_false, not_false_eq_true, true_implies, false_implies, implies_true, lf_10, eq_self, Int32.reduceLT, Int32.reduceLE, Int32.reduceAdd, Int32.reduceSub, Int32.reduceDiv, Int32.reduceMul, pm_same, pm_i_wI, pm_l_wL, pm_l_wM, pm_oR_rf, pm_oQ_rf, sh_k5 hS, nI_1, sw_e, LQ1, LQ2, hwj, hle]
    refine ⟨by omega, rd_46 (c := 33) (n := n) hS hr3 (by omega) (fun y => ?_) (fun y => ?_)⟩ <;> rw [rB] at y
    · have hlt : p < n := gx_lt gx_b_eof y (by omega)
      have ec : gx_F (gx_b (pm_i S0 6) n) 160 (k + 1) p = gx_bd (gx_F (gx_b (pm_i S0 6) n) 160 k (p + 1)) (fun s q => (q, some (s ++ [8]))) := by rw [gx_F, if_pos y]
      have hr2 := hr.mv hd0 (q := p + 1) (by omega)
      try simp only [pm_WV, pm_WW, true_and, and_true, true_or, or_true, and_self, reduceIte, Nat.reduceEqDiff, Nat.reduceLT, Nat.reduceLeDiff, Nat.reduceMul, false_and, and_false, reduceCtorEq, false_or, or_false, not_true_eq_false, not_false_eq_true, true_implies, false_implies, implies_true, lf_10, eq_self, Int32.reduceLT, Int32.reduceLE, Int32.reduceAdd, Int32.reduceSub, Int32.reduceDiv, Int32.reduceMul, pm_same, pm_i_wI, pm_l_wL, pm_l_wM, pm_oR_rf, pm_oQ_rf, sh_k5 hS, nI_1, sw_e, LQ1, LQ2, pm_WI0, pm_WI1, pm_WI2, pm_WI3, pm_WI4, pm_WI5, pm_WV, pm_WW, pm_WX, pb_B50, pm_if, pm_QI_at, pm_QL_at, pm_QV_at, pm_QR_at, pm_QR_at0, pm_QR_at1, Nat.reduceSub, Nat.reduceAdd, List.replicate_zero, List.replicate_succ]
      refine ih (fun k' hk' => hE k' (by omega)) d (j + 1) _ (p + 1) L q u u2 (by omega) (by omega) hr2 (by omega) (fun x e S' he hS' => h1 x (e ++ [8]) S' (by rw [ec, gx_bd_some he]) (hS'.L ?_)) (fun x e S' he hS' hle2 => h0 x e S' (by rw [ec, gx_bd_none he]) hS' (by omega))
      rw [List.append_assoc e]; rfl
    · try simp only [pm_WV, pm_WW, true_and, and_true, true_or, or_true, and_self, reduceIte, Nat.reduceEqDiff, Nat.reduceLT, Nat.reduceLeDiff, Nat.reduceMul, false_and, and_false, reduceCtorEq, false_or, or_false, not_true_eq_false, not_false_eq_true, true_implies, false_implies, implies_true, lf_10, eq_self, Int32.reduceLT, Int32.reduceLE, Int32.reduceAdd, Int32.reduceSub, Int32.reduceDiv, Int32.reduceMul, pm_same, pm_i_wI, pm_l_wL, pm_l_wM, pm_oR_rf, pm_oQ_rf, sh_k5 hS, nI_1, sw_e, LQ1, LQ2, pm_WI0, pm_WI1, pm_WI2, pm_WI3, pm_WI4, pm_WI5, pm_WV, pm_WW, pm_WX, pb_B50, pm_if, pm_QI_at, pm_QL_at, pm_QV_at, pm_QR_at, pm_QR_at0, pm_QR_at1, Nat.reduceSub, Nat.reduceAdd, List.replicate_zero, List.replicate_succ]
      exact rd50_25 hS0 hd0 (hE k (by omega)) (by omega) (by omega) hr hl y h1 h0
theorem rd_50 (hS0 : Sh S0) (hd0 : dl S0 D W) {k : Nat} (hk : k ≤ 6) (hE : ∀ k', k' < k → cEC G S0 D W n k') : cFC G S0 D W n k := by
  intro d S p L q hd hr hl h1 h0
  have hS := hr.sh hS0
  have hdl := hr.todl hd0
  have ht := hr.text hd0
  have hr3 := hr.2.2.1
  have hn := hr3.2.2.2.1
  have hpn := hr3.2.2.1
  have hr5 : pm_r S 5 3 = some D := hdl.1
  have hkD : pm_k S D = 5 := hdl.2.1
  have rB : gx_b (pm_i S 6) n = gx_b (pm_i S0 6) n := by rw [ht]
  refine pm_goI 50 1 pb_c50 (by decide) (Nat.le_of_ble_eq_true rfl) rfl ?_
  try simp only [show pm_mL 50 = 5 from rfl, pm_WI0, pm_WI1, pm_WI2, pm_WI3, pm_WI4, pm_WI5, pm_WV, pm_WW, pm_WX, pb_B50, pm_if, pm_QI_at, pm_QL_at, pm_QV_at, pm_QR_at, pm_QR_at0, pm_QR_at1, Nat.reduceSub, Nat.reduceAdd, List.replicate_zero, List.replicate_succ, true_and, and_true, true_or, or_true, and_self, reduceIte, Nat.reduceEqDiff, Nat.reduceLT, Nat.reduceLeDiff, Nat.reduceMul, false_and, and_false, reduceCtorEq, false_or, or_false, not_true_eq_false, not_false_eq_true, true_implies, false_implies, implies_true, lf_10, eq_self, Int32.reduceLT, Int32.reduceLE, Int32.reduceAdd, Int32.reduceSub, Int32.reduceDiv, Int32.reduceMul, pm_same, pm_i_wI, pm_l_wL, pm_l_wM, pm_oR_rf, pm_oQ_rf, sh_k5 hS, nI_1, sw_e, LQ1, LQ2]
  refine rd50_2 hS0 hd0 (wi := 6 - k) k hE d 0 S p L q _ _ hd (by omega) hr (by omega) (fun x e S' he hS' => h1 x e S' he (hS'.L ?_)) (fun x e S' he hS' hle => h0 x e S' he hS' (by omega))
  simp
def oB (o : Option (List Nat)) : Int32 := match o with
  | none => 0
  | some _ => 1
def oN (o : Option (List Nat)) : Nat := match o with
  | none => 0
  | some _ => 1
theorem rd49_7 (hS0 : Sh S0) (hd0 : dl S0 D W) {k : Nat} (hF : cFC G S0 D W n k) {d : Nat} (hd : 8 + 2 * k ≤ d) {L : gx_L} {p0 : Nat} (hl : L.2.2.length ≤ p0) {q : Int32 → pm_S → Prop} : ∀ (m i p : Nat) (a o : Option (List Nat)) (gT gE : Nat) (S : pm_S), n + 1 - p < m → 2 * i ≤ p → n ≤ p + gT → n ≤ p + gE → n ≤ p + 160 → rs S0 D W n S p (L.1, L.2.1, L.2.2 ++ (o.getD [] ++ a.getD [])) → (o.getD [] ++ a.getD []).length + oN o + oN a + p0 ≤ p →
    (∀ x e S', gx_KA (gx_F (gx_b (pm_i S0 6) n) 160 k) (gx_b (pm_i S0 6) n) 160 gT gE a o p = (x, some e) → rs S0 D W n S' x (L.1, L.2.1, L.2.2 ++ e) → q 1 S') → (∀ x e S', gx_KA (gx_F (gx_b (pm_i S0 6) n) 160 k) (gx_b (pm_i S0 6) n) 160 gT gE a o p = (x, none) → rs S0 D W n S' x (L.1, L.2.1, L.2.2 ++ e) → e.length + p0 ≤ x → q 0 S') →
    pm_W G d 49 (pm_QI q) 7 [.ref 5, .int (nI (6 - k)), .int (oB a), .int (oB o), .int (nI i)] [] S 0 0 := by
  intro m
  induction m with
  | zero => intro i p a o gT gE S hm; omega
  | succ m ih =>
    intro i p a o gT gE S hm hi hT hE h160 hr hb h1 h0
    have hS := hr.sh hS0
    have hdl := hr.todl hd0
    have ht := hr.text hd0
    have hr3 := hr.2.2.1
    have hn := hr3.2.2.2.1
    have hpn := hr3.2.2.1
    have hr5 : pm_r S 5 3 = some D := hdl.1
    have hkD : pm_k S D = 5 := hdl.2.1
    have rB : gx_b (pm_i S 6) n = gx_b (pm_i S0 6) n := by rw [ht]
    have hle : ¬ (160 : Int32) ≤ nI i := nI_ge (a := i) (b := 160) (by omega) (by omega)
    have hok := gx_F_ok (B := gx_b (pm_i S0 6) n) gx_b_eof 160 k p hpn
    refine pm_wb_ok pb_c49 1 7 0 _ _ _ _ _ ?_
    try simp only [pm_WI0, pm_WI1, pm_WI2, pm_WI3, pm_WI4, pm_WI5, pm_WV, pm_WW, pm_WX, pb_B49, pm_if, pm_QI_at, pm_QL_at, pm_QV_at, pm_QR_at, pm_QR_at0, pm_QR_at1, Nat.reduceSub, Nat.reduceAdd, List.replicate_zero, List.replicate_succ, true_and, and_true, true_or, or_true, and_self, reduceIte, Nat.reduceEqDiff, Nat.reduceLT, Nat.reduceLeDiff, Nat.reduceMul, false_and, and_false, reduceCtorEq, false_or, or_false, not_true_eq_false, not_false_eq_true, true_implies, false_implies, implies_true, lf_10, eq_self, Int32.reduceLT, Int32.reduceLE, Int32.reduceAdd, Int32.reduceSub, Int32.reduceDiv, Int32.reduceMul, pm_same, pm_i_wI, pm_l_wL, pm_l_wM, pm_oR_rf, pm_oQ_rf, sh_k5 hS, nI_1, sw_e, LQ1, LQ2, hle]
    refine ⟨by omega, hF (d - 1) S p _ _ (by omega) hr (by show (L.2.2 ++ (o.getD [] ++ a.getD [])).length ≤ p; simp only [List.length_append] at hb ⊢; omega) (fun x s S1 he hr1 => ?_) (fun x s S1 he hr1 hle1 => ?_)⟩
    · obtain ⟨f1, f2, f3, f4, f5⟩ := hok.2 x s he
      have eKA : gx_KA (gx_F (gx_b (pm_i S0 6) n) 160 k) (gx_b (pm_i S0 6) n) 160 gT gE a o p = gx_KB (gx_F (gx_b (pm_i S0 6) n) 160 k) (gx_b (pm_i S0 6) n) 160 gT gE (gx_aj a s) o x := by unfold gx_KA; rw [gx_bd_some he]
      rw [eKA] at h1 h0
      -- behind the operator &
      have mid : ∀ S2, rs S0 D W n S2 x (L.1, L.2.1, L.2.2 ++ (o.getD [] ++ gx_aj a s)) → (o.getD [] ++ gx_aj a s).length + oN o + p0 ≤ x → pm_W G d 49 (pm_QI q) 40 [.ref 5, .int (nI (6 - k)), .int (oB a), .int (oB o), .int (nI i)] [] S2 0 0 := by
        intro S2 hr2 hb2
        have hS := hr2.sh hS0
        have hr3 := hr2.2.2.1
        have hdl := hr2.todl hd0
        have hr5 : pm_r S2 5 3 = some D := hdl.1
        have hkD : pm_k S2 D = 5 := hdl.2.1
        have rB : gx_b (pm_i S2 6) n = gx_b (pm_i S0 6) n := by rw [hr2.text hd0]
        obtain ⟨gT', rfl⟩ : ∃ g, gT = g + 1 := ⟨gT - 1, by omega⟩
        obtain ⟨gE', rfl⟩ : ∃ g, gE = g + 1 := ⟨gE - 1, by omega⟩
        refine pm_wb_ok pb_c49 1 40 0 _ _ _ _ _ ?_
        try simp only [pm_WI0, pm_WI1, pm_WI2, pm_WI3, pm_WI4, pm_WI5, pm_WV, pm_WW, pm_WX, pb_B49, pm_if, pm_QI_at, pm_QL_at, pm_QV_at, pm_QR_at, pm_QR_at0, pm_QR_at1, Nat.reduceSub, Nat.reduceAdd, List.replicate_zero, List.replicate_succ, true_and, and_true, true_or, or_true, and_self, reduceIte, Nat.reduceEqDiff, Nat.reduceLT, Nat.reduceLeDiff, Nat.reduceMul, false_and, and_false, reduceCtorEq, false_or, or_false, not_true_eq_false, not_false_eq_true, true_implies, false_implies, implies_true, lf_10, eq_self, Int32.reduceLT, Int32.reduceLE, Int32.reduceAdd, Int32.reduceSub, Int32.reduceDiv, Int32.reduceMul, pm_same, pm_i_wI, pm_l_wL, pm_l_wM, pm_oR_rf, pm_oQ_rf, sh_k5 hS, nI_1, sw_e, LQ1, LQ2, hr5, hkD]
        refine ⟨by omega, rd_46 (c := 38) (n := n) hS hr3 (by omega) (fun y => ?_) (fun y => ?_)⟩ <;> rw [rB] at y
        · have hlt : x < n := gx_lt gx_b_eof y (by omega)
          rw [gx_KB_and y] at h1 h0
          have hr4 := hr2.mv hd0 (q := x + 1) (by omega)
          have nx := ih (i + 1) (x + 1) (some (gx_aj a s)) o gT' (gE' + 1) _ (by omega) (by omega) (by omega) (by omega) (by omega) hr4 (by show (o.getD [] ++ gx_aj a s).length + oN o + 1 + p0 ≤ x + 1; omega) h1 h0
          have hoB : oB (some (gx_aj a s)) = 1 := rfl
          rw [hoB] at nx
          try simp only [pm_WV, pm_WW, true_and, and_true, true_or, or_true, and_self, reduceIte, Nat.reduceEqDiff, Nat.reduceLT, Nat.reduceLeDiff, Nat.reduceMul, false_and, and_false, reduceCtorEq, false_or, or_false, not_true_eq_false, not_false_eq_true, true_implies, false_implies, implies_true, lf_10, eq_self, Int32.reduceLT, Int32.reduceLE, Int32.reduceAdd, Int32.reduceSub, Int32.reduceDiv, Int32.reduceMul, pm_same, pm_i_wI, pm_l_wL, pm_l_wM, pm_oR_rf, pm_oQ_rf, sh_k5 hS, nI_1, sw_e, LQ1, LQ2, pm_WI0, pm_WI1, pm_WI2, pm_WI3, pm_WI4, pm_WI5, pm_WV, pm_WW, pm_WX, pb_B49, pm_if, pm_QI_at, pm_QL_at, pm_QV_at, pm_QR_at, pm_QR_at0, pm_QR_at1, Nat.reduceSub, Nat.reduceAdd, List.replicate_zero, List.replicate_succ]
          first | exact nx | skip
          try refine pm_wb_ok pb_c49 1 79 0 _ _ _ _ _ ?_
          try simp only [pm_WI0, pm_WI1, pm_WI2, pm_WI3, pm_WI4, pm_WI5, pm_WV, pm_WW, pm_WX, pb_B49, pm_if, pm_QI_at, pm_QL_at, pm_QV_at, pm_QR_at, pm_QR_at0, pm_QR_at1, Nat.reduceSub, Nat.reduceAdd, List.replicate_zero, List.replicate_succ, true_and, and_true, true_or, or_true, and_self, reduceIte, Nat.reduceEqDiff, Nat.reduceLT, Nat.reduceLeDiff, Nat.reduceMul, false_and, and_false, reduceCtorEq, false_or, or_false, not_true_eq_false, not_false_eq_true, true_implies, false_implies, implies_true, lf_10, eq_self, Int32.reduceLT, Int32.reduceLE, Int32.reduceAdd, Int32.reduceSub, Int32.reduceDiv, Int32.reduceMul, pm_same, pm_i_wI, pm_l_wL, pm_l_wM, pm_oR_rf, pm_oQ_rf, sh_k5 hS, nI_1, sw_e, LQ1, LQ2]
          try exact nx
        · -- no &: the pending | first
          have oj : rs S0 D W n S2 x (L.1, L.2.1, L.2.2 ++ (o.getD [] ++ gx_aj a s)) → ∀ S3, rs S0 D W n S3 x (L.1, L.2.1, L.2.2 ++ gx_oj o (gx_aj a s)) → pm_W G d 49 (pm_QI q) 66 [.ref 5, .int (nI (6 - k)), .int 0, .int (oB o), .int (nI i)] [] S3 0 0 := by
            intro _ S3 hr3'
            have hS := hr3'.sh hS0
            have hr3 := hr3'.2.2.1
            have rB : gx_b (pm_i S3 6) n = gx_b (pm_i S0 6) n := by rw [hr3'.text hd0]
            have hoj : (gx_oj o (gx_aj a s)).length + p0 ≤ x := by
              cases o with
              | none => simp only [gx_oj, Option.getD, List.nil_append, oN] at hb2 ⊢; omega
              | some u => simp only [gx_oj, Option.getD, List.length_append, List.length_singleton, oN] at hb2 ⊢; omega
            refine pm_wb_ok pb_c49 1 66 0 _ _ _ _ _ ?_
            try simp only [pm_WI0, pm_WI1, pm_WI2, pm_WI3, pm_WI4, pm_WI5, pm_WV, pm_WW, pm_WX, pb_B49, pm_if, pm_QI_at, pm_QL_at, pm_QV_at, pm_QR_at, pm_QR_at0, pm_QR_at1, Nat.reduceSub, Nat.reduceAdd, List.replicate_zero, List.replicate_succ, true_and, and_true, true_or, or_true, and_self, reduceIte, Nat.reduceEqDiff, Nat.reduceLT, Nat.reduceLeDiff, Nat.reduceMul, false_and, and_false, reduceCtorEq, false_or, or_false, not_true_eq_false, not_false_eq_true, true_implies, false_implies, implies_true, lf_10, eq_self, Int32.reduceLT, Int32.reduceLE, Int32.reduceAdd, Int32.reduceSub, Int32.reduceDiv, Int32.reduceMul, pm_same, pm_i_wI, pm_l_wL, pm_l_wM, pm_oR_rf, pm_oQ_rf, sh_k5 hS, nI_1, sw_e, LQ1, LQ2]
            refine ⟨by omega, rd_46 (c := 124) (n := n) hS hr3 (by omega) (fun y2 => ?_) (fun y2 => ?_)⟩ <;> rw [rB] at y2
            · have hlt : x < n := gx_lt gx_b_eof y2 (by omega)
              rw [gx_KB_or y y2] at h1 h0
              have hr4 := hr3'.mv hd0 (q := x + 1) (by omega)
              have nx := ih (i + 1) (x + 1) none (some (gx_oj o (gx_aj a s))) 160 gE' _ (by omega) (by omega) (by omega) (by omega) (by omega) (hr4.L (by simp)) (by show (gx_oj o (gx_aj a s) ++ []).length + 1 + 0 + p0 ≤ x + 1; rw [List.append_nil]; omega) h1 h0
              have hoB1 : oB none = 0 := rfl
              have hoB2 : oB (some (gx_oj o (gx_aj a s))) = 1 := rfl
              rw [hoB1, hoB2] at nx
              try simp only [pm_WV, pm_WW, true_and, and_true, true_or, or_true, and_self, reduceIte, Nat.reduceEqDiff, Nat.reduceLT, Nat.reduceLeDiff, Nat.reduceMul, false_and, and_false, reduceCtorEq, false_or, or_false, not_true_eq_false, not_false_eq_true, true_implies, false_implies, implies_true, lf_10, eq_self, Int32.reduceLT, Int32.reduceLE, Int32.reduceAdd, Int32.reduceSub, Int32.reduceDiv, Int32.reduceMul, pm_same, pm_i_wI, pm_l_wL, pm_l_wM, pm_oR_rf, pm_oQ_rf, sh_k5 hS, nI_1, sw_e, LQ1, LQ2, pm_WI0, pm_WI1, pm_WI2, pm_WI3, pm_WI4, pm_WI5, pm_WV, pm_WW, pm_WX, pb_B49, pm_if, pm_QI_at, pm_QL_at, pm_QV_at, pm_QR_at, pm_QR_at0, pm_QR_at1, Nat.reduceSub, Nat.reduceAdd, List.replicate_zero, List.replicate_succ]
              first | exact nx | skip
              try refine pm_wb_ok pb_c49 1 79 0 _ _ _ _ _ ?_
              try simp only [pm_WI0, pm_WI1, pm_WI2, pm_WI3, pm_WI4, pm_WI5, pm_WV, pm_WW, pm_WX, pb_B49, pm_if, pm_QI_at, pm_QL_at, pm_QV_at, pm_QR_at, pm_QR_at0, pm_QR_at1, Nat.reduceSub, Nat.reduceAdd, List.replicate_zero, List.replicate_succ, true_and, and_true, true_or, or_true, and_self, reduceIte, Nat.reduceEqDiff, Nat.reduceLT, Nat.reduceLeDiff, Nat.reduceMul, false_and, and_false, reduceCtorEq, false_or, or_false, not_true_eq_false, not_false_eq_true, true_implies, false_implies, implies_true, lf_10, eq_self, Int32.reduceLT, Int32.reduceLE, Int32.reduceAdd, Int32.reduceSub, Int32.reduceDiv, Int32.reduceMul, pm_same, pm_i_wI, pm_l_wL, pm_l_wM, pm_oR_rf, pm_oQ_rf, sh_k5 hS, nI_1, sw_e, LQ1, LQ2]
              try exact nx
            · rw [gx_KB_end y y2] at h1
              try simp only [pm_WV, pm_WW, true_and, and_true, true_or, or_true, and_self, reduceIte, Nat.reduceEqDiff, Nat.reduceLT, Nat.reduceLeDiff, Nat.reduceMul, false_and, and_false, reduceCtorEq, false_or, or_false, not_true_eq_false, not_false_eq_true, true_implies, false_implies, implies_true, lf_10, eq_self, Int32.reduceLT, Int32.reduceLE, Int32.reduceAdd, Int32.reduceSub, Int32.reduceDiv, Int32.reduceMul, pm_same, pm_i_wI, pm_l_wL, pm_l_wM, pm_oR_rf, pm_oQ_rf, sh_k5 hS, nI_1, sw_e, LQ1, LQ2, pm_WI0, pm_WI1, pm_WI2, pm_WI3, pm_WI4, pm_WI5, pm_WV, pm_WW, pm_WX, pb_B49, pm_if, pm_QI_at, pm_QL_at, pm_QV_at, pm_QR_at, pm_QR_at0, pm_QR_at1, Nat.reduceSub, Nat.reduceAdd, List.replicate_zero, List.replicate_succ]
              exact h1 x _ S3 rfl hr3'
          cases o with
          | none =>
            have hoB : oB none = 0 := rfl
            rw [hoB] at oj ⊢
            try simp only [pm_WV, pm_WW, true_and, and_true, true_or, or_true, and_self, reduceIte, Nat.reduceEqDiff, Nat.reduceLT, Nat.reduceLeDiff, Nat.reduceMul, false_and, and_false, reduceCtorEq, false_or, or_false, not_true_eq_false, not_false_eq_true, true_implies, false_implies, implies_true, lf_10, eq_self, Int32.reduceLT, Int32.reduceLE, Int32.reduceAdd, Int32.reduceSub, Int32.reduceDiv, Int32.reduceMul, pm_same, pm_i_wI, pm_l_wL, pm_l_wM, pm_oR_rf, pm_oQ_rf, sh_k5 hS, nI_1, sw_e, LQ1, LQ2, pm_WI0, pm_WI1, pm_WI2, pm_WI3, pm_WI4, pm_WI5, pm_WV, pm_WW, pm_WX, pb_B49, pm_if, pm_QI_at, pm_QL_at, pm_QV_at, pm_QR_at, pm_QR_at0, pm_QR_at1, Nat.reduceSub, Nat.reduceAdd, List.replicate_zero, List.replicate_succ]
            exact oj hr2 S2 (hr2.L (by simp [gx_oj]))
          | some u =>
            have hoB : oB (some u) = 1 := rfl
            rw [hoB] at oj ⊢
            try simp only [pm_WV, pm_WW, true_and, and_true, true_or, or_true, and_self, reduceIte, Nat.reduceEqDiff, Nat.reduceLT, Nat.reduceLeDiff, Nat.reduceMul, false_and, and_false, reduceCtorEq, false_or, or_false, not_true_eq_false, not_false_eq_true, true_implies, false_implies, implies_true, lf_10, eq_self, Int32.reduceLT, Int32.reduceLE, Int32.reduceAdd, Int32.reduceSub, Int32.reduceDiv, Int32.reduceMul, pm_same, pm_i_wI, pm_l_wL, pm_l_wM, pm_oR_rf, pm_oQ_rf, sh_k5 hS, nI_1, sw_e, LQ1, LQ2, pm_WI0, pm_WI1, pm_WI2, pm_WI3, pm_WI4, pm_WI5, pm_WV, pm_WW, pm_WX, pb_B49, pm_if, pm_QI_at, pm_QL_at, pm_QV_at, pm_QR_at, pm_QR_at0, pm_QR_at1, Nat.reduceSub, Nat.reduceAdd, List.replicate_zero, List.replicate_succ, hr5, hkD]
            have hl3 : (L.2.2 ++ ((some u).getD [] ++ gx_aj a s)).length < 160 := by
              try simp only [List.length_append, oN] at hb2 ⊢; omega
            refine ⟨by omega, rd_38 (k := 10) (s := 0) (m := 0) hd0 hr2 hl3 (by omega) (by omega) (by omega) (fun S3 hr4 => oj hr2 S3 (hr4.L ?_))⟩
            show (L.1, L.2.1, (L.2.2 ++ (u ++ gx_aj a s)) ++ [gx_st 10 0 0]) = (L.1, L.2.1, L.2.2 ++ (u ++ (gx_aj a s ++ [10])))
            simp [gx_st]
      have hS1 := hr1.sh hS0
      have hdl1 := hr1.todl hd0
      have hr51 : pm_r S1 5 3 = some D := hdl1.1
      have hkD1 : pm_k S1 D = 5 := hdl1.2.1
      have hk51 : pm_k S1 5 = 6 := sh_k5 hS1
      cases a with
      | none =>
        have hoB : oB none = 0 := rfl
        rw [hoB] at mid ⊢
        refine ⟨fun z => absurd z (by decide), fun _ => ?_⟩
        refine pm_wb_ok pb_c49 1 25 0 _ _ _ _ _ ?_
        try simp only [pm_WI0, pm_WI1, pm_WI2, pm_WI3, pm_WI4, pm_WI5, pm_WV, pm_WW, pm_WX, pb_B49, pm_if, pm_QI_at, pm_QL_at, pm_QV_at, pm_QR_at, pm_QR_at0, pm_QR_at1, Nat.reduceSub, Nat.reduceAdd, List.replicate_zero, List.replicate_succ, true_and, and_true, true_or, or_true, and_self, reduceIte, Nat.reduceEqDiff, Nat.reduceLT, Nat.reduceLeDiff, Nat.reduceMul, false_and, and_false, reduceCtorEq, false_or, or_false, not_true_eq_false, not_false_eq_true, true_implies, false_implies, implies_true, lf_10, eq_self, Int32.reduceLT, Int32.reduceLE, Int32.reduceAdd, Int32.reduceSub, Int32.reduceDiv, Int32.reduceMul, pm_same, pm_i_wI, pm_l_wL, pm_l_wM, pm_oR_rf, pm_oQ_rf, sh_k5 hS, nI_1, sw_e, LQ1, LQ2, hr51, hkD1, hk51]
        refine mid S1 (hr1.L ?_) ?_
        · show (L.1, L.2.1, (L.2.2 ++ (o.getD [] ++ [])) ++ s) = (L.1, L.2.1, L.2.2 ++ (o.getD [] ++ s))
          simp
        · show (o.getD [] ++ s).length + oN o + p0 ≤ x
          try simp only [Option.getD, List.append_nil, List.length_append, oN] at hb ⊢; omega
      | some t =>
        have hoB : oB (some t) = 1 := rfl
        rw [hoB] at mid ⊢
        refine ⟨fun z => absurd z (by decide), fun _ => ?_⟩
        refine pm_wb_ok pb_c49 1 25 0 _ _ _ _ _ ?_
        try simp only [pm_WI0, pm_WI1, pm_WI2, pm_WI3, pm_WI4, pm_WI5, pm_WV, pm_WW, pm_WX, pb_B49, pm_if, pm_QI_at, pm_QL_at, pm_QV_at, pm_QR_at, pm_QR_at0, pm_QR_at1, Nat.reduceSub, Nat.reduceAdd, List.replicate_zero, List.replicate_succ, true_and, and_true, true_or, or_true, and_self, reduceIte, Nat.reduceEqDiff, Nat.reduceLT, Nat.reduceLeDiff, Nat.reduceMul, false_and, and_false, reduceCtorEq, false_or, or_false, not_true_eq_false, not_false_eq_true, true_implies, false_implies, implies_true, lf_10, eq_self, Int32.reduceLT, Int32.reduceLE, Int32.reduceAdd, Int32.reduceSub, Int32.reduceDiv, Int32.reduceMul, pm_same, pm_i_wI, pm_l_wL, pm_l_wM, pm_oR_rf, pm_oQ_rf, sh_k5 hS, nI_1, sw_e, LQ1, LQ2, hr51, hkD1, hk51]
        have hl3 : (L.2.2 ++ (o.getD [] ++ (some t).getD []) ++ s).length < 160 := by
          try simp only [List.length_append, oN] at hb ⊢; omega
        refine ⟨by omega, rd_38 (k := 9) (s := 0) (m := 0) hd0 hr1 hl3 (by omega) (by omega) (by omega) (fun S3 hr4 => mid S3 (hr4.L ?_) ?_)⟩
        · show (L.1, L.2.1, (L.2.2 ++ (o.getD [] ++ t) ++ s) ++ [gx_st 9 0 0]) = (L.1, L.2.1, L.2.2 ++ (o.getD [] ++ (t ++ (s ++ [9]))))
          simp [gx_st]
        · show (o.getD [] ++ (t ++ (s ++ [9]))).length + oN o + p0 ≤ x
          try simp only [Option.getD, List.length_append, List.length_singleton, oN] at hb ⊢; omega
    · have eKA : gx_KA (gx_F (gx_b (pm_i S0 6) n) 160 k) (gx_b (pm_i S0 6) n) 160 gT gE a o p = (x, none) := by unfold gx_KA; rw [gx_bd_none he]
      try simp only [pm_WV, pm_WW, true_and, and_true, true_or, or_true, and_self, reduceIte, Nat.reduceEqDiff, Nat.reduceLT, Nat.reduceLeDiff, Nat.reduceMul, false_and, and_false, reduceCtorEq, false_or, or_false, not_true_eq_false, not_false_eq_true, true_implies, false_implies, implies_true, lf_10, eq_self, Int32.reduceLT, Int32.reduceLE, Int32.reduceAdd, Int32.reduceSub, Int32.reduceDiv, Int32.reduceMul, pm_same, pm_i_wI, pm_l_wL, pm_l_wM, pm_oR_rf, pm_oQ_rf, sh_k5 hS, nI_1, sw_e, LQ1, LQ2, pm_WI0, pm_WI1, pm_WI2, pm_WI3, pm_WI4, pm_WI5, pm_WV, pm_WW, pm_WX, pb_B49, pm_if, pm_QI_at, pm_QL_at, pm_QV_at, pm_QR_at, pm_QR_at0, pm_QR_at1, Nat.reduceSub, Nat.reduceAdd, List.replicate_zero, List.replicate_succ]
      refine h0 x ((o.getD [] ++ a.getD []) ++ s) S1 eKA (hr1.L ?_) ?_
      · show (L.1, L.2.1, (L.2.2 ++ (o.getD [] ++ a.getD [])) ++ s) = _
        rw [List.append_assoc]
      · rw [List.length_append]; omega
theorem rd_49 (hS0 : Sh S0) (hd0 : dl S0 D W) {k : Nat} (hF : cFC G S0 D W n k) : cEC G S0 D W n k := by
  intro d S p L q hd hr hl h1 h0
  have hS := hr.sh hS0
  have hdl := hr.todl hd0
  have ht := hr.text hd0
  have hr3 := hr.2.2.1
  have hn := hr3.2.2.2.1
  have hpn := hr3.2.2.1
  have hr5 : pm_r S 5 3 = some D := hdl.1
  have hkD : pm_k S D = 5 := hdl.2.1
  have rB : gx_b (pm_i S 6) n = gx_b (pm_i S0 6) n := by rw [ht]
  refine pm_goI 49 1 pb_c49 (by decide) (Nat.le_of_ble_eq_true rfl) rfl ?_
  try simp only [show pm_mL 49 = 5 from rfl, pm_WI0, pm_WI1, pm_WI2, pm_WI3, pm_WI4, pm_WI5, pm_WV, pm_WW, pm_WX, pb_B49, pm_if, pm_QI_at, pm_QL_at, pm_QV_at, pm_QR_at, pm_QR_at0, pm_QR_at1, Nat.reduceSub, Nat.reduceAdd, List.replicate_zero, List.replicate_succ, true_and, and_true, true_or, or_true, and_self, reduceIte, Nat.reduceEqDiff, Nat.reduceLT, Nat.reduceLeDiff, Nat.reduceMul, false_and, and_false, reduceCtorEq, false_or, or_false, not_true_eq_false, not_false_eq_true, true_implies, false_implies, implies_true, lf_10, eq_self, Int32.reduceLT, Int32.reduceLE, Int32.reduceAdd, Int32.reduceSub, Int32.reduceDiv, Int32.reduceMul, pm_same, pm_i_wI, pm_l_wL, pm_l_wM, pm_oR_rf, pm_oQ_rf, sh_k5 hS, nI_1, sw_e, LQ1, LQ2]
  refine rd49_7 hS0 hd0 hF hd (L := L) (p0 := p) hl (n + 2 - p) 0 p none none 160 160 S (by omega) (by omega) (by omega) (by omega) (by omega) (hr.L (by simp)) (by simp [oN]) (fun x e S' he hS' => h1 x e S' (by show gx_EE _ _ 160 p = _; rw [gx_KA_0]; exact he) hS') (fun x e S' he hS' hle => h0 x e S' (by show gx_EE _ _ 160 p = _; rw [gx_KA_0]; exact he) hS' hle)
theorem rd_allE (hS0 : Sh S0) (hd0 : dl S0 D W) : ∀ k, k ≤ 6 → cEC G S0 D W n k := by
  intro k
  induction k using Nat.strongRecOn with
  | ind k ih => intro hk; exact rd_49 hS0 hd0 (rd_50 hS0 hd0 hk (fun k' hk' => ih k' hk' (by omega)))
/-- the class reads an E -/
theorem rd_e (hS0 : Sh S0) (hd0 : dl S0 D W) {d : Nat} (hd : 20 ≤ d) {S : pm_S} {p : Nat} {L : gx_L} {q : Int32 → pm_S → Prop} (hr : rs S0 D W n S p L) (hl : L.2.2.length ≤ p) (h1 : ∀ x e S', gx_e (gx_b (pm_i S0 6) n) p = (x, some e) → rs S0 D W n S' x (L.1, L.2.1, L.2.2 ++ e) → q 1 S') (h0 : ∀ x e S', gx_e (gx_b (pm_i S0 6) n) p = (x, none) → rs S0 D W n S' x (L.1, L.2.1, L.2.2 ++ e) → e.length + p ≤ x → q 0 S') : pm_CI G d 49 [.ref 5, .int 0] S q :=
  rd_allE hS0 hd0 6 (by omega) d S p L q (by omega) hr hl h1 h0
end CRD
