/-! LAWS of the class -/
theorem iv_Law.c31 {A : iv_A} {S : pm_S} (h : iv_Law A S) : iv_c S 31 ≤ 12 ∧ pm_i S 59 31 = nI (iv_c S 31) := ⟨iv_le (n := 12) 12 h.2.1.2 (by decide), iv_nn h.2.1.1⟩
def lwp (A : iv_A) (o : Option Nat) : Nat := match o with
  | none => 16
  | some i => iv_l A i
def lww (A : iv_A) (o : Option Nat) (q : Nat) : Nat := match o with
  | none => 17 + q
  | some i => iv_w A i q
def lwc (S : pm_S) (p : Nat) (wq : Nat → Nat) : Prop := pm_k S p = 5 ∧ ∀ q, q < 6 → pm_r S p (iv_lf q) = some (wq q) ∧ pm_k S (wq q) = 20 ∧ pm_z S (wq q) = (if q = 5 then 160 else 10)
theorem lw_ok {A : iv_A} {S : pm_S} (hS : Sh S) (hL : iv_Law A S) {o : Option Nat} (ho : ∀ i, o = some i → i < iv_c S 31) : lwc S (lwp A o) (lww A o) ∧ iv_lrep S (lwp A o) (lww A o) (lawL S o) := by
  cases o with
  | none =>
    refine ⟨⟨sh_k16 hS, fun q hq => ?_⟩, hL.2.2.2.2.2⟩
    match q, hq with
    | 0, _ => exact ⟨sh_r16_3 hS, sh_k17 hS, sh_z17 hS⟩
    | 1, _ => exact ⟨sh_r16_4 hS, sh_k18 hS, sh_z18 hS⟩
    | 2, _ => exact ⟨sh_r16_5 hS, sh_k19 hS, sh_z19 hS⟩
    | 3, _ => exact ⟨sh_r16_6 hS, sh_k20 hS, sh_z20 hS⟩
    | 4, _ => exact ⟨sh_r16_7 hS, sh_k21 hS, sh_z21 hS⟩
    | 5, _ => exact ⟨sh_r16_17 hS, sh_k22 hS, sh_z22 hS⟩
  | some i =>
    have hi := ho i rfl
    obtain ⟨c1, c2, c3, c4, c5⟩ := hL.2.2.1 i (Nat.le_of_lt hi)
    obtain ⟨d1, d2, d3, d4, d5, d6, d7, p, L, d8, d9⟩ := hL.2.2.2.1 i hi
    refine ⟨⟨c3, fun q hq => ⟨(c5 q hq).1, (c5 q hq).2.2.2.1, (c5 q hq).2.2.2.2.1⟩⟩, ?_⟩
    have e2 : lawL S (some i) = L := by unfold lawL; simp only [d8]; rfl
    rw [e2]; exact d9
theorem lw_lst {S : pm_S} {p : Nat} {wq : Nat → Nat} {L : gx_L} {t : Nat → Bool} {c n : Nat} (hc : lwc S p wq) (hr : iv_lrep S p wq L) (hw : gx_wf t L c n) : lst S p (wq 5) L.2.2 := by
  obtain ⟨k1, k2⟩ := hc
  obtain ⟨l1, l2, l3, l4, l5, l6, l7⟩ := hr
  have h5 := k2 5 (by omega)
  exact ⟨k1, h5.1, h5.2.1, h5.2.2, l4, hw.2.2.2.2.2, l7⟩
theorem lf_4 {G : pm_G} {d : Nat} {A : iv_A} {S : pm_S} {b k : Int32} {q : Int32 → pm_S → Prop} (hS : Sh S) (hL : iv_Law A S) (h : q (oI (lwo S b k)) S) : pm_CI G d 4 [.ref 14, .int b, .int k] S q := by
  unfold lwo at h
  obtain ⟨n12, hn59⟩ := hL.c31
  have hn : pm_i S 14 2 = nI (iv_c S 31) := by rw [hL.1]; exact hn59
  have rows : ∀ i, i < iv_c S 31 → pm_r S 15 i = some (iv_l A i) ∧ pm_k S (iv_l A i) = 5 ∧ pm_i S (iv_l A i) 0 = pm_i S 83 i ∧ pm_i S (iv_l A i) 1 = pm_i S 84 i := fun i hi => ⟨(hL.2.2.2.1 i hi).1, (hL.2.2.1 i (Nat.le_of_lt hi)).2.2.1, (hL.2.2.2.1 i hi).2.1, (hL.2.2.2.1 i hi).2.2.1⟩
  generalize iv_c S 31 = n at *
  refine pm_goI 4 40 pb_c4 (by decide) (Nat.le_of_ble_eq_true rfl) rfl ?_
  try simp only [show pm_mL 4 = 6 from rfl, pm_WI0, pm_WI1, pm_WI2, pm_WI3, pm_WI4, pm_WI5, pm_WV, pm_WW, pm_WX, pb_B4, pm_if, pm_QI_at, pm_QL_at, pm_QV_at, pm_QR_at, pm_QR_at0, pm_QR_at1, Nat.reduceSub, Nat.reduceAdd, List.replicate_zero, List.replicate_succ, true_and, and_true, true_or, or_true, and_self, reduceIte, Nat.reduceEqDiff, Nat.reduceLT, Nat.reduceLeDiff, Nat.reduceMul, false_and, and_false, reduceCtorEq, false_or, or_false, not_true_eq_false, not_false_eq_true, true_implies, false_implies, implies_true, lf_10, eq_self, Int32.reduceLT, Int32.reduceLE, Int32.reduceAdd, Int32.reduceSub, pm_same, pm_i_wI, pm_l_wL, pm_l_wM, pm_oR_rf, pm_oQ_rf, nI_1, sw_e, LQ1, LQ2, sh_k14 hS, sh_r14_1 hS, sh_k15 hS, sh_z15 hS]
  refine pv_W (pv_loopR (fun i => [.ref 14, .int b, .int k, .int (oI (ac_f (fun l => decide (pm_i S 83 l = b ∧ ¬ k < pm_i S 84 l)) (ac_bt (pm_i S 84) true) (List.range i) none)), .int (nI i), .float 0]) n (fun i hi hk => ?_) ?_) (by simp [pv_le, pm_unk, ac_f, oI]; first | done | rfl | exact ⟨rfl, rfl⟩)
  · have hc := nI_clamp (n := i) (by omega)
    have hle : ¬ nI n ≤ nI i := nI_ge hi (by omega)
    have hvi := vp_in_nI (n := i) (N := 12) (by omega) (by decide)
    have hb : ∀ b', ac_f (fun l => decide (pm_i S 83 l = b ∧ ¬ k < pm_i S 84 l)) (ac_bt (pm_i S 84) true) (List.range i) none = some b' → b' < i := fun b' e => ac_f_lt e
    try simp only [ac_f_succ] at hk
    revert hk hb
    generalize ac_f (fun l => decide (pm_i S 83 l = b ∧ ¬ k < pm_i S 84 l)) (ac_bt (pm_i S 84) true) (List.range i) none = acc
    intro hb hk
    have go : ∀ acc' (v : Value), acc' = ac_s (fun l => decide (pm_i S 83 l = b ∧ ¬ k < pm_i S 84 l)) (ac_bt (pm_i S 84) true) acc i → pm_W G d 4 (pm_QI q) 5 [.ref 14, .int b, .int k, .int (oI acc'), .int (nI (i + 1)), v] [] S 0 0 := fun acc' v e => by rw [e]; exact pv_W hk (by simp [pv_le, pm_unk])
    have no : ∀ v, (fun l => decide (pm_i S 83 l = b ∧ ¬ k < pm_i S 84 l)) i = false → pm_W G d 4 (pm_QI q) 5 [.ref 14, .int b, .int k, .int (oI acc), .int (nI (i + 1)), v] [] S 0 0 := fun v hf => go acc v (ac_s_none hf).symm
    obtain ⟨ri1, ri2, ri3, ri4⟩ := rows i hi
    refine pm_wb_ok pb_c4 60 5 0 _ _ _ _ _ ?_
    try simp only [pm_WI0, pm_WI1, pm_WI2, pm_WI3, pm_WI4, pm_WI5, pm_WV, pm_WW, pm_WX, pb_B4, pm_if, pm_QI_at, pm_QL_at, pm_QV_at, pm_QR_at, pm_QR_at0, pm_QR_at1, Nat.reduceSub, Nat.reduceAdd, List.replicate_zero, List.replicate_succ, true_and, and_true, true_or, or_true, and_self, reduceIte, Nat.reduceEqDiff, Nat.reduceLT, Nat.reduceLeDiff, Nat.reduceMul, false_and, and_false, reduceCtorEq, false_or, or_false, not_true_eq_false, not_false_eq_true, true_implies, false_implies, implies_true, lf_10, eq_self, Int32.reduceLT, Int32.reduceLE, Int32.reduceAdd, Int32.reduceSub, pm_same, pm_i_wI, pm_l_wL, pm_l_wM, pm_oR_rf, pm_oQ_rf, nI_1, sw_e, LQ1, LQ2, sh_k14 hS, sh_r14_1 hS, sh_k15 hS, sh_z15 hS, hn, hc, hle, ri1, ri2, ri3, ri4]
    refine ⟨hvi, fun c1 => ⟨hvi, fun c2 => ?_, fun c2 => ?_⟩, fun c1 => ?_⟩
    · exact no _ (by simp [c2])
    · have hyes : decide (pm_i S 83 i = b ∧ ¬ k < pm_i S 84 i) = true := by simp [c1, c2]
      cases acc with
      | none =>
        refine ⟨fun _ => ?_, fun z => absurd (show oI none < 0 by decide) z⟩
        exact go (some i) _ (ac_s_yes hyes rfl)
      | some b' =>
        have hbi := hb b' rfl
        have hcb : (oI (some b')).toNatClampNeg = b' := nI_clamp (by omega)
        obtain ⟨rj1, rj2, rj3, rj4⟩ := rows b' (by omega)
        refine ⟨fun z => absurd z (nI_pos (by omega)), fun _ => ⟨hvi, vp_in_nI (by omega) (by decide), ?_⟩⟩
        rw [hcb]
        try simp only [pm_WV, pm_WW, true_and, and_true, true_or, or_true, and_self, reduceIte, Nat.reduceEqDiff, Nat.reduceLT, Nat.reduceLeDiff, Nat.reduceMul, false_and, and_false, reduceCtorEq, false_or, or_false, not_true_eq_false, not_false_eq_true, true_implies, false_implies, implies_true, lf_10, eq_self, Int32.reduceLT, Int32.reduceLE, Int32.reduceAdd, Int32.reduceSub, pm_same, pm_i_wI, pm_l_wL, pm_l_wM, pm_oR_rf, pm_oQ_rf, nI_1, sw_e, LQ1, LQ2, pm_WI0, pm_WI1, pm_WI2, pm_WI3, pm_WI4, pm_WI5, pm_WV, pm_WW, pm_WX, pb_B4, pm_if, pm_QI_at, pm_QL_at, pm_QV_at, pm_QR_at, pm_QR_at0, pm_QR_at1, Nat.reduceSub, Nat.reduceAdd, List.replicate_zero, List.replicate_succ, rj1, rj2, rj4, hcb]
        refine ⟨fun z => ?_, fun z => ?_⟩
        · exact go (some b') _ (ac_s_keep hyes (by simp [ac_ok, ac_bt, z]))
        · exact go (some i) _ (ac_s_yes hyes (by simp [ac_ok, ac_bt, z]))
    · exact no _ (by simp [c1])
  · refine pm_wb_ok pb_c4 60 5 0 _ _ _ _ _ ?_
    try simp only [pm_WI0, pm_WI1, pm_WI2, pm_WI3, pm_WI4, pm_WI5, pm_WV, pm_WW, pm_WX, pb_B4, pm_if, pm_QI_at, pm_QL_at, pm_QV_at, pm_QR_at, pm_QR_at0, pm_QR_at1, Nat.reduceSub, Nat.reduceAdd, List.replicate_zero, List.replicate_succ, true_and, and_true, true_or, or_true, and_self, reduceIte, Nat.reduceEqDiff, Nat.reduceLT, Nat.reduceLeDiff, Nat.reduceMul, false_and, and_false, reduceCtorEq, false_or, or_false, not_true_eq_false, not_false_eq_true, true_implies, false_implies, implies_true, lf_10, eq_self, Int32.reduceLT, Int32.reduceLE, Int32.reduceAdd, Int32.reduceSub, pm_same, pm_i_wI, pm_l_wL, pm_l_wM, pm_oR_rf, pm_oQ_rf, nI_1, sw_e, LQ1, LQ2, sh_k14 hS, sh_r14_1 hS, sh_k15 hS, sh_z15 hS, hn, Int32.le_refl]
    exact h
theorem lf_3 {G : pm_G} {d : Nat} {A : iv_A} {S : pm_S} {b k : Int32} {q : Option Nat → pm_S → Prop} (hd : 1 ≤ d) (hS : Sh S) (hL : iv_Law A S) (h : q (some (lwp A (lwo S b k))) S) : pm_CR G d 3 [.ref 14, .int b, .int k] S q := by
  obtain ⟨n12, hn59⟩ := hL.c31
  refine pm_goR 3 40 pb_c3 (by decide) (Nat.le_of_ble_eq_true rfl) rfl ?_
  try simp only [show pm_mL 3 = 4 from rfl, pm_WI0, pm_WI1, pm_WI2, pm_WI3, pm_WI4, pm_WI5, pm_WV, pm_WW, pm_WX, pb_B3, pm_if, pm_QI_at, pm_QL_at, pm_QV_at, pm_QR_at, pm_QR_at0, pm_QR_at1, Nat.reduceSub, Nat.reduceAdd, List.replicate_zero, List.replicate_succ, true_and, and_true, true_or, or_true, and_self, reduceIte, Nat.reduceEqDiff, Nat.reduceLT, Nat.reduceLeDiff, Nat.reduceMul, false_and, and_false, reduceCtorEq, false_or, or_false, not_true_eq_false, not_false_eq_true, true_implies, false_implies, implies_true, lf_10, eq_self, Int32.reduceLT, Int32.reduceLE, Int32.reduceAdd, Int32.reduceSub, pm_same, pm_i_wI, pm_l_wL, pm_l_wM, pm_oR_rf, pm_oQ_rf, nI_1, sw_e, LQ1, LQ2, sh_k14 hS, sh_r14_1 hS, sh_k15 hS, sh_z15 hS, sh_r14_3 hS]
  refine ⟨by omega, lf_4 hS hL ?_⟩
  cases ho : lwo S b k with
  | none =>
    rw [ho] at h
    have h1 : ¬ 0 ≤ oI none := by decide
    try simp only [pm_WV, pm_WW, true_and, and_true, true_or, or_true, and_self, reduceIte, Nat.reduceEqDiff, Nat.reduceLT, Nat.reduceLeDiff, Nat.reduceMul, false_and, and_false, reduceCtorEq, false_or, or_false, not_true_eq_false, not_false_eq_true, true_implies, false_implies, implies_true, lf_10, eq_self, Int32.reduceLT, Int32.reduceLE, Int32.reduceAdd, Int32.reduceSub, pm_same, pm_i_wI, pm_l_wL, pm_l_wM, pm_oR_rf, pm_oQ_rf, nI_1, sw_e, LQ1, LQ2, pm_WI0, pm_WI1, pm_WI2, pm_WI3, pm_WI4, pm_WI5, pm_WV, pm_WW, pm_WX, pb_B3, pm_if, pm_QI_at, pm_QL_at, pm_QV_at, pm_QR_at, pm_QR_at0, pm_QR_at1, Nat.reduceSub, Nat.reduceAdd, List.replicate_zero, List.replicate_succ, sh_k14 hS, sh_r14_1 hS, sh_r14_3 hS, sh_k15 hS, sh_z15 hS, h1]
    first | exact h | exact ⟨fun z => absurd z h1, fun _ => h⟩
  | some i =>
    rw [ho] at h
    have hi := lwo_lt ho
    have h1 : 0 ≤ oI (some i) := nI_pos' (by omega)
    have hcl : (oI (some i)).toNatClampNeg = i := nI_clamp (by omega)
    have hr := (hL.2.2.2.1 i hi).1
    have hv : vp_in (oI (some i)) 12 := vp_in_nI (by omega) (by decide)
    try simp only [pm_WV, pm_WW, true_and, and_true, true_or, or_true, and_self, reduceIte, Nat.reduceEqDiff, Nat.reduceLT, Nat.reduceLeDiff, Nat.reduceMul, false_and, and_false, reduceCtorEq, false_or, or_false, not_true_eq_false, not_false_eq_true, true_implies, false_implies, implies_true, lf_10, eq_self, Int32.reduceLT, Int32.reduceLE, Int32.reduceAdd, Int32.reduceSub, pm_same, pm_i_wI, pm_l_wL, pm_l_wM, pm_oR_rf, pm_oQ_rf, nI_1, sw_e, LQ1, LQ2, pm_WI0, pm_WI1, pm_WI2, pm_WI3, pm_WI4, pm_WI5, pm_WV, pm_WW, pm_WX, pb_B3, pm_if, pm_QI_at, pm_QL_at, pm_QV_at, pm_QR_at, pm_QR_at0, pm_QR_at1, Nat.reduceSub, Nat.reduceAdd, List.replicate_zero, List.replicate_succ, sh_k14 hS, sh_r14_1 hS, sh_r14_3 hS, sh_k15 hS, sh_z15 hS, h1, hcl, hr]
    first | exact ⟨hv, h⟩ | exact ⟨fun _ => ⟨hv, h⟩, fun z => absurd h1 z⟩
theorem lw_of {A : iv_A} {S : pm_S} {b k : Int32} : ∀ i, lwo S b k = some i → i < iv_c S 31 := fun i h => lwo_lt h
/-- IN REACH -/
def rch (S : pm_S) (m : Nat) (k : Int32) : Bool := decide (¬ nI ((lawL S (lwo S (-1) k)).2.1 10) < k - pm_i S 66 m) && ld_reach (tv S m k) (lawL S (lwo S (-1) k))
theorem rch_me {S T : pm_S} (h : me S T) (m : Nat) (k : Int32) : rch T m k = rch S m k := by
  unfold rch; rw [lawL_me h, lwo_me h, tv_me h, h.row (p := 66) (by omega) (by omega)]
theorem lf_34 {G : pm_G} {d : Nat} {A : iv_A} {S : pm_S} {m : Nat} {k : Int32} {o : Option Nat} {q : Int32 → pm_S → Prop} (hd : 4 ≤ d) (hI : Inv A S) (hm : m < iv_c S 18) (ho : ∀ i, o = some i → i < iv_c S 31) (h : q (bI (ld_reach (tv S m k) (lawL S o))) S) : pm_CI G d 34 [.ref (lwp A o), .ref (iv_m A m), .int k] S q := by
  obtain ⟨hc, hr⟩ := lw_ok hI.sh hI.law ho
  have hwf := lawL_wf hI.mi (t := tv S m k) ho
  have h8 : pm_i S (lwp A o) 8 = nI ((lawL S o).2.1 8) := hr.2.2.2.2.1 8 (by omega) (by omega)
  have h9 : pm_i S (lwp A o) 9 = nI ((lawL S o).2.1 9) := hr.2.2.2.2.1 9 (by omega) (by omega)
  refine pm_goI 34 40 pb_c34 (by decide) (Nat.le_of_ble_eq_true rfl) rfl ?_
  try simp only [show pm_mL 34 = 3 from rfl, pm_WI0, pm_WI1, pm_WI2, pm_WI3, pm_WI4, pm_WI5, pm_WV, pm_WW, pm_WX, pb_B34, pm_if, pm_QI_at, pm_QL_at, pm_QV_at, pm_QR_at, pm_QR_at0, pm_QR_at1, Nat.reduceSub, Nat.reduceAdd, List.replicate_zero, List.replicate_succ, true_and, and_true, true_or, or_true, and_self, reduceIte, Nat.reduceEqDiff, Nat.reduceLT, Nat.reduceLeDiff, Nat.reduceMul, false_and, and_false, reduceCtorEq, false_or, or_false, not_true_eq_false, not_false_eq_true, true_implies, false_implies, implies_true, lf_10, eq_self, Int32.reduceLT, Int32.reduceLE, Int32.reduceAdd, Int32.reduceSub, pm_same, pm_i_wI, pm_l_wL, pm_l_wM, pm_oR_rf, pm_oQ_rf, nI_1, sw_e, LQ1, LQ2, hc.1, h8, h9]
  exact ⟨by omega, lf_35 (by omega) hI hm (lw_lst hc hr hwf) hwf.2.2.1.1 hwf.2.2.1.2.1 hwf.2.2.1.2.2 ⟨bI01 _, h⟩⟩
theorem lf_37 {G : pm_G} {d : Nat} {A : iv_A} {S : pm_S} {m c : Nat} {k : Int32} {o : Option Nat} {q : Int32 → pm_S → Prop} (hd : 4 ≤ d) (hI : Inv A S) (hm : m < iv_c S 18) (ho : ∀ i, o = some i → i < iv_c S 31) (hcl : c < (lawL S o).1.length) (h : q (bI (lo_h (tv S m k) (lawL S o).2.2 ((lawL S o).1.getD c gx_o0))) S) : pm_CI G d 37 [.ref (lwp A o), .int (nI c), .ref (iv_m A m), .int k] S q := by
  obtain ⟨hc, hr⟩ := lw_ok hI.sh hI.law ho
  have hwf := lawL_wf hI.mi (t := tv S m k) ho
  have hl10 := hwf.1.1
  have w2 := hc.2 2 (by omega)
  have w3 := hc.2 3 (by omega)
  have w4 := hc.2 4 (by omega)
  have a2 : pm_r S (lwp A o) 5 = some (lww A o 2) := w2.1
  have a3 : pm_r S (lwp A o) 6 = some (lww A o 3) := w3.1
  have a4 : pm_r S (lwp A o) 7 = some (lww A o 4) := w4.1
  have z2 : pm_z S (lww A o 2) = 10 := w2.2.2
  have z3 : pm_z S (lww A o 3) = 10 := w3.2.2
  have z4 : pm_z S (lww A o 4) = 10 := w4.2.2
  obtain ⟨r0, r1, r2, r3, r4⟩ := hr.2.2.2.2.2.1 c hcl
  have hm1 : (lawL S o).1.getD c gx_o0 ∈ (lawL S o).1 := by
    rw [List.getD_eq_getElem?_getD, List.getElem?_eq_getElem hcl]; exact List.getElem_mem hcl
  have hok := hwf.2.1 _ hm1
  change pm_i S (lww A o 2) c = nI ((lawL S o).1.getD c gx_o0).2.2.1 at r2
  change pm_i S (lww A o 3) c = nI ((lawL S o).1.getD c gx_o0).2.2.2.1 at r3
  change pm_i S (lww A o 4) c = nI ((lawL S o).1.getD c gx_o0).2.2.2.2 at r4
  generalize hE : (lawL S o).1.getD c gx_o0 = e at *
  obtain ⟨k1, k2, k3, k4, k5, k6⟩ := hok
  have hv := vp_in_nI (n := c) (N := 10) (by omega) (by decide)
  have hcc := nI_clamp (n := c) (by omega)
  unfold lo_h at h
  have hwn : e.2.2.1 = 0 ∨ e.2.2.1 = 1 ∨ e.2.2.1 = 2 := by omega
  have key : ∀ (wn : Int32), e.2.2.1 ≠ 0 → pm_i S (lww A o 2) c = wn → (wn = 1 ∨ wn = 2) → (e.2.2.1 = 1 ↔ wn = 1) → pm_CI G (d - 1) 35 [.ref (lwp A o), .int (nI e.2.2.2.1), .int (nI e.2.2.2.2), .ref (iv_m A m), .int k] S (fun r S' => S' = S ∧ (wn = 1 → (r = 1 → q 1 S') ∧ (¬ r = 1 → q 0 S')) ∧ (¬ wn = 1 → (r = 0 → q 1 S') ∧ (¬ r = 0 → q 0 S'))) := by
    intro wn hw0 _ hw hiff
    have hev : gx_ev (tv S m k) (gx_sub (lawL S o).2.2 e.2.2.2.1 e.2.2.2.2) 15 := by
      rcases k6 with z | z
      · exact absurd z hw0
      · exact z
    refine lf_35 (by omega) hI hm (lw_lst hc hr hwf) k4 k5 (Or.inr hev) ?_
    rw [if_neg hw0] at h
    cases hg : gx_hv (tv S m k) (gx_sub (lawL S o).2.2 e.2.2.2.1 e.2.2.2.2) <;> rw [hg] at h
    · refine ⟨rfl, fun z => ⟨fun y => absurd y (by decide), fun _ => ?_⟩, fun z => ⟨fun _ => ?_, fun y => absurd rfl y⟩⟩
      · simpa [hiff.mpr z, bI] using h
      · simpa [show ¬ e.2.2.1 = 1 from fun y => z (hiff.mp y), bI] using h
    · refine ⟨rfl, fun z => ⟨fun _ => ?_, fun y => absurd rfl y⟩, fun z => ⟨fun y => absurd y (by decide), fun _ => ?_⟩⟩
      · simpa [hiff.mpr z, bI] using h
      · simpa [show ¬ e.2.2.1 = 1 from fun y => z (hiff.mp y), bI] using h
  rcases hwn with hw0 | hw1 | hw2
  · rw [if_pos hw0] at h
    rw [hw0] at r2
    have r2' : pm_i S (lww A o 2) c = 0 := r2
    refine pm_goI 37 8 pb_c37 (by decide) (Nat.le_of_ble_eq_true rfl) rfl ?_
    try simp only [show pm_mL 37 = 4 from rfl, pm_WI0, pm_WI1, pm_WI2, pm_WI3, pm_WI4, pm_WI5, pm_WV, pm_WW, pm_WX, pb_B37, pm_if, pm_QI_at, pm_QL_at, pm_QV_at, pm_QR_at, pm_QR_at0, pm_QR_at1, Nat.reduceSub, Nat.reduceAdd, List.replicate_zero, List.replicate_succ, true_and, and_true, true_or, or_true, and_self, reduceIte, Nat.reduceEqDiff, Nat.reduceLT, Nat.reduceLeDiff, Nat.reduceMul, false_and, and_false, reduceCtorEq, false_or, or_false, not_true_eq_false, not_false_eq_true, true_implies, false_implies, implies_true, lf_10, eq_self, Int32.reduceLT, Int32.reduceLE, Int32.reduceAdd, Int32.reduceSub, pm_same, pm_i_wI, pm_l_wL, pm_l_wM, pm_oR_rf, pm_oQ_rf, nI_1, sw_e, LQ1, LQ2, hc.1, a2, a3, a4, z2, z3, z4, w2.2.1, w3.2.1, w4.2.1, hcc, r2', r3, r4]
    exact ⟨hv, h⟩
  · have kk := key 1 (by omega) (by rw [r2, hw1]; rfl) (by decide) (by rw [hw1]; decide)
    have r2' : pm_i S (lww A o 2) c = 1 := by rw [r2, hw1]; rfl
    refine pm_goI 37 8 pb_c37 (by decide) (Nat.le_of_ble_eq_true rfl) rfl ?_
    try simp only [show pm_mL 37 = 4 from rfl, pm_WI0, pm_WI1, pm_WI2, pm_WI3, pm_WI4, pm_WI5, pm_WV, pm_WW, pm_WX, pb_B37, pm_if, pm_QI_at, pm_QL_at, pm_QV_at, pm_QR_at, pm_QR_at0, pm_QR_at1, Nat.reduceSub, Nat.reduceAdd, List.replicate_zero, List.replicate_succ, true_and, and_true, true_or, or_true, and_self, reduceIte, Nat.reduceEqDiff, Nat.reduceLT, Nat.reduceLeDiff, Nat.reduceMul, false_and, and_false, reduceCtorEq, false_or, or_false, not_true_eq_false, not_false_eq_true, true_implies, false_implies, implies_true, lf_10, eq_self, Int32.reduceLT, Int32.reduceLE, Int32.reduceAdd, Int32.reduceSub, pm_same, pm_i_wI, pm_l_wL, pm_l_wM, pm_oR_rf, pm_oQ_rf, nI_1, sw_e, LQ1, LQ2, hc.1, a2, a3, a4, z2, z3, z4, w2.2.1, w3.2.1, w4.2.1, hcc, r2', r3, r4]
    refine ⟨hv, hv, hv, by omega, ?_⟩
    refine kk.mono (fun x S' hx => ?_)
    obtain ⟨eS, hx⟩ := hx
    rw [eS] at hx ⊢
    try simp only [pm_WV, pm_WW, true_and, and_true, true_or, or_true, and_self, reduceIte, Nat.reduceEqDiff, Nat.reduceLT, Nat.reduceLeDiff, Nat.reduceMul, false_and, and_false, reduceCtorEq, false_or, or_false, not_true_eq_false, not_false_eq_true, true_implies, false_implies, implies_true, lf_10, eq_self, Int32.reduceLT, Int32.reduceLE, Int32.reduceAdd, Int32.reduceSub, pm_same, pm_i_wI, pm_l_wL, pm_l_wM, pm_oR_rf, pm_oQ_rf, nI_1, sw_e, LQ1, LQ2, pm_WI0, pm_WI1, pm_WI2, pm_WI3, pm_WI4, pm_WI5, pm_WV, pm_WW, pm_WX, pb_B37, pm_if, pm_QI_at, pm_QL_at, pm_QV_at, pm_QR_at, pm_QR_at0, pm_QR_at1, Nat.reduceSub, Nat.reduceAdd, List.replicate_zero, List.replicate_succ, sh_k14 hI.sh] at hx
    try simp only [pm_WV, pm_WW, true_and, and_true, true_or, or_true, and_self, reduceIte, Nat.reduceEqDiff, Nat.reduceLT, Nat.reduceLeDiff, Nat.reduceMul, false_and, and_false, reduceCtorEq, false_or, or_false, not_true_eq_false, not_false_eq_true, true_implies, false_implies, implies_true, lf_10, eq_self, Int32.reduceLT, Int32.reduceLE, Int32.reduceAdd, Int32.reduceSub, pm_same, pm_i_wI, pm_l_wL, pm_l_wM, pm_oR_rf, pm_oQ_rf, nI_1, sw_e, LQ1, LQ2, pm_WI0, pm_WI1, pm_WI2, pm_WI3, pm_WI4, pm_WI5, pm_WV, pm_WW, pm_WX, pb_B37, pm_if, pm_QI_at, pm_QL_at, pm_QV_at, pm_QR_at, pm_QR_at0, pm_QR_at1, Nat.reduceSub, Nat.reduceAdd, List.replicate_zero, List.replicate_succ, sh_k14 hI.sh, hc.1, a2, z2, w2.2.1, hcc, r2']
    first | exact ⟨hv, hx⟩ | exact hx | skip
  · have kk := key 2 (by omega) (by rw [r2, hw2]; rfl) (by decide) (by rw [hw2]; decide)
    have r2' : pm_i S (lww A o 2) c = 2 := by rw [r2, hw2]; rfl
    refine pm_goI 37 8 pb_c37 (by decide) (Nat.le_of_ble_eq_true rfl) rfl ?_
    try simp only [show pm_mL 37 = 4 from rfl, pm_WI0, pm_WI1, pm_WI2, pm_WI3, pm_WI4, pm_WI5, pm_WV, pm_WW, pm_WX, pb_B37, pm_if, pm_QI_at, pm_QL_at, pm_QV_at, pm_QR_at, pm_QR_at0, pm_QR_at1, Nat.reduceSub, Nat.reduceAdd, List.replicate_zero, List.replicate_succ, true_and, and_true, true_or, or_true, and_self, reduceIte, Nat.reduceEqDiff, Nat.reduceLT, Nat.reduceLeDiff, Nat.reduceMul, false_and, and_false, reduceCtorEq, false_or, or_false, not_true_eq_false, not_false_eq_true, true_implies, false_implies, implies_true, lf_10, eq_self, Int32.reduceLT, Int32.reduceLE, Int32.reduceAdd, Int32.reduceSub, pm_same, pm_i_wI, pm_l_wL, pm_l_wM, pm_oR_rf, pm_oQ_rf, nI_1, sw_e, LQ1, LQ2, hc.1, a2, a3, a4, z2, z3, z4, w2.2.1, w3.2.1, w4.2.1, hcc, r2', r3, r4]
    refine ⟨hv, hv, hv, by omega, ?_⟩
    refine kk.mono (fun x S' hx => ?_)
    obtain ⟨eS, hx⟩ := hx
    rw [eS] at hx ⊢
    try simp only [pm_WV, pm_WW, true_and, and_true, true_or, or_true, and_self, reduceIte, Nat.reduceEqDiff, Nat.reduceLT, Nat.reduceLeDiff, Nat.reduceMul, false_and, and_false, reduceCtorEq, false_or, or_false, not_true_eq_false, not_false_eq_true, true_implies, false_implies, implies_true, lf_10, eq_self, Int32.reduceLT, Int32.reduceLE, Int32.reduceAdd, Int32.reduceSub, pm_same, pm_i_wI, pm_l_wL, pm_l_wM, pm_oR_rf, pm_oQ_rf, nI_1, sw_e, LQ1, LQ2, pm_WI0, pm_WI1, pm_WI2, pm_WI3, pm_WI4, pm_WI5, pm_WV, pm_WW, pm_WX, pb_B37, pm_if, pm_QI_at, pm_QL_at, pm_QV_at, pm_QR_at, pm_QR_at0, pm_QR_at1, Nat.reduceSub, Nat.reduceAdd, List.replicate_zero, List.replicate_succ, sh_k14 hI.sh] at hx
    try simp only [pm_WV, pm_WW, true_and, and_true, true_or, or_true, and_self, reduceIte, Nat.reduceEqDiff, Nat.reduceLT, Nat.reduceLeDiff, Nat.reduceMul, false_and, and_false, reduceCtorEq, false_or, or_false, not_true_eq_false, not_false_eq_true, true_implies, false_implies, implies_true, lf_10, eq_self, Int32.reduceLT, Int32.reduceLE, Int32.reduceAdd, Int32.reduceSub, pm_same, pm_i_wI, pm_l_wL, pm_l_wM, pm_oR_rf, pm_oQ_rf, nI_1, sw_e, LQ1, LQ2, pm_WI0, pm_WI1, pm_WI2, pm_WI3, pm_WI4, pm_WI5, pm_WV, pm_WW, pm_WX, pb_B37, pm_if, pm_QI_at, pm_QL_at, pm_QV_at, pm_QR_at, pm_QR_at0, pm_QR_at1, Nat.reduceSub, Nat.reduceAdd, List.replicate_zero, List.replicate_succ, sh_k14 hI.sh, hc.1, a2, z2, w2.2.1, hcc, r2']
    first | exact ⟨hv, hx⟩ | exact hx | skip
theorem lf_2 {G : pm_G} {d : Nat} {A : iv_A} {S : pm_S} {m : Nat} {k : Int32} {q : Int32 → pm_S → Prop} (hd : 5 ≤ d) (hI : Inv A S) (hm : m < iv_c S 18) (h : q (bI (rch S m k)) S) : pm_CI G d 2 [.ref 14, .ref (iv_m A m), .int k] S q := by
  have hS := hI.sh
  have hw := hI.row hm
  obtain ⟨hc, hr⟩ := lw_ok hS hI.law (lw_of (A := A) (S := S) (b := -1) (k := k))
  have h10 : pm_i S (lwp A (lwo S (-1) k)) 10 = nI ((lawL S (lwo S (-1) k)).2.1 10) := hr.2.2.2.2.1 10 (by omega) (by omega)
  unfold rch at h
  refine pm_goI 2 40 pb_c2 (by decide) (Nat.le_of_ble_eq_true rfl) rfl ?_
  try simp only [show pm_mL 2 = 4 from rfl, pm_WI0, pm_WI1, pm_WI2, pm_WI3, pm_WI4, pm_WI5, pm_WV, pm_WW, pm_WX, pb_B2, pm_if, pm_QI_at, pm_QL_at, pm_QV_at, pm_QR_at, pm_QR_at0, pm_QR_at1, Nat.reduceSub, Nat.reduceAdd, List.replicate_zero, List.replicate_succ, true_and, and_true, true_or, or_true, and_self, reduceIte, Nat.reduceEqDiff, Nat.reduceLT, Nat.reduceLeDiff, Nat.reduceMul, false_and, and_false, reduceCtorEq, false_or, or_false, not_true_eq_false, not_false_eq_true, true_implies, false_implies, implies_true, lf_10, eq_self, Int32.reduceLT, Int32.reduceLE, Int32.reduceAdd, Int32.reduceSub, pm_same, pm_i_wI, pm_l_wL, pm_l_wM, pm_oR_rf, pm_oQ_rf, nI_1, sw_e, LQ1, LQ2, sh_k14 hS, hw.k, hw.f4]
  refine ⟨by omega, lf_3 (by omega) hS hI.law ?_⟩
  try simp only [pm_WV, pm_WW, true_and, and_true, true_or, or_true, and_self, reduceIte, Nat.reduceEqDiff, Nat.reduceLT, Nat.reduceLeDiff, Nat.reduceMul, false_and, and_false, reduceCtorEq, false_or, or_false, not_true_eq_false, not_false_eq_true, true_implies, false_implies, implies_true, lf_10, eq_self, Int32.reduceLT, Int32.reduceLE, Int32.reduceAdd, Int32.reduceSub, pm_same, pm_i_wI, pm_l_wL, pm_l_wM, pm_oR_rf, pm_oQ_rf, nI_1, sw_e, LQ1, LQ2, pm_WI0, pm_WI1, pm_WI2, pm_WI3, pm_WI4, pm_WI5, pm_WV, pm_WW, pm_WX, pb_B2, pm_if, pm_QI_at, pm_QL_at, pm_QV_at, pm_QR_at, pm_QR_at0, pm_QR_at1, Nat.reduceSub, Nat.reduceAdd, List.replicate_zero, List.replicate_succ, hc.1, h10, hw.k, hw.f4]
  refine ⟨fun z => ?_, fun z => ⟨by omega, lf_34 (by omega) hI hm (lw_of (A := A)) ?_⟩⟩
  · have : decide (¬ nI ((lawL S (lwo S (-1) k)).2.1 10) < k - pm_i S 66 m) = false := by simp [z]
    rw [this] at h
    exact h
  · have : decide (¬ nI ((lawL S (lwo S (-1) k)).2.1 10) < k - pm_i S 66 m) = true := by simp [z]
    rw [this, Bool.true_and] at h
    cases hg : ld_reach (tv S m k) (lawL S (lwo S (-1) k)) <;> rw [hg] at h
    · exact ⟨fun _ => h, fun y => absurd rfl y⟩
    · exact ⟨fun y => absurd y (by decide), fun _ => h⟩
theorem mm_175 {G : pm_G} {d : Nat} {S : pm_S} {m : Nat} {k : Int32} {q : Int32 → pm_S → Prop} (hd : 33 ≤ d) (hM : iv_MI S) (hm : m < iv_c S 18) (h : ∀ T, sc S T → q (bI (rch S m k)) T) : pm_CI G d 175 [.ref 59, .int (nI m), .int k] S q := by
  have hS := hM.1
  obtain ⟨n12, hn⟩ := MI.c31 hM
  have h40 := (MI.c18 hM).1
  refine pm_goI 175 40 pb_c175 (by decide) (Nat.le_of_ble_eq_true rfl) rfl ?_
  try simp only [show pm_mL 175 = 3 from rfl, pm_WI0, pm_WI1, pm_WI2, pm_WI3, pm_WI4, pm_WI5, pm_WV, pm_WW, pm_WX, pb_B175, pm_if, pm_QI_at, pm_QL_at, pm_QV_at, pm_QR_at, pm_QR_at0, pm_QR_at1, Nat.reduceSub, Nat.reduceAdd, List.replicate_zero, List.replicate_succ, true_and, and_true, true_or, or_true, and_self, reduceIte, Nat.reduceEqDiff, Nat.reduceLT, Nat.reduceLeDiff, Nat.reduceMul, false_and, and_false, reduceCtorEq, false_or, or_false, not_true_eq_false, not_false_eq_true, true_implies, false_implies, implies_true, lf_10, eq_self, Int32.reduceLT, Int32.reduceLE, Int32.reduceAdd, Int32.reduceSub, pm_same, pm_i_wI, pm_l_wL, pm_l_wM, pm_oR_rf, pm_oQ_rf, nI_1, sw_e, LQ1, LQ2, sh_k59 hS]
  refine ⟨by omega, ml_176 hS hn n12 ?_⟩
  try simp only [pm_WV, pm_WW, true_and, and_true, true_or, or_true, and_self, reduceIte, Nat.reduceEqDiff, Nat.reduceLT, Nat.reduceLeDiff, Nat.reduceMul, false_and, and_false, reduceCtorEq, false_or, or_false, not_true_eq_false, not_false_eq_true, true_implies, false_implies, implies_true, lf_10, eq_self, Int32.reduceLT, Int32.reduceLE, Int32.reduceAdd, Int32.reduceSub, pm_same, pm_i_wI, pm_l_wL, pm_l_wM, pm_oR_rf, pm_oQ_rf, nI_1, sw_e, LQ1, LQ2, pm_WI0, pm_WI1, pm_WI2, pm_WI3, pm_WI4, pm_WI5, pm_WV, pm_WW, pm_WX, pb_B175, pm_if, pm_QI_at, pm_QL_at, pm_QV_at, pm_QR_at, pm_QR_at0, pm_QR_at1, Nat.reduceSub, Nat.reduceAdd, List.replicate_zero, List.replicate_succ, sh_k59 hS]
  refine ⟨by omega, ml_177 (t := tv S m k) (by omega) hM (fun i hi => lwo_lt hi) (Or.inr ⟨m, hm, rfl, rfl⟩) (fun T hs hl => ?_)⟩
  have hT := hs.sh hS
  obtain ⟨a1, a2, a3, a4⟩ := hl
  have l10 : pm_i T 59 53 = nI ((lawL S (lwo S (-1) k)).2.1 10) := a4 10 (by omega) (by omega)
  have hcm := nI_clamp (n := m) (by omega)
  have hv := vp_in_nI (n := m) (N := 40) (by omega) (by decide)
  have hh := h T hs
  unfold rch at hh
  try simp only [pm_WV, pm_WW, true_and, and_true, true_or, or_true, and_self, reduceIte, Nat.reduceEqDiff, Nat.reduceLT, Nat.reduceLeDiff, Nat.reduceMul, false_and, and_false, reduceCtorEq, false_or, or_false, not_true_eq_false, not_false_eq_true, true_implies, false_implies, implies_true, lf_10, eq_self, Int32.reduceLT, Int32.reduceLE, Int32.reduceAdd, Int32.reduceSub, pm_same, pm_i_wI, pm_l_wL, pm_l_wM, pm_oR_rf, pm_oQ_rf, nI_1, sw_e, LQ1, LQ2, pm_WI0, pm_WI1, pm_WI2, pm_WI3, pm_WI4, pm_WI5, pm_WV, pm_WW, pm_WX, pb_B175, pm_if, pm_QI_at, pm_QL_at, pm_QV_at, pm_QR_at, pm_QR_at0, pm_QR_at1, Nat.reduceSub, Nat.reduceAdd, List.replicate_zero, List.replicate_succ, sh_k59 hT, sh_r59_9 hT, sh_k66 hT, sh_z66 hT, a3, l10, hcm, hs.r66]
  cases hg : ld_reach (tv S m k) (lawL S (lwo S (-1) k)) <;> rw [hg] at hh
  · rw [Bool.and_false] at hh
    refine ⟨fun _ => hh, fun y => absurd rfl y⟩
  · rw [Bool.and_true] at hh
    refine ⟨fun y => absurd y (by decide), fun _ => ⟨hv, fun z => ?_, fun z => ?_⟩⟩
    · have : decide (¬ nI ((lawL S (lwo S (-1) k)).2.1 10) < k - pm_i S 66 m) = false := by simp [z]
      rw [this] at hh; exact hh
    · have : decide (¬ nI ((lawL S (lwo S (-1) k)).2.1 10) < k - pm_i S 66 m) = true := by simp [z]
      rw [this] at hh; exact hh
