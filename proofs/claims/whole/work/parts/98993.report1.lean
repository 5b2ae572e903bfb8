/-! report by the class -/
def rp_q (p j : Nat) : Prop := (33 ≤ p ∧ p ≤ 37) ∨ (103 ≤ p ∧ p ≤ 109) ∨ (p = 59 ∧ j = 79)
def rpF (S T : pm_S) : Prop := (pm_n T = pm_n S ∧ pm_k T = pm_k S ∧ pm_z T = pm_z S ∧ pm_r T = pm_r S) ∧ (∀ p j, ¬ rp_q p j → pm_i T p j = pm_i S p j) ∧ pm_l T = pm_l S
theorem rpF.rf {S : pm_S} : rpF S S := ⟨⟨rfl, rfl, rfl, rfl⟩, fun _ _ _ => rfl, rfl⟩
theorem rpF.w {S T : pm_S} {p j : Nat} {v : Int32} (h : rpF S T) (hq : rp_q p j) : rpF S (pm_wI T p j v) := ⟨h.1, fun p' j' hn => by rw [pm_i_wI, if_neg (fun z => hn (by rw [z.1, z.2]; exact hq))]; exact h.2.1 p' j' hn, h.2.2⟩
theorem rpF.tr {S T U : pm_S} (h : rpF S T) (h' : rpF T U) : rpF S U :=
  ⟨⟨h'.1.1.trans h.1.1, h'.1.2.1.trans h.1.2.1, h'.1.2.2.1.trans h.1.2.2.1, h'.1.2.2.2.trans h.1.2.2.2⟩, fun p j hn => (h'.2.1 p j hn).trans (h.2.1 p j hn), h'.2.2.trans h.2.2⟩
theorem rpF.sh {S T : pm_S} (h : rpF S T) (hS : Sh S) : Sh T := hS.same h.1.1 h.1.2.1 h.1.2.2.1 h.1.2.2.2
theorem rpF.row {S T : pm_S} (h : rpF S T) {p : Nat} (hp : ∀ j, ¬ rp_q p j) : pm_i T p = pm_i S p := funext (fun j => h.2.1 p j (hp j))
theorem rpF.mat {A : iv_A} {S T : pm_S} (h : rpF S T) (hI : Inv A S) : iv_Mat A T :=
  hI.mat.cg (by rw [h.1.1]; exact Nat.le_refl _) (fun p _ => by rw [h.1.2.1, h.1.2.2.1]; exact ⟨rfl, rfl⟩) (fun p j _ => by rw [h.1.2.2.2]) (fun p j hr => h.2.1 p j (by unfold iv_rMat at hr; unfold rp_q; omega))
theorem rpF.law {A : iv_A} {S T : pm_S} (h : rpF S T) (hI : Inv A S) : iv_Law A T :=
  hI.law.cg (by rw [h.1.1]; exact Nat.le_refl _) (fun p _ => by rw [h.1.2.1, h.1.2.2.1]; exact ⟨rfl, rfl⟩) (fun p j _ => by rw [h.1.2.2.2]) (fun p j hr => h.2.1 p j (by unfold iv_rLaw at hr; unfold rp_q; omega))
theorem rpF.c {S T : pm_S} (h : rpF S T) {f : Nat} (hf : f < 79) : iv_c T f = iv_c S f := by unfold iv_c; rw [h.2.1 59 f (by unfold rp_q; omega)]
theorem rpF.inv {A : iv_A} {S T : pm_S} (h : rpF S T) (hI : Inv A S) (hR : iv_Rep T) : Inv A T := by
  have hn : pm_n S ≤ pm_n T := by rw [h.1.1]; exact Nat.le_refl _
  have hk : ∀ p, p < pm_n S → pm_k T p = pm_k S p ∧ pm_z T p = pm_z S p := fun p _ => by rw [h.1.2.1, h.1.2.2.1]; exact ⟨rfl, rfl⟩
  have hr : ∀ p j, pm_r T p j = pm_r S p j := fun p j => by rw [h.1.2.2.2]
  refine ⟨h.sh hI.sh, ?_, ?_, ?_, ?_, ?_, ?_, ?_, ?_, hR, ?_, ?_, ?_⟩
  · exact hI.day.cg (fun p j hr => h.2.1 p j (by unfold iv_rDay at hr; unfold rp_q; omega))
  · exact hI.per.cg (fun p j hr => h.2.1 p j (by unfold iv_rPer at hr; unfold rp_q; omega))
  · exact h.mat hI
  · exact hI.act.cg hI.mat hn hk (fun p j _ => hr p j) (fun p j hr => h.2.1 p j (by unfold iv_rAct at hr; unfold rp_q; omega))
  · exact hI.txt.cg (fun p j hr => h.2.1 p j (by unfold iv_rTxt at hr; unfold rp_q; omega))
  · exact h.law hI
  · exact hI.cau.cg (fun p j hr => h.2.1 p j (by unfold iv_rCau at hr; unfold rp_q; omega))
  · exact hI.red.cg (fun p j hr => h.2.1 p j (by unfold iv_rRed at hr; unfold rp_q; omega))
  · exact hI.wk.cg (fun p j hr => h.2.1 p j (by unfold iv_rWk at hr; unfold rp_q; omega))
  · exact hI.tp.cg (fun p j hr => h.2.1 p j (by unfold iv_rTp at hr; unfold rp_q; omega)) (fun p _ => by rw [h.2.2])
  · exact hI.tr.cg (fun p j hr => h.2.1 p j (by unfold iv_rTr at hr; unfold rp_q; omega))
def rpB (S : pm_S) (v : Int32) (m : Nat) : Nat := if v &&& 1 = 0 then 0 else (pm_i S 64 m).toNatClampNeg
def rpT (S : pm_S) (v : Int32) (m : Nat) : Nat := if v &&& 2 = 0 then 0 else (pm_i S 65 m).toNatClampNeg
def rpD (S : pm_S) (v : Int32) (m : Nat) : Nat := if v &&& 4 = 0 then 0 else (pm_i S 62 m).toNatClampNeg
def rpK (S : pm_S) (v : Int32) (m : Nat) : Nat := if m < iv_c S 18 then 100 * rpB S v m + 10 * rpT S v m + rpD S v m else 0
theorem rp_in {A : iv_A} {S : pm_S} (hI : Inv A S) {v : Int32} {m : Nat} (hm : m < iv_c S 18) : rpB S v m ≤ 5 ∧ rpT S v m ≤ 9 ∧ rpD S v m ≤ 6 := by
  obtain ⟨⟨m1, _, m2, m3, _⟩, _⟩ := (hI.mat.2.2.1 m hm).2
  refine ⟨?_, ?_, ?_⟩
  · unfold rpB; split; omega; exact iv_le (n := 5) 5 m2.2 (by decide)
  · unfold rpT; split; omega; exact iv_le (n := 9) 9 m3.2 (by decide)
  · unfold rpD; split; omega; exact iv_le (n := 6) 6 m1.2 (by decide)
theorem rpK_k {A : iv_A} {S : pm_S} (hI : Inv A S) (v : Int32) (m : Nat) : rp_k (rpK S v m) := by
  unfold rpK
  split
  · rename_i h
    obtain ⟨a, b, c⟩ := rp_in hI (v := v) h
    unfold rp_k; omega
  · unfold rp_k; omega
theorem oI_g {lst : Option Nat} {k : Nat} (hl : rp_ko lst) (hk : k < 600) : nI k ≤ oI lst ↔ rp_g lst k = false := by
  cases lst with
  | none =>
    constructor
    · intro z
      exfalso
      have h0 : (0 : Int32) ≤ nI k := by have := nI_le (a := 0) (b := k) (by omega) (by omega); exact this
      have h1 : nI k ≤ -1 := z
      lia
    · intro z; exact absurd (show true = false from z) (by decide)
  | some l =>
    have hl2 : l < 600 := hl.1
    show nI k ≤ nI l ↔ decide (l < k) = false
    rw [nI_leI (by omega) (by omega), decide_eq_false_iff_not]
    omega
theorem oI_0 {l : Option Nat} (hl : rp_ko l) : oI l < 0 ↔ l = none := by
  cases l with
  | none => exact ⟨fun _ => rfl, fun _ => by decide⟩
  | some k =>
    have : k < 600 := hl.1
    have h0 : (0 : Int32) ≤ nI k := by have := nI_le (a := 0) (b := k) (by omega) (by omega); exact this
    exact ⟨fun z => absurd (show nI k < 0 from z) (Int32.not_lt.mpr h0), fun z => absurd z (by simp)⟩
theorem rp_a_ko {key : Nat → Nat} (hk : ∀ m, rp_k (key m)) {lst : Option Nat} : ∀ n, rp_ko (rp_a key lst n)
  | 0 => trivial
  | n + 1 => by
    unfold rp_a
    split
    · exact hk n
    · exact rp_a_ko hk n
theorem rp_s_ko {key : Nat → Nat} (hk : ∀ m, rp_k (key m)) {n : Nat} : ∀ i, rp_ko (rp_s key n i)
  | 0 => trivial
  | i + 1 => rp_a_ko hk n
theorem lf_75 {G : pm_G} {d : Nat} {A : iv_A} {S T : pm_S} {m : Nat} {v : Int32} {q : Int32 → pm_S → Prop} (hI : Inv A S) (hF : rpF S T) (hm : m < iv_c S 18) (h : q (nI (rpK S v m)) T) : pm_CI G d 75 [.ref (iv_m A m), .int v] T q := by
  have hw := ((hF.mat hI).2.2.1 m (by rw [hF.c (by omega)]; exact hm)).1
  obtain ⟨⟨m1, _, m2, m3, _⟩, _⟩ := (hI.mat.2.2.1 m hm).2
  have f2 : pm_i T (iv_m A m) 2 = nI (pm_i S 64 m).toNatClampNeg := by rw [hw.f2, hF.row (p := 64) (fun j => by unfold rp_q; omega)]; exact iv_nn m2.1
  have f3 : pm_i T (iv_m A m) 3 = nI (pm_i S 65 m).toNatClampNeg := by rw [hw.f3, hF.row (p := 65) (fun j => by unfold rp_q; omega)]; exact iv_nn m3.1
  have f6 : pm_i T (iv_m A m) 6 = nI (pm_i S 62 m).toNatClampNeg := by rw [hw.f6, hF.row (p := 62) (fun j => by unfold rp_q; omega)]; exact iv_nn m1.1
  have e : rpK S v m = 100 * rpB S v m + 10 * rpT S v m + rpD S v m := by unfold rpK; rw [if_pos hm]
  rw [e] at h
  unfold rpB rpT rpD at h
  have mu : ∀ a b c : Nat, (100 : Int32) * nI a + 10 * nI b + nI c = nI (100 * a + 10 * b + c) := fun a b c => by
    rw [show (100 : Int32) * nI a = nI (100 * a) from pk_mul 100 a, show (10 : Int32) * nI b = nI (10 * b) from pk_mul 10 b, nI_add, nI_add]
  generalize (pm_i S 64 m).toNatClampNeg = a at *
  generalize (pm_i S 65 m).toNatClampNeg = b at *
  generalize (pm_i S 62 m).toNatClampNeg = c at *
  by_cases c1 : v &&& 1 = 0
  · rw [if_pos c1] at h
    by_cases c2 : v &&& 2 = 0
    · rw [if_pos c2] at h
      by_cases c3 : v &&& 4 = 0
      · rw [if_pos c3] at h
        have h2 := mu 0 0 0
        rw [← h2] at h
        have h3 : q (100 * 0 + 10 * 0 + 0) T := h
        refine pm_goI 75 1 pb_c75 (by decide) (Nat.le_of_ble_eq_true rfl) rfl ?_
        try simp only [show pm_mL 75 = 5 from rfl, pm_WI0, pm_WI1, pm_WI2, pm_WI3, pm_WI4, pm_WI5, pm_WV, pm_WW, pm_WX, pb_B75, pm_if, pm_QI_at, pm_QL_at, pm_QV_at, pm_QR_at, pm_QR_at0, pm_QR_at1, Nat.reduceSub, Nat.reduceAdd, List.replicate_zero, List.replicate_succ, true_and, and_true, true_or, or_true, and_self, reduceIte, Nat.reduceEqDiff, Nat.reduceLT, Nat.reduceLeDiff, Nat.reduceMul, false_and, and_false, reduceCtorEq, false_or, or_false, not_true_eq_false, not_false_eq_true, true_implies, false_implies, implies_true, lf_10, eq_self, Int32.reduceLT, Int32.reduceLE, Int32.reduceAdd, Int32.reduceSub, pm_same, pm_i_wI, pm_l_wL, pm_l_wM, pm_oR_rf, pm_oQ_rf, nI_1, LQ1, LQ2, LQ5, hw.k, f2, f3, f6, c1, c2, c3]
        repeat' (first | exact h3 | (refine pm_wb_ok pb_c75 1 _ 0 _ _ _ _ _ ?_; simp only [pm_WI0, pm_WI1, pm_WI2, pm_WI3, pm_WI4, pm_WI5, pm_WV, pm_WW, pm_WX, pb_B75, pm_if, pm_QI_at, pm_QL_at, pm_QV_at, pm_QR_at, pm_QR_at0, pm_QR_at1, Nat.reduceSub, Nat.reduceAdd, List.replicate_zero, List.replicate_succ, true_and, and_true, true_or, or_true, and_self, reduceIte, Nat.reduceEqDiff, Nat.reduceLT, Nat.reduceLeDiff, Nat.reduceMul, false_and, and_false, reduceCtorEq, false_or, or_false, not_true_eq_false, not_false_eq_true, true_implies, false_implies, implies_true, lf_10, eq_self, Int32.reduceLT, Int32.reduceLE, Int32.reduceAdd, Int32.reduceSub, pm_same, pm_i_wI, pm_l_wL, pm_l_wM, pm_oR_rf, pm_oQ_rf, nI_1, LQ1, LQ2, LQ5, hw.k, f2, f3, f6, c1, c2, c3]))
      · rw [if_neg c3] at h
        have h2 := mu 0 0 c
        rw [← h2] at h
        have h3 : q (100 * 0 + 10 * 0 + nI c) T := h
        refine pm_goI 75 1 pb_c75 (by decide) (Nat.le_of_ble_eq_true rfl) rfl ?_
        try simp only [show pm_mL 75 = 5 from rfl, pm_WI0, pm_WI1, pm_WI2, pm_WI3, pm_WI4, pm_WI5, pm_WV, pm_WW, pm_WX, pb_B75, pm_if, pm_QI_at, pm_QL_at, pm_QV_at, pm_QR_at, pm_QR_at0, pm_QR_at1, Nat.reduceSub, Nat.reduceAdd, List.replicate_zero, List.replicate_succ, true_and, and_true, true_or, or_true, and_self, reduceIte, Nat.reduceEqDiff, Nat.reduceLT, Nat.reduceLeDiff, Nat.reduceMul, false_and, and_false, reduceCtorEq, false_or, or_false, not_true_eq_false, not_false_eq_true, true_implies, false_implies, implies_true, lf_10, eq_self, Int32.reduceLT, Int32.reduceLE, Int32.reduceAdd, Int32.reduceSub, pm_same, pm_i_wI, pm_l_wL, pm_l_wM, pm_oR_rf, pm_oQ_rf, nI_1, LQ1, LQ2, LQ5, hw.k, f2, f3, f6, c1, c2, c3]
        repeat' (first | exact h3 | (refine pm_wb_ok pb_c75 1 _ 0 _ _ _ _ _ ?_; simp only [pm_WI0, pm_WI1, pm_WI2, pm_WI3, pm_WI4, pm_WI5, pm_WV, pm_WW, pm_WX, pb_B75, pm_if, pm_QI_at, pm_QL_at, pm_QV_at, pm_QR_at, pm_QR_at0, pm_QR_at1, Nat.reduceSub, Nat.reduceAdd, List.replicate_zero, List.replicate_succ, true_and, and_true, true_or, or_true, and_self, reduceIte, Nat.reduceEqDiff, Nat.reduceLT, Nat.reduceLeDiff, Nat.reduceMul, false_and, and_false, reduceCtorEq, false_or, or_false, not_true_eq_false, not_false_eq_true, true_implies, false_implies, implies_true, lf_10, eq_self, Int32.reduceLT, Int32.reduceLE, Int32.reduceAdd, Int32.reduceSub, pm_same, pm_i_wI, pm_l_wL, pm_l_wM, pm_oR_rf, pm_oQ_rf, nI_1, LQ1, LQ2, LQ5, hw.k, f2, f3, f6, c1, c2, c3]))
    · rw [if_neg c2] at h
      by_cases c3 : v &&& 4 = 0
      · rw [if_pos c3] at h
        have h2 := mu 0 b 0
        rw [← h2] at h
        have h3 : q (100 * 0 + 10 * nI b + 0) T := h
        refine pm_goI 75 1 pb_c75 (by decide) (Nat.le_of_ble_eq_true rfl) rfl ?_
        try simp only [show pm_mL 75 = 5 from rfl, pm_WI0, pm_WI1, pm_WI2, pm_WI3, pm_WI4, pm_WI5, pm_WV, pm_WW, pm_WX, pb_B75, pm_if, pm_QI_at, pm_QL_at, pm_QV_at, pm_QR_at, pm_QR_at0, pm_QR_at1, Nat.reduceSub, Nat.reduceAdd, List.replicate_zero, List.replicate_succ, true_and, and_true, true_or, or_true, and_self, reduceIte, Nat.reduceEqDiff, Nat.reduceLT, Nat.reduceLeDiff, Nat.reduceMul, false_and, and_false, reduceCtorEq, false_or, or_false, not_true_eq_false, not_false_eq_true, true_implies, false_implies, implies_true, lf_10, eq_self, Int32.reduceLT, Int32.reduceLE, Int32.reduceAdd, Int32.reduceSub, pm_same, pm_i_wI, pm_l_wL, pm_l_wM, pm_oR_rf, pm_oQ_rf, nI_1, LQ1, LQ2, LQ5, hw.k, f2, f3, f6, c1, c2, c3]
        repeat' (first | exact h3 | (refine pm_wb_ok pb_c75 1 _ 0 _ _ _ _ _ ?_; simp only [pm_WI0, pm_WI1, pm_WI2, pm_WI3, pm_WI4, pm_WI5, pm_WV, pm_WW, pm_WX, pb_B75, pm_if, pm_QI_at, pm_QL_at, pm_QV_at, pm_QR_at, pm_QR_at0, pm_QR_at1, Nat.reduceSub, Nat.reduceAdd, List.replicate_zero, List.replicate_succ, true_and, and_true, true_or, or_true, and_self, reduceIte, Nat.reduceEqDiff, Nat.reduceLT, Nat.reduceLeDiff, Nat.reduceMul, false_and, and_false, reduceCtorEq, false_or, or_false, not_true_eq_false, not_false_eq_true, true_implies, false_implies, implies_true, lf_10, eq_self, Int32.reduceLT, Int32.reduceLE, Int32.reduceAdd, Int32.reduceSub, pm_same, pm_i_wI, pm_l_wL, pm_l_wM, pm_oR_rf, pm_oQ_rf, nI_1, LQ1, LQ2, LQ5, hw.k, f2, f3, f6, c1, c2, c3]))
      · rw [if_neg c3] at h
        have h2 := mu 0 b c
        rw [← h2] at h
        have h3 : q (100 * 0 + 10 * nI b + nI c) T := h
        refine pm_goI 75 1 pb_c75 (by decide) (Nat.le_of_ble_eq_true rfl) rfl ?_
        try simp only [show pm_mL 75 = 5 from rfl, pm_WI0, pm_WI1, pm_WI2, pm_WI3, pm_WI4, pm_WI5, pm_WV, pm_WW, pm_WX, pb_B75, pm_if, pm_QI_at, pm_QL_at, pm_QV_at, pm_QR_at, pm_QR_at0, pm_QR_at1, Nat.reduceSub, Nat.reduceAdd, List.replicate_zero, List.replicate_succ, true_and, and_true, true_or, or_true, and_self, reduceIte, Nat.reduceEqDiff, Nat.reduceLT, Nat.reduceLeDiff, Nat.reduceMul, false_and, and_false, reduceCtorEq, false_or, or_false, not_true_eq_false, not_false_eq_true, true_implies, false_implies, implies_true, lf_10, eq_self, Int32.reduceLT, Int32.reduceLE, Int32.reduceAdd, Int32.reduceSub, pm_same, pm_i_wI, pm_l_wL, pm_l_wM, pm_oR_rf, pm_oQ_rf, nI_1, LQ1, LQ2, LQ5, hw.k, f2, f3, f6, c1, c2, c3]
        repeat' (first | exact h3 | (refine pm_wb_ok pb_c75 1 _ 0 _ _ _ _ _ ?_; simp only [pm_WI0, pm_WI1, pm_WI2, pm_WI3, pm_WI4, pm_WI5, pm_WV, pm_WW, pm_WX, pb_B75, pm_if, pm_QI_at, pm_QL_at, pm_QV_at, pm_QR_at, pm_QR_at0, pm_QR_at1, Nat.reduceSub, Nat.reduceAdd, List.replicate_zero, List.replicate_succ, true_and, and_true, true_or, or_true, and_self, reduceIte, Nat.reduceEqDiff, Nat.reduceLT, Nat.reduceLeDiff, Nat.reduceMul, false_and, and_false, reduceCtorEq, false_or, or_false, not_true_eq_false, not_false_eq_true, true_implies, false_implies, implies_true, lf_10, eq_self, Int32.reduceLT, Int32.reduceLE, Int32.reduceAdd, Int32.reduceSub, pm_same, pm_i_wI, pm_l_wL, pm_l_wM, pm_oR_rf, pm_oQ_rf, nI_1, LQ1, LQ2, LQ5, hw.k, f2, f3, f6, c1, c2, c3]))
  · rw [if_neg c1] at h
    by_cases c2 : v &&& 2 = 0
    · rw [if_pos c2] at h
      by_cases c3 : v &&& 4 = 0
      · rw [if_pos c3] at h
        have h2 := mu a 0 0
        rw [← h2] at h
        have h3 : q (100 * nI a + 10 * 0 + 0) T := h
        refine pm_goI 75 1 pb_c75 (by decide) (Nat.le_of_ble_eq_true rfl) rfl ?_
        try simp only [show pm_mL 75 = 5 from rfl, pm_WI0, pm_WI1, pm_WI2, pm_WI3, pm_WI4, pm_WI5, pm_WV, pm_WW, pm_WX, pb_B75, pm_if, pm_QI_at, pm_QL_at, pm_QV_at, pm_QR_at, pm_QR_at0, pm_QR_at1, Nat.reduceSub, Nat.reduceAdd, List.replicate_zero, List.replicate_succ, true_and, and_true, true_or, or_true, and_self, reduceIte, Nat.reduceEqDiff, Nat.reduceLT, Nat.reduceLeDiff, Nat.reduceMul, false_and, and_false, reduceCtorEq, false_or, or_false, not_true_eq_false, not_false_eq_true, true_implies, false_implies, implies_true, lf_10, eq_self, Int32.reduceLT, Int32.reduceLE, Int32.reduceAdd, Int32.reduceSub, pm_same, pm_i_wI, pm_l_wL, pm_l_wM, pm_oR_rf, pm_oQ_rf, nI_1, LQ1, LQ2, LQ5, hw.k, f2, f3, f6, c1, c2, c3]
        repeat' (first | exact h3 | (refine pm_wb_ok pb_c75 1 _ 0 _ _ _ _ _ ?_; simp only [pm_WI0, pm_WI1, pm_WI2, pm_WI3, pm_WI4, pm_WI5, pm_WV, pm_WW, pm_WX, pb_B75, pm_if, pm_QI_at, pm_QL_at, pm_QV_at, pm_QR_at, pm_QR_at0, pm_QR_at1, Nat.reduceSub, Nat.reduceAdd, List.replicate_zero, List.replicate_succ, true_and, and_true, true_or, or_true, and_self, reduceIte, Nat.reduceEqDiff, Nat.reduceLT, Nat.reduceLeDiff, Nat.reduceMul, false_and, and_false, reduceCtorEq, false_or, or_false, not_true_eq_false, not_false_eq_true, true_implies, false_implies, implies_true, lf_10, eq_self, Int32.reduceLT, Int32.reduceLE, Int32.reduceAdd, Int32.reduceSub, pm_same, pm_i_wI, pm_l_wL, pm_l_wM, pm_oR_rf, pm_oQ_rf, nI_1, LQ1, LQ2, LQ5, hw.k, f2, f3, f6, c1, c2, c3]))
      · rw [if_neg c3] at h
        have h2 := mu a 0 c
        rw [← h2] at h
        have h3 : q (100 * nI a + 10 * 0 + nI c) T := h
        refine pm_goI 75 1 pb_c75 (by decide) (Nat.le_of_ble_eq_true rfl) rfl ?_
        try simp only [show pm_mL 75 = 5 from rfl, pm_WI0, pm_WI1, pm_WI2, pm_WI3, pm_WI4, pm_WI5, pm_WV, pm_WW, pm_WX, pb_B75, pm_if, pm_QI_at, pm_QL_at, pm_QV_at, pm_QR_at, pm_QR_at0, pm_QR_at1, Nat.reduceSub, Nat.reduceAdd, List.replicate_zero, List.replicate_succ, true_and, and_true, true_or, or_true, and_self, reduceIte, Nat.reduceEqDiff, Nat.reduceLT, Nat.reduceLeDiff, Nat.reduceMul, false_and, and_false, reduceCtorEq, false_or, or_false, not_true_eq_false, not_false_eq_true, true_implies, false_implies, implies_true, lf_10, eq_self, Int32.reduceLT, Int32.reduceLE, Int32.reduceAdd, Int32.reduceSub, pm_same, pm_i_wI, pm_l_wL, pm_l_wM, pm_oR_rf, pm_oQ_rf, nI_1, LQ1, LQ2, LQ5, hw.k, f2, f3, f6, c1, c2, c3]
        repeat' (first | exact h3 | (refine pm_wb_ok pb_c75 1 _ 0 _ _ _ _ _ ?_; simp only [pm_WI0, pm_WI1, pm_WI2, pm_WI3, pm_WI4, pm_WI5, pm_WV, pm_WW, pm_WX, pb_B75, pm_if, pm_QI_at, pm_QL_at, pm_QV_at, pm_QR_at, pm_QR_at0, pm_QR_at1, Nat.reduceSub, Nat.reduceAdd, List.replicate_zero, List.replicate_succ, true_and, and_true, true_or, or_true, and_self, reduceIte, Nat.reduceEqDiff, Nat.reduceLT, Nat.reduceLeDiff, Nat.reduceMul, false_and, and_false, reduceCtorEq, false_or, or_false, not_true_eq_false, not_false_eq_true, true_implies, false_implies, implies_true, lf_10, eq_self, Int32.reduceLT, Int32.reduceLE, Int32.reduceAdd, Int32.reduceSub, pm_same, pm_i_wI, pm_l_wL, pm_l_wM, pm_oR_rf, pm_oQ_rf, nI_1, LQ1, LQ2, LQ5, hw.k, f2, f3, f6, c1, c2, c3]))
    · rw [if_neg c2] at h
      by_cases c3 : v &&& 4 = 0
      · rw [if_pos c3] at h
        have h2 := mu a b 0
        rw [← h2] at h
        have h3 : q (100 * nI a + 10 * nI b + 0) T := h
        refine pm_goI 75 1 pb_c75 (by decide) (Nat.le_of_ble_eq_true rfl) rfl ?_
        try simp only [show pm_mL 75 = 5 from rfl, pm_WI0, pm_WI1, pm_WI2, pm_WI3, pm_WI4, pm_WI5, pm_WV, pm_WW, pm_WX, pb_B75, pm_if, pm_QI_at, pm_QL_at, pm_QV_at, pm_QR_at, pm_QR_at0, pm_QR_at1, Nat.reduceSub, Nat.reduceAdd, List.replicate_zero, List.replicate_succ, true_and, and_true, true_or, or_true, and_self, reduceIte, Nat.reduceEqDiff, Nat.reduceLT, Nat.reduceLeDiff, Nat.reduceMul, false_and, and_false, reduceCtorEq, false_or, or_false, not_true_eq_false, not_false_eq_true, true_implies, false_implies, implies_true, lf_10, eq_self, Int32.reduceLT, Int32.reduceLE, Int32.reduceAdd, Int32.reduceSub, pm_same, pm_i_wI, pm_l_wL, pm_l_wM, pm_oR_rf, pm_oQ_rf, nI_1, LQ1, LQ2, LQ5, hw.k, f2, f3, f6, c1, c2, c3]
        repeat' (first | exact h3 | (refine pm_wb_ok pb_c75 1 _ 0 _ _ _ _ _ ?_; simp only [pm_WI0, pm_WI1, pm_WI2, pm_WI3, pm_WI4, pm_WI5, pm_WV, pm_WW, pm_WX, pb_B75, pm_if, pm_QI_at, pm_QL_at, pm_QV_at, pm_QR_at, pm_QR_at0, pm_QR_at1, Nat.reduceSub, Nat.reduceAdd, List.replicate_zero, List.replicate_succ, true_and, and_true, true_or, or_true, and_self, reduceIte, Nat.reduceEqDiff, Nat.reduceLT, Nat.reduceLeDiff, Nat.reduceMul, false_and, and_false, reduceCtorEq, false_or, or_false, not_true_eq_false, not_false_eq_true, true_implies, false_implies, implies_true, lf_10, eq_self, Int32.reduceLT, Int32.reduceLE, Int32.reduceAdd, Int32.reduceSub, pm_same, pm_i_wI, pm_l_wL, pm_l_wM, pm_oR_rf, pm_oQ_rf, nI_1, LQ1, LQ2, LQ5, hw.k, f2, f3, f6, c1, c2, c3]))
      · rw [if_neg c3] at h
        have h2 := mu a b c
        rw [← h2] at h
        have h3 : q (100 * nI a + 10 * nI b + nI c) T := h
        refine pm_goI 75 1 pb_c75 (by decide) (Nat.le_of_ble_eq_true rfl) rfl ?_
        try simp only [show pm_mL 75 = 5 from rfl, pm_WI0, pm_WI1, pm_WI2, pm_WI3, pm_WI4, pm_WI5, pm_WV, pm_WW, pm_WX, pb_B75, pm_if, pm_QI_at, pm_QL_at, pm_QV_at, pm_QR_at, pm_QR_at0, pm_QR_at1, Nat.reduceSub, Nat.reduceAdd, List.replicate_zero, List.replicate_succ, true_and, and_true, true_or, or_true, and_self, reduceIte, Nat.reduceEqDiff, Nat.reduceLT, Nat.reduceLeDiff, Nat.reduceMul, false_and, and_false, reduceCtorEq, false_or, or_false, not_true_eq_false, not_false_eq_true, true_implies, false_implies, implies_true, lf_10, eq_self, Int32.reduceLT, Int32.reduceLE, Int32.reduceAdd, Int32.reduceSub, pm_same, pm_i_wI, pm_l_wL, pm_l_wM, pm_oR_rf, pm_oQ_rf, nI_1, LQ1, LQ2, LQ5, hw.k, f2, f3, f6, c1, c2, c3]
        repeat' (first | exact h3 | (refine pm_wb_ok pb_c75 1 _ 0 _ _ _ _ _ ?_; simp only [pm_WI0, pm_WI1, pm_WI2, pm_WI3, pm_WI4, pm_WI5, pm_WV, pm_WW, pm_WX, pb_B75, pm_if, pm_QI_at, pm_QL_at, pm_QV_at, pm_QR_at, pm_QR_at0, pm_QR_at1, Nat.reduceSub, Nat.reduceAdd, List.replicate_zero, List.replicate_succ, true_and, and_true, true_or, or_true, and_self, reduceIte, Nat.reduceEqDiff, Nat.reduceLT, Nat.reduceLeDiff, Nat.reduceMul, false_and, and_false, reduceCtorEq, false_or, or_false, not_true_eq_false, not_false_eq_true, true_implies, false_implies, implies_true, lf_10, eq_self, Int32.reduceLT, Int32.reduceLE, Int32.reduceAdd, Int32.reduceSub, pm_same, pm_i_wI, pm_l_wL, pm_l_wM, pm_oR_rf, pm_oQ_rf, nI_1, LQ1, LQ2, LQ5, hw.k, f2, f3, f6, c1, c2, c3]))
theorem lf_74 {G : pm_G} {d : Nat} {A : iv_A} {S T : pm_S} {n : Nat} {lst : Option Nat} {v : Int32} {q : Int32 → pm_S → Prop} (hd : 2 ≤ d) (hI : Inv A S) (hF : rpF S T) (hn : n = iv_c S 18) (hl : rp_ko lst) (h : q (oI (rp_a (rpK S v) lst n)) T) : pm_CI G d 74 [.int (oI lst), .ref 4, .int (nI n), .int v] T q := by
  have hT := hF.sh hI.sh
  have n40 := (MI.c18 hI.mi).1
  have kk := rpK_k hI v
  have key : pm_W G d 74 (pm_QI q) 6 [.int (oI lst), .ref 4, .int (nI n), .int v, .int (-1), .int (nI 0), .float 0] [] T 0 0 := by
    refine pv_loopR (fun i => [.int (oI lst), .ref 4, .int (nI n), .int v, .int (oI (rp_a (rpK S v) lst i)), .int (nI i), .float 0]) n (fun i hi hk => ?_) ?_
    · have hle : ¬ nI n ≤ nI i := nI_ge hi (by omega)
      have hcc := nI_clamp (n := i) (by omega)
      have hv := vp_in_nI (n := i) (N := 40) (by omega) (by decide)
      have hw := ((hF.mat hI).2.2.1 i (by rw [hF.c (by omega)]; omega)).1
      have ki := kk i
      have og := oI_g hl ki.1
      have ao : rp_ko (rp_a (rpK S v) lst i) := rp_a_ko kk i
      have ol := oI_0 ao
      have ea : rp_a (rpK S v) lst (i + 1) = if rp_g lst (rpK S v i) && rp_l (rpK S v i) (rp_a (rpK S v) lst i) then some (rpK S v i) else rp_a (rpK S v) lst i := rfl
      try refine pm_wb_ok pb_c74 1 6 0 _ _ _ _ _ ?_
      try simp only [pm_WI0, pm_WI1, pm_WI2, pm_WI3, pm_WI4, pm_WI5, pm_WV, pm_WW, pm_WX, pb_B74, pm_if, pm_QI_at, pm_QL_at, pm_QV_at, pm_QR_at, pm_QR_at0, pm_QR_at1, Nat.reduceSub, Nat.reduceAdd, List.replicate_zero, List.replicate_succ, true_and, and_true, true_or, or_true, and_self, reduceIte, Nat.reduceEqDiff, Nat.reduceLT, Nat.reduceLeDiff, Nat.reduceMul, false_and, and_false, reduceCtorEq, false_or, or_false, not_true_eq_false, not_false_eq_true, true_implies, false_implies, implies_true, lf_10, eq_self, Int32.reduceLT, Int32.reduceLE, Int32.reduceAdd, Int32.reduceSub, pm_same, pm_i_wI, pm_l_wL, pm_l_wM, pm_oR_rf, pm_oQ_rf, nI_1, LQ1, LQ2, LQ5, sh_k4 hT, sh_z4 hT, hle, hcc, hw.r, va_rf]
      try refine ⟨hv, ?_⟩
      refine ⟨by omega, lf_75 hI hF (by omega) ?_⟩
      generalize rpK S v i = K at *
      generalize rp_a (rpK S v) lst i = X at *
      cases g : rp_g lst K with
      | false =>
        have g1 := og.mpr g
        rw [ea, g, Bool.false_and, if_neg (by decide)] at hk
        try simp only [pm_WV, pm_WW, true_and, and_true, true_or, or_true, and_self, reduceIte, Nat.reduceEqDiff, Nat.reduceLT, Nat.reduceLeDiff, Nat.reduceMul, false_and, and_false, reduceCtorEq, false_or, or_false, not_true_eq_false, not_false_eq_true, true_implies, false_implies, implies_true, lf_10, eq_self, Int32.reduceLT, Int32.reduceLE, Int32.reduceAdd, Int32.reduceSub, pm_same, pm_i_wI, pm_l_wL, pm_l_wM, pm_oR_rf, pm_oQ_rf, nI_1, sw_e, LQ1, LQ2, pm_WI0, pm_WI1, pm_WI2, pm_WI3, pm_WI4, pm_WI5, pm_WV, pm_WW, pm_WX, pb_B74, pm_if, pm_QI_at, pm_QL_at, pm_QV_at, pm_QR_at, pm_QR_at0, pm_QR_at1, Nat.reduceSub, Nat.reduceAdd, List.replicate_zero, List.replicate_succ, true_and, and_true, true_or, or_true, and_self, reduceIte, Nat.reduceEqDiff, Nat.reduceLT, Nat.reduceLeDiff, Nat.reduceMul, false_and, and_false, reduceCtorEq, false_or, or_false, not_true_eq_false, not_false_eq_true, true_implies, false_implies, implies_true, lf_10, eq_self, Int32.reduceLT, Int32.reduceLE, Int32.reduceAdd, Int32.reduceSub, pm_same, pm_i_wI, pm_l_wL, pm_l_wM, pm_oR_rf, pm_oQ_rf, nI_1, LQ1, LQ2, LQ5, sh_k4 hT, sh_z4 hT, hle, hcc, hw.r, va_rf, g1]
        repeat' (first | exact pv_W hk (by simp [pv_le, pm_unk]) | (refine pm_wb_ok pb_c74 1 _ 0 _ _ _ _ _ ?_; simp only [pm_WI0, pm_WI1, pm_WI2, pm_WI3, pm_WI4, pm_WI5, pm_WV, pm_WW, pm_WX, pb_B74, pm_if, pm_QI_at, pm_QL_at, pm_QV_at, pm_QR_at, pm_QR_at0, pm_QR_at1, Nat.reduceSub, Nat.reduceAdd, List.replicate_zero, List.replicate_succ, true_and, and_true, true_or, or_true, and_self, reduceIte, Nat.reduceEqDiff, Nat.reduceLT, Nat.reduceLeDiff, Nat.reduceMul, false_and, and_false, reduceCtorEq, false_or, or_false, not_true_eq_false, not_false_eq_true, true_implies, false_implies, implies_true, lf_10, eq_self, Int32.reduceLT, Int32.reduceLE, Int32.reduceAdd, Int32.reduceSub, pm_same, pm_i_wI, pm_l_wL, pm_l_wM, pm_oR_rf, pm_oQ_rf, nI_1, LQ1, LQ2, LQ5, sh_k4 hT, sh_z4 hT, hle, hcc, hw.r, va_rf, g1]))
      | true =>
        have g1 : ¬ nI K ≤ oI lst := fun z => by rw [og.mp z] at g; exact absurd g (by decide)
        cases X with
        | none =>
          rw [ea, g] at hk
          have hk2 : pm_W G d 74 (pm_QI q) 6 [.int (oI lst), .ref 4, .int (nI n), .int v, .int (nI K), .int (nI (i + 1)), .float 0] [] T 0 0 := hk
          have l0 : oI none < 0 := by decide
          try simp only [pm_WV, pm_WW, true_and, and_true, true_or, or_true, and_self, reduceIte, Nat.reduceEqDiff, Nat.reduceLT, Nat.reduceLeDiff, Nat.reduceMul, false_and, and_false, reduceCtorEq, false_or, or_false, not_true_eq_false, not_false_eq_true, true_implies, false_implies, implies_true, lf_10, eq_self, Int32.reduceLT, Int32.reduceLE, Int32.reduceAdd, Int32.reduceSub, pm_same, pm_i_wI, pm_l_wL, pm_l_wM, pm_oR_rf, pm_oQ_rf, nI_1, sw_e, LQ1, LQ2, pm_WI0, pm_WI1, pm_WI2, pm_WI3, pm_WI4, pm_WI5, pm_WV, pm_WW, pm_WX, pb_B74, pm_if, pm_QI_at, pm_QL_at, pm_QV_at, pm_QR_at, pm_QR_at0, pm_QR_at1, Nat.reduceSub, Nat.reduceAdd, List.replicate_zero, List.replicate_succ, true_and, and_true, true_or, or_true, and_self, reduceIte, Nat.reduceEqDiff, Nat.reduceLT, Nat.reduceLeDiff, Nat.reduceMul, false_and, and_false, reduceCtorEq, false_or, or_false, not_true_eq_false, not_false_eq_true, true_implies, false_implies, implies_true, lf_10, eq_self, Int32.reduceLT, Int32.reduceLE, Int32.reduceAdd, Int32.reduceSub, pm_same, pm_i_wI, pm_l_wL, pm_l_wM, pm_oR_rf, pm_oQ_rf, nI_1, LQ1, LQ2, LQ5, sh_k4 hT, sh_z4 hT, hle, hcc, hw.r, va_rf, g1, l0]
          repeat' (first | exact pv_W hk2 (by simp [pv_le, pm_unk]) | (refine pm_wb_ok pb_c74 1 _ 0 _ _ _ _ _ ?_; simp only [pm_WI0, pm_WI1, pm_WI2, pm_WI3, pm_WI4, pm_WI5, pm_WV, pm_WW, pm_WX, pb_B74, pm_if, pm_QI_at, pm_QL_at, pm_QV_at, pm_QR_at, pm_QR_at0, pm_QR_at1, Nat.reduceSub, Nat.reduceAdd, List.replicate_zero, List.replicate_succ, true_and, and_true, true_or, or_true, and_self, reduceIte, Nat.reduceEqDiff, Nat.reduceLT, Nat.reduceLeDiff, Nat.reduceMul, false_and, and_false, reduceCtorEq, false_or, or_false, not_true_eq_false, not_false_eq_true, true_implies, false_implies, implies_true, lf_10, eq_self, Int32.reduceLT, Int32.reduceLE, Int32.reduceAdd, Int32.reduceSub, pm_same, pm_i_wI, pm_l_wL, pm_l_wM, pm_oR_rf, pm_oQ_rf, nI_1, LQ1, LQ2, LQ5, sh_k4 hT, sh_z4 hT, hle, hcc, hw.r, va_rf, g1, l0]))
        | some l =>
          have l0 : ¬ oI (some l) < 0 := fun z => absurd (ol.mp z) (by simp)
          have l600 : l < 600 := ao.1
          have k600 := ki.1
          by_cases c : K < l
          · have l1 : ¬ nI l ≤ nI K := nI_ge c (by omega)
            have l2 : ¬ oI (some l) ≤ nI K := l1
            rw [ea, g, show rp_l K (some l) = true from decide_eq_true c] at hk
            have hk2 : pm_W G d 74 (pm_QI q) 6 [.int (oI lst), .ref 4, .int (nI n), .int v, .int (nI K), .int (nI (i + 1)), .float 0] [] T 0 0 := hk
            try simp only [pm_WV, pm_WW, true_and, and_true, true_or, or_true, and_self, reduceIte, Nat.reduceEqDiff, Nat.reduceLT, Nat.reduceLeDiff, Nat.reduceMul, false_and, and_false, reduceCtorEq, false_or, or_false, not_true_eq_false, not_false_eq_true, true_implies, false_implies, implies_true, lf_10, eq_self, Int32.reduceLT, Int32.reduceLE, Int32.reduceAdd, Int32.reduceSub, pm_same, pm_i_wI, pm_l_wL, pm_l_wM, pm_oR_rf, pm_oQ_rf, nI_1, sw_e, LQ1, LQ2, pm_WI0, pm_WI1, pm_WI2, pm_WI3, pm_WI4, pm_WI5, pm_WV, pm_WW, pm_WX, pb_B74, pm_if, pm_QI_at, pm_QL_at, pm_QV_at, pm_QR_at, pm_QR_at0, pm_QR_at1, Nat.reduceSub, Nat.reduceAdd, List.replicate_zero, List.replicate_succ, true_and, and_true, true_or, or_true, and_self, reduceIte, Nat.reduceEqDiff, Nat.reduceLT, Nat.reduceLeDiff, Nat.reduceMul, false_and, and_false, reduceCtorEq, false_or, or_false, not_true_eq_false, not_false_eq_true, true_implies, false_implies, implies_true, lf_10, eq_self, Int32.reduceLT, Int32.reduceLE, Int32.reduceAdd, Int32.reduceSub, pm_same, pm_i_wI, pm_l_wL, pm_l_wM, pm_oR_rf, pm_oQ_rf, nI_1, LQ1, LQ2, LQ5, sh_k4 hT, sh_z4 hT, hle, hcc, hw.r, va_rf, g1, l0, l2]
            repeat' (first | exact pv_W hk2 (by simp [pv_le, pm_unk]) | (refine pm_wb_ok pb_c74 1 _ 0 _ _ _ _ _ ?_; simp only [pm_WI0, pm_WI1, pm_WI2, pm_WI3, pm_WI4, pm_WI5, pm_WV, pm_WW, pm_WX, pb_B74, pm_if, pm_QI_at, pm_QL_at, pm_QV_at, pm_QR_at, pm_QR_at0, pm_QR_at1, Nat.reduceSub, Nat.reduceAdd, List.replicate_zero, List.replicate_succ, true_and, and_true, true_or, or_true, and_self, reduceIte, Nat.reduceEqDiff, Nat.reduceLT, Nat.reduceLeDiff, Nat.reduceMul, false_and, and_false, reduceCtorEq, false_or, or_false, not_true_eq_false, not_false_eq_true, true_implies, false_implies, implies_true, lf_10, eq_self, Int32.reduceLT, Int32.reduceLE, Int32.reduceAdd, Int32.reduceSub, pm_same, pm_i_wI, pm_l_wL, pm_l_wM, pm_oR_rf, pm_oQ_rf, nI_1, LQ1, LQ2, LQ5, sh_k4 hT, sh_z4 hT, hle, hcc, hw.r, va_rf, g1, l0, l2]))
          · have l1 : nI l ≤ nI K := nI_le (by omega) (by omega)
            have l2 : oI (some l) ≤ nI K := l1
            rw [ea, g, show rp_l K (some l) = false from decide_eq_false c] at hk
            have hk2 : pm_W G d 74 (pm_QI q) 6 [.int (oI lst), .ref 4, .int (nI n), .int v, .int (oI (some l)), .int (nI (i + 1)), .float 0] [] T 0 0 := hk
            try simp only [pm_WV, pm_WW, true_and, and_true, true_or, or_true, and_self, reduceIte, Nat.reduceEqDiff, Nat.reduceLT, Nat.reduceLeDiff, Nat.reduceMul, false_and, and_false, reduceCtorEq, false_or, or_false, not_true_eq_false, not_false_eq_true, true_implies, false_implies, implies_true, lf_10, eq_self, Int32.reduceLT, Int32.reduceLE, Int32.reduceAdd, Int32.reduceSub, pm_same, pm_i_wI, pm_l_wL, pm_l_wM, pm_oR_rf, pm_oQ_rf, nI_1, sw_e, LQ1, LQ2, pm_WI0, pm_WI1, pm_WI2, pm_WI3, pm_WI4, pm_WI5, pm_WV, pm_WW, pm_WX, pb_B74, pm_if, pm_QI_at, pm_QL_at, pm_QV_at, pm_QR_at, pm_QR_at0, pm_QR_at1, Nat.reduceSub, Nat.reduceAdd, List.replicate_zero, List.replicate_succ, true_and, and_true, true_or, or_true, and_self, reduceIte, Nat.reduceEqDiff, Nat.reduceLT, Nat.reduceLeDiff, Nat.reduceMul, false_and, and_false, reduceCtorEq, false_or, or_false, not_true_eq_false, not_false_eq_true, true_implies, false_implies, implies_true, lf_10, eq_self, Int32.reduceLT, Int32.reduceLE, Int32.reduceAdd, Int32.reduceSub, pm_same, pm_i_wI, pm_l_wL, pm_l_wM, pm_oR_rf, pm_oQ_rf, nI_1, LQ1, LQ2, LQ5, sh_k4 hT, sh_z4 hT, hle, hcc, hw.r, va_rf, g1, l0, l2]
            repeat' (first | exact pv_W hk2 (by simp [pv_le, pm_unk]) | (refine pm_wb_ok pb_c74 1 _ 0 _ _ _ _ _ ?_; simp only [pm_WI0, pm_WI1, pm_WI2, pm_WI3, pm_WI4, pm_WI5, pm_WV, pm_WW, pm_WX, pb_B74, pm_if, pm_QI_at, pm_QL_at, pm_QV_at, pm_QR_at, pm_QR_at0, pm_QR_at1, Nat.reduceSub, Nat.reduceAdd, List.replicate_zero, List.replicate_succ, true_and, and_true, true_or, or_true, and_self, reduceIte, Nat.reduceEqDiff, Nat.reduceLT, Nat.reduceLeDiff, Nat.reduceMul, false_and, and_false, reduceCtorEq, false_or, or_false, not_true_eq_false, not_false_eq_true, true_implies, false_implies, implies_true, lf_10, eq_self, Int32.reduceLT, Int32.reduceLE, Int32.reduceAdd, Int32.reduceSub, pm_same, pm_i_wI, pm_l_wL, pm_l_wM, pm_oR_rf, pm_oQ_rf, nI_1, LQ1, LQ2, LQ5, sh_k4 hT, sh_z4 hT, hle, hcc, hw.r, va_rf, g1, l0, l2]))
    · have hle : nI n ≤ nI n := Int32.le_refl _
      try refine pm_wb_ok pb_c74 1 6 0 _ _ _ _ _ ?_
      try simp only [pm_WI0, pm_WI1, pm_WI2, pm_WI3, pm_WI4, pm_WI5, pm_WV, pm_WW, pm_WX, pb_B74, pm_if, pm_QI_at, pm_QL_at, pm_QV_at, pm_QR_at, pm_QR_at0, pm_QR_at1, Nat.reduceSub, Nat.reduceAdd, List.replicate_zero, List.replicate_succ, true_and, and_true, true_or, or_true, and_self, reduceIte, Nat.reduceEqDiff, Nat.reduceLT, Nat.reduceLeDiff, Nat.reduceMul, false_and, and_false, reduceCtorEq, false_or, or_false, not_true_eq_false, not_false_eq_true, true_implies, false_implies, implies_true, lf_10, eq_self, Int32.reduceLT, Int32.reduceLE, Int32.reduceAdd, Int32.reduceSub, pm_same, pm_i_wI, pm_l_wL, pm_l_wM, pm_oR_rf, pm_oQ_rf, nI_1, LQ1, LQ2, LQ5, sh_k4 hT, sh_z4 hT, hle]
      repeat' (first | exact h | (refine pm_wb_ok pb_c74 1 _ 0 _ _ _ _ _ ?_; simp only [pm_WI0, pm_WI1, pm_WI2, pm_WI3, pm_WI4, pm_WI5, pm_WV, pm_WW, pm_WX, pb_B74, pm_if, pm_QI_at, pm_QL_at, pm_QV_at, pm_QR_at, pm_QR_at0, pm_QR_at1, Nat.reduceSub, Nat.reduceAdd, List.replicate_zero, List.replicate_succ, true_and, and_true, true_or, or_true, and_self, reduceIte, Nat.reduceEqDiff, Nat.reduceLT, Nat.reduceLeDiff, Nat.reduceMul, false_and, and_false, reduceCtorEq, false_or, or_false, not_true_eq_false, not_false_eq_true, true_implies, false_implies, implies_true, lf_10, eq_self, Int32.reduceLT, Int32.reduceLE, Int32.reduceAdd, Int32.reduceSub, pm_same, pm_i_wI, pm_l_wL, pm_l_wM, pm_oR_rf, pm_oQ_rf, nI_1, LQ1, LQ2, LQ5, sh_k4 hT, sh_z4 hT, hle]))
  refine pm_goI 74 1 pb_c74 (by decide) (Nat.le_of_ble_eq_true rfl) rfl ?_
  try simp only [show pm_mL 74 = 7 from rfl, pm_WI0, pm_WI1, pm_WI2, pm_WI3, pm_WI4, pm_WI5, pm_WV, pm_WW, pm_WX, pb_B74, pm_if, pm_QI_at, pm_QL_at, pm_QV_at, pm_QR_at, pm_QR_at0, pm_QR_at1, Nat.reduceSub, Nat.reduceAdd, List.replicate_zero, List.replicate_succ, true_and, and_true, true_or, or_true, and_self, reduceIte, Nat.reduceEqDiff, Nat.reduceLT, Nat.reduceLeDiff, Nat.reduceMul, false_and, and_false, reduceCtorEq, false_or, or_false, not_true_eq_false, not_false_eq_true, true_implies, false_implies, implies_true, lf_10, eq_self, Int32.reduceLT, Int32.reduceLE, Int32.reduceAdd, Int32.reduceSub, pm_same, pm_i_wI, pm_l_wL, pm_l_wM, pm_oR_rf, pm_oQ_rf, nI_1, LQ1, LQ2, LQ5, sh_k4 hT, sh_z4 hT]
  repeat' (first | exact key | exact pv_W key (by simp [pv_le, pm_unk, show nI 0 = 0 from rfl]) | (refine pm_wb_ok pb_c74 1 _ 0 _ _ _ _ _ ?_; simp only [pm_WI0, pm_WI1, pm_WI2, pm_WI3, pm_WI4, pm_WI5, pm_WV, pm_WW, pm_WX, pb_B74, pm_if, pm_QI_at, pm_QL_at, pm_QV_at, pm_QR_at, pm_QR_at0, pm_QR_at1, Nat.reduceSub, Nat.reduceAdd, List.replicate_zero, List.replicate_succ, true_and, and_true, true_or, or_true, and_self, reduceIte, Nat.reduceEqDiff, Nat.reduceLT, Nat.reduceLeDiff, Nat.reduceMul, false_and, and_false, reduceCtorEq, false_or, or_false, not_true_eq_false, not_false_eq_true, true_implies, false_implies, implies_true, lf_10, eq_self, Int32.reduceLT, Int32.reduceLE, Int32.reduceAdd, Int32.reduceSub, pm_same, pm_i_wI, pm_l_wL, pm_l_wM, pm_oR_rf, pm_oQ_rf, nI_1, LQ1, LQ2, LQ5, sh_k4 hT, sh_z4 hT]))
