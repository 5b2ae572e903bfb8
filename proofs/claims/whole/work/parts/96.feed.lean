/-! feed -/
theorem fb_e (b : Int32) (s : Nat) (hs : s ≤ 24) (c : Int32) (d : UInt32) (hc : c.toBitVec.smod 32 = BitVec.ofNat 32 s) (hd : d.toBitVec % 32 = BitVec.ofNat 32 s) : (b.toUInt32 >>> d).toInt32 &&& 255 = (b >>> c) &&& 255 := by
  apply Int32.toBitVec_inj.mp
  rw [Int32.toBitVec_and, Int32.toBitVec_and]
  rw [show ((b.toUInt32 >>> d).toInt32).toBitVec = b.toBitVec >>> (BitVec.ofNat 32 s) from by
    show (b.toUInt32 >>> d).toBitVec = _
    rw [UInt32.toBitVec_shiftRight, hd]; rfl]
  rw [Int32.toBitVec_shiftRight, hc]
  apply BitVec.eq_of_getLsbD_eq
  intro i hi
  have e255 : (255 : Int32).toBitVec = BitVec.ofNat 32 255 := rfl
  rw [BitVec.getLsbD_and, BitVec.getLsbD_and, e255]
  by_cases h8 : i < 8
  · congr 1
    have hm : (BitVec.ofNat 32 s).toNat = s := by rw [BitVec.toNat_ofNat]; omega
    rw [BitVec.sshiftRight', BitVec.getLsbD_sshiftRight, hm]
    show (b.toBitVec >>> (BitVec.ofNat 32 s).toNat).getLsbD i = _
    rw [hm, BitVec.getLsbD_ushiftRight, if_pos (by omega)]
    have : ¬ 32 ≤ i := by omega
    simp [this]
  · have : (BitVec.ofNat 32 255).getLsbD i = false := by
      have : ∀ i, i < 32 → ¬ i < 8 → (BitVec.ofNat 32 255).getLsbD i = false := by decide
      exact this i hi h8
    rw [this]; simp
theorem fb_r (x : Int32) : 0 ≤ x &&& 255 ∧ x &&& 255 ≤ 255 := by
  have h : (x &&& 255).toBitVec = x.toBitVec &&& 255#32 := rfl
  have hl : (x.toBitVec &&& 255#32).toNat ≤ 255 := by
    rw [BitVec.toNat_and]; exact Nat.and_le_right
  have e : (x &&& 255).toInt = ((x.toBitVec &&& 255#32).toNat : Int) := by
    show (x &&& 255).toBitVec.toInt = _
    rw [h, BitVec.toInt_eq_toNat_of_lt (by omega)]
  constructor
  · rw [Int32.le_iff_toInt_le, e, show (0:Int32).toInt = 0 from rfl]; omega
  · rw [Int32.le_iff_toInt_le, e, show (255:Int32).toInt = 255 from rfl]; omega
theorem fb_i (b : Int32) : ∀ i, i < 4 → (b.toUInt32 >>> ((nI (8 * i)).toUInt32 &&& Int32.toUInt32 31)).toInt32 &&& 255 = (b >>> (nI (8 * i) &&& 31)) &&& 255
  | 0, _ => fb_e b 0 (by omega) _ _ (by decide) (by decide)
  | 1, _ => fb_e b 8 (by omega) _ _ (by decide) (by decide)
  | 2, _ => fb_e b 16 (by omega) _ _ (by decide) (by decide)
  | 3, _ => fb_e b 24 (by omega) _ _ (by decide) (by decide)
  | n + 4, h => absurd h (by omega)
def fb (b : Int32) (i : Nat) : Int32 := (b >>> (nI (8 * i) &&& 31)) &&& 255
/-- bytes into a row, their number beside it -/
def fe (X : pm_S) (tc pc pf L : Nat) (B : Nat → Int32) : Nat → pm_S
  | 0 => X
  | j + 1 => pm_wI (pm_wI (fe X tc pc pf L B j) tc (L + j) (B j)) pc pf (nI (L + j + 1))
section FE
variable {X : pm_S} {tc pc pf L : Nat} {B : Nat → Int32}
theorem fe_s : ∀ j, pm_n (fe X tc pc pf L B j) = pm_n X ∧ pm_k (fe X tc pc pf L B j) = pm_k X ∧ pm_z (fe X tc pc pf L B j) = pm_z X ∧ pm_r (fe X tc pc pf L B j) = pm_r X ∧ pm_l (fe X tc pc pf L B j) = pm_l X
  | 0 => ⟨rfl, rfl, rfl, rfl, rfl⟩
  | j + 1 => fe_s j
theorem fe_len (h : pm_i X pc pf = nI L) : ∀ j, pm_i (fe X tc pc pf L B j) pc pf = nI (L + j)
  | 0 => h
  | j + 1 => by
    show pm_i (pm_wI _ pc pf _) pc pf = _
    rw [pm_i_wI, if_pos ⟨rfl, rfl⟩]; rfl
theorem fe_o {p q : Nat} (h1 : p ≠ tc) (h2 : ¬ (p = pc ∧ q = pf)) : ∀ j, pm_i (fe X tc pc pf L B j) p q = pm_i X p q
  | 0 => rfl
  | j + 1 => by
    show pm_i (pm_wI (pm_wI _ tc _ _) pc pf _) p q = _
    rw [pm_i_wI, if_neg h2, pm_i_wI, if_neg (fun z => h1 z.1)]
    exact fe_o h1 h2 j
theorem fe_t (h1 : tc ≠ pc) {q : Nat} : ∀ j, pm_i (fe X tc pc pf L B j) tc q = if L ≤ q ∧ q < L + j then B (q - L) else pm_i X tc q
  | 0 => by rw [if_neg (by omega)]; rfl
  | j + 1 => by
    show pm_i (pm_wI (pm_wI _ tc _ _) pc pf _) tc q = _
    rw [pm_i_wI, if_neg (fun z => h1 z.1), pm_i_wI]
    by_cases h : q = L + j
    · rw [if_pos ⟨rfl, h⟩, if_pos (by omega)]
      congr 1; omega
    · rw [if_neg (fun z => h z.2), fe_t h1 j]
      by_cases h2 : L ≤ q ∧ q < L + j
      · rw [if_pos h2, if_pos (by omega)]
      · rw [if_neg h2, if_neg (by omega)]
end FE
theorem iv_feed {A : iv_A} {S : pm_S} {L n : Nat} {B : Nat → Int32} (hI : Inv A S) (hL : pm_i S 59 26 = nI L) (hn : L + n ≤ 160) (hB : ∀ j, 0 ≤ B j ∧ B j ≤ 255) : Inv A (fe (fe S 6 5 1 L B n) 80 59 26 L B n) := by
  generalize hF : fe (fe S 6 5 1 L B n) 80 59 26 L B n = F
  have es := fe_s (X := fe S 6 5 1 L B n) (tc := 80) (pc := 59) (pf := 26) (L := L) (B := B) n
  have es2 := fe_s (X := S) (tc := 6) (pc := 5) (pf := 1) (L := L) (B := B) n
  rw [hF] at es
  obtain ⟨a1, a2, a3, a4, a5⟩ := es
  obtain ⟨b1, b2, b3, b4, b5⟩ := es2
  have c1 := a1.trans b1
  have c2 := a2.trans b2
  have c3 := a3.trans b3
  have c4 := a4.trans b4
  have c5 := a5.trans b5
  have ho : ∀ p q, p ≠ 6 → p ≠ 80 → ¬ (p = 5 ∧ q = 1) → ¬ (p = 59 ∧ q = 26) → pm_i F p q = pm_i S p q := fun p q h1 h2 h3 h4 => by rw [← hF, fe_o h2 h4, fe_o h1 h3]
  have n1 : pm_n S ≤ pm_n F := by rw [c1]; exact Nat.le_refl _
  have n2 : ∀ p, p < pm_n S → pm_k F p = pm_k S p ∧ pm_z F p = pm_z S p := fun p _ => by rw [c2, c3]; exact ⟨rfl, rfl⟩
  have n3 : ∀ p j, pm_r F p j = pm_r S p j := fun p j => by rw [c4]
  refine ⟨hI.sh.same c1 c2 c3 c4, ?_, ?_, ?_, ?_, ?_, ?_, ?_, ?_, ?_, ?_, ?_, ?_⟩
  · exact hI.day.cg (fun p j hr => ho p j (fun z => by unfold iv_rDay at hr; omega) (fun z => by unfold iv_rDay at hr; omega) (fun z => by unfold iv_rDay at hr; omega) (fun z => by unfold iv_rDay at hr; omega))
  · exact hI.per.cg (fun p j hr => ho p j (fun z => by unfold iv_rPer at hr; omega) (fun z => by unfold iv_rPer at hr; omega) (fun z => by unfold iv_rPer at hr; omega) (fun z => by unfold iv_rPer at hr; omega))
  · exact hI.mat.cg n1 n2 (fun p j _ => n3 p j) (fun p j hr => ho p j (fun z => by unfold iv_rMat at hr; omega) (fun z => by unfold iv_rMat at hr; omega) (fun z => by unfold iv_rMat at hr; omega) (fun z => by unfold iv_rMat at hr; omega))
  · exact hI.act.cg hI.mat n1 n2 (fun p j _ => n3 p j) (fun p j hr => ho p j (fun z => by unfold iv_rAct at hr; omega) (fun z => by unfold iv_rAct at hr; omega) (fun z => by unfold iv_rAct at hr; omega) (fun z => by unfold iv_rAct at hr; omega))
  · obtain ⟨t1, t2, t3, t4⟩ := hI.txt
    have f59 : pm_i F 59 26 = nI (L + n) := by rw [← hF]; exact fe_len (by rw [fe_o (by omega) (by omega)]; exact hL) n
    have f5 : pm_i F 5 1 = nI (L + n) := by rw [← hF, fe_o (by omega) (by omega)]; exact fe_len (by rw [t1]; exact hL) n
    have f80 : ∀ q, pm_i F 80 q = if L ≤ q ∧ q < L + n then B (q - L) else pm_i S 80 q := fun q => by
      rw [← hF, fe_t (by omega), fe_o (by omega) (by omega)]
    have f6 : ∀ q, pm_i F 6 q = if L ≤ q ∧ q < L + n then B (q - L) else pm_i S 6 q := fun q => by
      rw [← hF, fe_o (by omega) (by omega), fe_t (by omega)]
    refine ⟨by rw [f5, f59], by rw [f59]; exact ⟨nI_pos' (by omega), nI_le (b := 160) (by omega) (by decide)⟩, ?_, fun q => ?_⟩
    · funext q; rw [f6, f80, t3]
    · rw [f80]
      split
      · exact hB _
      · exact t4 q
  · exact hI.law.cg n1 n2 (fun p j _ => n3 p j) (fun p j hr => ho p j (fun z => by unfold iv_rLaw at hr; omega) (fun z => by unfold iv_rLaw at hr; omega) (fun z => by unfold iv_rLaw at hr; omega) (fun z => by unfold iv_rLaw at hr; omega))
  · exact hI.cau.cg (fun p j hr => ho p j (fun z => by unfold iv_rCau at hr; omega) (fun z => by unfold iv_rCau at hr; omega) (fun z => by unfold iv_rCau at hr; omega) (fun z => by unfold iv_rCau at hr; omega))
  · exact hI.red.cg (fun p j hr => ho p j (fun z => by unfold iv_rRed at hr; omega) (fun z => by unfold iv_rRed at hr; omega) (fun z => by unfold iv_rRed at hr; omega) (fun z => by unfold iv_rRed at hr; omega))
  · exact hI.rep.cg (fun p j hr => ho p j (fun z => by unfold iv_rRep at hr; omega) (fun z => by unfold iv_rRep at hr; omega) (fun z => by unfold iv_rRep at hr; omega) (fun z => by unfold iv_rRep at hr; omega))
  · exact hI.wk.cg (fun p j hr => ho p j (fun z => by unfold iv_rWk at hr; omega) (fun z => by unfold iv_rWk at hr; omega) (fun z => by unfold iv_rWk at hr; omega) (fun z => by unfold iv_rWk at hr; omega))
  · exact hI.tp.cg (fun p j hr => ho p j (fun z => by unfold iv_rTp at hr; omega) (fun z => by unfold iv_rTp at hr; omega) (fun z => by unfold iv_rTp at hr; omega) (fun z => by unfold iv_rTp at hr; omega)) (fun p _ => by rw [c5])
  · exact hI.tr.cg (fun p j hr => ho p j (fun z => by unfold iv_rTr at hr; omega) (fun z => by unfold iv_rTr at hr; omega) (fun z => by unfold iv_rTr at hr; omega) (fun z => by unfold iv_rTr at hr; omega))
theorem fd_d {n j : Nat} (hj : j < n) (hn : n < 100) : nI (n - j) - 1 = nI (n - (j + 1)) ∧ nI (n - (j + 1)) + -1 = nI (n - (j + 1)) - 1 ∧ ¬ nI (n - j) - 1 < 0 := by
  have e : nI (n - j) - 1 = nI (n - (j + 1)) := by
    have : n - j = (n - (j + 1)) + 1 := by omega
    rw [this, ← nI_1]
    lia
  refine ⟨e, by lia, ?_⟩
  rw [e]; exact nI_pos (by omega)
theorem lf_41 {G : pm_G} {d : Nat} {S : pm_S} {L n : Nat} {b : Int32} {q : Int32 → pm_S → Prop} (hS : Sh S) (hL : pm_i S 5 1 = nI L) (hn4 : n ≤ 4) (hL160 : L ≤ 160) (h1 : L + n ≤ 160 → q 1 (fe S 6 5 1 L (fun j => fb b (n - (j + 1))) n)) (h0 : ¬ L + n ≤ 160 → q 0 S) : pm_CI G d 41 [.ref 5, .int b, .int (nI n)] S q := by
  by_cases h160 : L + n ≤ 160
  · have hh := h1 h160
    have l1 : nI (L + n) ≤ 160 := nI_le (b := 160) h160 (by decide)
    have key : pm_W G d 41 (pm_QI q) 18 [.ref 5, .int b, .int (nI n), .int (nI (n - 0) - 1)] [] S 0 0 := by
      refine pv_loopS (fun j => [.ref 5, .int b, .int (nI n), .int (nI (n - j) - 1)]) (fun j => fe S 6 5 1 L (fun j => fb b (n - (j + 1))) j) n (fun j hj hk => ?_) ?_
      · obtain ⟨d1, d2, d3⟩ := fd_d hj (by omega)
        generalize hX : fe S 6 5 1 L (fun j => fb b (n - (j + 1))) j = X
        have es := fe_s (X := S) (tc := 6) (pc := 5) (pf := 1) (L := L) (B := fun j => fb b (n - (j + 1))) j
        rw [hX] at es
        have hXS : Sh X := hS.same es.1 es.2.1 es.2.2.1 es.2.2.2.1
        have x5 : pm_i X 5 1 = nI (L + j) := by rw [← hX]; exact fe_len hL j
        have hc := nI_clamp (n := L + j) (by omega)
        have hv := vp_in_nI (n := L + j) (N := 160) (by omega) (by decide)
        have m8 : (8 : Int32) * nI (n - (j + 1)) = nI (8 * (n - (j + 1))) := pk_mul 8 _
        have eb := fb_i b (n - (j + 1)) (by omega)
        have hk2 : pm_W G d 41 (pm_QI q) 18 [.ref 5, .int b, .int (nI n), .int (nI (n - (j + 1)) - 1)] [] (pm_wI (pm_wI X 6 (L + j) (fb b (n - (j + 1)))) 5 1 (nI (L + j + 1))) 0 0 := by rw [← hX]; exact hk
        unfold fb at hk2
        rw [d1]
        refine pm_wb_ok pb_c41 1 18 0 _ _ _ _ _ ?_
        try simp only [pm_WI0, pm_WI1, pm_WI2, pm_WI3, pm_WI4, pm_WI5, pm_WV, pm_WW, pm_WX, pb_B41, pm_if, pm_QI_at, pm_QL_at, pm_QV_at, pm_QR_at, pm_QR_at0, pm_QR_at1, Nat.reduceSub, Nat.reduceAdd, List.replicate_zero, List.replicate_succ, true_and, and_true, true_or, or_true, and_self, reduceIte, Nat.reduceEqDiff, Nat.reduceLT, Nat.reduceLeDiff, Nat.reduceMul, false_and, and_false, reduceCtorEq, false_or, or_false, not_true_eq_false, not_false_eq_true, true_implies, false_implies, implies_true, lf_10, eq_self, Int32.reduceLT, Int32.reduceLE, Int32.reduceAdd, Int32.reduceSub, pm_same, pm_i_wI, pm_l_wL, pm_l_wM, pm_oR_rf, pm_oQ_rf, sh_k5 hXS, sh_r5_0 hXS, sh_k6 hXS, sh_z6 hXS, nI_1, x5, hc, m8, eb, d2, show (nI (n - (j + 1)) < 0) = False from eq_false (nI_pos (by omega))]
        first | exact ⟨hv, pv_W hk2 (by simp [pv_le, pm_unk])⟩ | skip
      · have hneg : nI (n - n) - 1 < 0 := by rw [Nat.sub_self]; decide
        refine pm_wb_ok pb_c41 1 18 0 _ _ _ _ _ ?_
        try simp only [pm_WI0, pm_WI1, pm_WI2, pm_WI3, pm_WI4, pm_WI5, pm_WV, pm_WW, pm_WX, pb_B41, pm_if, pm_QI_at, pm_QL_at, pm_QV_at, pm_QR_at, pm_QR_at0, pm_QR_at1, Nat.reduceSub, Nat.reduceAdd, List.replicate_zero, List.replicate_succ, true_and, and_true, true_or, or_true, and_self, reduceIte, Nat.reduceEqDiff, Nat.reduceLT, Nat.reduceLeDiff, Nat.reduceMul, false_and, and_false, reduceCtorEq, false_or, or_false, not_true_eq_false, not_false_eq_true, true_implies, false_implies, implies_true, lf_10, eq_self, Int32.reduceLT, Int32.reduceLE, Int32.reduceAdd, Int32.reduceSub, pm_same, pm_i_wI, pm_l_wL, pm_l_wM, pm_oR_rf, pm_oQ_rf, hneg]
        try refine pm_wb_ok pb_c41 1 57 0 _ _ _ _ _ ?_
        try simp only [pm_WI0, pm_WI1, pm_WI2, pm_WI3, pm_WI4, pm_WI5, pm_WV, pm_WW, pm_WX, pb_B41, pm_if, pm_QI_at, pm_QL_at, pm_QV_at, pm_QR_at, pm_QR_at0, pm_QR_at1, Nat.reduceSub, Nat.reduceAdd, List.replicate_zero, List.replicate_succ, true_and, and_true, true_or, or_true, and_self, reduceIte, Nat.reduceEqDiff, Nat.reduceLT, Nat.reduceLeDiff, Nat.reduceMul, false_and, and_false, reduceCtorEq, false_or, or_false, not_true_eq_false, not_false_eq_true, true_implies, false_implies, implies_true, lf_10, eq_self, Int32.reduceLT, Int32.reduceLE, Int32.reduceAdd, Int32.reduceSub, pm_same, pm_i_wI, pm_l_wL, pm_l_wM, pm_oR_rf, pm_oQ_rf]
        exact hh
    refine pm_goI 41 2 pb_c41 (by decide) (Nat.le_of_ble_eq_true rfl) rfl ?_
    try simp only [show pm_mL 41 = 4 from rfl, pm_WI0, pm_WI1, pm_WI2, pm_WI3, pm_WI4, pm_WI5, pm_WV, pm_WW, pm_WX, pb_B41, pm_if, pm_QI_at, pm_QL_at, pm_QV_at, pm_QR_at, pm_QR_at0, pm_QR_at1, Nat.reduceSub, Nat.reduceAdd, List.replicate_zero, List.replicate_succ, true_and, and_true, true_or, or_true, and_self, reduceIte, Nat.reduceEqDiff, Nat.reduceLT, Nat.reduceLeDiff, Nat.reduceMul, false_and, and_false, reduceCtorEq, false_or, or_false, not_true_eq_false, not_false_eq_true, true_implies, false_implies, implies_true, lf_10, eq_self, Int32.reduceLT, Int32.reduceLE, Int32.reduceAdd, Int32.reduceSub, pm_same, pm_i_wI, pm_l_wL, pm_l_wM, pm_oR_rf, pm_oQ_rf, sh_k5 hS, hL, nI_add, l1]
    first | exact pv_W key (by simp [pv_le, pm_unk]) | skip
  · have hh := h0 h160
    have l1 : ¬ nI (L + n) ≤ 160 := nI_ge (a := 160) (by omega) (by omega)
    refine pm_goI 41 2 pb_c41 (by decide) (Nat.le_of_ble_eq_true rfl) rfl ?_
    try simp only [show pm_mL 41 = 4 from rfl, pm_WI0, pm_WI1, pm_WI2, pm_WI3, pm_WI4, pm_WI5, pm_WV, pm_WW, pm_WX, pb_B41, pm_if, pm_QI_at, pm_QL_at, pm_QV_at, pm_QR_at, pm_QR_at0, pm_QR_at1, Nat.reduceSub, Nat.reduceAdd, List.replicate_zero, List.replicate_succ, true_and, and_true, true_or, or_true, and_self, reduceIte, Nat.reduceEqDiff, Nat.reduceLT, Nat.reduceLeDiff, Nat.reduceMul, false_and, and_false, reduceCtorEq, false_or, or_false, not_true_eq_false, not_false_eq_true, true_implies, false_implies, implies_true, lf_10, eq_self, Int32.reduceLT, Int32.reduceLE, Int32.reduceAdd, Int32.reduceSub, pm_same, pm_i_wI, pm_l_wL, pm_l_wM, pm_oR_rf, pm_oQ_rf, sh_k5 hS, hL, nI_add, l1]
    exact hh
theorem pp_feed {G : pm_G} {d : Nat} {A : iv_A} {S : pm_S} {b v : Int32} (hd : 40 ≤ d) (hI : Inv A S) : pm_CI G d 125 [.ref 0, .int b, .int v] S (fun r S1 => pm_CI G d 221 [.ref 59, .int b, .int v] S1 (fun r' S2 => pv_end A r r' S2)) := by
  have hS := hI.sh
  obtain ⟨t1, t2, t3, t4⟩ := hI.txt
  have eL := iv_nn t2.1
  have lL := iv_le (n := 160) 160 t2.2 (by decide)
  generalize hL : (pm_i S 59 26).toNatClampNeg = L at eL lL
  by_cases hv : 0 ≤ v ∧ v ≤ 4
  · have ev := iv_nn hv.1
    have l4 := iv_le (n := 4) 4 hv.2 (by decide)
    have v0 : ¬ v < 0 := by lia
    have v4 := hv.2
    generalize hN : v.toNatClampNeg = n at ev l4
    subst ev
    refine pm_goI 125 2 pb_c125 (by decide) (Nat.le_of_ble_eq_true rfl) rfl ?_
    try simp only [show pm_mL 125 = 3 from rfl, pm_WI0, pm_WI1, pm_WI2, pm_WI3, pm_WI4, pm_WI5, pm_WV, pm_WW, pm_WX, pb_B125, pm_if, pm_QI_at, pm_QL_at, pm_QV_at, pm_QR_at, pm_QR_at0, pm_QR_at1, Nat.reduceSub, Nat.reduceAdd, List.replicate_zero, List.replicate_succ, true_and, and_true, true_or, or_true, and_self, reduceIte, Nat.reduceEqDiff, Nat.reduceLT, Nat.reduceLeDiff, Nat.reduceMul, false_and, and_false, reduceCtorEq, false_or, or_false, not_true_eq_false, not_false_eq_true, true_implies, false_implies, implies_true, lf_10, eq_self, Int32.reduceLT, Int32.reduceLE, Int32.reduceAdd, Int32.reduceSub, pm_same, pm_i_wI, pm_l_wL, pm_l_wM, pm_oR_rf, pm_oQ_rf, sh_k0 hS, sh_r0_6 hS, sh_k5 hS, nI_1, LQ1, LQ2, LQ5, v0, v4]
    refine ⟨by omega, lf_41 hS (t1.trans eL) l4 lL (fun h160 => ?_) (fun h160 => ?_)⟩
    · generalize hX : fe S 6 5 1 L (fun j => fb b (n - (j + 1))) n = X
      have es := fe_s (X := S) (tc := 6) (pc := 5) (pf := 1) (L := L) (B := fun j => fb b (n - (j + 1))) n
      rw [hX] at es
      have hXS : Sh X := hS.same es.1 es.2.1 es.2.2.1 es.2.2.2.1
      have x5 : pm_i X 5 1 = nI (L + n) := by rw [← hX]; exact fe_len (t1.trans eL) n
      have x26 : pm_i X 59 26 = nI L := by rw [← hX, fe_o (by omega) (by omega)]; exact eL
      have fin := iv_feed (B := fun j => fb b (n - (j + 1))) hI eL h160 (fun j => fb_r _)
      rw [hX] at fin
      have l1 : nI (L + n) ≤ 160 := nI_le (b := 160) h160 (by decide)
      have mo : pm_CI G d 221 [.ref 59, .int b, .int (nI n)] X (fun r' S2 => pv_end A (nI (L + n)) r' S2) := by
        have key : pm_W G d 221 (pm_QI (fun r' S2 => pv_end A (nI (L + n)) r' S2)) 31 [.ref 59, .int b, .int (nI n), .int (nI (n - 0) - 1)] [] X 0 0 := by
          refine pv_loopS (fun j => [.ref 59, .int b, .int (nI n), .int (nI (n - j) - 1)]) (fun j => fe X 80 59 26 L (fun j => fb b (n - (j + 1))) j) n (fun j hj hk => ?_) ?_
          · obtain ⟨d1, d2, d3⟩ := fd_d hj (by omega)
            generalize hY : fe X 80 59 26 L (fun j => fb b (n - (j + 1))) j = Y
            have es := fe_s (X := X) (tc := 80) (pc := 59) (pf := 26) (L := L) (B := fun j => fb b (n - (j + 1))) j
            rw [hY] at es
            have hYS : Sh Y := hXS.same es.1 es.2.1 es.2.2.1 es.2.2.2.1
            have y5 : pm_i Y 59 26 = nI (L + j) := by rw [← hY]; exact fe_len x26 j
            have hc := nI_clamp (n := L + j) (by omega)
            have hv := vp_in_nI (n := L + j) (N := 160) (by omega) (by decide)
            have m8 : (8 : Int32) * nI (n - (j + 1)) = nI (8 * (n - (j + 1))) := pk_mul 8 _
            have hk2 : pm_W G d 221 (pm_QI (fun r' S2 => pv_end A (nI (L + n)) r' S2)) 31 [.ref 59, .int b, .int (nI n), .int (nI (n - (j + 1)) - 1)] [] (pm_wI (pm_wI Y 80 (L + j) (fb b (n - (j + 1)))) 59 26 (nI (L + j + 1))) 0 0 := by rw [← hY]; exact hk
            unfold fb at hk2
            rw [d1]
            refine pm_wb_ok pb_c221 1 31 0 _ _ _ _ _ ?_
            try simp only [pm_WI0, pm_WI1, pm_WI2, pm_WI3, pm_WI4, pm_WI5, pm_WV, pm_WW, pm_WX, pb_B221, pm_if, pm_QI_at, pm_QL_at, pm_QV_at, pm_QR_at, pm_QR_at0, pm_QR_at1, Nat.reduceSub, Nat.reduceAdd, List.replicate_zero, List.replicate_succ, true_and, and_true, true_or, or_true, and_self, reduceIte, Nat.reduceEqDiff, Nat.reduceLT, Nat.reduceLeDiff, Nat.reduceMul, false_and, and_false, reduceCtorEq, false_or, or_false, not_true_eq_false, not_false_eq_true, true_implies, false_implies, implies_true, lf_10, eq_self, Int32.reduceLT, Int32.reduceLE, Int32.reduceAdd, Int32.reduceSub, pm_same, pm_i_wI, pm_l_wL, pm_l_wM, pm_oR_rf, pm_oQ_rf, sh_k59 hYS, sh_r59_25 hYS, sh_k80 hYS, sh_z80 hYS, nI_1, y5, hc, m8, d2, show (nI (n - (j + 1)) < 0) = False from eq_false (nI_pos (by omega))]
            first | exact ⟨hv, pv_W hk2 (by simp [pv_le, pm_unk])⟩ | skip
          · have hneg : nI (n - n) - 1 < 0 := by rw [Nat.sub_self]; decide
            have es := fe_s (X := X) (tc := 80) (pc := 59) (pf := 26) (L := L) (B := fun j => fb b (n - (j + 1))) n
            have hYS : Sh (fe X 80 59 26 L (fun j => fb b (n - (j + 1))) n) := hXS.same es.1 es.2.1 es.2.2.1 es.2.2.2.1
            have y5 := fe_len (tc := 80) (B := fun j => fb b (n - (j + 1))) x26 n
            refine pm_wb_ok pb_c221 1 31 0 _ _ _ _ _ ?_
            try simp only [pm_WI0, pm_WI1, pm_WI2, pm_WI3, pm_WI4, pm_WI5, pm_WV, pm_WW, pm_WX, pb_B221, pm_if, pm_QI_at, pm_QL_at, pm_QV_at, pm_QR_at, pm_QR_at0, pm_QR_at1, Nat.reduceSub, Nat.reduceAdd, List.replicate_zero, List.replicate_succ, true_and, and_true, true_or, or_true, and_self, reduceIte, Nat.reduceEqDiff, Nat.reduceLT, Nat.reduceLeDiff, Nat.reduceMul, false_and, and_false, reduceCtorEq, false_or, or_false, not_true_eq_false, not_false_eq_true, true_implies, false_implies, implies_true, lf_10, eq_self, Int32.reduceLT, Int32.reduceLE, Int32.reduceAdd, Int32.reduceSub, pm_same, pm_i_wI, pm_l_wL, pm_l_wM, pm_oR_rf, pm_oQ_rf, hneg]
            try refine pm_wb_ok pb_c221 1 70 0 _ _ _ _ _ ?_
            try simp only [pm_WI0, pm_WI1, pm_WI2, pm_WI3, pm_WI4, pm_WI5, pm_WV, pm_WW, pm_WX, pb_B221, pm_if, pm_QI_at, pm_QL_at, pm_QV_at, pm_QR_at, pm_QR_at0, pm_QR_at1, Nat.reduceSub, Nat.reduceAdd, List.replicate_zero, List.replicate_succ, true_and, and_true, true_or, or_true, and_self, reduceIte, Nat.reduceEqDiff, Nat.reduceLT, Nat.reduceLeDiff, Nat.reduceMul, false_and, and_false, reduceCtorEq, false_or, or_false, not_true_eq_false, not_false_eq_true, true_implies, false_implies, implies_true, lf_10, eq_self, Int32.reduceLT, Int32.reduceLE, Int32.reduceAdd, Int32.reduceSub, pm_same, pm_i_wI, pm_l_wL, pm_l_wM, pm_oR_rf, pm_oQ_rf, sh_k59 hYS, y5]
            exact pv_to fin rfl
        refine pm_goI 221 1 pb_c221 (by decide) (Nat.le_of_ble_eq_true rfl) rfl ?_
        try simp only [show pm_mL 221 = 4 from rfl, pm_WI0, pm_WI1, pm_WI2, pm_WI3, pm_WI4, pm_WI5, pm_WV, pm_WW, pm_WX, pb_B221, pm_if, pm_QI_at, pm_QL_at, pm_QV_at, pm_QR_at, pm_QR_at0, pm_QR_at1, Nat.reduceSub, Nat.reduceAdd, List.replicate_zero, List.replicate_succ, true_and, and_true, true_or, or_true, and_self, reduceIte, Nat.reduceEqDiff, Nat.reduceLT, Nat.reduceLeDiff, Nat.reduceMul, false_and, and_false, reduceCtorEq, false_or, or_false, not_true_eq_false, not_false_eq_true, true_implies, false_implies, implies_true, lf_10, eq_self, Int32.reduceLT, Int32.reduceLE, Int32.reduceAdd, Int32.reduceSub, pm_same, pm_i_wI, pm_l_wL, pm_l_wM, pm_oR_rf, pm_oQ_rf, sh_k59 hXS, sh_r59_25 hXS, sh_k80 hXS, sh_z80 hXS, nI_1, LQ1, LQ2, LQ5]
        refine ⟨by omega, lf_159 (fun _ => ?_) (fun z => absurd hv z)⟩
        try simp only [pm_WV, pm_WW, true_and, and_true, true_or, or_true, and_self, reduceIte, Nat.reduceEqDiff, Nat.reduceLT, Nat.reduceLeDiff, Nat.reduceMul, false_and, and_false, reduceCtorEq, false_or, or_false, not_true_eq_false, not_false_eq_true, true_implies, false_implies, implies_true, lf_10, eq_self, Int32.reduceLT, Int32.reduceLE, Int32.reduceAdd, Int32.reduceSub, pm_same, pm_i_wI, pm_l_wL, pm_l_wM, pm_oR_rf, pm_oQ_rf, nI_1, sw_e, LQ1, LQ2, pm_WI0, pm_WI1, pm_WI2, pm_WI3, pm_WI4, pm_WI5, pm_WV, pm_WW, pm_WX, pb_B221, pm_if, pm_QI_at, pm_QL_at, pm_QV_at, pm_QR_at, pm_QR_at0, pm_QR_at1, Nat.reduceSub, Nat.reduceAdd, List.replicate_zero, List.replicate_succ, true_and, and_true, true_or, or_true, and_self, reduceIte, Nat.reduceEqDiff, Nat.reduceLT, Nat.reduceLeDiff, Nat.reduceMul, false_and, and_false, reduceCtorEq, false_or, or_false, not_true_eq_false, not_false_eq_true, true_implies, false_implies, implies_true, lf_10, eq_self, Int32.reduceLT, Int32.reduceLE, Int32.reduceAdd, Int32.reduceSub, pm_same, pm_i_wI, pm_l_wL, pm_l_wM, pm_oR_rf, pm_oQ_rf, sh_k59 hXS, sh_r59_25 hXS, sh_k80 hXS, sh_z80 hXS, nI_1, LQ1, LQ2, LQ5, x26, nI_add, l1]
        try refine pm_wb_ok pb_c221 2 12 0 _ _ _ _ _ ?_
        try simp only [pm_WI0, pm_WI1, pm_WI2, pm_WI3, pm_WI4, pm_WI5, pm_WV, pm_WW, pm_WX, pb_B221, pm_if, pm_QI_at, pm_QL_at, pm_QV_at, pm_QR_at, pm_QR_at0, pm_QR_at1, Nat.reduceSub, Nat.reduceAdd, List.replicate_zero, List.replicate_succ, true_and, and_true, true_or, or_true, and_self, reduceIte, Nat.reduceEqDiff, Nat.reduceLT, Nat.reduceLeDiff, Nat.reduceMul, false_and, and_false, reduceCtorEq, false_or, or_false, not_true_eq_false, not_false_eq_true, true_implies, false_implies, implies_true, lf_10, eq_self, Int32.reduceLT, Int32.reduceLE, Int32.reduceAdd, Int32.reduceSub, pm_same, pm_i_wI, pm_l_wL, pm_l_wM, pm_oR_rf, pm_oQ_rf, sh_k59 hXS, sh_r59_25 hXS, sh_k80 hXS, sh_z80 hXS, nI_1, LQ1, LQ2, LQ5, x26, nI_add, l1]
        first | exact pv_W key (by simp [pv_le, pm_unk]) | skip
      try simp only [pm_WV, pm_WW, true_and, and_true, true_or, or_true, and_self, reduceIte, Nat.reduceEqDiff, Nat.reduceLT, Nat.reduceLeDiff, Nat.reduceMul, false_and, and_false, reduceCtorEq, false_or, or_false, not_true_eq_false, not_false_eq_true, true_implies, false_implies, implies_true, lf_10, eq_self, Int32.reduceLT, Int32.reduceLE, Int32.reduceAdd, Int32.reduceSub, pm_same, pm_i_wI, pm_l_wL, pm_l_wM, pm_oR_rf, pm_oQ_rf, nI_1, sw_e, LQ1, LQ2, pm_WI0, pm_WI1, pm_WI2, pm_WI3, pm_WI4, pm_WI5, pm_WV, pm_WW, pm_WX, pb_B125, pm_if, pm_QI_at, pm_QL_at, pm_QV_at, pm_QR_at, pm_QR_at0, pm_QR_at1, Nat.reduceSub, Nat.reduceAdd, List.replicate_zero, List.replicate_succ, true_and, and_true, true_or, or_true, and_self, reduceIte, Nat.reduceEqDiff, Nat.reduceLT, Nat.reduceLeDiff, Nat.reduceMul, false_and, and_false, reduceCtorEq, false_or, or_false, not_true_eq_false, not_false_eq_true, true_implies, false_implies, implies_true, lf_10, eq_self, Int32.reduceLT, Int32.reduceLE, Int32.reduceAdd, Int32.reduceSub, pm_same, pm_i_wI, pm_l_wL, pm_l_wM, pm_oR_rf, pm_oQ_rf, sh_k0 hXS, sh_r0_6 hXS, sh_k5 hXS, nI_1, LQ1, LQ2, LQ5, x5]
      try refine pm_wb_ok pb_c125 1 36 0 _ _ _ _ _ ?_
      try simp only [pm_WI0, pm_WI1, pm_WI2, pm_WI3, pm_WI4, pm_WI5, pm_WV, pm_WW, pm_WX, pb_B125, pm_if, pm_QI_at, pm_QL_at, pm_QV_at, pm_QR_at, pm_QR_at0, pm_QR_at1, Nat.reduceSub, Nat.reduceAdd, List.replicate_zero, List.replicate_succ, true_and, and_true, true_or, or_true, and_self, reduceIte, Nat.reduceEqDiff, Nat.reduceLT, Nat.reduceLeDiff, Nat.reduceMul, false_and, and_false, reduceCtorEq, false_or, or_false, not_true_eq_false, not_false_eq_true, true_implies, false_implies, implies_true, lf_10, eq_self, Int32.reduceLT, Int32.reduceLE, Int32.reduceAdd, Int32.reduceSub, pm_same, pm_i_wI, pm_l_wL, pm_l_wM, pm_oR_rf, pm_oQ_rf, sh_k0 hXS, sh_r0_6 hXS, sh_k5 hXS, nI_1, LQ1, LQ2, LQ5, x5]
      first | exact mo | skip
    · have l1 : ¬ nI (L + n) ≤ 160 := nI_ge (a := 160) (by omega) (by omega)
      have mo : pm_CI G d 221 [.ref 59, .int b, .int (nI n)] S (fun r' S2 => pv_end A (-4) r' S2) := by
        refine pm_goI 221 1 pb_c221 (by decide) (Nat.le_of_ble_eq_true rfl) rfl ?_
        try simp only [show pm_mL 221 = 4 from rfl, pm_WI0, pm_WI1, pm_WI2, pm_WI3, pm_WI4, pm_WI5, pm_WV, pm_WW, pm_WX, pb_B221, pm_if, pm_QI_at, pm_QL_at, pm_QV_at, pm_QR_at, pm_QR_at0, pm_QR_at1, Nat.reduceSub, Nat.reduceAdd, List.replicate_zero, List.replicate_succ, true_and, and_true, true_or, or_true, and_self, reduceIte, Nat.reduceEqDiff, Nat.reduceLT, Nat.reduceLeDiff, Nat.reduceMul, false_and, and_false, reduceCtorEq, false_or, or_false, not_true_eq_false, not_false_eq_true, true_implies, false_implies, implies_true, lf_10, eq_self, Int32.reduceLT, Int32.reduceLE, Int32.reduceAdd, Int32.reduceSub, pm_same, pm_i_wI, pm_l_wL, pm_l_wM, pm_oR_rf, pm_oQ_rf, sh_k59 hS, sh_r59_25 hS, sh_k80 hS, sh_z80 hS, nI_1, LQ1, LQ2, LQ5]
        refine ⟨by omega, lf_159 (fun _ => ?_) (fun z => absurd hv z)⟩
        try simp only [pm_WV, pm_WW, true_and, and_true, true_or, or_true, and_self, reduceIte, Nat.reduceEqDiff, Nat.reduceLT, Nat.reduceLeDiff, Nat.reduceMul, false_and, and_false, reduceCtorEq, false_or, or_false, not_true_eq_false, not_false_eq_true, true_implies, false_implies, implies_true, lf_10, eq_self, Int32.reduceLT, Int32.reduceLE, Int32.reduceAdd, Int32.reduceSub, pm_same, pm_i_wI, pm_l_wL, pm_l_wM, pm_oR_rf, pm_oQ_rf, nI_1, sw_e, LQ1, LQ2, pm_WI0, pm_WI1, pm_WI2, pm_WI3, pm_WI4, pm_WI5, pm_WV, pm_WW, pm_WX, pb_B221, pm_if, pm_QI_at, pm_QL_at, pm_QV_at, pm_QR_at, pm_QR_at0, pm_QR_at1, Nat.reduceSub, Nat.reduceAdd, List.replicate_zero, List.replicate_succ, true_and, and_true, true_or, or_true, and_self, reduceIte, Nat.reduceEqDiff, Nat.reduceLT, Nat.reduceLeDiff, Nat.reduceMul, false_and, and_false, reduceCtorEq, false_or, or_false, not_true_eq_false, not_false_eq_true, true_implies, false_implies, implies_true, lf_10, eq_self, Int32.reduceLT, Int32.reduceLE, Int32.reduceAdd, Int32.reduceSub, pm_same, pm_i_wI, pm_l_wL, pm_l_wM, pm_oR_rf, pm_oQ_rf, sh_k59 hS, sh_r59_25 hS, sh_k80 hS, sh_z80 hS, nI_1, LQ1, LQ2, LQ5, eL, nI_add, l1]
        try refine pm_wb_ok pb_c221 1 12 0 _ _ _ _ _ ?_
        try simp only [pm_WI0, pm_WI1, pm_WI2, pm_WI3, pm_WI4, pm_WI5, pm_WV, pm_WW, pm_WX, pb_B221, pm_if, pm_QI_at, pm_QL_at, pm_QV_at, pm_QR_at, pm_QR_at0, pm_QR_at1, Nat.reduceSub, Nat.reduceAdd, List.replicate_zero, List.replicate_succ, true_and, and_true, true_or, or_true, and_self, reduceIte, Nat.reduceEqDiff, Nat.reduceLT, Nat.reduceLeDiff, Nat.reduceMul, false_and, and_false, reduceCtorEq, false_or, or_false, not_true_eq_false, not_false_eq_true, true_implies, false_implies, implies_true, lf_10, eq_self, Int32.reduceLT, Int32.reduceLE, Int32.reduceAdd, Int32.reduceSub, pm_same, pm_i_wI, pm_l_wL, pm_l_wM, pm_oR_rf, pm_oQ_rf, sh_k59 hS, sh_r59_25 hS, sh_k80 hS, sh_z80 hS, nI_1, LQ1, LQ2, LQ5, eL, nI_add, l1]
        exact pv_same hI
      try simp only [pm_WV, pm_WW, true_and, and_true, true_or, or_true, and_self, reduceIte, Nat.reduceEqDiff, Nat.reduceLT, Nat.reduceLeDiff, Nat.reduceMul, false_and, and_false, reduceCtorEq, false_or, or_false, not_true_eq_false, not_false_eq_true, true_implies, false_implies, implies_true, lf_10, eq_self, Int32.reduceLT, Int32.reduceLE, Int32.reduceAdd, Int32.reduceSub, pm_same, pm_i_wI, pm_l_wL, pm_l_wM, pm_oR_rf, pm_oQ_rf, nI_1, sw_e, LQ1, LQ2, pm_WI0, pm_WI1, pm_WI2, pm_WI3, pm_WI4, pm_WI5, pm_WV, pm_WW, pm_WX, pb_B125, pm_if, pm_QI_at, pm_QL_at, pm_QV_at, pm_QR_at, pm_QR_at0, pm_QR_at1, Nat.reduceSub, Nat.reduceAdd, List.replicate_zero, List.replicate_succ, true_and, and_true, true_or, or_true, and_self, reduceIte, Nat.reduceEqDiff, Nat.reduceLT, Nat.reduceLeDiff, Nat.reduceMul, false_and, and_false, reduceCtorEq, false_or, or_false, not_true_eq_false, not_false_eq_true, true_implies, false_implies, implies_true, lf_10, eq_self, Int32.reduceLT, Int32.reduceLE, Int32.reduceAdd, Int32.reduceSub, pm_same, pm_i_wI, pm_l_wL, pm_l_wM, pm_oR_rf, pm_oQ_rf, sh_k0 hS, sh_r0_6 hS, sh_k5 hS, nI_1, LQ1, LQ2, LQ5]
      try refine pm_wb_ok pb_c125 2 34 0 _ _ _ _ _ ?_
      try simp only [pm_WI0, pm_WI1, pm_WI2, pm_WI3, pm_WI4, pm_WI5, pm_WV, pm_WW, pm_WX, pb_B125, pm_if, pm_QI_at, pm_QL_at, pm_QV_at, pm_QR_at, pm_QR_at0, pm_QR_at1, Nat.reduceSub, Nat.reduceAdd, List.replicate_zero, List.replicate_succ, true_and, and_true, true_or, or_true, and_self, reduceIte, Nat.reduceEqDiff, Nat.reduceLT, Nat.reduceLeDiff, Nat.reduceMul, false_and, and_false, reduceCtorEq, false_or, or_false, not_true_eq_false, not_false_eq_true, true_implies, false_implies, implies_true, lf_10, eq_self, Int32.reduceLT, Int32.reduceLE, Int32.reduceAdd, Int32.reduceSub, pm_same, pm_i_wI, pm_l_wL, pm_l_wM, pm_oR_rf, pm_oQ_rf, sh_k0 hS, sh_r0_6 hS, sh_k5 hS, nI_1, LQ1, LQ2, LQ5]
      first | exact mo | skip
  · have mo : pm_CI G d 221 [.ref 59, .int b, .int v] S (fun r' S2 => pv_end A (-2) r' S2) := by
      refine pm_goI 221 2 pb_c221 (by decide) (Nat.le_of_ble_eq_true rfl) rfl ?_
      try simp only [show pm_mL 221 = 4 from rfl, pm_WI0, pm_WI1, pm_WI2, pm_WI3, pm_WI4, pm_WI5, pm_WV, pm_WW, pm_WX, pb_B221, pm_if, pm_QI_at, pm_QL_at, pm_QV_at, pm_QR_at, pm_QR_at0, pm_QR_at1, Nat.reduceSub, Nat.reduceAdd, List.replicate_zero, List.replicate_succ, true_and, and_true, true_or, or_true, and_self, reduceIte, Nat.reduceEqDiff, Nat.reduceLT, Nat.reduceLeDiff, Nat.reduceMul, false_and, and_false, reduceCtorEq, false_or, or_false, not_true_eq_false, not_false_eq_true, true_implies, false_implies, implies_true, lf_10, eq_self, Int32.reduceLT, Int32.reduceLE, Int32.reduceAdd, Int32.reduceSub, pm_same, pm_i_wI, pm_l_wL, pm_l_wM, pm_oR_rf, pm_oQ_rf, sh_k59 hS, sh_r59_25 hS, sh_k80 hS, sh_z80 hS, nI_1, LQ1, LQ2, LQ5]
      refine ⟨by omega, lf_159 (fun z => absurd z hv) (fun _ => ?_)⟩
      try simp only [pm_WV, pm_WW, true_and, and_true, true_or, or_true, and_self, reduceIte, Nat.reduceEqDiff, Nat.reduceLT, Nat.reduceLeDiff, Nat.reduceMul, false_and, and_false, reduceCtorEq, false_or, or_false, not_true_eq_false, not_false_eq_true, true_implies, false_implies, implies_true, lf_10, eq_self, Int32.reduceLT, Int32.reduceLE, Int32.reduceAdd, Int32.reduceSub, pm_same, pm_i_wI, pm_l_wL, pm_l_wM, pm_oR_rf, pm_oQ_rf, nI_1, sw_e, LQ1, LQ2, pm_WI0, pm_WI1, pm_WI2, pm_WI3, pm_WI4, pm_WI5, pm_WV, pm_WW, pm_WX, pb_B221, pm_if, pm_QI_at, pm_QL_at, pm_QV_at, pm_QR_at, pm_QR_at0, pm_QR_at1, Nat.reduceSub, Nat.reduceAdd, List.replicate_zero, List.replicate_succ, true_and, and_true, true_or, or_true, and_self, reduceIte, Nat.reduceEqDiff, Nat.reduceLT, Nat.reduceLeDiff, Nat.reduceMul, false_and, and_false, reduceCtorEq, false_or, or_false, not_true_eq_false, not_false_eq_true, true_implies, false_implies, implies_true, lf_10, eq_self, Int32.reduceLT, Int32.reduceLE, Int32.reduceAdd, Int32.reduceSub, pm_same, pm_i_wI, pm_l_wL, pm_l_wM, pm_oR_rf, pm_oQ_rf, sh_k59 hS, sh_r59_25 hS, sh_k80 hS, sh_z80 hS, nI_1, LQ1, LQ2, LQ5]
      exact pv_same hI
    refine pm_goI 125 1 pb_c125 (by decide) (Nat.le_of_ble_eq_true rfl) rfl ?_
    try simp only [show pm_mL 125 = 3 from rfl, pm_WI0, pm_WI1, pm_WI2, pm_WI3, pm_WI4, pm_WI5, pm_WV, pm_WW, pm_WX, pb_B125, pm_if, pm_QI_at, pm_QL_at, pm_QV_at, pm_QR_at, pm_QR_at0, pm_QR_at1, Nat.reduceSub, Nat.reduceAdd, List.replicate_zero, List.replicate_succ, true_and, and_true, true_or, or_true, and_self, reduceIte, Nat.reduceEqDiff, Nat.reduceLT, Nat.reduceLeDiff, Nat.reduceMul, false_and, and_false, reduceCtorEq, false_or, or_false, not_true_eq_false, not_false_eq_true, true_implies, false_implies, implies_true, lf_10, eq_self, Int32.reduceLT, Int32.reduceLE, Int32.reduceAdd, Int32.reduceSub, pm_same, pm_i_wI, pm_l_wL, pm_l_wM, pm_oR_rf, pm_oQ_rf, sh_k0 hS, sh_r0_6 hS, sh_k5 hS, nI_1, LQ1, LQ2, LQ5]
    repeat' (first | refine ⟨fun _ => ?_, fun _ => ?_⟩ | fail)
    all_goals first | exact mo | (exfalso; exact hv ⟨by lia, by lia⟩) | (refine pm_wb_ok pb_c125 1 9 0 _ _ _ _ _ ?_; simp only [pm_WI0, pm_WI1, pm_WI2, pm_WI3, pm_WI4, pm_WI5, pm_WV, pm_WW, pm_WX, pb_B125, pm_if, pm_QI_at, pm_QL_at, pm_QV_at, pm_QR_at, pm_QR_at0, pm_QR_at1, Nat.reduceSub, Nat.reduceAdd, List.replicate_zero, List.replicate_succ, true_and, and_true, true_or, or_true, and_self, reduceIte, Nat.reduceEqDiff, Nat.reduceLT, Nat.reduceLeDiff, Nat.reduceMul, false_and, and_false, reduceCtorEq, false_or, or_false, not_true_eq_false, not_false_eq_true, true_implies, false_implies, implies_true, lf_10, eq_self, Int32.reduceLT, Int32.reduceLE, Int32.reduceAdd, Int32.reduceSub, pm_same, pm_i_wI, pm_l_wL, pm_l_wM, pm_oR_rf, pm_oQ_rf, sh_k0 hS, sh_r0_6 hS, sh_k5 hS, nI_1, LQ1, LQ2, LQ5]; exact mo) | skip
