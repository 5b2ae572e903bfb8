theorem iv_lt1 {S : pm_S} {f k : Nat} {z : Int32} (h0 : 0 ≤ pm_i S 59 f) (h1 : pm_i S 59 f < z) (hk : k < (pm_i S 59 f + 1).toNatClampNeg) (hn : ¬ k = (pm_i S 59 f).toNatClampNeg) : k < iv_c S f := by
  unfold iv_c
  obtain ⟨j, hj, e⟩ := nI_of (show ¬ pm_i S 59 f < 0 by lia)
  rw [e] at hk hn h1 ⊢
  rw [nI_clamp hj] at hn ⊢
  rw [nI_1] at hk
  by_cases hj2 : j + 1 < 2 ^ 31
  · rw [nI_clamp hj2] at hk; omega
  · exfalso
    have : j = 2 ^ 31 - 1 := by omega
    subst this
    rw [show (nI (2 ^ 31 - 1) : Int32) = 2147483647 from rfl] at h1
    lia
theorem iv_person {A : iv_A} {S : pm_S} {v : Int32} (hv : v = 0 ∨ v = 1) (h : pm_i S 59 4 < 20) (hI : Inv A S) : Inv A (pm_wI (pm_wI (pm_wI (pm_wI S 3 (pm_i S 59 4).toNatClampNeg v) 0 2 (pm_i S 59 4 + 1)) 61 (pm_i S 59 4).toNatClampNeg v) 59 4 (pm_i S 59 4 + 1)) := by
  obtain ⟨b1, b2⟩ := hI.per.2.1
  refine ⟨hI.sh, ?_, ?_, ?_, ?_, ?_, ?_, ?_, ?_, ?_, ?_, ?_, ?_⟩
  · exact hI.day.cg (by (intro p j hr; (try simp only [pm_i_wI]); repeat rw [if_neg (fun z => by obtain ⟨z1, z2⟩ := z; subst z1; unfold iv_rDay at hr; omega)]))
  · unfold iv_Per iv_in
    simp only [pm_i_wI, pm_i_wI_eq, iv_row_ne, ne_eq, not_false_eq_true, upd, iv_c, Nat.reduceEqDiff, Nat.reduceLT, Nat.reduceLeDiff, false_and, and_false, true_and, and_true, and_self, reduceIte, eq_self]
    refine ⟨⟨by lia, by lia⟩, by rw [hI.e3], fun k => ?_⟩
    split
    · exact hv
    · exact hI.per.2.2.2 k
  · exact hI.mat.up (Nat.le_refl _) (fun _ _ => ⟨rfl, rfl⟩) (fun _ _ _ => rfl) (by simp only [pm_i_wI, pm_i_wI_eq, iv_row_ne, ne_eq, not_false_eq_true, upd, iv_c, Nat.reduceEqDiff, Nat.reduceLT, Nat.reduceLeDiff, false_and, and_false, true_and, and_true, and_self, reduceIte, eq_self]; exact Int32.le_refl _) (by simp only [pm_i_wI, pm_i_wI_eq, iv_row_ne, ne_eq, not_false_eq_true, upd, iv_c, Nat.reduceEqDiff, Nat.reduceLT, Nat.reduceLeDiff, false_and, and_false, true_and, and_true, and_self, reduceIte, eq_self]; lia) (by simp only [pm_i_wI, pm_i_wI_eq, iv_row_ne, ne_eq, not_false_eq_true, upd, iv_c, Nat.reduceEqDiff, Nat.reduceLT, Nat.reduceLeDiff, false_and, and_false, true_and, and_true, and_self, reduceIte, eq_self]; exact Int32.le_refl _) (by (intro p j hr; (try simp only [pm_i_wI]); repeat rw [if_neg (fun z => by obtain ⟨z1, z2⟩ := z; subst z1; unfold iv_uMat at hr; omega)]))
  · exact hI.act.cg hI.mat (Nat.le_refl _) (fun _ _ => ⟨rfl, rfl⟩) (fun _ _ _ => rfl) (by (intro p j hr; (try simp only [pm_i_wI]); repeat rw [if_neg (fun z => by obtain ⟨z1, z2⟩ := z; subst z1; unfold iv_rAct at hr; omega)]))
  · exact hI.txt.cg (by (intro p j hr; (try simp only [pm_i_wI]); repeat rw [if_neg (fun z => by obtain ⟨z1, z2⟩ := z; subst z1; unfold iv_rTxt at hr; omega)]))
  · exact hI.law.cg (Nat.le_refl _) (fun _ _ => ⟨rfl, rfl⟩) (fun _ _ _ => rfl) (by (intro p j hr; (try simp only [pm_i_wI]); repeat rw [if_neg (fun z => by obtain ⟨z1, z2⟩ := z; subst z1; unfold iv_rLaw at hr; omega)]))
  · exact hI.cau.cg (by (intro p j hr; (try simp only [pm_i_wI]); repeat rw [if_neg (fun z => by obtain ⟨z1, z2⟩ := z; subst z1; unfold iv_rCau at hr; omega)]))
  · exact hI.red.cg (by (intro p j hr; (try simp only [pm_i_wI]); repeat rw [if_neg (fun z => by obtain ⟨z1, z2⟩ := z; subst z1; unfold iv_rRed at hr; omega)]))
  · exact hI.rep.cg (by (intro p j hr; (try simp only [pm_i_wI]); repeat rw [if_neg (fun z => by obtain ⟨z1, z2⟩ := z; subst z1; unfold iv_rRep at hr; omega)]))
  · exact hI.wk.cg (by (intro p j hr; (try simp only [pm_i_wI]); repeat rw [if_neg (fun z => by obtain ⟨z1, z2⟩ := z; subst z1; unfold iv_rWk at hr; omega)]))
  · exact hI.tp.cg (by (intro p j hr; (try simp only [pm_i_wI]); repeat rw [if_neg (fun z => by obtain ⟨z1, z2⟩ := z; subst z1; unfold iv_rTp at hr; omega)])) (fun _ _ => rfl)
  · exact hI.tr.cg (by (intro p j hr; (try simp only [pm_i_wI]); repeat rw [if_neg (fun z => by obtain ⟨z1, z2⟩ := z; subst z1; unfold iv_rTr at hr; omega)]))
theorem iv_let {A : iv_A} {S : pm_S} {v : Int32} {i : Nat} (hv : v = 0 ∨ v = 1) (hI : Inv A S) : Inv A (pm_wI (pm_wI S 3 i v) 61 i v) := by
  refine ⟨hI.sh, ?_, ?_, ?_, ?_, ?_, ?_, ?_, ?_, ?_, ?_, ?_, ?_⟩
  · exact hI.day.cg (by (intro p j hr; (try simp only [pm_i_wI]); repeat rw [if_neg (fun z => by obtain ⟨z1, z2⟩ := z; subst z1; unfold iv_rDay at hr; omega)]))
  · unfold iv_Per iv_in
    simp only [pm_i_wI, pm_i_wI_eq, iv_row_ne, ne_eq, not_false_eq_true, upd, iv_c, Nat.reduceEqDiff, Nat.reduceLT, Nat.reduceLeDiff, false_and, and_false, true_and, and_true, and_self, reduceIte, eq_self]
    refine ⟨hI.per.1, hI.per.2.1, by rw [hI.e3], fun k => ?_⟩
    split
    · exact hv
    · exact hI.per.2.2.2 k
  · exact hI.mat.cg (Nat.le_refl _) (fun _ _ => ⟨rfl, rfl⟩) (fun _ _ _ => rfl) (by (intro p j hr; (try simp only [pm_i_wI]); repeat rw [if_neg (fun z => by obtain ⟨z1, z2⟩ := z; subst z1; unfold iv_rMat at hr; omega)]))
  · exact hI.act.cg hI.mat (Nat.le_refl _) (fun _ _ => ⟨rfl, rfl⟩) (fun _ _ _ => rfl) (by (intro p j hr; (try simp only [pm_i_wI]); repeat rw [if_neg (fun z => by obtain ⟨z1, z2⟩ := z; subst z1; unfold iv_rAct at hr; omega)]))
  · exact hI.txt.cg (by (intro p j hr; (try simp only [pm_i_wI]); repeat rw [if_neg (fun z => by obtain ⟨z1, z2⟩ := z; subst z1; unfold iv_rTxt at hr; omega)]))
  · exact hI.law.cg (Nat.le_refl _) (fun _ _ => ⟨rfl, rfl⟩) (fun _ _ _ => rfl) (by (intro p j hr; (try simp only [pm_i_wI]); repeat rw [if_neg (fun z => by obtain ⟨z1, z2⟩ := z; subst z1; unfold iv_rLaw at hr; omega)]))
  · exact hI.cau.cg (by (intro p j hr; (try simp only [pm_i_wI]); repeat rw [if_neg (fun z => by obtain ⟨z1, z2⟩ := z; subst z1; unfold iv_rCau at hr; omega)]))
  · exact hI.red.cg (by (intro p j hr; (try simp only [pm_i_wI]); repeat rw [if_neg (fun z => by obtain ⟨z1, z2⟩ := z; subst z1; unfold iv_rRed at hr; omega)]))
  · exact hI.rep.cg (by (intro p j hr; (try simp only [pm_i_wI]); repeat rw [if_neg (fun z => by obtain ⟨z1, z2⟩ := z; subst z1; unfold iv_rRep at hr; omega)]))
  · exact hI.wk.cg (by (intro p j hr; (try simp only [pm_i_wI]); repeat rw [if_neg (fun z => by obtain ⟨z1, z2⟩ := z; subst z1; unfold iv_rWk at hr; omega)]))
  · exact hI.tp.cg (by (intro p j hr; (try simp only [pm_i_wI]); repeat rw [if_neg (fun z => by obtain ⟨z1, z2⟩ := z; subst z1; unfold iv_rTp at hr; omega)])) (fun _ _ => rfl)
  · exact hI.tr.cg (by (intro p j hr; (try simp only [pm_i_wI]); repeat rw [if_neg (fun z => by obtain ⟨z1, z2⟩ := z; subst z1; unfold iv_rTr at hr; omega)]))
theorem iv_planless {A : iv_A} {S : pm_S}  (hI : Inv A S) : Inv A (pm_wI (pm_wI S 38 0 0) 59 41 0) := by
  refine ⟨hI.sh, ?_, ?_, ?_, ?_, ?_, ?_, ?_, ?_, ?_, ?_, ?_, ?_⟩
  · exact hI.day.cg (by (intro p j hr; (try simp only [pm_i_wI]); repeat rw [if_neg (fun z => by obtain ⟨z1, z2⟩ := z; subst z1; unfold iv_rDay at hr; omega)]))
  · exact hI.per.cg (by (intro p j hr; (try simp only [pm_i_wI]); repeat rw [if_neg (fun z => by obtain ⟨z1, z2⟩ := z; subst z1; unfold iv_rPer at hr; omega)]))
  · exact hI.mat.cg (Nat.le_refl _) (fun _ _ => ⟨rfl, rfl⟩) (fun _ _ _ => rfl) (by (intro p j hr; (try simp only [pm_i_wI]); repeat rw [if_neg (fun z => by obtain ⟨z1, z2⟩ := z; subst z1; unfold iv_rMat at hr; omega)]))
  · exact hI.act.cg hI.mat (Nat.le_refl _) (fun _ _ => ⟨rfl, rfl⟩) (fun _ _ _ => rfl) (by (intro p j hr; (try simp only [pm_i_wI]); repeat rw [if_neg (fun z => by obtain ⟨z1, z2⟩ := z; subst z1; unfold iv_rAct at hr; omega)]))
  · exact hI.txt.cg (by (intro p j hr; (try simp only [pm_i_wI]); repeat rw [if_neg (fun z => by obtain ⟨z1, z2⟩ := z; subst z1; unfold iv_rTxt at hr; omega)]))
  · exact hI.law.cg (Nat.le_refl _) (fun _ _ => ⟨rfl, rfl⟩) (fun _ _ _ => rfl) (by (intro p j hr; (try simp only [pm_i_wI]); repeat rw [if_neg (fun z => by obtain ⟨z1, z2⟩ := z; subst z1; unfold iv_rLaw at hr; omega)]))
  · exact hI.cau.cg (by (intro p j hr; (try simp only [pm_i_wI]); repeat rw [if_neg (fun z => by obtain ⟨z1, z2⟩ := z; subst z1; unfold iv_rCau at hr; omega)]))
  · exact hI.red.cg (by (intro p j hr; (try simp only [pm_i_wI]); repeat rw [if_neg (fun z => by obtain ⟨z1, z2⟩ := z; subst z1; unfold iv_rRed at hr; omega)]))
  · exact hI.rep.cg (by (intro p j hr; (try simp only [pm_i_wI]); repeat rw [if_neg (fun z => by obtain ⟨z1, z2⟩ := z; subst z1; unfold iv_rRep at hr; omega)]))
  · unfold iv_Wk iv_in
    simp only [pm_i_wI, pm_i_wI_eq, iv_row_ne, ne_eq, not_false_eq_true, upd, iv_c, Nat.reduceEqDiff, Nat.reduceLT, Nat.reduceLeDiff, false_and, and_false, true_and, and_true, and_self, reduceIte, eq_self]
    exact ⟨⟨by decide, by decide⟩, hI.wk.2.2.1, fun k hk => absurd (show k < 0 from hk) (Nat.not_lt_zero k)⟩
  · exact hI.tp.cg (by (intro p j hr; (try simp only [pm_i_wI]); repeat rw [if_neg (fun z => by obtain ⟨z1, z2⟩ := z; subst z1; unfold iv_rTp at hr; omega)])) (fun _ _ => rfl)
  · exact hI.tr.cg (by (intro p j hr; (try simp only [pm_i_wI]); repeat rw [if_neg (fun z => by obtain ⟨z1, z2⟩ := z; subst z1; unfold iv_rTr at hr; omega)]))
theorem iv_cause {A : iv_A} {S : pm_S} {b s v : Int32} (hb : iv_in b (-1) 5) (hs : iv_in s 0 9) (hv : iv_in v 0 3) (h : pm_i S 59 35 < 12) (hI : Inv A S) : Inv A (pm_wI (pm_wI (pm_wI (pm_wI (pm_wI (pm_wI (pm_wI (pm_wI S 29 (pm_i S 59 35).toNatClampNeg b) 30 (pm_i S 59 35).toNatClampNeg s) 31 (pm_i S 59 35).toNatClampNeg v) 28 0 (pm_i S 59 35 + 1)) 85 (pm_i S 59 35).toNatClampNeg b) 86 (pm_i S 59 35).toNatClampNeg s) 87 (pm_i S 59 35).toNatClampNeg v) 59 35 (pm_i S 59 35 + 1)) := by
  obtain ⟨b1, b2⟩ := hI.cau.2.1
  refine ⟨hI.sh, ?_, ?_, ?_, ?_, ?_, ?_, ?_, ?_, ?_, ?_, ?_, ?_⟩
  · exact hI.day.cg (by (intro p j hr; (try simp only [pm_i_wI]); repeat rw [if_neg (fun z => by obtain ⟨z1, z2⟩ := z; subst z1; unfold iv_rDay at hr; omega)]))
  · exact hI.per.cg (by (intro p j hr; (try simp only [pm_i_wI]); repeat rw [if_neg (fun z => by obtain ⟨z1, z2⟩ := z; subst z1; unfold iv_rPer at hr; omega)]))
  · exact hI.mat.cg (Nat.le_refl _) (fun _ _ => ⟨rfl, rfl⟩) (fun _ _ _ => rfl) (by (intro p j hr; (try simp only [pm_i_wI]); repeat rw [if_neg (fun z => by obtain ⟨z1, z2⟩ := z; subst z1; unfold iv_rMat at hr; omega)]))
  · exact hI.act.cg hI.mat (Nat.le_refl _) (fun _ _ => ⟨rfl, rfl⟩) (fun _ _ _ => rfl) (by (intro p j hr; (try simp only [pm_i_wI]); repeat rw [if_neg (fun z => by obtain ⟨z1, z2⟩ := z; subst z1; unfold iv_rAct at hr; omega)]))
  · exact hI.txt.cg (by (intro p j hr; (try simp only [pm_i_wI]); repeat rw [if_neg (fun z => by obtain ⟨z1, z2⟩ := z; subst z1; unfold iv_rTxt at hr; omega)]))
  · exact hI.law.cg (Nat.le_refl _) (fun _ _ => ⟨rfl, rfl⟩) (fun _ _ _ => rfl) (by (intro p j hr; (try simp only [pm_i_wI]); repeat rw [if_neg (fun z => by obtain ⟨z1, z2⟩ := z; subst z1; unfold iv_rLaw at hr; omega)]))
  · unfold iv_Cau
    simp only [pm_i_wI, pm_i_wI_eq, iv_row_ne, ne_eq, not_false_eq_true, upd, iv_c, Nat.reduceEqDiff, Nat.reduceLT, Nat.reduceLeDiff, false_and, and_false, true_and, and_true, and_self, reduceIte, eq_self]
    refine ⟨⟨by lia, by lia⟩, ⟨by rw [hI.e29], by rw [hI.e30], by rw [hI.e31]⟩, fun k hk => ?_⟩
    by_cases hkn : k = (pm_i S 59 35).toNatClampNeg
    · simp only [if_pos hkn]; exact ⟨hb, hs, hv⟩
    · simp only [if_neg hkn]; exact hI.cau.2.2.2 k (iv_lt1 b1 h hk hkn)
  · exact hI.red.cg (by (intro p j hr; (try simp only [pm_i_wI]); repeat rw [if_neg (fun z => by obtain ⟨z1, z2⟩ := z; subst z1; unfold iv_rRed at hr; omega)]))
  · exact hI.rep.cg (by (intro p j hr; (try simp only [pm_i_wI]); repeat rw [if_neg (fun z => by obtain ⟨z1, z2⟩ := z; subst z1; unfold iv_rRep at hr; omega)]))
  · exact hI.wk.cg (by (intro p j hr; (try simp only [pm_i_wI]); repeat rw [if_neg (fun z => by obtain ⟨z1, z2⟩ := z; subst z1; unfold iv_rWk at hr; omega)]))
  · exact hI.tp.cg (by (intro p j hr; (try simp only [pm_i_wI]); repeat rw [if_neg (fun z => by obtain ⟨z1, z2⟩ := z; subst z1; unfold iv_rTp at hr; omega)])) (fun _ _ => rfl)
  · exact hI.tr.cg (by (intro p j hr; (try simp only [pm_i_wI]); repeat rw [if_neg (fun z => by obtain ⟨z1, z2⟩ := z; subst z1; unfold iv_rTr at hr; omega)]))
theorem iv_plan {A : iv_A} {S : pm_S} {b s v : Int32} (hb : 0 ≤ b ∧ b < pm_i S 59 18) (hs : iv_in s 1 9) (hv : iv_in v 0 9999) (h : pm_i S 59 41 < 7) (hI : Inv A S) : Inv A (pm_wI (pm_wI (pm_wI (pm_wI (pm_wI (pm_wI (pm_wI (pm_wI S 39 (pm_i S 59 41).toNatClampNeg b) 40 (pm_i S 59 41).toNatClampNeg s) 41 (pm_i S 59 41).toNatClampNeg v) 38 0 (pm_i S 59 41 + 1)) 89 (pm_i S 59 41).toNatClampNeg b) 90 (pm_i S 59 41).toNatClampNeg s) 91 (pm_i S 59 41).toNatClampNeg v) 59 41 (pm_i S 59 41 + 1)) := by
  obtain ⟨b1, b2⟩ := hI.wk.2.1
  refine ⟨hI.sh, ?_, ?_, ?_, ?_, ?_, ?_, ?_, ?_, ?_, ?_, ?_, ?_⟩
  · exact hI.day.cg (by (intro p j hr; (try simp only [pm_i_wI]); repeat rw [if_neg (fun z => by obtain ⟨z1, z2⟩ := z; subst z1; unfold iv_rDay at hr; omega)]))
  · exact hI.per.cg (by (intro p j hr; (try simp only [pm_i_wI]); repeat rw [if_neg (fun z => by obtain ⟨z1, z2⟩ := z; subst z1; unfold iv_rPer at hr; omega)]))
  · exact hI.mat.cg (Nat.le_refl _) (fun _ _ => ⟨rfl, rfl⟩) (fun _ _ _ => rfl) (by (intro p j hr; (try simp only [pm_i_wI]); repeat rw [if_neg (fun z => by obtain ⟨z1, z2⟩ := z; subst z1; unfold iv_rMat at hr; omega)]))
  · exact hI.act.cg hI.mat (Nat.le_refl _) (fun _ _ => ⟨rfl, rfl⟩) (fun _ _ _ => rfl) (by (intro p j hr; (try simp only [pm_i_wI]); repeat rw [if_neg (fun z => by obtain ⟨z1, z2⟩ := z; subst z1; unfold iv_rAct at hr; omega)]))
  · exact hI.txt.cg (by (intro p j hr; (try simp only [pm_i_wI]); repeat rw [if_neg (fun z => by obtain ⟨z1, z2⟩ := z; subst z1; unfold iv_rTxt at hr; omega)]))
  · exact hI.law.cg (Nat.le_refl _) (fun _ _ => ⟨rfl, rfl⟩) (fun _ _ _ => rfl) (by (intro p j hr; (try simp only [pm_i_wI]); repeat rw [if_neg (fun z => by obtain ⟨z1, z2⟩ := z; subst z1; unfold iv_rLaw at hr; omega)]))
  · exact hI.cau.cg (by (intro p j hr; (try simp only [pm_i_wI]); repeat rw [if_neg (fun z => by obtain ⟨z1, z2⟩ := z; subst z1; unfold iv_rCau at hr; omega)]))
  · exact hI.red.cg (by (intro p j hr; (try simp only [pm_i_wI]); repeat rw [if_neg (fun z => by obtain ⟨z1, z2⟩ := z; subst z1; unfold iv_rRed at hr; omega)]))
  · exact hI.rep.cg (by (intro p j hr; (try simp only [pm_i_wI]); repeat rw [if_neg (fun z => by obtain ⟨z1, z2⟩ := z; subst z1; unfold iv_rRep at hr; omega)]))
  · unfold iv_Wk
    simp only [pm_i_wI, pm_i_wI_eq, iv_row_ne, ne_eq, not_false_eq_true, upd, iv_c, Nat.reduceEqDiff, Nat.reduceLT, Nat.reduceLeDiff, false_and, and_false, true_and, and_true, and_self, reduceIte, eq_self]
    refine ⟨⟨by lia, by lia⟩, ⟨by rw [hI.e39], by rw [hI.e40], by rw [hI.e41]⟩, fun k hk => ?_⟩
    by_cases hkn : k = (pm_i S 59 41).toNatClampNeg
    · simp only [if_pos hkn]; exact ⟨hb, hs, hv⟩
    · simp only [if_neg hkn]; exact hI.wk.2.2.2 k (iv_lt1 b1 h hk hkn)
  · exact hI.tp.cg (by (intro p j hr; (try simp only [pm_i_wI]); repeat rw [if_neg (fun z => by obtain ⟨z1, z2⟩ := z; subst z1; unfold iv_rTp at hr; omega)])) (fun _ _ => rfl)
  · exact hI.tr.cg (by (intro p j hr; (try simp only [pm_i_wI]); repeat rw [if_neg (fun z => by obtain ⟨z1, z2⟩ := z; subst z1; unfold iv_rTr at hr; omega)]))
