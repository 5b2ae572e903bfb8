theorem Sh.same {S S' : pm_S} (h : Sh S) (e1 : pm_n S' = pm_n S) (e2 : pm_k S' = pm_k S) (e3 : pm_z S' = pm_z S) (e4 : pm_r S' = pm_r S) : Sh S' := by
  unfold Sh; rw [e1, e2, e3, e4]; exact h
/-- one MATTER's changing fields written on both sides, nothing else -/
theorem iv_mset {A : iv_A} {S S' : pm_S} {a : Nat} (hI : Inv A S) (ha : a < iv_c S 18) (e1 : pm_n S' = pm_n S) (e2 : pm_k S' = pm_k S) (e3 : pm_z S' = pm_z S) (e4 : pm_r S' = pm_r S) (e5 : pm_l S' = pm_l S)
    (hi : ∀ p j, ¬ (p = iv_m A a ∧ 6 ≤ j) → ¬ (j = a ∧ (p = 62 ∨ 68 ≤ p ∧ p ≤ 74)) → pm_i S' p j = pm_i S p j)
    (m6 : pm_i S' (iv_m A a) 6 = pm_i S' 62 a) (m7 : pm_i S' (iv_m A a) 7 = pm_i S' 68 a) (m8 : pm_i S' (iv_m A a) 8 = pm_i S' 69 a) (m9 : pm_i S' (iv_m A a) 9 = pm_i S' 70 a) (m10 : pm_i S' (iv_m A a) 10 = pm_i S' 71 a) (m11 : pm_i S' (iv_m A a) 11 = pm_i S' 72 a) (m12 : pm_i S' (iv_m A a) 12 = pm_i S' 73 a) (m13 : pm_i S' (iv_m A a) 13 = pm_i S' 74 a)
    (hok : iv_mok S' a) : Inv A S' := by
  have hlo := (hI.row ha).lo
  have hk := (hI.row ha).k
  have n1 : pm_n S ≤ pm_n S' := by rw [e1]; exact Nat.le_refl _
  have n2 : ∀ p, p < pm_n S → pm_k S' p = pm_k S p ∧ pm_z S' p = pm_z S p := fun p _ => by rw [e2, e3]; exact ⟨rfl, rfl⟩
  have n3 : ∀ p j, pm_r S' p j = pm_r S p j := fun p j => by rw [e4]
  refine ⟨hI.sh.same e1 e2 e3 e4, ?_, ?_, ?_, ?_, ?_, ?_, ?_, ?_, ?_, ?_, ?_, ?_⟩
  · exact hI.day.cg (fun p j hr => hi p j (fun z => by unfold iv_rDay at hr; omega) (fun z => by unfold iv_rDay at hr; omega))
  · exact hI.per.cg (fun p j hr => hi p j (fun z => by unfold iv_rPer at hr; omega) (fun z => by unfold iv_rPer at hr; omega))
  · exact hI.mat.ch ha n1 n2 (fun p j _ => n3 p j) (fun p j _ z1 z2 => hi p j z1 z2) m6 m7 m8 m9 m10 m11 m12 m13 hok
  · exact hI.act.cg hI.mat n1 n2 (fun p j _ => n3 p j) (fun p j hr => hi p j (fun z => by obtain ⟨z1, z2⟩ := z; subst z1; unfold iv_rAct at hr; omega) (fun z => by unfold iv_rAct at hr; omega))
  · exact hI.txt.cg (fun p j hr => hi p j (fun z => by unfold iv_rTxt at hr; omega) (fun z => by unfold iv_rTxt at hr; omega))
  · exact hI.law.cg n1 n2 (fun p j _ => n3 p j) (fun p j hr => hi p j (fun z => by obtain ⟨z1, z2⟩ := z; subst z1; unfold iv_rLaw at hr; omega) (fun z => by unfold iv_rLaw at hr; omega))
  · exact hI.cau.cg (fun p j hr => hi p j (fun z => by unfold iv_rCau at hr; omega) (fun z => by unfold iv_rCau at hr; omega))
  · exact hI.red.cg (fun p j hr => hi p j (fun z => by unfold iv_rRed at hr; omega) (fun z => by unfold iv_rRed at hr; omega))
  · exact hI.rep.cg (fun p j hr => hi p j (fun z => by unfold iv_rRep at hr; omega) (fun z => by unfold iv_rRep at hr; omega))
  · exact hI.wk.cg (fun p j hr => hi p j (fun z => by unfold iv_rWk at hr; omega) (fun z => by unfold iv_rWk at hr; omega))
  · exact hI.tp.cg (fun p j hr => hi p j (fun z => by unfold iv_rTp at hr; omega) (fun z => by unfold iv_rTp at hr; omega)) (fun p _ => by rw [e5])
  · exact hI.tr.cg (fun p j hr => hi p j (fun z => by unfold iv_rTr at hr; omega) (fun z => by unfold iv_rTr at hr; omega))
