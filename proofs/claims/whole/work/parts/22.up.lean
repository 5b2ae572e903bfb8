/-! where TODAY, the PERSONS and the ACTS grow -/
def iv_uMat (S : pm_S) (p j : Nat) : Prop := (p = 0 ∧ j = 4) ∨ (p = 59 ∧ j = 18) ∨ (62 ≤ p ∧ p ≤ 74) ∨ p = 88 ∨ (114 ≤ p ∧ pm_k S p = 7 ∧ j ≤ 13) ∨ (114 ≤ p ∧ pm_k S p = 20 ∧ pm_z S p = 6)
theorem iv_Mat.up {A : iv_A} {S S' : pm_S} (h : iv_Mat A S) (hn : pm_n S ≤ pm_n S') (hk : ∀ p, p < pm_n S → pm_k S' p = pm_k S p ∧ pm_z S' p = pm_z S p) (hr : ∀ p j, iv_qMat S p j → pm_r S' p j = pm_r S p j) (l0 : pm_i S 59 0 ≤ pm_i S' 59 0) (l4 : pm_i S 59 4 ≤ pm_i S' 59 4) (l24 : pm_i S 59 24 ≤ pm_i S' 59 24) (hi : ∀ p j, iv_uMat S p j → pm_i S' p j = pm_i S p j) : iv_Mat A S' := by
  have r1 : ∀ p, 62 ≤ p → p ≤ 74 → pm_i S' p = pm_i S p := fun p h1 h2 => funext (fun j => hi p j (by unfold iv_uMat; omega))
  have r2 : pm_i S' 88 = pm_i S 88 := funext (fun j => hi 88 j (by unfold iv_uMat; omega))
  have e18 : pm_i S' 59 18 = pm_i S 59 18 := hi _ _ (by unfold iv_uMat; omega)
  have ec : iv_c S' 18 = iv_c S 18 := by unfold iv_c; rw [e18]
  obtain ⟨h1, h2, h3, h4⟩ := h
  refine ⟨by rw [hi 0 4 (by unfold iv_uMat; omega), e18]; exact h1, by rw [e18]; exact h2, fun a ha => ?_, fun a ha hb => ?_⟩
  · rw [ec] at ha
    obtain ⟨⟨⟨m1, m2⟩, ⟨m3, m4, m5, m6⟩, ⟨m7, m8, m9, m10⟩, m11, m12, m13⟩, hok⟩ := h3 a ha
    refine ⟨⟨⟨?_, ?_⟩, ⟨m3, by omega, m5, by omega⟩, ⟨?_, ?_, ?_, m10⟩, ?_, fun f f1 f2 => ?_, fun g hg => ?_⟩, ?_⟩
    · rw [hr 4 a (Or.inl rfl)]; exact m1
    · rw [hr _ 16 (Or.inr ⟨m3, m7, rfl⟩)]; exact m2
    · rw [(hk _ m4).1]; exact m7
    · rw [(hk _ m6).1]; exact m8
    · rw [(hk _ m6).2]; exact m9
    · rw [hi _ 0 (by unfold iv_uMat; omega)]; exact m11
    · rw [hi _ f (by unfold iv_uMat; omega), r1 _ (iv_f_in f1 f2).1 (iv_f_in f1 f2).2]; exact m12 f f1 f2
    · rw [hi _ g (by unfold iv_uMat; omega), r2]; exact m13 g hg
    · unfold iv_mok at hok ⊢
      rw [r1 62 (by omega) (by omega), r1 63 (by omega) (by omega), r1 64 (by omega) (by omega), r1 65 (by omega) (by omega), r1 66 (by omega) (by omega), r1 67 (by omega) (by omega), r1 68 (by omega) (by omega), r1 69 (by omega) (by omega), r1 70 (by omega) (by omega), r1 71 (by omega) (by omega), r1 73 (by omega) (by omega), r1 74 (by omega) (by omega), r2]
      obtain ⟨⟨q1, q2, q3, q4, q5, q6⟩, ⟨q7, q8, q9, q10⟩, q11, q12, q13, q14⟩ := hok
      unfold iv_in at q5 q7 q10 q13 ⊢
      exact ⟨⟨q1, ⟨q2.1, by lia⟩, q3, q4, ⟨q5.1, by lia⟩, q6⟩, ⟨⟨q7.1, by lia⟩, q8, q9, ⟨q10.1, by lia⟩⟩, q11, q12, ⟨q13.1, by lia⟩, q14⟩
  · have := h4 a (by rw [← ec]; exact ha) hb
    unfold iv_mnew at this ⊢
    rw [r1 72 (by omega) (by omega), r1 73 (by omega) (by omega), r1 74 (by omega) (by omega), r2]
    exact this
def iv_uAct (S : pm_S) (p j : Nat) : Prop := (p = 0 ∧ j = 5) ∨ (p = 59 ∧ (j = 24 ∨ j = 18)) ∨ (75 ≤ p ∧ p ≤ 79) ∨ (114 ≤ p ∧ pm_k S p = 0 ∧ j ≤ 4)
theorem iv_Act.up {A : iv_A} {S S' : pm_S} (h : iv_Act A S) (hM : iv_Mat A S) (hn : pm_n S ≤ pm_n S') (hk : ∀ p, p < pm_n S → pm_k S' p = pm_k S p ∧ pm_z S' p = pm_z S p) (hr : ∀ p j, iv_qAct S p j → pm_r S' p j = pm_r S p j) (l0 : pm_i S 59 0 ≤ pm_i S' 59 0) (hi : ∀ p j, iv_uAct S p j → pm_i S' p j = pm_i S p j) : iv_Act A S' := by
  have r1 : ∀ p, 75 ≤ p → p ≤ 79 → pm_i S' p = pm_i S p := fun p h1 h2 => funext (fun j => hi p j (by unfold iv_uAct; omega))
  have e18 : pm_i S' 59 18 = pm_i S 59 18 := hi _ _ (by unfold iv_uAct; omega)
  have e24 : pm_i S' 59 24 = pm_i S 59 24 := hi _ _ (by unfold iv_uAct; omega)
  have ec : iv_c S' 18 = iv_c S 18 := by unfold iv_c; rw [e18]
  have ed : iv_c S' 24 = iv_c S 24 := by unfold iv_c; rw [e24]
  have eA : iv_acts S' = iv_acts S := by funext m; unfold iv_acts; rw [ed, r1 75 (by omega) (by omega)]
  obtain ⟨h1, h2, h3, h4⟩ := h
  refine ⟨by rw [hi 0 5 (by unfold iv_uAct; omega), e24]; exact h1, by rw [e24]; exact h2, fun a ha => ?_, fun m hm => ?_⟩
  · rw [ed] at ha
    obtain ⟨⟨a1, a2, a3⟩, ⟨b0, b1, b2, b3, b4⟩, rest⟩ := h3 a ha
    refine ⟨⟨a1, by omega, by rw [(hk _ a2).1]; exact a3⟩, ⟨?_, ?_, ?_, ?_, ?_⟩, ?_⟩
    · rw [hi _ 0 (by unfold iv_uAct; omega), r1 76 (by omega) (by omega)]; exact b0
    · rw [hi _ 1 (by unfold iv_uAct; omega), r1 77 (by omega) (by omega)]; exact b1
    · rw [hi _ 2 (by unfold iv_uAct; omega), r1 78 (by omega) (by omega)]; exact b2
    · rw [hi _ 3 (by unfold iv_uAct; omega), r1 79 (by omega) (by omega)]; exact b3
    · rw [hi _ 4 (by unfold iv_uAct; omega)]; exact b4
    · rw [r1 75 (by omega) (by omega), r1 76 (by omega) (by omega), r1 77 (by omega) (by omega), r1 78 (by omega) (by omega), r1 79 (by omega) (by omega), e18]; unfold iv_in at rest ⊢; exact ⟨rest.1, rest.2.1, ⟨rest.2.2.1.1, by lia⟩, rest.2.2.2.1, ⟨rest.2.2.2.2.1, by lia⟩⟩
  · rw [ec] at hm
    obtain ⟨⟨⟨m1, m2⟩, ⟨m3, m4, m5, m6⟩, ⟨m7, m8, m9, m10⟩, _⟩, _⟩ := hM.2.2.1 m hm
    rw [eA, hr _ 14 (by unfold iv_qAct; omega), hr _ 15 (by unfold iv_qAct; omega)]
    refine ⟨iv_ch.cg (h4 m hm).1 (fun a ha => hr _ 5 ?_), (h4 m hm).2⟩
    obtain ⟨⟨a1, a2, a3⟩, _⟩ := h3 a (iv_acts_lt ha)
    unfold iv_qAct; omega
