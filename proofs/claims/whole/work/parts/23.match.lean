/-! a MATTER's fields written on both sides -/
theorem iv_Mat.ch {A : iv_A} {S S' : pm_S} {a : Nat} (h : iv_Mat A S) (ha : a < iv_c S 18) (hn : pm_n S ≤ pm_n S') (hk : ∀ p, p < pm_n S → pm_k S' p = pm_k S p ∧ pm_z S' p = pm_z S p) (hr : ∀ p j, iv_qMat S p j → pm_r S' p j = pm_r S p j)
    (hi : ∀ p j, iv_rMat S p j → ¬ (p = iv_m A a ∧ 6 ≤ j) → ¬ (j = a ∧ (p = 62 ∨ 68 ≤ p ∧ p ≤ 74)) → pm_i S' p j = pm_i S p j)
    (m6 : pm_i S' (iv_m A a) 6 = pm_i S' 62 a) (m7 : pm_i S' (iv_m A a) 7 = pm_i S' 68 a) (m8 : pm_i S' (iv_m A a) 8 = pm_i S' 69 a) (m9 : pm_i S' (iv_m A a) 9 = pm_i S' 70 a) (m10 : pm_i S' (iv_m A a) 10 = pm_i S' 71 a) (m11 : pm_i S' (iv_m A a) 11 = pm_i S' 72 a) (m12 : pm_i S' (iv_m A a) 12 = pm_i S' 73 a) (m13 : pm_i S' (iv_m A a) 13 = pm_i S' 74 a)
    (hok : iv_mok S' a) : iv_Mat A S' := by
  have hlo := ((h.2.2.1 a ha).1).lo
  have hak := ((h.2.2.1 a ha).1).k
  have e0 : pm_i S' 59 0 = pm_i S 59 0 := hi _ _ (by unfold iv_rMat; omega) (by omega) (by omega)
  have e4 : pm_i S' 59 4 = pm_i S 59 4 := hi _ _ (by unfold iv_rMat; omega) (by omega) (by omega)
  have e18 : pm_i S' 59 18 = pm_i S 59 18 := hi _ _ (by unfold iv_rMat; omega) (by omega) (by omega)
  have e24 : pm_i S' 59 24 = pm_i S 59 24 := hi _ _ (by unfold iv_rMat; omega) (by omega) (by omega)
  have ec : iv_c S' 18 = iv_c S 18 := by unfold iv_c; rw [e18]
  have r1 : ∀ p b, 62 ≤ p → p ≤ 74 → ¬ b = a → pm_i S' p b = pm_i S p b := fun p b h1 h2 h3 => hi p b (by unfold iv_rMat; omega) (by omega) (by omega)
  have r3 : ∀ p b, 63 ≤ p → p ≤ 67 → pm_i S' p b = pm_i S p b := fun p b h1 h2 => hi p b (by unfold iv_rMat; omega) (by omega) (by omega)
  have r2 : pm_i S' 88 = pm_i S 88 := funext (fun j => hi 88 j (by unfold iv_rMat; omega) (by omega) (by omega))
  obtain ⟨h1, h2, h3, h4⟩ := h
  refine ⟨by rw [hi 0 4 (by unfold iv_rMat; omega) (by omega) (by omega), e18]; exact h1, by rw [e18]; exact h2, fun b hb => ?_, fun b hb hb' => ?_⟩
  · rw [ec] at hb
    obtain ⟨⟨⟨m1, m2⟩, ⟨m3, m4, m5, m6'⟩, ⟨m7', m8', m9', m10'⟩, m11', m12', m13'⟩, hok'⟩ := h3 b hb
    have hg : ¬ iv_g A b = iv_m A a := fun e => by rw [e, hak] at m8'; omega
    refine ⟨⟨⟨?_, ?_⟩, ⟨m3, by omega, m5, by omega⟩, ⟨?_, ?_, ?_, m10'⟩, ?_, fun f f1 f2 => ?_, fun g hg' => ?_⟩, ?_⟩
    · rw [hr 4 b (Or.inl rfl)]; exact m1
    · rw [hr _ 16 (Or.inr ⟨m3, m7', rfl⟩)]; exact m2
    · rw [(hk _ m4).1]; exact m7'
    · rw [(hk _ m6').1]; exact m8'
    · rw [(hk _ m6').2]; exact m9'
    · rw [hi _ 0 (by unfold iv_rMat; omega) (by omega) (by omega)]; exact m11'
    · by_cases hf : f < 6
      · rw [hi _ f (by unfold iv_rMat; omega) (by omega) (by omega), m12' f f1 f2]
        have : ∀ f, f < 6 → 1 ≤ f → 63 ≤ iv_f f ∧ iv_f f ≤ 67 := by decide
        exact (r3 _ _ (this f hf f1).1 (this f hf f1).2).symm
      · by_cases hba : b = a
        · subst hba
          have : f = 6 ∨ f = 7 ∨ f = 8 ∨ f = 9 ∨ f = 10 ∨ f = 11 ∨ f = 12 ∨ f = 13 := by omega
          rcases this with rfl | rfl | rfl | rfl | rfl | rfl | rfl | rfl
          · exact m6
          · exact m7
          · exact m8
          · exact m9
          · exact m10
          · exact m11
          · exact m12
          · exact m13
        · have hne : ¬ iv_m A b = iv_m A a := fun e => hba (by
            have e1 := m11'
            rw [e, ((h3 a ha).1).f0] at e1
            unfold iv_c at ha hb
            unfold iv_in at h2
            have q1 := iv_le (n := 40) 40 h2.2 (by decide)
            exact ((nI_eq (by omega) (by omega)).mp e1).symm)
          rw [hi _ f (by unfold iv_rMat; omega) (by omega) (by omega), m12' f f1 f2]
          exact (r1 _ _ (iv_f_in f1 f2).1 (iv_f_in f1 f2).2 hba).symm
    · rw [hi _ g (by unfold iv_rMat; omega) (by omega) (by omega), r2]; exact m13' g hg'
    · by_cases hba : b = a
      · subst hba; exact hok
      · unfold iv_mok at hok' ⊢
        rw [r1 62 b (by omega) (by omega) hba, r1 63 b (by omega) (by omega) hba, r1 64 b (by omega) (by omega) hba, r1 65 b (by omega) (by omega) hba, r1 66 b (by omega) (by omega) hba, r1 67 b (by omega) (by omega) hba, r1 68 b (by omega) (by omega) hba, r1 69 b (by omega) (by omega) hba, r1 70 b (by omega) (by omega) hba, r1 71 b (by omega) (by omega) hba, r1 73 b (by omega) (by omega) hba, r1 74 b (by omega) (by omega) hba, r2, e0, e4, e24]
        exact hok'
  · rw [ec] at hb
    have hba : ¬ b = a := by omega
    have := h4 b hb hb'
    unfold iv_mnew at this ⊢
    rw [r1 72 b (by omega) (by omega) hba, r1 73 b (by omega) (by omega) hba, r1 74 b (by omega) (by omega) hba, r2]
    exact this
