/-! Inv with one more LAW, and scratch -/
theorem iv_law1 {A : iv_A} {S S' : pm_S} {b k : Int32} {n x : Nat} {L : gx_L} (hI : Inv A S) (free : ∀ p, pm_n S ≤ p → pm_k S p = 99) (hc : iv_c S 31 < 12) (hb : iv_in b (-1) 5) (hk : iv_in k 0 9999)
    (e1 : pm_n S' = pm_n S + 7) (n2 : ∀ p, p < pm_n S → pm_k S' p = pm_k S p ∧ pm_z S' p = pm_z S p ∧ (¬ sc_l p → pm_l S' p = pm_l S p)) (kp : pm_k S' (pm_n S) = 5)
    (kw : ∀ q, q < 6 → pm_r S' (pm_n S) (iv_lf q) = some (pm_n S + 1 + q) ∧ pm_k S' (pm_n S + 1 + q) = 20 ∧ pm_z S' (pm_n S + 1 + q) = (if q = 5 then 160 else 10))
    (hi : ∀ q j, q < pm_n S → ¬ lv_x A (iv_c S 31) q j → ¬ sc_q S q j → pm_i S' q j = pm_i S q j)
    (hr : ∀ q j, q < pm_n S → ¬ (q = 15 ∧ j = iv_c S 31) → ¬ (q = 5 ∧ j = 3) → pm_r S' q j = pm_r S q j) (r15 : pm_r S' 15 (iv_c S 31) = some (iv_l A (iv_c S 31))) (r5 : pm_r S' 5 3 = some (pm_n S))
    (t5 : pm_i S' 5 1 = 0) (t26 : pm_i S' 59 26 = 0) (n31 : pm_i S' 59 31 = nI (iv_c S 31 + 1)) (n14 : pm_i S' 14 2 = nI (iv_c S 31 + 1))
    (d0 : pm_i S' (iv_l A (iv_c S 31)) 0 = b) (d1 : pm_i S' (iv_l A (iv_c S 31)) 1 = k) (b83 : pm_i S' 83 (iv_c S 31) = b) (b84 : pm_i S' 84 (iv_c S 31) = k) (b82 : pm_i S' 82 (iv_c S 31) = nI n) (hn : n ≤ 160)
    (htx : ∀ j, j < n → iv_in (iv_txt S' (iv_c S 31) j) 0 255) (hrd : gx_read (iv_txt S' (iv_c S 31)) n = (x, some L)) (hrep : iv_lrep S' (iv_l A (iv_c S 31)) (iv_w A (iv_c S 31)) L) : Inv (lv_A A (iv_c S 31) (pm_n S)) S' := by
  have h114 := hI.sh.1
  obtain ⟨n12, hn31⟩ := MI.c31 hI.mi
  obtain ⟨l1, l2, l3, l4, l5, l6⟩ := hI.law
  have LC := l3 (iv_c S 31) (Nat.le_refl _)
  obtain ⟨c1, c2, c3, c4, c5⟩ := LC
  have ec : iv_c S' 31 = iv_c S 31 + 1 := by unfold iv_c at n31 ⊢; rw [n31]; exact nI_clamp (by unfold iv_c at hc; omega)
  generalize hC : iv_c S 31 = c at *
  -- the cells of the draft
  have dD : ∀ q, q < 114 → q ≠ 7 → q ≠ iv_l A c := fun q h1 h2 => by omega
  have dW : ∀ q, q < 114 → ¬ (8 ≤ q ∧ q ≤ 13) → ∀ i, i < 6 → q ≠ iv_w A c i := fun q h1 h2 i h3 => by have := (c5 i h3).2.1; omega
  have low : ∀ q j, q < 114 → ¬ (7 ≤ q ∧ q ≤ 13) → ¬ (q = 5 ∧ (j = 1 ∨ j = 2)) → ¬ (q = 59 ∧ (j = 26 ∨ j = 31)) → ¬ (q = 14 ∧ j = 2) → ¬ (81 ≤ q ∧ q ≤ 84) → ¬ sc_q S q j → pm_i S' q j = pm_i S q j := fun q j h1 h2 h3 h4 h5 h6 hsc => hi q j (by omega) (fun z => by
    unfold lv_x at z
    rcases z with z | ⟨i, z1, z2⟩ | z | z | z | z | z
    · exact dD q h1 (by omega) z
    · exact dW q h1 (by omega) i z1 z2
    · exact h3 z
    · exact h4 z
    · exact h5 z
    · omega
    · omega) hsc
  have obj : ∀ q j, q < pm_n S → 114 ≤ q → ¬ pm_k S q = 5 → ¬ (pm_k S q = 20 ∧ ¬ pm_z S q = 6) → ¬ sc_q S q j → pm_i S' q j = pm_i S q j := fun q j h0 h1 h2 h3 hsc => hi q j h0 (fun z => by
    unfold lv_x at z
    rcases z with z | ⟨i, z1, z2⟩ | z | z | z | z | z
    · subst z; exact h2 c3
    · subst z2
      obtain ⟨y1, y2, y3, y4, y5, y6⟩ := c5 i z1
      exact h3 ⟨y4, by rw [y5]; split <;> omega⟩
    · omega
    · omega
    · omega
    · omega
    · omega) hsc
  have inn : ∀ p, ¬ pm_k S p = 99 → p < pm_n S := fun p h => by
    by_cases z : p < pm_n S
    · exact z
    · exact absurd (free p (by omega)) h
  have n1 : pm_n S ≤ pm_n S' := by omega
  have n2' : ∀ p, p < pm_n S → pm_k S' p = pm_k S p ∧ pm_z S' p = pm_z S p := fun p hp => ⟨(n2 p hp).1, (n2 p hp).2.1⟩
  refine ⟨⟨by omega, fun p hp => by rw [(n2 p (by omega)).1, (n2 p (by omega)).2.1]; exact hI.sh.2.1 p hp, fun e he => ?_⟩, ?_, ?_, ?_, ?_, ?_, ?_, ?_, ?_, ?_, ?_, ?_, ?_⟩
  · have h3 : ∀ e, e ∈ sh_rr → e.1 < 114 ∧ e.1 ≠ 15 ∧ ¬ (e.1 = 5 ∧ e.2.1 = 3) := by decide
    have := h3 e he
    rw [hr _ _ (by omega) (fun z => this.2.1 z.1) this.2.2]; exact hI.sh.2.2 e he
  · exact hI.day.cg (fun p j h => by unfold iv_rDay at h; exact low p j (by omega) (by omega) (by omega) (by omega) (by omega) (by omega) (by unfold sc_q; omega))
  · exact hI.per.cg (fun p j h => by unfold iv_rPer at h; exact low p j (by omega) (by omega) (by omega) (by omega) (by omega) (by omega) (by unfold sc_q; omega))
  · have key : iv_Mat A S' := hI.mat.cg n1 n2' (fun p j h => by
        unfold iv_qMat at h
        exact hr p j (by rcases h with h | h; omega; exact inn p (by omega)) (fun z => by have := sh_k15 hI.sh; omega) (fun z => by have := sh_k5 hI.sh; omega)) (fun p j h => by
        unfold iv_rMat at h
        by_cases z : p < 114
        · exact low p j z (by omega) (by omega) (by omega) (by omega) (by omega) (by unfold sc_q; omega)
        · exact obj p j (inn p (by omega)) (by omega) (by omega) (by omega) (by unfold sc_q; omega))
    obtain ⟨g1, g2, g3, g4⟩ := key
    refine ⟨g1, g2, fun a ha => ?_, g4⟩
    have e18 : iv_c S' 18 = iv_c S 18 := by unfold iv_c; rw [low 59 18 (by omega) (by omega) (by omega) (by omega) (by omega) (by omega) (by unfold sc_q; omega)]
    obtain ⟨⟨m1, m2, ⟨x1, x2, x3, x4⟩, m4, m5, m6⟩, hok⟩ := g3 a ha
    have hlt := (hI.row (a := a) (by omega)).2.1.2.2.2
    exact ⟨⟨m1, m2, ⟨x1, x2, x3, by show iv_t (lv_A A c (pm_n S)) (iv_g A a) = a; rw [lv_t hlt]; exact x4⟩, m4, m5, m6⟩, hok⟩
  · have key : iv_Act A S' := hI.act.cg hI.mat n1 n2' (fun p j h => by
        unfold iv_qAct at h
        exact hr p j (inn p (by omega)) (fun z => by have := sh_k15 hI.sh; omega) (fun z => by have := sh_k5 hI.sh; omega)) (fun p j h => by
        unfold iv_rAct at h
        by_cases z : p < 114
        · exact low p j z (by omega) (by omega) (by omega) (by omega) (by omega) (by unfold sc_q; omega)
        · exact obj p j (inn p (by omega)) (by omega) (by omega) (by omega) (by unfold sc_q; omega))
    obtain ⟨a1, a2, a3, a4⟩ := key
    exact ⟨a1, a2, a3, fun m hm => ⟨ch_same (A := A) (A' := lv_A A c (pm_n S)) _ _ (a4 m hm).1 (fun a ha => rfl) (fun a ha => rfl), (a4 m hm).2⟩⟩
  · obtain ⟨h1, h2, h3, h4⟩ := hI.txt
    have r6 : pm_i S' 6 = pm_i S 6 := funext fun j => low 6 j (by omega) (by omega) (by omega) (by omega) (by omega) (by omega) (by unfold sc_q; omega)
    have r80 : pm_i S' 80 = pm_i S 80 := funext fun j => low 80 j (by omega) (by omega) (by omega) (by omega) (by omega) (by omega) (by unfold sc_q; omega)
    exact ⟨by rw [t5, t26], by rw [t26]; exact ⟨by decide, by decide⟩, by rw [r6, r80]; exact h3, fun j => by rw [r80]; exact h4 j⟩
  · refine ⟨by rw [n14, n31], by rw [n31]; exact ⟨nI_pos' (by omega), nI_le (b := 12) (by omega) (by decide)⟩, fun l hl => ?_, fun l hl => ?_, ?_, ?_⟩
    · rw [ec] at hl
      by_cases e : l = c + 1
      · subst e
        refine ⟨by rw [lv_lc]; omega, by rw [lv_lc]; omega, by rw [lv_lc]; exact kp, by rw [lv_lc]; exact lv_tp, fun q hq => ?_⟩
        obtain ⟨y1, y2, y3⟩ := kw q hq
        rw [lv_lc, lv_wc]
        exact ⟨y1, by omega, by omega, y2, y3, lv_tw hq⟩
      · obtain ⟨y1, y2, y3, y4, y5⟩ := l3 l (by omega)
        refine ⟨by rw [lv_l e]; exact y1, by rw [lv_l e]; omega, by rw [lv_l e, (n2 _ y2).1]; exact y3, by rw [lv_l e, lv_t y2]; exact y4, fun q hq => ?_⟩
        obtain ⟨w1, w2, w3, w4, w5, w6⟩ := y5 q hq
        rw [lv_l e, lv_w e]
        exact ⟨by rw [hr _ _ y2 (fun z => by omega) (fun z => by omega)]; exact w1, w2, by omega, by rw [(n2 _ w3).1]; exact w4, by rw [(n2 _ w3).2.1]; exact w5, by rw [lv_t w3]; exact w6⟩
    · rw [ec] at hl
      unfold iv_lrow
      rw [lv_l (by omega)]
      by_cases e : l = c
      · subst e
        rw [r15, d0, d1, b83, b84, b82, nI_clamp (by omega)]
        refine ⟨rfl, rfl, rfl, hb, hk, ⟨nI_pos' (by omega), nI_le (b := 160) hn (by decide)⟩, htx, x, L, hrd, ?_⟩
        have ew : iv_w (lv_A A l (pm_n S)) l = iv_w A l := funext fun q => lv_w (by omega)
        rw [ew]; exact hrep
      · obtain ⟨y1, y2, y3, y4, y5⟩ := l3 l (by omega)
        obtain ⟨z1, z2, z3, z4, z5, z6, z7, p, L', z8, z9⟩ := l4 l (by omega)
        have hl2 : l < c := by omega
        have ro : ∀ j, pm_i S' (iv_l A l) j = pm_i S (iv_l A l) j := fun j => hi _ j y2 (fun z => by
          unfold lv_x at z
          rcases z with z | ⟨i, i1, i2⟩ | z | z | z | z | z
          · rw [z, c4] at y4; omega
          · rw [i2, (c5 i i1).2.2.2.1] at y3; omega
          all_goals omega) (by unfold sc_q; omega)
        have rw' : ∀ q, q < 6 → ∀ j, pm_i S' (iv_w A l q) j = pm_i S (iv_w A l q) j := fun q hq j => by
          obtain ⟨w1, w2, w3, w4, w5, w6⟩ := y5 q hq
          refine hi _ j w3 (fun z => ?_) (by unfold sc_q; omega)
          unfold lv_x at z
          rcases z with z | ⟨i, i1, i2⟩ | z | z | z | z | z
          · rw [z, c3] at w4; omega
          · rw [i2, (c5 i i1).2.2.2.2.2] at w6; omega
          all_goals omega
        have r8 : ∀ q j, 81 ≤ q → q ≤ 84 → (q = 81 → j < 160 * c) → (82 ≤ q → j ≠ c) → pm_i S' q j = pm_i S q j := fun q j h1 h2 h3 h4 => hi q j (by omega) (fun z => by
          unfold lv_x at z
          rcases z with z | ⟨i, i1, i2⟩ | z | z | z | z | z
          · exact dD q (by omega) (by omega) z
          · exact dW q (by omega) (by omega) i i1 i2
          · omega
          · omega
          · omega
          · have := h3 z.1; omega
          · exact h4 z.1 z.2.2) (by unfold sc_q; omega)
        have lc2 : 160 * l + 160 ≤ 160 * c := by omega
        have tx : ∀ j, j < 160 → iv_txt S' l j = iv_txt S l j := fun j hj => r8 81 _ (by omega) (by omega) (fun _ => by omega) (fun z => by omega)
        have n82 := iv_le (n := 160) 160 z6.2 (by decide)
        rw [hr 15 l (by omega) (by omega) (by omega), ro, ro, r8 82 l (by omega) (by omega) (by omega) (by omega), r8 83 l (by omega) (by omega) (by omega) (by omega), r8 84 l (by omega) (by omega) (by omega) (by omega)]
        refine ⟨z1, z2, z3, z4, z5, z6, fun j hj => by rw [tx j (by omega)]; exact z7 j hj, p, L', ?_, ?_⟩
        · rw [← z8]; exact gx_read_cong (fun j hj => tx j (by omega))
        · have ew : iv_w (lv_A A c (pm_n S)) l = iv_w A l := funext fun q => lv_w (by omega)
          rw [ew]; exact z9.cg (funext ro) (fun q hq => funext (rw' q hq))
    · rw [ec, lv_lc]; exact r5
    · refine l6.cg (funext fun j => low 16 j (by omega) (by omega) (by omega) (by omega) (by omega) (by omega) (by unfold sc_q; omega)) (fun q hq => funext fun j => low (17 + q) j (by omega) (by omega) (by omega) (by omega) (by omega) (by omega) (by unfold sc_q; omega))
  · exact hI.cau.cg (fun p j h => by unfold iv_rCau at h; exact low p j (by omega) (by omega) (by omega) (by omega) (by omega) (by omega) (by unfold sc_q; omega))
  · exact hI.red.cg (fun p j h => by unfold iv_rRed at h; exact low p j (by omega) (by omega) (by omega) (by omega) (by omega) (by omega) (by unfold sc_q; omega))
  · exact hI.rep.cg (fun p j h => by unfold iv_rRep at h; exact low p j (by omega) (by omega) (by omega) (by omega) (by omega) (by omega) (by unfold sc_q; omega))
  · exact hI.wk.cg (fun p j h => by unfold iv_rWk at h; exact low p j (by omega) (by omega) (by omega) (by omega) (by omega) (by omega) (by unfold sc_q; omega))
  · exact hI.tp.cg (fun p j h => by unfold iv_rTp at h; exact low p j (by omega) (by omega) (by omega) (by omega) (by omega) (by omega) (by unfold sc_q; omega)) (fun p hp => (n2 p (by unfold iv_lTp at hp; omega)).2.2 (by unfold iv_lTp at hp; unfold sc_l; omega))
  · exact hI.tr.cg (fun p j h => by unfold iv_rTr at h; exact low p j (by omega) (by omega) (by omega) (by omega) (by omega) (by omega) (by unfold sc_q; omega))
