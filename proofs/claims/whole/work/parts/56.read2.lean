theorem rd_at {S : pm_S} {p n k : Nat} (h : rd S p n) (hp : k < n) : gx_b (pm_i S 6) n k = (pm_i S 6 k).toNatClampNeg ∧ pm_i S 6 k = nI (gx_b (pm_i S 6) n k) ∧ gx_b (pm_i S 6) n k < 256 := by
  have h5 := h.2.2.2.2 k hp
  have e : gx_b (pm_i S 6) n k = (pm_i S 6 k).toNatClampNeg := by unfold gx_b; rw [if_pos hp]
  refine ⟨e, by rw [e]; exact iv_nn h5.1, ?_⟩
  rw [e]; have := iv_le (n := 255) 255 h5.2 (by decide); omega
theorem rd_dig {b : Nat} (hb : b < 256) : (nI b - 48 < 0 ↔ b < 48) ∧ (9 < nI b - 48 ↔ 57 < b) ∧ (48 ≤ b → nI b - 48 = nI (b - 48)) ∧ (nI b - 48 < 1 ↔ b < 49) := by
  have e48 : (48 : Int32) = nI 48 := rfl
  have e9 : (9 : Int32) = nI 9 := rfl
  have e1 : (1 : Int32) = nI 1 := rfl
  by_cases h : 48 ≤ b
  · have e : nI b - 48 = nI (b - 48) := by rw [e48]; exact pk_sub h
    rw [e]
    refine ⟨⟨fun z => absurd z (nI_pos (by omega)), fun z => by omega⟩, ?_, fun _ => rfl, ?_⟩
    · rw [e9, nI_ltI (by omega) (by omega)]; omega
    · rw [e1, nI_ltI (by omega) (by omega)]; omega
  · have hn : nI b - 48 < 0 := by rw [e48]; exact pk_sneg (by omega) (by omega)
    refine ⟨⟨fun _ => by omega, fun _ => hn⟩, ⟨fun z => by exfalso; lia, fun z => by omega⟩, fun z => absurd z h, ⟨fun _ => by omega, fun _ => by lia⟩⟩
theorem gx_num_some {B : Nat → Nat} {least most p : Nat} (h : 48 + least ≤ B p ∧ B p ≤ 57) : gx_num B least most p = ((gx_nm B (most - 1) (p + 1) (B p - 48)).1, some (gx_nm B (most - 1) (p + 1) (B p - 48)).2) := by
  unfold gx_num; rw [if_pos h]
theorem gx_num_none {B : Nat → Nat} {least most p : Nat} (h : ¬ (48 + least ≤ B p ∧ B p ≤ 57)) : gx_num B least most p = (p, none) := by
  unfold gx_num; rw [if_neg h]
theorem gx_nm_yes {B : Nat → Nat} {k p v : Nat} (h : 48 ≤ B p ∧ B p ≤ 57) : gx_nm B (k + 1) p v = gx_nm B k (p + 1) (10 * v + (B p - 48)) := by
  rw [gx_nm, if_pos h]
theorem gx_nm_no {B : Nat → Nat} {k p v : Nat} (h : ¬ (48 ≤ B p ∧ B p ≤ 57)) : gx_nm B (k + 1) p v = (p, v) := by
  rw [gx_nm, if_neg h]
theorem rd_48 {G : pm_G} {d : Nat} {S : pm_S} {p n least most : Nat} {q : Int32 → pm_S → Prop} (hS : Sh S) (hr : rd S p n) (hl : least ≤ 1) (hm : 1 ≤ most) (hm4 : most ≤ 4) (h1 : ∀ r v, gx_num (gx_b (pm_i S 6) n) least most p = (r, some v) → p < r → r ≤ n → v < 10 ^ most → q (nI v) (pm_wI S 5 2 (nI r))) (h0 : gx_num (gx_b (pm_i S 6) n) least most p = (p, none) → q (-1) S) : pm_CI G d 48 [.ref 5, .int (nI least), .int (nI most)] S q := by
  have hn := hr.2.2.2.1
  have hp := hr.2.2.1
  have hB : ∀ i, n ≤ i → gx_b (pm_i S 6) n i = 256 := gx_b_eof
  have key : ∀ k j p' v, j + k = most → 1 ≤ j → p' ≤ n → p < p' → v < 10 ^ j → (∀ r u, gx_nm (gx_b (pm_i S 6) n) k p' v = (r, u) → q (nI u) (pm_wI S 5 2 (nI r))) → pm_W G d 48 (pm_QI q) 5 [.ref 5, .int (nI least), .int (nI most), .int (nI v), .int (nI j), .float 0] [] (pm_wI S 5 2 (nI p')) 0 0 := by
    intro k
    induction k with
    | zero =>
      intro j p' v hj hj1 hp' hpp hv hq
      have hjm : j = most := by omega
      subst hjm
      refine pm_wb_ok pb_c48 60 5 0 _ _ _ _ _ ?_
      simp only [pm_WI0, pm_WI1, pm_WI2, pm_WI3, pm_WI4, pm_WI5, pm_WV, pm_WW, pm_WX, pb_B48, pm_if, pm_QI_at, pm_QL_at, pm_QV_at, pm_QR_at, pm_QR_at0, pm_QR_at1, Nat.reduceSub, Nat.reduceAdd, List.replicate_zero, List.replicate_succ, true_and, and_true, true_or, or_true, and_self, reduceIte, Nat.reduceEqDiff, Nat.reduceLT, Nat.reduceLeDiff, Nat.reduceMul, false_and, and_false, reduceCtorEq, false_or, or_false, not_true_eq_false, not_false_eq_true, true_implies, false_implies, implies_true, lf_10, eq_self, Int32.reduceLT, Int32.reduceLE, Int32.reduceAdd, Int32.reduceSub, pm_same, pm_i_wI, pm_l_wL, pm_l_wM, pm_oR_rf, pm_oQ_rf, sh_k5 hS, sh_r5_0 hS, sh_k6 hS, sh_z6 hS, nI_1, Int32.le_refl]
      exact hq _ _ rfl
    | succ k ih =>
      intro j p' v hj hj1 hp' hpp hv hq
      have hr2 := hr.mv hp'
      have hle : ¬ nI most ≤ nI j := nI_ge (by omega) (by omega)
      have hj0 : ¬ nI j = 0 := nI_ne0 (by omega) (by omega)
      have hv4 : v < 10000 := Nat.lt_of_lt_of_le hv (by have : 10 ^ j ≤ 10 ^ 4 := Nat.pow_le_pow_right (by omega) (by omega); omega)
      refine pm_wb_ok pb_c48 60 5 0 _ _ _ _ _ ?_
      simp only [pm_WI0, pm_WI1, pm_WI2, pm_WI3, pm_WI4, pm_WI5, pm_WV, pm_WW, pm_WX, pb_B48, pm_if, pm_QI_at, pm_QL_at, pm_QV_at, pm_QR_at, pm_QR_at0, pm_QR_at1, Nat.reduceSub, Nat.reduceAdd, List.replicate_zero, List.replicate_succ, true_and, and_true, true_or, or_true, and_self, reduceIte, Nat.reduceEqDiff, Nat.reduceLT, Nat.reduceLeDiff, Nat.reduceMul, false_and, and_false, reduceCtorEq, false_or, or_false, not_true_eq_false, not_false_eq_true, true_implies, false_implies, implies_true, lf_10, eq_self, Int32.reduceLT, Int32.reduceLE, Int32.reduceAdd, Int32.reduceSub, pm_same, pm_i_wI, pm_l_wL, pm_l_wM, pm_oR_rf, pm_oQ_rf, sh_k5 hS, sh_r5_0 hS, sh_k6 hS, sh_z6 hS, nI_1, hle, hj0, hr.2.1]
      refine ⟨fun z => ?_, fun z => ?_⟩
      · have : n ≤ p' := (nI_leI (by omega) (by omega)).mp z
        exact hq _ _ (gx_nm_no (by rw [hB _ this]; omega))
      · have hpn : p' < n := by
          by_cases h1 : p' < n
          · exact h1
          · exact absurd (nI_le (by omega) (by omega)) z
        obtain ⟨e1, e2, e3⟩ := rd_at hr hpn
        obtain ⟨g1, g2, g3, g4⟩ := rd_dig e3
        rw [nI_clamp (by omega), e2]
        refine ⟨vp_in_nI (by omega) (by decide), fun y => ?_, fun y => ⟨fun y2 => ?_, fun y2 => ?_⟩⟩
        · have := g1.mp y
          exact hq _ _ (gx_nm_no (by omega))
        · have k1 : ¬ gx_b (pm_i S 6) n p' < 48 := fun u => y (g1.mpr u)
          have k2 : ¬ 57 < gx_b (pm_i S 6) n p' := fun u => absurd (g2.mpr u) (by lia)
          have hb : 48 ≤ gx_b (pm_i S 6) n p' ∧ gx_b (pm_i S 6) n p' ≤ 57 := ⟨by omega, by omega⟩
          rw [g3 hb.1, show (10 : Int32) = nI 10 from rfl, pk_mul, nI_add, pm_wI_wI]
          refine pv_W (ih (j + 1) (p' + 1) (10 * v + (gx_b (pm_i S 6) n p' - 48)) (by omega) (by omega) (by omega) (by omega) (by rw [Nat.pow_succ]; omega) (fun r u e => hq r u (by rw [gx_nm_yes hb]; exact e))) ?_
          simp [pv_le, pm_unk, Nat.mul_comm]
        · have : 57 < gx_b (pm_i S 6) n p' := g2.mp (by lia)
          exact hq _ _ (gx_nm_no (by omega))
  refine pm_goI 48 40 pb_c48 (by decide) (Nat.le_of_ble_eq_true rfl) rfl ?_
  simp only [show pm_mL 48 = 6 from rfl, pm_WI0, pm_WI1, pm_WI2, pm_WI3, pm_WI4, pm_WI5, pm_WV, pm_WW, pm_WX, pb_B48, pm_if, pm_QI_at, pm_QL_at, pm_QV_at, pm_QR_at, pm_QR_at0, pm_QR_at1, Nat.reduceSub, Nat.reduceAdd, List.replicate_zero, List.replicate_succ, true_and, and_true, true_or, or_true, and_self, reduceIte, Nat.reduceEqDiff, Nat.reduceLT, Nat.reduceLeDiff, Nat.reduceMul, false_and, and_false, reduceCtorEq, false_or, or_false, not_true_eq_false, not_false_eq_true, true_implies, false_implies, implies_true, lf_10, eq_self, Int32.reduceLT, Int32.reduceLE, Int32.reduceAdd, Int32.reduceSub, pm_same, pm_i_wI, pm_l_wL, pm_l_wM, pm_oR_rf, pm_oQ_rf, sh_k5 hS, sh_r5_0 hS, sh_k6 hS, sh_z6 hS, nI_1]
  refine pm_wb_ok pb_c48 60 5 0 _ _ _ _ _ ?_
  simp only [pm_WI0, pm_WI1, pm_WI2, pm_WI3, pm_WI4, pm_WI5, pm_WV, pm_WW, pm_WX, pb_B48, pm_if, pm_QI_at, pm_QL_at, pm_QV_at, pm_QR_at, pm_QR_at0, pm_QR_at1, Nat.reduceSub, Nat.reduceAdd, List.replicate_zero, List.replicate_succ, true_and, and_true, true_or, or_true, and_self, reduceIte, Nat.reduceEqDiff, Nat.reduceLT, Nat.reduceLeDiff, Nat.reduceMul, false_and, and_false, reduceCtorEq, false_or, or_false, not_true_eq_false, not_false_eq_true, true_implies, false_implies, implies_true, lf_10, eq_self, Int32.reduceLT, Int32.reduceLE, Int32.reduceAdd, Int32.reduceSub, pm_same, pm_i_wI, pm_l_wL, pm_l_wM, pm_oR_rf, pm_oQ_rf, sh_k5 hS, sh_r5_0 hS, sh_k6 hS, sh_z6 hS, nI_1, hr.1, hr.2.1]
  have hm0 : ¬ nI most ≤ 0 := nI_nle (by omega) (by omega)
  refine ⟨fun z => absurd z hm0, fun _ => ⟨fun z => ?_, fun z => ?_⟩⟩
  · have : n ≤ p := (nI_leI (by omega) (by omega)).mp z
    exact h0 (gx_num_none (by rw [hB _ this]; omega))
  · have hpn : p < n := by
      by_cases h1 : p < n
      · exact h1
      · exact absurd (nI_le (by omega) (by omega)) z
    obtain ⟨e1, e2, e3⟩ := rd_at hr hpn
    obtain ⟨g1, g2, g3, g4⟩ := rd_dig e3
    have gl : nI (gx_b (pm_i S 6) n p) - 48 < nI least ↔ gx_b (pm_i S 6) n p < 48 + least := by
      have : least = 0 ∨ least = 1 := by omega
      rcases this with rfl | rfl
      · exact g1
      · exact g4
    rw [nI_clamp (by omega), e2]
    refine ⟨vp_in_nI (by omega) (by decide), fun y => ?_, fun y => ⟨fun y2 => ?_, fun y2 => ?_⟩⟩
    · have := gl.mp y
      exact h0 (gx_num_none (by omega))
    · have k1 : ¬ gx_b (pm_i S 6) n p < 48 + least := fun u => y (gl.mpr u)
      have k2 : ¬ 57 < gx_b (pm_i S 6) n p := fun u => absurd (g2.mpr u) (by lia)
      have hb : 48 + least ≤ gx_b (pm_i S 6) n p ∧ gx_b (pm_i S 6) n p ≤ 57 := ⟨by omega, by omega⟩
      rw [g3 (by omega)]
      have e : gx_num (gx_b (pm_i S 6) n) least most p = _ := gx_num_some hb
      refine pv_W (key (most - 1) 1 (p + 1) (gx_b (pm_i S 6) n p - 48) (by omega) (by omega) (by omega) (by omega) (by omega) (fun r u e2 => ?_)) ?_
      · rw [e2] at e
        obtain ⟨a, b, c⟩ := gx_num_ok hB hm e
        exact h1 r u e a b c
      · simp [pv_le, pm_unk]; rfl
    · have : 57 < gx_b (pm_i S 6) n p := g2.mp (by lia)
      exact h0 (gx_num_none (by omega))
