/-! OWED in the model's rows -/
theorem mm_205 {G : pm_G} {d : Nat} {S : pm_S} {m s due : Nat} {k : Int32} {q : Int32 → pm_S → Prop} (hd : 4 ≤ d) (hS : Sh S) (hm : m < 40) (hn : pm_i S 59 24 = nI (iv_c S 24)) (hn2 : iv_c S 24 ≤ 150) (h : q (owW S m k s due) S) : pm_CI G d 205 [.ref 59, .int (nI m), .int (nI s), .int (nI due), .int k] S q := by
  unfold owW at h
  have hcm := nI_clamp (n := m) (by omega)
  have hvm := vp_in_nI (n := m) (N := 40) hm (by decide)
  refine pm_goI 205 8 pb_c205 (by decide) (Nat.le_of_ble_eq_true rfl) rfl ?_
  try simp only [show pm_mL 205 = 7 from rfl, pm_WI0, pm_WI1, pm_WI2, pm_WI3, pm_WI4, pm_WI5, pm_WV, pm_WW, pm_WX, pb_B205, pm_if, pm_QI_at, pm_QL_at, pm_QV_at, pm_QR_at, pm_QR_at0, pm_QR_at1, Nat.reduceSub, Nat.reduceAdd, List.replicate_zero, List.replicate_succ, true_and, and_true, true_or, or_true, and_self, reduceIte, Nat.reduceEqDiff, Nat.reduceLT, Nat.reduceLeDiff, Nat.reduceMul, false_and, and_false, reduceCtorEq, false_or, or_false, not_true_eq_false, not_false_eq_true, true_implies, false_implies, implies_true, lf_10, eq_self, Int32.reduceLT, Int32.reduceLE, Int32.reduceAdd, Int32.reduceSub, pm_same, pm_i_wI, pm_l_wL, pm_l_wM, pm_oR_rf, pm_oQ_rf, sh_k59 hS, sh_r59_14 hS, sh_k71 hS, sh_z71 hS, sh_r59_21 hS, sh_k77 hS, sh_z77 hS, nI_1, LQ1, LQ2]
  refine ⟨by omega, ac_195 (n := iv_c S 24) (by omega) hS hn hn2 ?_⟩
  have hfa : ac_f (ac_m (pm_i S 75) (nI m) (ac_c (pm_i S 76) (pm_i S 79) (nI s) k)) (ac_bt (pm_i S 77) false) (List.range (iv_c S 24)) none = fa_f S m (nI s) k := rfl
  rw [hfa]
  cases ha : fa_f S m (nI s) k with
  | none =>
    rw [ha] at h
    have hneg : oI none < 0 := by decide
    try simp only [pm_WV, pm_WW, true_and, and_true, true_or, or_true, and_self, reduceIte, Nat.reduceEqDiff, Nat.reduceLT, Nat.reduceLeDiff, Nat.reduceMul, false_and, and_false, reduceCtorEq, false_or, or_false, not_true_eq_false, not_false_eq_true, true_implies, false_implies, implies_true, lf_10, eq_self, Int32.reduceLT, Int32.reduceLE, Int32.reduceAdd, Int32.reduceSub, pm_same, pm_i_wI, pm_l_wL, pm_l_wM, pm_oR_rf, pm_oQ_rf, nI_1, sw_e, LQ1, LQ2, pm_WI0, pm_WI1, pm_WI2, pm_WI3, pm_WI4, pm_WI5, pm_WV, pm_WW, pm_WX, pb_B205, pm_if, pm_QI_at, pm_QL_at, pm_QV_at, pm_QR_at, pm_QR_at0, pm_QR_at1, Nat.reduceSub, Nat.reduceAdd, List.replicate_zero, List.replicate_succ, true_and, and_true, true_or, or_true, and_self, reduceIte, Nat.reduceEqDiff, Nat.reduceLT, Nat.reduceLeDiff, Nat.reduceMul, false_and, and_false, reduceCtorEq, false_or, or_false, not_true_eq_false, not_false_eq_true, true_implies, false_implies, implies_true, lf_10, eq_self, Int32.reduceLT, Int32.reduceLE, Int32.reduceAdd, Int32.reduceSub, pm_same, pm_i_wI, pm_l_wL, pm_l_wM, pm_oR_rf, pm_oQ_rf, sh_k59 hS, sh_r59_14 hS, sh_k71 hS, sh_z71 hS, sh_r59_21 hS, sh_k77 hS, sh_z77 hS, nI_1, LQ1, LQ2, hneg, hcm]
    repeat' (first | refine ⟨fun _ => ?_, fun _ => ?_⟩ | refine ⟨hvm, ?_⟩ | fail)
    all_goals first
      | exact hvm
      | (have z1 : k ≤ nI due := by lia
         try simp only [z1, reduceIte] at h; exact h)
      | (have z1 : ¬ k ≤ nI due := by lia
         have z2 : 0 ≤ pm_i S 71 m ∧ pm_i S 71 m ≤ k := ⟨by lia, by lia⟩
         try simp only [z1, z2, and_self, reduceIte] at h; exact h)
      | (have z1 : ¬ k ≤ nI due := by lia
         have z2 : ¬ (0 ≤ pm_i S 71 m ∧ pm_i S 71 m ≤ k) := fun z => by obtain ⟨y1, y2⟩ := z; lia
         try simp only [z1, z2, reduceIte] at h; exact h)
      | (exfalso; lia)
      | skip
  | some a =>
    rw [ha] at h
    have hal := ac_f_lt ha
    have hneg : ¬ oI (some a) < 0 := nI_pos (by omega)
    have hcl : (oI (some a)).toNatClampNeg = a := nI_clamp (by omega)
    have hva : vp_in (oI (some a)) 150 := vp_in_nI (by omega) (by decide)
    try simp only [pm_WV, pm_WW, true_and, and_true, true_or, or_true, and_self, reduceIte, Nat.reduceEqDiff, Nat.reduceLT, Nat.reduceLeDiff, Nat.reduceMul, false_and, and_false, reduceCtorEq, false_or, or_false, not_true_eq_false, not_false_eq_true, true_implies, false_implies, implies_true, lf_10, eq_self, Int32.reduceLT, Int32.reduceLE, Int32.reduceAdd, Int32.reduceSub, pm_same, pm_i_wI, pm_l_wL, pm_l_wM, pm_oR_rf, pm_oQ_rf, nI_1, sw_e, LQ1, LQ2, pm_WI0, pm_WI1, pm_WI2, pm_WI3, pm_WI4, pm_WI5, pm_WV, pm_WW, pm_WX, pb_B205, pm_if, pm_QI_at, pm_QL_at, pm_QV_at, pm_QR_at, pm_QR_at0, pm_QR_at1, Nat.reduceSub, Nat.reduceAdd, List.replicate_zero, List.replicate_succ, true_and, and_true, true_or, or_true, and_self, reduceIte, Nat.reduceEqDiff, Nat.reduceLT, Nat.reduceLeDiff, Nat.reduceMul, false_and, and_false, reduceCtorEq, false_or, or_false, not_true_eq_false, not_false_eq_true, true_implies, false_implies, implies_true, lf_10, eq_self, Int32.reduceLT, Int32.reduceLE, Int32.reduceAdd, Int32.reduceSub, pm_same, pm_i_wI, pm_l_wL, pm_l_wM, pm_oR_rf, pm_oQ_rf, sh_k59 hS, sh_r59_14 hS, sh_k71 hS, sh_z71 hS, sh_r59_21 hS, sh_k77 hS, sh_z77 hS, nI_1, LQ1, LQ2, hneg, hcl]
    repeat' (first | refine ⟨fun _ => ?_, fun _ => ?_⟩ | refine ⟨hva, ?_⟩ | fail)
    all_goals first
      | exact hva
      | (have z1 : nI due < pm_i S 77 a := by lia
         try simp only [z1, reduceIte] at h; exact h)
      | (have z1 : ¬ nI due < pm_i S 77 a := by lia
         try simp only [z1, reduceIte] at h; exact h)
      | skip
theorem mwr_s {S T : pm_S} {m c : Nat} {k : Int32} {O : List Nat} {s due : Nat} {w : Int32} (h : mwr S T m k O) (hs : s = owS S m c) (hd : due = owD S m c) (hw : w = owW S m k s due) : mwr S (pm_wI (pm_wI (pm_wI (pm_wI (pm_wI T 98 O.length (nI s)) 99 O.length (nI due)) 100 O.length w) 101 O.length (nI c)) 59 68 (nI (O.length + 1))) m k (O ++ [c]) := by
  subst hs hd hw
  obtain ⟨h1, h2⟩ := h
  refine ⟨by rw [pm_i_wI, if_pos ⟨rfl, rfl⟩]; simp, fun i hi => ?_⟩
  have e23 : ∀ i, pm_i (pm_wI (pm_wI (pm_wI (pm_wI (pm_wI T 98 O.length (nI (owS S m c))) 99 O.length (nI (owD S m c))) 100 O.length (owW S m k (owS S m c) (owD S m c))) 101 O.length (nI c)) 59 68 (nI (O.length + 1))) 98 i = if i = O.length then nI (owS S m c) else pm_i T 98 i := fun i => by simp [pm_i_wI]
  have e24 : ∀ i, pm_i (pm_wI (pm_wI (pm_wI (pm_wI (pm_wI T 98 O.length (nI (owS S m c))) 99 O.length (nI (owD S m c))) 100 O.length (owW S m k (owS S m c) (owD S m c))) 101 O.length (nI c)) 59 68 (nI (O.length + 1))) 99 i = if i = O.length then nI (owD S m c) else pm_i T 99 i := fun i => by simp [pm_i_wI]
  have e25 : ∀ i, pm_i (pm_wI (pm_wI (pm_wI (pm_wI (pm_wI T 98 O.length (nI (owS S m c))) 99 O.length (nI (owD S m c))) 100 O.length (owW S m k (owS S m c) (owD S m c))) 101 O.length (nI c)) 59 68 (nI (O.length + 1))) 100 i = if i = O.length then owW S m k (owS S m c) (owD S m c) else pm_i T 100 i := fun i => by simp [pm_i_wI]
  have e26 : ∀ i, pm_i (pm_wI (pm_wI (pm_wI (pm_wI (pm_wI T 98 O.length (nI (owS S m c))) 99 O.length (nI (owD S m c))) 100 O.length (owW S m k (owS S m c) (owD S m c))) 101 O.length (nI c)) 59 68 (nI (O.length + 1))) 101 i = if i = O.length then nI c else pm_i T 101 i := fun i => by simp [pm_i_wI]
  rw [e23, e24, e25, e26]
  by_cases hil : i = O.length
  · subst hil
    rw [if_pos rfl, if_pos rfl, if_pos rfl, if_pos rfl, gd_new]
    exact ⟨rfl, rfl, rfl, rfl⟩
  · have hi2 : i < O.length := by simp at hi; omega
    rw [if_neg hil, if_neg hil, if_neg hil, if_neg hil, gd_app hi2]
    exact h2 i hi2
def mF (S T : pm_S) : Prop := ∀ p j, 102 ≤ p → p ≤ 113 → pm_i T p j = pm_i S p j
theorem mF.rf {S : pm_S} : mF S S := fun _ _ _ _ => rfl
theorem mF.tr {S T U : pm_S} (h : mF S T) (h' : mF T U) : mF S U := fun p j h1 h2 => (h' p j h1 h2).trans (h p j h1 h2)
theorem mF.w {S T : pm_S} {p j : Nat} {v : Int32} (h : mF S T) (hq : p < 102 ∨ 113 < p) : mF S (pm_wI T p j v) := fun p' j' h1 h2 => by rw [pm_i_wI, if_neg (fun z => by obtain ⟨z1, z2⟩ := z; omega)]; exact h p' j' h1 h2
set_option maxRecDepth 8000 in
theorem mm_204F {G : pm_G} {d : Nat} {S : pm_S} {m : Nat} {k : Int32} {q : pm_S → Prop} (hd : 33 ≤ d) (hM : iv_MI S) (hm : m < iv_c S 18) (h : ∀ T, sc S T → mF S T → mwr S T m k (owA S m k) → q T) : pm_CV G d 204 [.ref 59, .int (nI m), .int k] S q := by
  have hS := hM.1
  have h40 := (MI.c18 hM).1
  obtain ⟨n12, hn⟩ := MI.c31 hM
  obtain ⟨n150, hn24⟩ := MI.c24 hM
  obtain ⟨n20, hn2⟩ := MI.c2 hM
  have hok := hM.2.2.1.2 m hm
  have h66 := hok.1.2.2.2.2.1
  have n66 := iv_nn h66.1
  have l66 : (pm_i S 66 m).toNatClampNeg ≤ 9999 := iv_le (n := 9999) 9999 (by have := h66.2; have := hM.2.1.1.2; lia) (by decide)
  have ho : ∀ i, lwo S (pm_i S 64 m) (pm_i S 66 m) = some i → i < iv_c S 31 := fun i hi => lwo_lt hi
  have hwf : gx_wf (tv S m k) (owL S m) 10 160 := lawL_wf hM ho
  have hl10 := hwf.1.1
  have hcm := nI_clamp (n := m) (by omega)
  have hvm := vp_in_nI (n := m) (N := 40) (by omega) (by decide)
  have key : ∀ r c T (X : Value), c + r = (owL S m).1.length → sc S T → mF S T → mlr T (tv S m k) (owL S m) → mwr S T m k (owO S m k c) → pm_W G d 204 (pm_QV q) 29 [.ref 59, .int (nI m), .int k, .int (nI c), X] [] T 0 0 := by
    intro r
    induction r with
    | zero =>
      intro c T X hcr hs hF hml hmw
      have hcn : c = (owL S m).1.length := by omega
      have hST := hs.sh hS
      have hle : nI (owL S m).1.length ≤ nI c := nI_le (by omega) (by omega)
      refine pm_wb_ok pb_c204 2 29 0 _ _ _ _ _ ?_
      try simp only [pm_WI0, pm_WI1, pm_WI2, pm_WI3, pm_WI4, pm_WI5, pm_WV, pm_WW, pm_WX, pb_B204, pm_if, pm_QI_at, pm_QL_at, pm_QV_at, pm_QR_at, pm_QR_at0, pm_QR_at1, Nat.reduceSub, Nat.reduceAdd, List.replicate_zero, List.replicate_succ, true_and, and_true, true_or, or_true, and_self, reduceIte, Nat.reduceEqDiff, Nat.reduceLT, Nat.reduceLeDiff, Nat.reduceMul, false_and, and_false, reduceCtorEq, false_or, or_false, not_true_eq_false, not_false_eq_true, true_implies, false_implies, implies_true, lf_10, eq_self, Int32.reduceLT, Int32.reduceLE, Int32.reduceAdd, Int32.reduceSub, pm_same, pm_i_wI, pm_l_wL, pm_l_wM, pm_oR_rf, pm_oQ_rf, sh_k59 hST, sh_r59_7 hST, sh_k64 hST, sh_z64 hST, sh_r59_9 hST, sh_k66 hST, sh_z66 hST, sh_r59_60 hST, sh_k95 hST, sh_z95 hST, sh_r59_61 hST, sh_k96 hST, sh_z96 hST, sh_r59_62 hST, sh_k97 hST, sh_z97 hST, sh_r59_64 hST, sh_k98 hST, sh_z98 hST, sh_r59_65 hST, sh_k99 hST, sh_z99 hST, sh_r59_66 hST, sh_k100 hST, sh_z100 hST, sh_r59_67 hST, sh_k101 hST, sh_z101 hST, nI_1, LQ1, LQ2, hml.1, hle]
      subst hcn
      exact h T hs hF hmw
    | succ r ih =>
      intro c T X hcr hs hF hml hmw
      have hST := hs.sh hS
      have hme := hs.me
      have hcl : c < (owL S m).1.length := by omega
      have hle : ¬ nI (owL S m).1.length ≤ nI c := nI_ge (by omega) (by omega)
      obtain ⟨r0, r1, r2⟩ := hml.2.1 c hcl
      have s0 : pm_i T 95 c = nI (owS S m c) := r0
      have s2 : pm_i T 97 c = bI (owH S m k c) := r2
      have hcc := nI_clamp (n := c) (by omega)
      have hvc := vp_in_nI (n := c) (N := 10) (by omega) (by decide)
      have hmem : (owL S m).1.getD c gx_o0 ∈ (owL S m).1 := by
        rw [List.getD_eq_getElem?_getD, List.getElem?_eq_getElem hcl]; exact List.getElem_mem hcl
      have hok2 := hwf.2.1 _ hmem
      have hO := owO_s (S := S) (m := m) (c := c) (k := k)
      have hol := owO_le (S := S) (m := m) (c := c) (k := k)
      have h66T : pm_i T 66 m = nI (pm_i S 66 m).toNatClampNeg := by rw [hs.r66]; exact n66
      have next : ∀ T2 X, sc S T2 → mF S T2 → mlr T2 (tv S m k) (owL S m) → mwr S T2 m k (owO S m k (c + 1)) → pm_W G d 204 (pm_QV q) 133 [.ref 59, .int (nI m), .int k, .int (nI c), X] [] T2 0 0 := by
        intro T2 X hs2 hF2 hml2 hmw2
        refine pm_wb_ok pb_c204 1 133 0 _ _ _ _ _ ?_
        try simp only [pm_WI0, pm_WI1, pm_WI2, pm_WI3, pm_WI4, pm_WI5, pm_WV, pm_WW, pm_WX, pb_B204, pm_if, pm_QI_at, pm_QL_at, pm_QV_at, pm_QR_at, pm_QR_at0, pm_QR_at1, Nat.reduceSub, Nat.reduceAdd, List.replicate_zero, List.replicate_succ, true_and, and_true, true_or, or_true, and_self, reduceIte, Nat.reduceEqDiff, Nat.reduceLT, Nat.reduceLeDiff, Nat.reduceMul, false_and, and_false, reduceCtorEq, false_or, or_false, not_true_eq_false, not_false_eq_true, true_implies, false_implies, implies_true, lf_10, eq_self, Int32.reduceLT, Int32.reduceLE, Int32.reduceAdd, Int32.reduceSub, pm_same, pm_i_wI, pm_l_wL, pm_l_wM, pm_oR_rf, pm_oQ_rf, nI_1, sw_e, LQ1, LQ2]
        exact ih (c + 1) T2 X (by omega) hs2 hF2 hml2 hmw2
      cases hH : owH S m k c with
      | false =>
        rw [hH] at hO s2
        have s2' : pm_i T 97 c = 0 := s2
        refine pm_wb_ok pb_c204 1 29 0 _ _ _ _ _ ?_
        try simp only [pm_WI0, pm_WI1, pm_WI2, pm_WI3, pm_WI4, pm_WI5, pm_WV, pm_WW, pm_WX, pb_B204, pm_if, pm_QI_at, pm_QL_at, pm_QV_at, pm_QR_at, pm_QR_at0, pm_QR_at1, Nat.reduceSub, Nat.reduceAdd, List.replicate_zero, List.replicate_succ, true_and, and_true, true_or, or_true, and_self, reduceIte, Nat.reduceEqDiff, Nat.reduceLT, Nat.reduceLeDiff, Nat.reduceMul, false_and, and_false, reduceCtorEq, false_or, or_false, not_true_eq_false, not_false_eq_true, true_implies, false_implies, implies_true, lf_10, eq_self, Int32.reduceLT, Int32.reduceLE, Int32.reduceAdd, Int32.reduceSub, pm_same, pm_i_wI, pm_l_wL, pm_l_wM, pm_oR_rf, pm_oQ_rf, sh_k59 hST, sh_r59_7 hST, sh_k64 hST, sh_z64 hST, sh_r59_9 hST, sh_k66 hST, sh_z66 hST, sh_r59_60 hST, sh_k95 hST, sh_z95 hST, sh_r59_61 hST, sh_k96 hST, sh_z96 hST, sh_r59_62 hST, sh_k97 hST, sh_z97 hST, sh_r59_64 hST, sh_k98 hST, sh_z98 hST, sh_r59_65 hST, sh_k99 hST, sh_z99 hST, sh_r59_66 hST, sh_k100 hST, sh_z100 hST, sh_r59_67 hST, sh_k101 hST, sh_z101 hST, nI_1, LQ1, LQ2, hml.1, hle, hcc, s2']
        first | exact ⟨hvc, next T X hs hF hml (by rw [hO]; exact hmw)⟩ | skip
      | true =>
        rw [hH] at hO s2
        have s2' : pm_i T 97 c = 1 := s2
        generalize hOl : owO S m k c = O at hmw hO hol
        have hO10 : O.length < 10 := by omega
        have cnt := hmw.1
        have hcnt := nI_clamp (n := O.length) (by omega)
        have hvO := vp_in_nI (n := O.length) (N := 10) hO10 (by decide)
        refine pm_wb_ok pb_c204 1 29 0 _ _ _ _ _ ?_
        try simp only [pm_WI0, pm_WI1, pm_WI2, pm_WI3, pm_WI4, pm_WI5, pm_WV, pm_WW, pm_WX, pb_B204, pm_if, pm_QI_at, pm_QL_at, pm_QV_at, pm_QR_at, pm_QR_at0, pm_QR_at1, Nat.reduceSub, Nat.reduceAdd, List.replicate_zero, List.replicate_succ, true_and, and_true, true_or, or_true, and_self, reduceIte, Nat.reduceEqDiff, Nat.reduceLT, Nat.reduceLeDiff, Nat.reduceMul, false_and, and_false, reduceCtorEq, false_or, or_false, not_true_eq_false, not_false_eq_true, true_implies, false_implies, implies_true, lf_10, eq_self, Int32.reduceLT, Int32.reduceLE, Int32.reduceAdd, Int32.reduceSub, pm_same, pm_i_wI, pm_l_wL, pm_l_wM, pm_oR_rf, pm_oQ_rf, sh_k59 hST, sh_r59_7 hST, sh_k64 hST, sh_z64 hST, sh_r59_9 hST, sh_k66 hST, sh_z66 hST, sh_r59_60 hST, sh_k95 hST, sh_z95 hST, sh_r59_61 hST, sh_k96 hST, sh_z96 hST, sh_r59_62 hST, sh_k97 hST, sh_z97 hST, sh_r59_64 hST, sh_k98 hST, sh_z98 hST, sh_r59_65 hST, sh_k99 hST, sh_z99 hST, sh_r59_66 hST, sh_k100 hST, sh_z100 hST, sh_r59_67 hST, sh_k101 hST, sh_z101 hST, nI_1, LQ1, LQ2, hml.1, hle, hcc, hcm, s2', r1]
        refine ⟨hvc, hvm, hvc, by omega, lf_164 (n := iv_c S 2) (e := (pm_i S 66 m).toNatClampNeg) (k := ((owL S m).1.getD c gx_o0).2.1) (by omega) hST (by rw [hs.m2]; exact hn2) n20 h66T rfl (by omega) (by have := hok2.2.1; omega) ?_⟩
        rw [hs.r60]
        have eD : wd (pm_i S 60) (iv_c S 2) (pm_i S 66 m).toNatClampNeg ((owL S m).1.getD c gx_o0).2.1 = owD S m c := rfl
        rw [eD]
        try simp only [pm_WV, pm_WW, true_and, and_true, true_or, or_true, and_self, reduceIte, Nat.reduceEqDiff, Nat.reduceLT, Nat.reduceLeDiff, Nat.reduceMul, false_and, and_false, reduceCtorEq, false_or, or_false, not_true_eq_false, not_false_eq_true, true_implies, false_implies, implies_true, lf_10, eq_self, Int32.reduceLT, Int32.reduceLE, Int32.reduceAdd, Int32.reduceSub, pm_same, pm_i_wI, pm_l_wL, pm_l_wM, pm_oR_rf, pm_oQ_rf, nI_1, sw_e, LQ1, LQ2, pm_WI0, pm_WI1, pm_WI2, pm_WI3, pm_WI4, pm_WI5, pm_WV, pm_WW, pm_WX, pb_B204, pm_if, pm_QI_at, pm_QL_at, pm_QV_at, pm_QR_at, pm_QR_at0, pm_QR_at1, Nat.reduceSub, Nat.reduceAdd, List.replicate_zero, List.replicate_succ, true_and, and_true, true_or, or_true, and_self, reduceIte, Nat.reduceEqDiff, Nat.reduceLT, Nat.reduceLeDiff, Nat.reduceMul, false_and, and_false, reduceCtorEq, false_or, or_false, not_true_eq_false, not_false_eq_true, true_implies, false_implies, implies_true, lf_10, eq_self, Int32.reduceLT, Int32.reduceLE, Int32.reduceAdd, Int32.reduceSub, pm_same, pm_i_wI, pm_l_wL, pm_l_wM, pm_oR_rf, pm_oQ_rf, sh_k59 hST, sh_r59_7 hST, sh_k64 hST, sh_z64 hST, sh_r59_9 hST, sh_k66 hST, sh_z66 hST, sh_r59_60 hST, sh_k95 hST, sh_z95 hST, sh_r59_61 hST, sh_k96 hST, sh_z96 hST, sh_r59_62 hST, sh_k97 hST, sh_z97 hST, sh_r59_64 hST, sh_k98 hST, sh_z98 hST, sh_r59_65 hST, sh_k99 hST, sh_z99 hST, sh_r59_66 hST, sh_k100 hST, sh_z100 hST, sh_r59_67 hST, sh_k101 hST, sh_z101 hST, nI_1, LQ1, LQ2, cnt, hcnt, hcc, s0]
        have hs4 : sc S (pm_wI (pm_wI T 98 O.length (nI (owS S m c))) 99 O.length (nI (owD S m c))) := (hs.wI (by unfold sc_q; omega)).wI (by unfold sc_q; omega)
        have ew : owW (pm_wI (pm_wI T 98 O.length (nI (owS S m c))) 99 O.length (nI (owD S m c))) m k (owS S m c) (owD S m c) = owW S m k (owS S m c) (owD S m c) := by
          unfold owW; rw [fa_f_me hs4.me, hs4.r77, hs4.r71]
        refine ⟨hvc, hvO, hvO, hvc, by omega, mm_205 (by omega) (hs4.sh hS) (by omega) (by rw [hs4.m24, hs4.c (by omega)]; exact hn24) (by rw [hs4.c (by omega)]; exact n150) ?_⟩
        rw [ew]
        try simp only [pm_WV, pm_WW, true_and, and_true, true_or, or_true, and_self, reduceIte, Nat.reduceEqDiff, Nat.reduceLT, Nat.reduceLeDiff, Nat.reduceMul, false_and, and_false, reduceCtorEq, false_or, or_false, not_true_eq_false, not_false_eq_true, true_implies, false_implies, implies_true, lf_10, eq_self, Int32.reduceLT, Int32.reduceLE, Int32.reduceAdd, Int32.reduceSub, pm_same, pm_i_wI, pm_l_wL, pm_l_wM, pm_oR_rf, pm_oQ_rf, nI_1, sw_e, LQ1, LQ2, pm_WI0, pm_WI1, pm_WI2, pm_WI3, pm_WI4, pm_WI5, pm_WV, pm_WW, pm_WX, pb_B204, pm_if, pm_QI_at, pm_QL_at, pm_QV_at, pm_QR_at, pm_QR_at0, pm_QR_at1, Nat.reduceSub, Nat.reduceAdd, List.replicate_zero, List.replicate_succ, true_and, and_true, true_or, or_true, and_self, reduceIte, Nat.reduceEqDiff, Nat.reduceLT, Nat.reduceLeDiff, Nat.reduceMul, false_and, and_false, reduceCtorEq, false_or, or_false, not_true_eq_false, not_false_eq_true, true_implies, false_implies, implies_true, lf_10, eq_self, Int32.reduceLT, Int32.reduceLE, Int32.reduceAdd, Int32.reduceSub, pm_same, pm_i_wI, pm_l_wL, pm_l_wM, pm_oR_rf, pm_oQ_rf, sh_k59 hST, sh_r59_7 hST, sh_k64 hST, sh_z64 hST, sh_r59_9 hST, sh_k66 hST, sh_z66 hST, sh_r59_60 hST, sh_k95 hST, sh_z95 hST, sh_r59_61 hST, sh_k96 hST, sh_z96 hST, sh_r59_62 hST, sh_k97 hST, sh_z97 hST, sh_r59_64 hST, sh_k98 hST, sh_z98 hST, sh_r59_65 hST, sh_k99 hST, sh_z99 hST, sh_r59_66 hST, sh_k100 hST, sh_z100 hST, sh_r59_67 hST, sh_k101 hST, sh_z101 hST, nI_1, LQ1, LQ2, cnt, hcnt, hcc]
        have hs7 : sc S (pm_wI (pm_wI (pm_wI (pm_wI (pm_wI T 98 O.length (nI (owS S m c))) 99 O.length (nI (owD S m c))) 100 O.length (owW S m k (owS S m c) (owD S m c))) 101 O.length (nI c)) 59 68 (nI (O.length + 1))) := ((hs4.wI (by unfold sc_q; omega)).wI (by unfold sc_q; omega)).wI (by unfold sc_q; omega)
        have hml7 := hml.cg (U := pm_wI (pm_wI (pm_wI (pm_wI (pm_wI T 98 O.length (nI (owS S m c))) 99 O.length (nI (owD S m c))) 100 O.length (owW S m k (owS S m c) (owD S m c))) 101 O.length (nI c)) 59 68 (nI (O.length + 1))) (fun j j1 j2 => by rw [pm_i_wI, if_neg (by omega), pm_i_wI_ne (by decide), pm_i_wI_ne (by decide), pm_i_wI_ne (by decide), pm_i_wI_ne (by decide)]) (fun p p1 p2 => by rw [pm_i_wI_ne (by omega), pm_i_wI_ne (by omega), pm_i_wI_ne (by omega), pm_i_wI_ne (by omega), pm_i_wI_ne (by omega)])
        have fin := next _ (.int (nI (owD S m c))) hs7 (((((hF.w (by omega)).w (by omega)).w (by omega)).w (by omega)).w (by omega)) hml7 (by rw [hO]; exact mwr_s hmw rfl rfl rfl)
        first | exact ⟨hvO, hvO, fin⟩ | exact ⟨hvO, fin⟩ | exact fin | skip
  refine pm_goV 204 1 pb_c204 (by decide) (Nat.le_of_ble_eq_true rfl) rfl ?_
  try simp only [show pm_mL 204 = 5 from rfl, pm_WI0, pm_WI1, pm_WI2, pm_WI3, pm_WI4, pm_WI5, pm_WV, pm_WW, pm_WX, pb_B204, pm_if, pm_QI_at, pm_QL_at, pm_QV_at, pm_QR_at, pm_QR_at0, pm_QR_at1, Nat.reduceSub, Nat.reduceAdd, List.replicate_zero, List.replicate_succ, true_and, and_true, true_or, or_true, and_self, reduceIte, Nat.reduceEqDiff, Nat.reduceLT, Nat.reduceLeDiff, Nat.reduceMul, false_and, and_false, reduceCtorEq, false_or, or_false, not_true_eq_false, not_false_eq_true, true_implies, false_implies, implies_true, lf_10, eq_self, Int32.reduceLT, Int32.reduceLE, Int32.reduceAdd, Int32.reduceSub, pm_same, pm_i_wI, pm_l_wL, pm_l_wM, pm_oR_rf, pm_oQ_rf, sh_k59 hS, sh_r59_7 hS, sh_k64 hS, sh_z64 hS, sh_r59_9 hS, sh_k66 hS, sh_z66 hS, sh_r59_60 hS, sh_k95 hS, sh_z95 hS, sh_r59_61 hS, sh_k96 hS, sh_z96 hS, sh_r59_62 hS, sh_k97 hS, sh_z97 hS, sh_r59_64 hS, sh_k98 hS, sh_z98 hS, sh_r59_65 hS, sh_k99 hS, sh_z99 hS, sh_r59_66 hS, sh_k100 hS, sh_z100 hS, sh_r59_67 hS, sh_k101 hS, sh_z101 hS, nI_1, LQ1, LQ2, hcm]
  refine ⟨hvm, hvm, by omega, ml_176 hS hn n12 ?_⟩
  try simp only [pm_WV, pm_WW, true_and, and_true, true_or, or_true, and_self, reduceIte, Nat.reduceEqDiff, Nat.reduceLT, Nat.reduceLeDiff, Nat.reduceMul, false_and, and_false, reduceCtorEq, false_or, or_false, not_true_eq_false, not_false_eq_true, true_implies, false_implies, implies_true, lf_10, eq_self, Int32.reduceLT, Int32.reduceLE, Int32.reduceAdd, Int32.reduceSub, pm_same, pm_i_wI, pm_l_wL, pm_l_wM, pm_oR_rf, pm_oQ_rf, nI_1, sw_e, LQ1, LQ2, pm_WI0, pm_WI1, pm_WI2, pm_WI3, pm_WI4, pm_WI5, pm_WV, pm_WW, pm_WX, pb_B204, pm_if, pm_QI_at, pm_QL_at, pm_QV_at, pm_QR_at, pm_QR_at0, pm_QR_at1, Nat.reduceSub, Nat.reduceAdd, List.replicate_zero, List.replicate_succ, true_and, and_true, true_or, or_true, and_self, reduceIte, Nat.reduceEqDiff, Nat.reduceLT, Nat.reduceLeDiff, Nat.reduceMul, false_and, and_false, reduceCtorEq, false_or, or_false, not_true_eq_false, not_false_eq_true, true_implies, false_implies, implies_true, lf_10, eq_self, Int32.reduceLT, Int32.reduceLE, Int32.reduceAdd, Int32.reduceSub, pm_same, pm_i_wI, pm_l_wL, pm_l_wM, pm_oR_rf, pm_oQ_rf, sh_k59 hS, sh_r59_7 hS, sh_k64 hS, sh_z64 hS, sh_r59_9 hS, sh_k66 hS, sh_z66 hS, sh_r59_60 hS, sh_k95 hS, sh_z95 hS, sh_r59_61 hS, sh_k96 hS, sh_z96 hS, sh_r59_62 hS, sh_k97 hS, sh_z97 hS, sh_r59_64 hS, sh_k98 hS, sh_z98 hS, sh_r59_65 hS, sh_k99 hS, sh_z99 hS, sh_r59_66 hS, sh_k100 hS, sh_z100 hS, sh_r59_67 hS, sh_k101 hS, sh_z101 hS, nI_1, LQ1, LQ2]
  refine ⟨by omega, ml_177F (t := tv S m k) (by omega) hM ho (Or.inr ⟨m, hm, rfl, rfl⟩) (fun T hs hsF hl => ?_)⟩
  have hST := hs.sh hS
  change mlr T (tv S m k) (owL S m) at hl
  try simp only [pm_WV, pm_WW, true_and, and_true, true_or, or_true, and_self, reduceIte, Nat.reduceEqDiff, Nat.reduceLT, Nat.reduceLeDiff, Nat.reduceMul, false_and, and_false, reduceCtorEq, false_or, or_false, not_true_eq_false, not_false_eq_true, true_implies, false_implies, implies_true, lf_10, eq_self, Int32.reduceLT, Int32.reduceLE, Int32.reduceAdd, Int32.reduceSub, pm_same, pm_i_wI, pm_l_wL, pm_l_wM, pm_oR_rf, pm_oQ_rf, nI_1, sw_e, LQ1, LQ2, pm_WI0, pm_WI1, pm_WI2, pm_WI3, pm_WI4, pm_WI5, pm_WV, pm_WW, pm_WX, pb_B204, pm_if, pm_QI_at, pm_QL_at, pm_QV_at, pm_QR_at, pm_QR_at0, pm_QR_at1, Nat.reduceSub, Nat.reduceAdd, List.replicate_zero, List.replicate_succ, true_and, and_true, true_or, or_true, and_self, reduceIte, Nat.reduceEqDiff, Nat.reduceLT, Nat.reduceLeDiff, Nat.reduceMul, false_and, and_false, reduceCtorEq, false_or, or_false, not_true_eq_false, not_false_eq_true, true_implies, false_implies, implies_true, lf_10, eq_self, Int32.reduceLT, Int32.reduceLE, Int32.reduceAdd, Int32.reduceSub, pm_same, pm_i_wI, pm_l_wL, pm_l_wM, pm_oR_rf, pm_oQ_rf, sh_k59 hS, sh_r59_7 hS, sh_k64 hS, sh_z64 hS, sh_r59_9 hS, sh_k66 hS, sh_z66 hS, sh_r59_60 hS, sh_k95 hS, sh_z95 hS, sh_r59_61 hS, sh_k96 hS, sh_z96 hS, sh_r59_62 hS, sh_k97 hS, sh_z97 hS, sh_r59_64 hS, sh_k98 hS, sh_z98 hS, sh_r59_65 hS, sh_k99 hS, sh_z99 hS, sh_r59_66 hS, sh_k100 hS, sh_z100 hS, sh_r59_67 hS, sh_k101 hS, sh_z101 hS, nI_1, LQ1, LQ2, sh_k59 hST]
  refine key (owL S m).1.length 0 _ _ (by omega) (hs.wI (by unfold sc_q; omega)) (mF.w (fun p j h1 h2 => hsF p j (by omega)) (by omega)) (hl.cg (fun j j1 j2 => by rw [pm_i_wI, if_neg (by omega)]) (fun p p1 p2 => pm_i_wI_ne (by omega))) ⟨?_, fun i hi => absurd hi (by simp [owO])⟩
  rw [pm_i_wI, if_pos ⟨rfl, rfl⟩]; rfl
theorem mm_204 {G : pm_G} {d : Nat} {S : pm_S} {m : Nat} {k : Int32} {q : pm_S → Prop} (hd : 33 ≤ d) (hM : iv_MI S) (hm : m < iv_c S 18) (h : ∀ T, sc S T → mwr S T m k (owA S m k) → q T) : pm_CV G d 204 [.ref 59, .int (nI m), .int k] S q :=
  mm_204F hd hM hm (fun T hs _ hw => h T hs hw)
