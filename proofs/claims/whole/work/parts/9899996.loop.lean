/-! THE LAW'S LOOP: the class of the model's object stays -/
def pm_Gok (G : pm_G) : Prop := (∀ i, pm_ga G i ≠ (pm_gD G).1 12) ∧ ∀ k, k < 13 → (pm_gD G).1 k = (pm_gD G).1 12 → k = 12
theorem pm_Ct.k59 {G : pm_G} {d j : Nat} {args : List Value} {S : pm_S} {Q : pm_Q} (hG : pm_Gok G) (h59 : 59 < pm_n S) (hk : pm_k S 59 = 12) (h : pm_Ct G d j args S Q) : pm_Ct G d j args S (fun v S' => Q v S' ∧ pm_k S' 59 = 12) := by
  unfold pm_Ct Met at h ⊢
  refine MetFree.mono h (fun _ _ h => h) (fun _ _ _ _ _ h => h) (fun a s o t hp hh => ?_)
  obtain ⟨⟨⟨v, S', h1, h2, h3⟩, h4⟩, L, hF, hL⟩ := hh
  refine ⟨⟨⟨v, S', h1, ⟨h2, ?_⟩, h3⟩, h4⟩, L, hF, hL⟩
  obtain ⟨_, hC, hO, hR⟩ := hp
  obtain ⟨_, _, _, hsz, _, _, _, hc⟩ := hF
  have a1 := hR.2.2 59 h59
  have e1 : pm_e G S 59 = .inr (12, pm_fs G 12 (pm_i S 59) (pm_r S 59)) := by unfold pm_e; rw [hk]; rfl
  rw [e1] at a1
  obtain ⟨r, hr, cell, hcell, hcls, _⟩ := a1
  obtain ⟨c', hc', heq, _⟩ := hc _ _ hcell
  have ec : c'.cls = (pm_gD G).1 12 := by rw [heq]; exact hcls
  have hc2 : t.heap[pm_gb G + 59]? = some c' := hc'
  have n' : 59 < pm_n S' := by
    have b1 := hR.1
    have b2 := h3.1
    have b3 : s.heap.size ≤ t.heap.size := hsz
    omega
  have a2 := h3.2.2 59 n'
  by_cases k13 : pm_k S' 59 < 13
  · have e2 : pm_e G S' 59 = .inr (pm_k S' 59, pm_fs G (pm_k S' 59) (pm_i S' 59) (pm_r S' 59)) := by unfold pm_e; rw [if_pos k13]
    rw [e2] at a2
    obtain ⟨r', hr', cell', hcell', hcls', _⟩ := a2
    have hcell' : t.heap[pm_gb G + 59]? = some cell' := hcell'
    rw [hc2] at hcell'
    have e3 : c' = cell' := Option.some.inj hcell'
    rw [← e3, ec] at hcls'
    exact hG.2 _ k13 hcls'.symm
  · exfalso
    have fin : ∀ (i : Nat) (cl : Cell), cl.cls = pm_ga G i → t.heap[pm_gb G + 59]? = some cl → False := fun i cl h1 h2 => by
      rw [hc2] at h2
      have e3 : c' = cl := Option.some.inj h2
      rw [← e3, ec] at h1
      exact hG.1 i h1.symm
    unfold pm_e at a2
    rw [if_neg k13] at a2
    by_cases k21 : pm_k S' 59 = 21
    · rw [if_pos k21] at a2; exact fin _ _ rfl a2
    · rw [if_neg k21] at a2
      by_cases k23 : pm_k S' 59 < 23
      · rw [if_pos k23] at a2; exact fin _ _ rfl a2
      · rw [if_neg k23] at a2; exact fin _ _ rfl a2
theorem pm_CI.k59 {G : pm_G} {d j : Nat} {args : List Value} {S : pm_S} {q : Int32 → pm_S → Prop} (hG : pm_Gok G) (h59 : 59 < pm_n S) (hk : pm_k S 59 = 12) (h : pm_CI G d j args S q) : pm_CI G d j args S (fun x S' => q x S' ∧ pm_k S' 59 = 12) :=
  pm_Ct.mono (pm_Ct.k59 hG h59 hk h) (fun _ _ ⟨⟨x, e, k⟩, m⟩ => ⟨x, e, k, m⟩)
theorem pm_CL.k59 {G : pm_G} {d j : Nat} {args : List Value} {S : pm_S} {q : Int64 → pm_S → Prop} (hG : pm_Gok G) (h59 : 59 < pm_n S) (hk : pm_k S 59 = 12) (h : pm_CL G d j args S q) : pm_CL G d j args S (fun x S' => q x S' ∧ pm_k S' 59 = 12) :=
  pm_Ct.mono (pm_Ct.k59 hG h59 hk h) (fun _ _ ⟨⟨x, e, k⟩, m⟩ => ⟨x, e, k, m⟩)
theorem lb_240 {G : pm_G} {d : Nat} {A : iv_A} {S : pm_S} {x cn sn : Nat} {Q : pm_Q} (hG : pm_Gok G) (hd : 100 ≤ d) (hx : x + 5 < pm_gL G) (hL : pm_gL G ≤ 3072) (hI : Inv A S) (hcn : cn ≤ 500000) (hsn : sn ≤ 7000000) (next : ∀ A' S' cn' sn', Inv A' S' → cn' ≤ cn + 20 → sn' ≤ sn + 229 → pm_W G d 280 Q 1896 [.retAddr 101, .ref 0, .ref 59, .int (nI x)] [] S' cn' sn') : pm_W G d 280 Q 240 [.retAddr 101, .ref 0, .ref 59, .int (nI x)] [] S cn sn := by
  have hS := hI.sh
  have h59 : 59 < pm_n S := by have := hS.1; omega
  have k0 := sh_k0 hS
  have k59 := sh_k59 hS
  have d0 : 0 < d := by omega
  have d40 : 40 ≤ d - 1 := by omega
  have e1 : nI x + 1 = nI (x + 1) := nI_add x 1
  have c1 := nI_clamp (n := x + 1) (by omega)
  have v1 := vp_in_nI (n := x + 1) (N := pm_gL G) (by omega) (by omega)
  have e2 : nI x + 2 = nI (x + 2) := nI_add x 2
  have c2 := nI_clamp (n := x + 2) (by omega)
  have v2 := vp_in_nI (n := x + 2) (N := pm_gL G) (by omega) (by omega)
  have e3 : nI x + 3 = nI (x + 3) := nI_add x 3
  have c3 := nI_clamp (n := x + 3) (by omega)
  have v3 := vp_in_nI (n := x + 3) (N := pm_gL G) (by omega) (by omega)
  have e4 : nI x + 4 = nI (x + 4) := nI_add x 4
  have c4 := nI_clamp (n := x + 4) (by omega)
  have v4 := vp_in_nI (n := x + 4) (N := pm_gL G) (by omega) (by omega)
  have e5 : nI x + 5 = nI (x + 5) := nI_add x 5
  have c5 := nI_clamp (n := x + 5) (by omega)
  have v5 := vp_in_nI (n := x + 5) (N := pm_gL G) (by omega) (by omega)
  refine pm_wl_ok (J := fun t _ ls st S cn sn => pm_W G d 280 Q t ls st S cn sn) (fun _ _ _ _ _ _ _ k => k) _ 240 _ 1 pb_k280_240 _ _ _ _ _ ?_
  try simp only [pm_WI0, pm_WI1, pm_WI2, pm_WI3, pm_WI4, pm_WI5, pm_WV, pm_WW, pm_WX, pm_if, Nat.reduceSub, Nat.reduceAdd, true_and, and_true, true_or, or_true, and_self, reduceIte, Nat.reduceEqDiff, Nat.reduceLT, Nat.reduceLeDiff, Nat.reduceMul, false_and, and_false, reduceCtorEq, false_or, or_false, not_true_eq_false, not_false_eq_true, true_implies, false_implies, implies_true, lf_10, eq_self, Int32.reduceLT, Int32.reduceLE, Int32.reduceAdd, Int32.reduceSub, pm_same, pm_i_wI, pm_l_wL, pm_l_wM, pm_oR_rf, pm_oQ_rf, nI_1, LQ1, LQ2, LQ5, Nat.reduceEqDiff, false_or, false_and, d0, k0, k59, e1, c1, v1, e2, c2, v2, e3, c3, v3, e4, c4, v4, e5, c5, v5]
  refine pm_CI.mono (pm_CI.k59 hG h59 k59 (pp_pass d40 hI)) (fun r S1 hh => ?_)
  obtain ⟨h1, k1⟩ := hh
  try simp only [pm_WI0, pm_WI1, pm_WI2, pm_WI3, pm_WI4, pm_WI5, pm_WV, pm_WW, pm_WX, pm_if, Nat.reduceSub, Nat.reduceAdd, true_and, and_true, true_or, or_true, and_self, reduceIte, Nat.reduceEqDiff, Nat.reduceLT, Nat.reduceLeDiff, Nat.reduceMul, false_and, and_false, reduceCtorEq, false_or, or_false, not_true_eq_false, not_false_eq_true, true_implies, false_implies, implies_true, lf_10, eq_self, Int32.reduceLT, Int32.reduceLE, Int32.reduceAdd, Int32.reduceSub, pm_same, pm_i_wI, pm_l_wL, pm_l_wM, pm_oR_rf, pm_oQ_rf, nI_1, LQ1, LQ2, LQ5, Nat.reduceEqDiff, false_or, false_and, d0, k1, e1, c1, v1, e2, c2, v2, e3, c3, v3, e4, c4, v4, e5, c5, v5]
  refine pm_CI.mono h1 (fun r' S2 h2 => ?_)
  obtain ⟨er, A2, hI2⟩ := h2
  subst er
  have nx := fun c s (z1 : c ≤ cn + 20) (z2 : s ≤ sn + 229) => next A2 S2 c s hI2 z1 z2
  try simp only [pm_WI0, pm_WI1, pm_WI2, pm_WI3, pm_WI4, pm_WI5, pm_WV, pm_WW, pm_WX, pm_if, Nat.reduceSub, Nat.reduceAdd, true_and, and_true, true_or, or_true, and_self, reduceIte, Nat.reduceEqDiff, Nat.reduceLT, Nat.reduceLeDiff, Nat.reduceMul, false_and, and_false, reduceCtorEq, false_or, or_false, not_true_eq_false, not_false_eq_true, true_implies, false_implies, implies_true, lf_10, eq_self, Int32.reduceLT, Int32.reduceLE, Int32.reduceAdd, Int32.reduceSub, pm_same, pm_i_wI, pm_l_wL, pm_l_wM, pm_oR_rf, pm_oQ_rf, nI_1, LQ1, LQ2, LQ5, Nat.reduceEqDiff, false_or, false_and, d0]
  exact nx _ _ (by omega) (by omega)
theorem lb_263 {G : pm_G} {d : Nat} {A : iv_A} {S : pm_S} {x cn sn : Nat} {Q : pm_Q} (hG : pm_Gok G) (hd : 100 ≤ d) (hx : x + 5 < pm_gL G) (hL : pm_gL G ≤ 3072) (hI : Inv A S) (hcn : cn ≤ 500000) (hsn : sn ≤ 7000000) (next : ∀ A' S' cn' sn', Inv A' S' → cn' ≤ cn + 20 → sn' ≤ sn + 229 → pm_W G d 280 Q 1896 [.retAddr 101, .ref 0, .ref 59, .int (nI x)] [] S' cn' sn') : pm_W G d 280 Q 263 [.retAddr 101, .ref 0, .ref 59, .int (nI x)] [] S cn sn := by
  have hS := hI.sh
  have h59 : 59 < pm_n S := by have := hS.1; omega
  have k0 := sh_k0 hS
  have k59 := sh_k59 hS
  have d0 : 0 < d := by omega
  have d40 : 40 ≤ d - 1 := by omega
  have e1 : nI x + 1 = nI (x + 1) := nI_add x 1
  have c1 := nI_clamp (n := x + 1) (by omega)
  have v1 := vp_in_nI (n := x + 1) (N := pm_gL G) (by omega) (by omega)
  have e2 : nI x + 2 = nI (x + 2) := nI_add x 2
  have c2 := nI_clamp (n := x + 2) (by omega)
  have v2 := vp_in_nI (n := x + 2) (N := pm_gL G) (by omega) (by omega)
  have e3 : nI x + 3 = nI (x + 3) := nI_add x 3
  have c3 := nI_clamp (n := x + 3) (by omega)
  have v3 := vp_in_nI (n := x + 3) (N := pm_gL G) (by omega) (by omega)
  have e4 : nI x + 4 = nI (x + 4) := nI_add x 4
  have c4 := nI_clamp (n := x + 4) (by omega)
  have v4 := vp_in_nI (n := x + 4) (N := pm_gL G) (by omega) (by omega)
  have e5 : nI x + 5 = nI (x + 5) := nI_add x 5
  have c5 := nI_clamp (n := x + 5) (by omega)
  have v5 := vp_in_nI (n := x + 5) (N := pm_gL G) (by omega) (by omega)
  refine pm_wl_ok (J := fun t _ ls st S cn sn => pm_W G d 280 Q t ls st S cn sn) (fun _ _ _ _ _ _ _ k => k) _ 263 _ 1 pb_k280_263 _ _ _ _ _ ?_
  try simp only [pm_WI0, pm_WI1, pm_WI2, pm_WI3, pm_WI4, pm_WI5, pm_WV, pm_WW, pm_WX, pm_if, Nat.reduceSub, Nat.reduceAdd, true_and, and_true, true_or, or_true, and_self, reduceIte, Nat.reduceEqDiff, Nat.reduceLT, Nat.reduceLeDiff, Nat.reduceMul, false_and, and_false, reduceCtorEq, false_or, or_false, not_true_eq_false, not_false_eq_true, true_implies, false_implies, implies_true, lf_10, eq_self, Int32.reduceLT, Int32.reduceLE, Int32.reduceAdd, Int32.reduceSub, pm_same, pm_i_wI, pm_l_wL, pm_l_wM, pm_oR_rf, pm_oQ_rf, nI_1, LQ1, LQ2, LQ5, Nat.reduceEqDiff, false_or, false_and, d0, k0, k59, e1, c1, v1, e2, c2, v2, e3, c3, v3, e4, c4, v4, e5, c5, v5]
  refine pm_CI.mono (pm_CI.k59 hG h59 k59 (pp_feast d40 hI)) (fun r S1 hh => ?_)
  obtain ⟨h1, k1⟩ := hh
  try simp only [pm_WI0, pm_WI1, pm_WI2, pm_WI3, pm_WI4, pm_WI5, pm_WV, pm_WW, pm_WX, pm_if, Nat.reduceSub, Nat.reduceAdd, true_and, and_true, true_or, or_true, and_self, reduceIte, Nat.reduceEqDiff, Nat.reduceLT, Nat.reduceLeDiff, Nat.reduceMul, false_and, and_false, reduceCtorEq, false_or, or_false, not_true_eq_false, not_false_eq_true, true_implies, false_implies, implies_true, lf_10, eq_self, Int32.reduceLT, Int32.reduceLE, Int32.reduceAdd, Int32.reduceSub, pm_same, pm_i_wI, pm_l_wL, pm_l_wM, pm_oR_rf, pm_oQ_rf, nI_1, LQ1, LQ2, LQ5, Nat.reduceEqDiff, false_or, false_and, d0, k1, e1, c1, v1, e2, c2, v2, e3, c3, v3, e4, c4, v4, e5, c5, v5]
  refine pm_CI.mono h1 (fun r' S2 h2 => ?_)
  obtain ⟨er, A2, hI2⟩ := h2
  subst er
  have nx := fun c s (z1 : c ≤ cn + 20) (z2 : s ≤ sn + 229) => next A2 S2 c s hI2 z1 z2
  try simp only [pm_WI0, pm_WI1, pm_WI2, pm_WI3, pm_WI4, pm_WI5, pm_WV, pm_WW, pm_WX, pm_if, Nat.reduceSub, Nat.reduceAdd, true_and, and_true, true_or, or_true, and_self, reduceIte, Nat.reduceEqDiff, Nat.reduceLT, Nat.reduceLeDiff, Nat.reduceMul, false_and, and_false, reduceCtorEq, false_or, or_false, not_true_eq_false, not_false_eq_true, true_implies, false_implies, implies_true, lf_10, eq_self, Int32.reduceLT, Int32.reduceLE, Int32.reduceAdd, Int32.reduceSub, pm_same, pm_i_wI, pm_l_wL, pm_l_wM, pm_oR_rf, pm_oQ_rf, nI_1, LQ1, LQ2, LQ5, Nat.reduceEqDiff, false_or, false_and, d0]
  exact nx _ _ (by omega) (by omega)
theorem lb_286 {G : pm_G} {d : Nat} {A : iv_A} {S : pm_S} {x cn sn : Nat} {Q : pm_Q} (hG : pm_Gok G) (hd : 100 ≤ d) (hx : x + 5 < pm_gL G) (hL : pm_gL G ≤ 3072) (hI : Inv A S) (hcn : cn ≤ 500000) (hsn : sn ≤ 7000000) (next : ∀ A' S' cn' sn', Inv A' S' → cn' ≤ cn + 20 → sn' ≤ sn + 229 → pm_W G d 280 Q 1896 [.retAddr 101, .ref 0, .ref 59, .int (nI x)] [] S' cn' sn') : pm_W G d 280 Q 286 [.retAddr 101, .ref 0, .ref 59, .int (nI x)] [] S cn sn := by
  have hS := hI.sh
  have h59 : 59 < pm_n S := by have := hS.1; omega
  have k0 := sh_k0 hS
  have k59 := sh_k59 hS
  have d0 : 0 < d := by omega
  have d40 : 40 ≤ d - 1 := by omega
  have e1 : nI x + 1 = nI (x + 1) := nI_add x 1
  have c1 := nI_clamp (n := x + 1) (by omega)
  have v1 := vp_in_nI (n := x + 1) (N := pm_gL G) (by omega) (by omega)
  have e2 : nI x + 2 = nI (x + 2) := nI_add x 2
  have c2 := nI_clamp (n := x + 2) (by omega)
  have v2 := vp_in_nI (n := x + 2) (N := pm_gL G) (by omega) (by omega)
  have e3 : nI x + 3 = nI (x + 3) := nI_add x 3
  have c3 := nI_clamp (n := x + 3) (by omega)
  have v3 := vp_in_nI (n := x + 3) (N := pm_gL G) (by omega) (by omega)
  have e4 : nI x + 4 = nI (x + 4) := nI_add x 4
  have c4 := nI_clamp (n := x + 4) (by omega)
  have v4 := vp_in_nI (n := x + 4) (N := pm_gL G) (by omega) (by omega)
  have e5 : nI x + 5 = nI (x + 5) := nI_add x 5
  have c5 := nI_clamp (n := x + 5) (by omega)
  have v5 := vp_in_nI (n := x + 5) (N := pm_gL G) (by omega) (by omega)
  refine pm_wl_ok (J := fun t _ ls st S cn sn => pm_W G d 280 Q t ls st S cn sn) (fun _ _ _ _ _ _ _ k => k) _ 286 _ 1 pb_k280_286 _ _ _ _ _ ?_
  try simp only [pm_WI0, pm_WI1, pm_WI2, pm_WI3, pm_WI4, pm_WI5, pm_WV, pm_WW, pm_WX, pm_if, Nat.reduceSub, Nat.reduceAdd, true_and, and_true, true_or, or_true, and_self, reduceIte, Nat.reduceEqDiff, Nat.reduceLT, Nat.reduceLeDiff, Nat.reduceMul, false_and, and_false, reduceCtorEq, false_or, or_false, not_true_eq_false, not_false_eq_true, true_implies, false_implies, implies_true, lf_10, eq_self, Int32.reduceLT, Int32.reduceLE, Int32.reduceAdd, Int32.reduceSub, pm_same, pm_i_wI, pm_l_wL, pm_l_wM, pm_oR_rf, pm_oQ_rf, nI_1, LQ1, LQ2, LQ5, Nat.reduceEqDiff, false_or, false_and, d0, k0, k59, e1, c1, v1, e2, c2, v2, e3, c3, v3, e4, c4, v4, e5, c5, v5]
  refine pm_CI.mono (pm_CI.k59 hG h59 k59 (pp_working d40 hI)) (fun r S1 hh => ?_)
  obtain ⟨h1, k1⟩ := hh
  try simp only [pm_WI0, pm_WI1, pm_WI2, pm_WI3, pm_WI4, pm_WI5, pm_WV, pm_WW, pm_WX, pm_if, Nat.reduceSub, Nat.reduceAdd, true_and, and_true, true_or, or_true, and_self, reduceIte, Nat.reduceEqDiff, Nat.reduceLT, Nat.reduceLeDiff, Nat.reduceMul, false_and, and_false, reduceCtorEq, false_or, or_false, not_true_eq_false, not_false_eq_true, true_implies, false_implies, implies_true, lf_10, eq_self, Int32.reduceLT, Int32.reduceLE, Int32.reduceAdd, Int32.reduceSub, pm_same, pm_i_wI, pm_l_wL, pm_l_wM, pm_oR_rf, pm_oQ_rf, nI_1, LQ1, LQ2, LQ5, Nat.reduceEqDiff, false_or, false_and, d0, k1, e1, c1, v1, e2, c2, v2, e3, c3, v3, e4, c4, v4, e5, c5, v5]
  refine pm_CI.mono h1 (fun r' S2 h2 => ?_)
  obtain ⟨er, A2, hI2⟩ := h2
  subst er
  have nx := fun c s (z1 : c ≤ cn + 20) (z2 : s ≤ sn + 229) => next A2 S2 c s hI2 z1 z2
  try simp only [pm_WI0, pm_WI1, pm_WI2, pm_WI3, pm_WI4, pm_WI5, pm_WV, pm_WW, pm_WX, pm_if, Nat.reduceSub, Nat.reduceAdd, true_and, and_true, true_or, or_true, and_self, reduceIte, Nat.reduceEqDiff, Nat.reduceLT, Nat.reduceLeDiff, Nat.reduceMul, false_and, and_false, reduceCtorEq, false_or, or_false, not_true_eq_false, not_false_eq_true, true_implies, false_implies, implies_true, lf_10, eq_self, Int32.reduceLT, Int32.reduceLE, Int32.reduceAdd, Int32.reduceSub, pm_same, pm_i_wI, pm_l_wL, pm_l_wM, pm_oR_rf, pm_oQ_rf, nI_1, LQ1, LQ2, LQ5, Nat.reduceEqDiff, false_or, false_and, d0]
  exact nx _ _ (by omega) (by omega)
theorem lb_319 {G : pm_G} {d : Nat} {A : iv_A} {S : pm_S} {x cn sn : Nat} {Q : pm_Q} (hG : pm_Gok G) (hd : 100 ≤ d) (hx : x + 5 < pm_gL G) (hL : pm_gL G ≤ 3072) (hI : Inv A S) (hcn : cn ≤ 500000) (hsn : sn ≤ 7000000) (next : ∀ A' S' cn' sn', Inv A' S' → cn' ≤ cn + 20 → sn' ≤ sn + 229 → pm_W G d 280 Q 1896 [.retAddr 101, .ref 0, .ref 59, .int (nI x)] [] S' cn' sn') : pm_W G d 280 Q 319 [.retAddr 101, .ref 0, .ref 59, .int (nI x)] [] S cn sn := by
  have hS := hI.sh
  have h59 : 59 < pm_n S := by have := hS.1; omega
  have k0 := sh_k0 hS
  have k59 := sh_k59 hS
  have d0 : 0 < d := by omega
  have d40 : 40 ≤ d - 1 := by omega
  have e1 : nI x + 1 = nI (x + 1) := nI_add x 1
  have c1 := nI_clamp (n := x + 1) (by omega)
  have v1 := vp_in_nI (n := x + 1) (N := pm_gL G) (by omega) (by omega)
  have e2 : nI x + 2 = nI (x + 2) := nI_add x 2
  have c2 := nI_clamp (n := x + 2) (by omega)
  have v2 := vp_in_nI (n := x + 2) (N := pm_gL G) (by omega) (by omega)
  have e3 : nI x + 3 = nI (x + 3) := nI_add x 3
  have c3 := nI_clamp (n := x + 3) (by omega)
  have v3 := vp_in_nI (n := x + 3) (N := pm_gL G) (by omega) (by omega)
  have e4 : nI x + 4 = nI (x + 4) := nI_add x 4
  have c4 := nI_clamp (n := x + 4) (by omega)
  have v4 := vp_in_nI (n := x + 4) (N := pm_gL G) (by omega) (by omega)
  have e5 : nI x + 5 = nI (x + 5) := nI_add x 5
  have c5 := nI_clamp (n := x + 5) (by omega)
  have v5 := vp_in_nI (n := x + 5) (N := pm_gL G) (by omega) (by omega)
  refine pm_wl_ok (J := fun t _ ls st S cn sn => pm_W G d 280 Q t ls st S cn sn) (fun _ _ _ _ _ _ _ k => k) _ 319 _ 1 pb_k280_319 _ _ _ _ _ ?_
  try simp only [pm_WI0, pm_WI1, pm_WI2, pm_WI3, pm_WI4, pm_WI5, pm_WV, pm_WW, pm_WX, pm_if, Nat.reduceSub, Nat.reduceAdd, true_and, and_true, true_or, or_true, and_self, reduceIte, Nat.reduceEqDiff, Nat.reduceLT, Nat.reduceLeDiff, Nat.reduceMul, false_and, and_false, reduceCtorEq, false_or, or_false, not_true_eq_false, not_false_eq_true, true_implies, false_implies, implies_true, lf_10, eq_self, Int32.reduceLT, Int32.reduceLE, Int32.reduceAdd, Int32.reduceSub, pm_same, pm_i_wI, pm_l_wL, pm_l_wM, pm_oR_rf, pm_oQ_rf, nI_1, LQ1, LQ2, LQ5, Nat.reduceEqDiff, false_or, false_and, d0, k0, k59, e1, c1, v1, e2, c2, v2, e3, c3, v3, e4, c4, v4, e5, c5, v5]
  refine pm_CI.mono (pm_CI.k59 hG h59 k59 (pp_person d40 hI)) (fun r S1 hh => ?_)
  obtain ⟨h1, k1⟩ := hh
  try simp only [pm_WI0, pm_WI1, pm_WI2, pm_WI3, pm_WI4, pm_WI5, pm_WV, pm_WW, pm_WX, pm_if, Nat.reduceSub, Nat.reduceAdd, true_and, and_true, true_or, or_true, and_self, reduceIte, Nat.reduceEqDiff, Nat.reduceLT, Nat.reduceLeDiff, Nat.reduceMul, false_and, and_false, reduceCtorEq, false_or, or_false, not_true_eq_false, not_false_eq_true, true_implies, false_implies, implies_true, lf_10, eq_self, Int32.reduceLT, Int32.reduceLE, Int32.reduceAdd, Int32.reduceSub, pm_same, pm_i_wI, pm_l_wL, pm_l_wM, pm_oR_rf, pm_oQ_rf, nI_1, LQ1, LQ2, LQ5, Nat.reduceEqDiff, false_or, false_and, d0, k1, e1, c1, v1, e2, c2, v2, e3, c3, v3, e4, c4, v4, e5, c5, v5]
  refine pm_CI.mono h1 (fun r' S2 h2 => ?_)
  obtain ⟨er, A2, hI2⟩ := h2
  subst er
  have nx := fun c s (z1 : c ≤ cn + 20) (z2 : s ≤ sn + 229) => next A2 S2 c s hI2 z1 z2
  try simp only [pm_WI0, pm_WI1, pm_WI2, pm_WI3, pm_WI4, pm_WI5, pm_WV, pm_WW, pm_WX, pm_if, Nat.reduceSub, Nat.reduceAdd, true_and, and_true, true_or, or_true, and_self, reduceIte, Nat.reduceEqDiff, Nat.reduceLT, Nat.reduceLeDiff, Nat.reduceMul, false_and, and_false, reduceCtorEq, false_or, or_false, not_true_eq_false, not_false_eq_true, true_implies, false_implies, implies_true, lf_10, eq_self, Int32.reduceLT, Int32.reduceLE, Int32.reduceAdd, Int32.reduceSub, pm_same, pm_i_wI, pm_l_wL, pm_l_wM, pm_oR_rf, pm_oQ_rf, nI_1, LQ1, LQ2, LQ5, Nat.reduceEqDiff, false_or, false_and, d0]
  exact nx _ _ (by omega) (by omega)
theorem lb_342 {G : pm_G} {d : Nat} {A : iv_A} {S : pm_S} {x cn sn : Nat} {Q : pm_Q} (hG : pm_Gok G) (hd : 100 ≤ d) (hx : x + 5 < pm_gL G) (hL : pm_gL G ≤ 3072) (hI : Inv A S) (hcn : cn ≤ 500000) (hsn : sn ≤ 7000000) (next : ∀ A' S' cn' sn', Inv A' S' → cn' ≤ cn + 20 → sn' ≤ sn + 229 → pm_W G d 280 Q 1896 [.retAddr 101, .ref 0, .ref 59, .int (nI x)] [] S' cn' sn') : pm_W G d 280 Q 342 [.retAddr 101, .ref 0, .ref 59, .int (nI x)] [] S cn sn := by
  have hS := hI.sh
  have h59 : 59 < pm_n S := by have := hS.1; omega
  have k0 := sh_k0 hS
  have k59 := sh_k59 hS
  have d0 : 0 < d := by omega
  have d40 : 40 ≤ d - 1 := by omega
  have e1 : nI x + 1 = nI (x + 1) := nI_add x 1
  have c1 := nI_clamp (n := x + 1) (by omega)
  have v1 := vp_in_nI (n := x + 1) (N := pm_gL G) (by omega) (by omega)
  have e2 : nI x + 2 = nI (x + 2) := nI_add x 2
  have c2 := nI_clamp (n := x + 2) (by omega)
  have v2 := vp_in_nI (n := x + 2) (N := pm_gL G) (by omega) (by omega)
  have e3 : nI x + 3 = nI (x + 3) := nI_add x 3
  have c3 := nI_clamp (n := x + 3) (by omega)
  have v3 := vp_in_nI (n := x + 3) (N := pm_gL G) (by omega) (by omega)
  have e4 : nI x + 4 = nI (x + 4) := nI_add x 4
  have c4 := nI_clamp (n := x + 4) (by omega)
  have v4 := vp_in_nI (n := x + 4) (N := pm_gL G) (by omega) (by omega)
  have e5 : nI x + 5 = nI (x + 5) := nI_add x 5
  have c5 := nI_clamp (n := x + 5) (by omega)
  have v5 := vp_in_nI (n := x + 5) (N := pm_gL G) (by omega) (by omega)
  refine pm_wl_ok (J := fun t _ ls st S cn sn => pm_W G d 280 Q t ls st S cn sn) (fun _ _ _ _ _ _ _ k => k) _ 342 _ 1 pb_k280_342 _ _ _ _ _ ?_
  try simp only [pm_WI0, pm_WI1, pm_WI2, pm_WI3, pm_WI4, pm_WI5, pm_WV, pm_WW, pm_WX, pm_if, Nat.reduceSub, Nat.reduceAdd, true_and, and_true, true_or, or_true, and_self, reduceIte, Nat.reduceEqDiff, Nat.reduceLT, Nat.reduceLeDiff, Nat.reduceMul, false_and, and_false, reduceCtorEq, false_or, or_false, not_true_eq_false, not_false_eq_true, true_implies, false_implies, implies_true, lf_10, eq_self, Int32.reduceLT, Int32.reduceLE, Int32.reduceAdd, Int32.reduceSub, pm_same, pm_i_wI, pm_l_wL, pm_l_wM, pm_oR_rf, pm_oQ_rf, nI_1, LQ1, LQ2, LQ5, Nat.reduceEqDiff, false_or, false_and, d0, k0, k59, e1, c1, v1, e2, c2, v2, e3, c3, v3, e4, c4, v4, e5, c5, v5]
  refine pm_CI.mono (pm_CI.k59 hG h59 k59 (pp_let d40 hI)) (fun r S1 hh => ?_)
  obtain ⟨h1, k1⟩ := hh
  try simp only [pm_WI0, pm_WI1, pm_WI2, pm_WI3, pm_WI4, pm_WI5, pm_WV, pm_WW, pm_WX, pm_if, Nat.reduceSub, Nat.reduceAdd, true_and, and_true, true_or, or_true, and_self, reduceIte, Nat.reduceEqDiff, Nat.reduceLT, Nat.reduceLeDiff, Nat.reduceMul, false_and, and_false, reduceCtorEq, false_or, or_false, not_true_eq_false, not_false_eq_true, true_implies, false_implies, implies_true, lf_10, eq_self, Int32.reduceLT, Int32.reduceLE, Int32.reduceAdd, Int32.reduceSub, pm_same, pm_i_wI, pm_l_wL, pm_l_wM, pm_oR_rf, pm_oQ_rf, nI_1, LQ1, LQ2, LQ5, Nat.reduceEqDiff, false_or, false_and, d0, k1, e1, c1, v1, e2, c2, v2, e3, c3, v3, e4, c4, v4, e5, c5, v5]
  refine pm_CI.mono h1 (fun r' S2 h2 => ?_)
  obtain ⟨er, A2, hI2⟩ := h2
  subst er
  have nx := fun c s (z1 : c ≤ cn + 20) (z2 : s ≤ sn + 229) => next A2 S2 c s hI2 z1 z2
  try simp only [pm_WI0, pm_WI1, pm_WI2, pm_WI3, pm_WI4, pm_WI5, pm_WV, pm_WW, pm_WX, pm_if, Nat.reduceSub, Nat.reduceAdd, true_and, and_true, true_or, or_true, and_self, reduceIte, Nat.reduceEqDiff, Nat.reduceLT, Nat.reduceLeDiff, Nat.reduceMul, false_and, and_false, reduceCtorEq, false_or, or_false, not_true_eq_false, not_false_eq_true, true_implies, false_implies, implies_true, lf_10, eq_self, Int32.reduceLT, Int32.reduceLE, Int32.reduceAdd, Int32.reduceSub, pm_same, pm_i_wI, pm_l_wL, pm_l_wM, pm_oR_rf, pm_oQ_rf, nI_1, LQ1, LQ2, LQ5, Nat.reduceEqDiff, false_or, false_and, d0]
  exact nx _ _ (by omega) (by omega)
theorem lb_375 {G : pm_G} {d : Nat} {A : iv_A} {S : pm_S} {x cn sn : Nat} {Q : pm_Q} (hG : pm_Gok G) (hd : 100 ≤ d) (hx : x + 5 < pm_gL G) (hL : pm_gL G ≤ 3072) (hI : Inv A S) (hcn : cn ≤ 500000) (hsn : sn ≤ 7000000) (next : ∀ A' S' cn' sn', Inv A' S' → cn' ≤ cn + 20 → sn' ≤ sn + 229 → pm_W G d 280 Q 1896 [.retAddr 101, .ref 0, .ref 59, .int (nI x)] [] S' cn' sn') : pm_W G d 280 Q 375 [.retAddr 101, .ref 0, .ref 59, .int (nI x)] [] S cn sn := by
  have hS := hI.sh
  have h59 : 59 < pm_n S := by have := hS.1; omega
  have k0 := sh_k0 hS
  have k59 := sh_k59 hS
  have d0 : 0 < d := by omega
  have d40 : 40 ≤ d - 1 := by omega
  have e1 : nI x + 1 = nI (x + 1) := nI_add x 1
  have c1 := nI_clamp (n := x + 1) (by omega)
  have v1 := vp_in_nI (n := x + 1) (N := pm_gL G) (by omega) (by omega)
  have e2 : nI x + 2 = nI (x + 2) := nI_add x 2
  have c2 := nI_clamp (n := x + 2) (by omega)
  have v2 := vp_in_nI (n := x + 2) (N := pm_gL G) (by omega) (by omega)
  have e3 : nI x + 3 = nI (x + 3) := nI_add x 3
  have c3 := nI_clamp (n := x + 3) (by omega)
  have v3 := vp_in_nI (n := x + 3) (N := pm_gL G) (by omega) (by omega)
  have e4 : nI x + 4 = nI (x + 4) := nI_add x 4
  have c4 := nI_clamp (n := x + 4) (by omega)
  have v4 := vp_in_nI (n := x + 4) (N := pm_gL G) (by omega) (by omega)
  have e5 : nI x + 5 = nI (x + 5) := nI_add x 5
  have c5 := nI_clamp (n := x + 5) (by omega)
  have v5 := vp_in_nI (n := x + 5) (N := pm_gL G) (by omega) (by omega)
  have b1 : cn + 2 ≤ 600000 := by omega
  have b2 : sn + 24 ≤ 7302250 := by omega
  refine pm_wl_ok (J := fun t _ ls st S cn sn => pm_W G d 280 Q t ls st S cn sn) (fun _ _ _ _ _ _ _ k => k) _ 375 _ 1 pb_k280_375 _ _ _ _ _ ?_
  try simp only [pm_WI0, pm_WI1, pm_WI2, pm_WI3, pm_WI4, pm_WI5, pm_WV, pm_WW, pm_WX, pm_if, Nat.reduceSub, Nat.reduceAdd, true_and, and_true, true_or, or_true, and_self, reduceIte, Nat.reduceEqDiff, Nat.reduceLT, Nat.reduceLeDiff, Nat.reduceMul, false_and, and_false, reduceCtorEq, false_or, or_false, not_true_eq_false, not_false_eq_true, true_implies, false_implies, implies_true, lf_10, eq_self, Int32.reduceLT, Int32.reduceLE, Int32.reduceAdd, Int32.reduceSub, pm_same, pm_i_wI, pm_l_wL, pm_l_wM, pm_oR_rf, pm_oQ_rf, nI_1, LQ1, LQ2, LQ5, Nat.reduceEqDiff, false_or, false_and, d0, k0, k59, e1, c1, v1, e2, c2, v2, e3, c3, v3, e4, c4, v4, e5, c5, v5, b1, b2]
  refine pm_CI.mono (pm_CI.k59 hG h59 k59 (pp_matter d40 hI)) (fun r S1 hh => ?_)
  obtain ⟨h1, k1⟩ := hh
  try simp only [pm_WI0, pm_WI1, pm_WI2, pm_WI3, pm_WI4, pm_WI5, pm_WV, pm_WW, pm_WX, pm_if, Nat.reduceSub, Nat.reduceAdd, true_and, and_true, true_or, or_true, and_self, reduceIte, Nat.reduceEqDiff, Nat.reduceLT, Nat.reduceLeDiff, Nat.reduceMul, false_and, and_false, reduceCtorEq, false_or, or_false, not_true_eq_false, not_false_eq_true, true_implies, false_implies, implies_true, lf_10, eq_self, Int32.reduceLT, Int32.reduceLE, Int32.reduceAdd, Int32.reduceSub, pm_same, pm_i_wI, pm_l_wL, pm_l_wM, pm_oR_rf, pm_oQ_rf, nI_1, LQ1, LQ2, LQ5, Nat.reduceEqDiff, false_or, false_and, d0, k1, e1, c1, v1, e2, c2, v2, e3, c3, v3, e4, c4, v4, e5, c5, v5, b1, b2]
  refine pm_CI.mono h1 (fun r' S2 h2 => ?_)
  obtain ⟨er, A2, hI2⟩ := h2
  subst er
  have nx := fun c s (z1 : c ≤ cn + 20) (z2 : s ≤ sn + 229) => next A2 S2 c s hI2 z1 z2
  try simp only [pm_WI0, pm_WI1, pm_WI2, pm_WI3, pm_WI4, pm_WI5, pm_WV, pm_WW, pm_WX, pm_if, Nat.reduceSub, Nat.reduceAdd, true_and, and_true, true_or, or_true, and_self, reduceIte, Nat.reduceEqDiff, Nat.reduceLT, Nat.reduceLeDiff, Nat.reduceMul, false_and, and_false, reduceCtorEq, false_or, or_false, not_true_eq_false, not_false_eq_true, true_implies, false_implies, implies_true, lf_10, eq_self, Int32.reduceLT, Int32.reduceLE, Int32.reduceAdd, Int32.reduceSub, pm_same, pm_i_wI, pm_l_wL, pm_l_wM, pm_oR_rf, pm_oQ_rf, nI_1, LQ1, LQ2, LQ5, Nat.reduceEqDiff, false_or, false_and, d0]
  exact nx _ _ (by omega) (by omega)
theorem lb_438 {G : pm_G} {d : Nat} {A : iv_A} {S : pm_S} {x cn sn : Nat} {Q : pm_Q} (hG : pm_Gok G) (hd : 100 ≤ d) (hx : x + 5 < pm_gL G) (hL : pm_gL G ≤ 3072) (hI : Inv A S) (hcn : cn ≤ 500000) (hsn : sn ≤ 7000000) (next : ∀ A' S' cn' sn', Inv A' S' → cn' ≤ cn + 20 → sn' ≤ sn + 229 → pm_W G d 280 Q 1896 [.retAddr 101, .ref 0, .ref 59, .int (nI x)] [] S' cn' sn') : pm_W G d 280 Q 438 [.retAddr 101, .ref 0, .ref 59, .int (nI x)] [] S cn sn := by
  have hS := hI.sh
  have h59 : 59 < pm_n S := by have := hS.1; omega
  have k0 := sh_k0 hS
  have k59 := sh_k59 hS
  have d0 : 0 < d := by omega
  have d40 : 40 ≤ d - 1 := by omega
  have e1 : nI x + 1 = nI (x + 1) := nI_add x 1
  have c1 := nI_clamp (n := x + 1) (by omega)
  have v1 := vp_in_nI (n := x + 1) (N := pm_gL G) (by omega) (by omega)
  have e2 : nI x + 2 = nI (x + 2) := nI_add x 2
  have c2 := nI_clamp (n := x + 2) (by omega)
  have v2 := vp_in_nI (n := x + 2) (N := pm_gL G) (by omega) (by omega)
  have e3 : nI x + 3 = nI (x + 3) := nI_add x 3
  have c3 := nI_clamp (n := x + 3) (by omega)
  have v3 := vp_in_nI (n := x + 3) (N := pm_gL G) (by omega) (by omega)
  have e4 : nI x + 4 = nI (x + 4) := nI_add x 4
  have c4 := nI_clamp (n := x + 4) (by omega)
  have v4 := vp_in_nI (n := x + 4) (N := pm_gL G) (by omega) (by omega)
  have e5 : nI x + 5 = nI (x + 5) := nI_add x 5
  have c5 := nI_clamp (n := x + 5) (by omega)
  have v5 := vp_in_nI (n := x + 5) (N := pm_gL G) (by omega) (by omega)
  refine pm_wl_ok (J := fun t _ ls st S cn sn => pm_W G d 280 Q t ls st S cn sn) (fun _ _ _ _ _ _ _ k => k) _ 438 _ 1 pb_k280_438 _ _ _ _ _ ?_
  try simp only [pm_WI0, pm_WI1, pm_WI2, pm_WI3, pm_WI4, pm_WI5, pm_WV, pm_WW, pm_WX, pm_if, Nat.reduceSub, Nat.reduceAdd, true_and, and_true, true_or, or_true, and_self, reduceIte, Nat.reduceEqDiff, Nat.reduceLT, Nat.reduceLeDiff, Nat.reduceMul, false_and, and_false, reduceCtorEq, false_or, or_false, not_true_eq_false, not_false_eq_true, true_implies, false_implies, implies_true, lf_10, eq_self, Int32.reduceLT, Int32.reduceLE, Int32.reduceAdd, Int32.reduceSub, pm_same, pm_i_wI, pm_l_wL, pm_l_wM, pm_oR_rf, pm_oQ_rf, nI_1, LQ1, LQ2, LQ5, Nat.reduceEqDiff, false_or, false_and, d0, k0, k59, e1, c1, v1, e2, c2, v2, e3, c3, v3, e4, c4, v4, e5, c5, v5]
  refine pm_CI.mono (pm_CI.k59 hG h59 k59 (pp_of d40 hI)) (fun r S1 hh => ?_)
  obtain ⟨h1, k1⟩ := hh
  try simp only [pm_WI0, pm_WI1, pm_WI2, pm_WI3, pm_WI4, pm_WI5, pm_WV, pm_WW, pm_WX, pm_if, Nat.reduceSub, Nat.reduceAdd, true_and, and_true, true_or, or_true, and_self, reduceIte, Nat.reduceEqDiff, Nat.reduceLT, Nat.reduceLeDiff, Nat.reduceMul, false_and, and_false, reduceCtorEq, false_or, or_false, not_true_eq_false, not_false_eq_true, true_implies, false_implies, implies_true, lf_10, eq_self, Int32.reduceLT, Int32.reduceLE, Int32.reduceAdd, Int32.reduceSub, pm_same, pm_i_wI, pm_l_wL, pm_l_wM, pm_oR_rf, pm_oQ_rf, nI_1, LQ1, LQ2, LQ5, Nat.reduceEqDiff, false_or, false_and, d0, k1, e1, c1, v1, e2, c2, v2, e3, c3, v3, e4, c4, v4, e5, c5, v5]
  refine pm_CI.mono h1 (fun r' S2 h2 => ?_)
  obtain ⟨er, A2, hI2⟩ := h2
  subst er
  have nx := fun c s (z1 : c ≤ cn + 20) (z2 : s ≤ sn + 229) => next A2 S2 c s hI2 z1 z2
  try simp only [pm_WI0, pm_WI1, pm_WI2, pm_WI3, pm_WI4, pm_WI5, pm_WV, pm_WW, pm_WX, pm_if, Nat.reduceSub, Nat.reduceAdd, true_and, and_true, true_or, or_true, and_self, reduceIte, Nat.reduceEqDiff, Nat.reduceLT, Nat.reduceLeDiff, Nat.reduceMul, false_and, and_false, reduceCtorEq, false_or, or_false, not_true_eq_false, not_false_eq_true, true_implies, false_implies, implies_true, lf_10, eq_self, Int32.reduceLT, Int32.reduceLE, Int32.reduceAdd, Int32.reduceSub, pm_same, pm_i_wI, pm_l_wL, pm_l_wM, pm_oR_rf, pm_oQ_rf, nI_1, LQ1, LQ2, LQ5, Nat.reduceEqDiff, false_or, false_and, d0]
  exact nx _ _ (by omega) (by omega)
theorem lb_471 {G : pm_G} {d : Nat} {A : iv_A} {S : pm_S} {x cn sn : Nat} {Q : pm_Q} (hG : pm_Gok G) (hd : 100 ≤ d) (hx : x + 5 < pm_gL G) (hL : pm_gL G ≤ 3072) (hI : Inv A S) (hcn : cn ≤ 500000) (hsn : sn ≤ 7000000) (next : ∀ A' S' cn' sn', Inv A' S' → cn' ≤ cn + 20 → sn' ≤ sn + 229 → pm_W G d 280 Q 1896 [.retAddr 101, .ref 0, .ref 59, .int (nI x)] [] S' cn' sn') : pm_W G d 280 Q 471 [.retAddr 101, .ref 0, .ref 59, .int (nI x)] [] S cn sn := by
  have hS := hI.sh
  have h59 : 59 < pm_n S := by have := hS.1; omega
  have k0 := sh_k0 hS
  have k59 := sh_k59 hS
  have d0 : 0 < d := by omega
  have d40 : 40 ≤ d - 1 := by omega
  have e1 : nI x + 1 = nI (x + 1) := nI_add x 1
  have c1 := nI_clamp (n := x + 1) (by omega)
  have v1 := vp_in_nI (n := x + 1) (N := pm_gL G) (by omega) (by omega)
  have e2 : nI x + 2 = nI (x + 2) := nI_add x 2
  have c2 := nI_clamp (n := x + 2) (by omega)
  have v2 := vp_in_nI (n := x + 2) (N := pm_gL G) (by omega) (by omega)
  have e3 : nI x + 3 = nI (x + 3) := nI_add x 3
  have c3 := nI_clamp (n := x + 3) (by omega)
  have v3 := vp_in_nI (n := x + 3) (N := pm_gL G) (by omega) (by omega)
  have e4 : nI x + 4 = nI (x + 4) := nI_add x 4
  have c4 := nI_clamp (n := x + 4) (by omega)
  have v4 := vp_in_nI (n := x + 4) (N := pm_gL G) (by omega) (by omega)
  have e5 : nI x + 5 = nI (x + 5) := nI_add x 5
  have c5 := nI_clamp (n := x + 5) (by omega)
  have v5 := vp_in_nI (n := x + 5) (N := pm_gL G) (by omega) (by omega)
  refine pm_wl_ok (J := fun t _ ls st S cn sn => pm_W G d 280 Q t ls st S cn sn) (fun _ _ _ _ _ _ _ k => k) _ 471 _ 1 pb_k280_471 _ _ _ _ _ ?_
  try simp only [pm_WI0, pm_WI1, pm_WI2, pm_WI3, pm_WI4, pm_WI5, pm_WV, pm_WW, pm_WX, pm_if, Nat.reduceSub, Nat.reduceAdd, true_and, and_true, true_or, or_true, and_self, reduceIte, Nat.reduceEqDiff, Nat.reduceLT, Nat.reduceLeDiff, Nat.reduceMul, false_and, and_false, reduceCtorEq, false_or, or_false, not_true_eq_false, not_false_eq_true, true_implies, false_implies, implies_true, lf_10, eq_self, Int32.reduceLT, Int32.reduceLE, Int32.reduceAdd, Int32.reduceSub, pm_same, pm_i_wI, pm_l_wL, pm_l_wM, pm_oR_rf, pm_oQ_rf, nI_1, LQ1, LQ2, LQ5, Nat.reduceEqDiff, false_or, false_and, d0, k0, k59, e1, c1, v1, e2, c2, v2, e3, c3, v3, e4, c4, v4, e5, c5, v5]
  refine pm_CI.mono (pm_CI.k59 hG h59 k59 (pp_out d40 hI)) (fun r S1 hh => ?_)
  obtain ⟨h1, k1⟩ := hh
  try simp only [pm_WI0, pm_WI1, pm_WI2, pm_WI3, pm_WI4, pm_WI5, pm_WV, pm_WW, pm_WX, pm_if, Nat.reduceSub, Nat.reduceAdd, true_and, and_true, true_or, or_true, and_self, reduceIte, Nat.reduceEqDiff, Nat.reduceLT, Nat.reduceLeDiff, Nat.reduceMul, false_and, and_false, reduceCtorEq, false_or, or_false, not_true_eq_false, not_false_eq_true, true_implies, false_implies, implies_true, lf_10, eq_self, Int32.reduceLT, Int32.reduceLE, Int32.reduceAdd, Int32.reduceSub, pm_same, pm_i_wI, pm_l_wL, pm_l_wM, pm_oR_rf, pm_oQ_rf, nI_1, LQ1, LQ2, LQ5, Nat.reduceEqDiff, false_or, false_and, d0, k1, e1, c1, v1, e2, c2, v2, e3, c3, v3, e4, c4, v4, e5, c5, v5]
  refine pm_CI.mono h1 (fun r' S2 h2 => ?_)
  obtain ⟨er, A2, hI2⟩ := h2
  subst er
  have nx := fun c s (z1 : c ≤ cn + 20) (z2 : s ≤ sn + 229) => next A2 S2 c s hI2 z1 z2
  try simp only [pm_WI0, pm_WI1, pm_WI2, pm_WI3, pm_WI4, pm_WI5, pm_WV, pm_WW, pm_WX, pm_if, Nat.reduceSub, Nat.reduceAdd, true_and, and_true, true_or, or_true, and_self, reduceIte, Nat.reduceEqDiff, Nat.reduceLT, Nat.reduceLeDiff, Nat.reduceMul, false_and, and_false, reduceCtorEq, false_or, or_false, not_true_eq_false, not_false_eq_true, true_implies, false_implies, implies_true, lf_10, eq_self, Int32.reduceLT, Int32.reduceLE, Int32.reduceAdd, Int32.reduceSub, pm_same, pm_i_wI, pm_l_wL, pm_l_wM, pm_oR_rf, pm_oQ_rf, nI_1, LQ1, LQ2, LQ5, Nat.reduceEqDiff, false_or, false_and, d0]
  exact nx _ _ (by omega) (by omega)
theorem lb_494 {G : pm_G} {d : Nat} {A : iv_A} {S : pm_S} {x cn sn : Nat} {Q : pm_Q} (hG : pm_Gok G) (hd : 100 ≤ d) (hx : x + 5 < pm_gL G) (hL : pm_gL G ≤ 3072) (hI : Inv A S) (hcn : cn ≤ 500000) (hsn : sn ≤ 7000000) (next : ∀ A' S' cn' sn', Inv A' S' → cn' ≤ cn + 20 → sn' ≤ sn + 229 → pm_W G d 280 Q 1896 [.retAddr 101, .ref 0, .ref 59, .int (nI x)] [] S' cn' sn') : pm_W G d 280 Q 494 [.retAddr 101, .ref 0, .ref 59, .int (nI x)] [] S cn sn := by
  have hS := hI.sh
  have h59 : 59 < pm_n S := by have := hS.1; omega
  have k0 := sh_k0 hS
  have k59 := sh_k59 hS
  have d0 : 0 < d := by omega
  have d40 : 40 ≤ d - 1 := by omega
  have e1 : nI x + 1 = nI (x + 1) := nI_add x 1
  have c1 := nI_clamp (n := x + 1) (by omega)
  have v1 := vp_in_nI (n := x + 1) (N := pm_gL G) (by omega) (by omega)
  have e2 : nI x + 2 = nI (x + 2) := nI_add x 2
  have c2 := nI_clamp (n := x + 2) (by omega)
  have v2 := vp_in_nI (n := x + 2) (N := pm_gL G) (by omega) (by omega)
  have e3 : nI x + 3 = nI (x + 3) := nI_add x 3
  have c3 := nI_clamp (n := x + 3) (by omega)
  have v3 := vp_in_nI (n := x + 3) (N := pm_gL G) (by omega) (by omega)
  have e4 : nI x + 4 = nI (x + 4) := nI_add x 4
  have c4 := nI_clamp (n := x + 4) (by omega)
  have v4 := vp_in_nI (n := x + 4) (N := pm_gL G) (by omega) (by omega)
  have e5 : nI x + 5 = nI (x + 5) := nI_add x 5
  have c5 := nI_clamp (n := x + 5) (by omega)
  have v5 := vp_in_nI (n := x + 5) (N := pm_gL G) (by omega) (by omega)
  refine pm_wl_ok (J := fun t _ ls st S cn sn => pm_W G d 280 Q t ls st S cn sn) (fun _ _ _ _ _ _ _ k => k) _ 494 _ 1 pb_k280_494 _ _ _ _ _ ?_
  try simp only [pm_WI0, pm_WI1, pm_WI2, pm_WI3, pm_WI4, pm_WI5, pm_WV, pm_WW, pm_WX, pm_if, Nat.reduceSub, Nat.reduceAdd, true_and, and_true, true_or, or_true, and_self, reduceIte, Nat.reduceEqDiff, Nat.reduceLT, Nat.reduceLeDiff, Nat.reduceMul, false_and, and_false, reduceCtorEq, false_or, or_false, not_true_eq_false, not_false_eq_true, true_implies, false_implies, implies_true, lf_10, eq_self, Int32.reduceLT, Int32.reduceLE, Int32.reduceAdd, Int32.reduceSub, pm_same, pm_i_wI, pm_l_wL, pm_l_wM, pm_oR_rf, pm_oQ_rf, nI_1, LQ1, LQ2, LQ5, Nat.reduceEqDiff, false_or, false_and, d0, k0, k59, e1, c1, v1, e2, c2, v2, e3, c3, v3, e4, c4, v4, e5, c5, v5]
  refine pm_CI.mono (pm_CI.k59 hG h59 k59 (pp_ask d40 hI)) (fun r S1 hh => ?_)
  obtain ⟨h1, k1⟩ := hh
  try simp only [pm_WI0, pm_WI1, pm_WI2, pm_WI3, pm_WI4, pm_WI5, pm_WV, pm_WW, pm_WX, pm_if, Nat.reduceSub, Nat.reduceAdd, true_and, and_true, true_or, or_true, and_self, reduceIte, Nat.reduceEqDiff, Nat.reduceLT, Nat.reduceLeDiff, Nat.reduceMul, false_and, and_false, reduceCtorEq, false_or, or_false, not_true_eq_false, not_false_eq_true, true_implies, false_implies, implies_true, lf_10, eq_self, Int32.reduceLT, Int32.reduceLE, Int32.reduceAdd, Int32.reduceSub, pm_same, pm_i_wI, pm_l_wL, pm_l_wM, pm_oR_rf, pm_oQ_rf, nI_1, LQ1, LQ2, LQ5, Nat.reduceEqDiff, false_or, false_and, d0, k1, e1, c1, v1, e2, c2, v2, e3, c3, v3, e4, c4, v4, e5, c5, v5]
  refine pm_CI.mono h1 (fun r' S2 h2 => ?_)
  obtain ⟨er, A2, hI2⟩ := h2
  subst er
  have nx := fun c s (z1 : c ≤ cn + 20) (z2 : s ≤ sn + 229) => next A2 S2 c s hI2 z1 z2
  try simp only [pm_WI0, pm_WI1, pm_WI2, pm_WI3, pm_WI4, pm_WI5, pm_WV, pm_WW, pm_WX, pm_if, Nat.reduceSub, Nat.reduceAdd, true_and, and_true, true_or, or_true, and_self, reduceIte, Nat.reduceEqDiff, Nat.reduceLT, Nat.reduceLeDiff, Nat.reduceMul, false_and, and_false, reduceCtorEq, false_or, or_false, not_true_eq_false, not_false_eq_true, true_implies, false_implies, implies_true, lf_10, eq_self, Int32.reduceLT, Int32.reduceLE, Int32.reduceAdd, Int32.reduceSub, pm_same, pm_i_wI, pm_l_wL, pm_l_wM, pm_oR_rf, pm_oQ_rf, nI_1, LQ1, LQ2, LQ5, Nat.reduceEqDiff, false_or, false_and, d0]
  exact nx _ _ (by omega) (by omega)
theorem lb_517 {G : pm_G} {d : Nat} {A : iv_A} {S : pm_S} {x cn sn : Nat} {Q : pm_Q} (hG : pm_Gok G) (hd : 100 ≤ d) (hx : x + 5 < pm_gL G) (hL : pm_gL G ≤ 3072) (hI : Inv A S) (hcn : cn ≤ 500000) (hsn : sn ≤ 7000000) (next : ∀ A' S' cn' sn', Inv A' S' → cn' ≤ cn + 20 → sn' ≤ sn + 229 → pm_W G d 280 Q 1896 [.retAddr 101, .ref 0, .ref 59, .int (nI x)] [] S' cn' sn') : pm_W G d 280 Q 517 [.retAddr 101, .ref 0, .ref 59, .int (nI x)] [] S cn sn := by
  have hS := hI.sh
  have h59 : 59 < pm_n S := by have := hS.1; omega
  have k0 := sh_k0 hS
  have k59 := sh_k59 hS
  have d0 : 0 < d := by omega
  have d40 : 40 ≤ d - 1 := by omega
  have e1 : nI x + 1 = nI (x + 1) := nI_add x 1
  have c1 := nI_clamp (n := x + 1) (by omega)
  have v1 := vp_in_nI (n := x + 1) (N := pm_gL G) (by omega) (by omega)
  have e2 : nI x + 2 = nI (x + 2) := nI_add x 2
  have c2 := nI_clamp (n := x + 2) (by omega)
  have v2 := vp_in_nI (n := x + 2) (N := pm_gL G) (by omega) (by omega)
  have e3 : nI x + 3 = nI (x + 3) := nI_add x 3
  have c3 := nI_clamp (n := x + 3) (by omega)
  have v3 := vp_in_nI (n := x + 3) (N := pm_gL G) (by omega) (by omega)
  have e4 : nI x + 4 = nI (x + 4) := nI_add x 4
  have c4 := nI_clamp (n := x + 4) (by omega)
  have v4 := vp_in_nI (n := x + 4) (N := pm_gL G) (by omega) (by omega)
  have e5 : nI x + 5 = nI (x + 5) := nI_add x 5
  have c5 := nI_clamp (n := x + 5) (by omega)
  have v5 := vp_in_nI (n := x + 5) (N := pm_gL G) (by omega) (by omega)
  refine pm_wl_ok (J := fun t _ ls st S cn sn => pm_W G d 280 Q t ls st S cn sn) (fun _ _ _ _ _ _ _ k => k) _ 517 _ 1 pb_k280_517 _ _ _ _ _ ?_
  try simp only [pm_WI0, pm_WI1, pm_WI2, pm_WI3, pm_WI4, pm_WI5, pm_WV, pm_WW, pm_WX, pm_if, Nat.reduceSub, Nat.reduceAdd, true_and, and_true, true_or, or_true, and_self, reduceIte, Nat.reduceEqDiff, Nat.reduceLT, Nat.reduceLeDiff, Nat.reduceMul, false_and, and_false, reduceCtorEq, false_or, or_false, not_true_eq_false, not_false_eq_true, true_implies, false_implies, implies_true, lf_10, eq_self, Int32.reduceLT, Int32.reduceLE, Int32.reduceAdd, Int32.reduceSub, pm_same, pm_i_wI, pm_l_wL, pm_l_wM, pm_oR_rf, pm_oQ_rf, nI_1, LQ1, LQ2, LQ5, Nat.reduceEqDiff, false_or, false_and, d0, k0, k59, e1, c1, v1, e2, c2, v2, e3, c3, v3, e4, c4, v4, e5, c5, v5]
  refine pm_CI.mono (pm_CI.k59 hG h59 k59 (pp_find d40 hI)) (fun r S1 hh => ?_)
  obtain ⟨h1, k1⟩ := hh
  try simp only [pm_WI0, pm_WI1, pm_WI2, pm_WI3, pm_WI4, pm_WI5, pm_WV, pm_WW, pm_WX, pm_if, Nat.reduceSub, Nat.reduceAdd, true_and, and_true, true_or, or_true, and_self, reduceIte, Nat.reduceEqDiff, Nat.reduceLT, Nat.reduceLeDiff, Nat.reduceMul, false_and, and_false, reduceCtorEq, false_or, or_false, not_true_eq_false, not_false_eq_true, true_implies, false_implies, implies_true, lf_10, eq_self, Int32.reduceLT, Int32.reduceLE, Int32.reduceAdd, Int32.reduceSub, pm_same, pm_i_wI, pm_l_wL, pm_l_wM, pm_oR_rf, pm_oQ_rf, nI_1, LQ1, LQ2, LQ5, Nat.reduceEqDiff, false_or, false_and, d0, k1, e1, c1, v1, e2, c2, v2, e3, c3, v3, e4, c4, v4, e5, c5, v5]
  refine pm_CI.mono h1 (fun r' S2 h2 => ?_)
  obtain ⟨er, A2, hI2⟩ := h2
  subst er
  have nx := fun c s (z1 : c ≤ cn + 20) (z2 : s ≤ sn + 229) => next A2 S2 c s hI2 z1 z2
  try simp only [pm_WI0, pm_WI1, pm_WI2, pm_WI3, pm_WI4, pm_WI5, pm_WV, pm_WW, pm_WX, pm_if, Nat.reduceSub, Nat.reduceAdd, true_and, and_true, true_or, or_true, and_self, reduceIte, Nat.reduceEqDiff, Nat.reduceLT, Nat.reduceLeDiff, Nat.reduceMul, false_and, and_false, reduceCtorEq, false_or, or_false, not_true_eq_false, not_false_eq_true, true_implies, false_implies, implies_true, lf_10, eq_self, Int32.reduceLT, Int32.reduceLE, Int32.reduceAdd, Int32.reduceSub, pm_same, pm_i_wI, pm_l_wL, pm_l_wM, pm_oR_rf, pm_oQ_rf, nI_1, LQ1, LQ2, LQ5, Nat.reduceEqDiff, false_or, false_and, d0]
  exact nx _ _ (by omega) (by omega)
theorem lb_550 {G : pm_G} {d : Nat} {A : iv_A} {S : pm_S} {x cn sn : Nat} {Q : pm_Q} (hG : pm_Gok G) (hd : 100 ≤ d) (hx : x + 5 < pm_gL G) (hL : pm_gL G ≤ 3072) (hI : Inv A S) (hcn : cn ≤ 500000) (hsn : sn ≤ 7000000) (next : ∀ A' S' cn' sn', Inv A' S' → cn' ≤ cn + 20 → sn' ≤ sn + 229 → pm_W G d 280 Q 1896 [.retAddr 101, .ref 0, .ref 59, .int (nI x)] [] S' cn' sn') : pm_W G d 280 Q 550 [.retAddr 101, .ref 0, .ref 59, .int (nI x)] [] S cn sn := by
  have hS := hI.sh
  have h59 : 59 < pm_n S := by have := hS.1; omega
  have k0 := sh_k0 hS
  have k59 := sh_k59 hS
  have d0 : 0 < d := by omega
  have d40 : 40 ≤ d - 1 := by omega
  have e1 : nI x + 1 = nI (x + 1) := nI_add x 1
  have c1 := nI_clamp (n := x + 1) (by omega)
  have v1 := vp_in_nI (n := x + 1) (N := pm_gL G) (by omega) (by omega)
  have e2 : nI x + 2 = nI (x + 2) := nI_add x 2
  have c2 := nI_clamp (n := x + 2) (by omega)
  have v2 := vp_in_nI (n := x + 2) (N := pm_gL G) (by omega) (by omega)
  have e3 : nI x + 3 = nI (x + 3) := nI_add x 3
  have c3 := nI_clamp (n := x + 3) (by omega)
  have v3 := vp_in_nI (n := x + 3) (N := pm_gL G) (by omega) (by omega)
  have e4 : nI x + 4 = nI (x + 4) := nI_add x 4
  have c4 := nI_clamp (n := x + 4) (by omega)
  have v4 := vp_in_nI (n := x + 4) (N := pm_gL G) (by omega) (by omega)
  have e5 : nI x + 5 = nI (x + 5) := nI_add x 5
  have c5 := nI_clamp (n := x + 5) (by omega)
  have v5 := vp_in_nI (n := x + 5) (N := pm_gL G) (by omega) (by omega)
  refine pm_wl_ok (J := fun t _ ls st S cn sn => pm_W G d 280 Q t ls st S cn sn) (fun _ _ _ _ _ _ _ k => k) _ 550 _ 1 pb_k280_550 _ _ _ _ _ ?_
  try simp only [pm_WI0, pm_WI1, pm_WI2, pm_WI3, pm_WI4, pm_WI5, pm_WV, pm_WW, pm_WX, pm_if, Nat.reduceSub, Nat.reduceAdd, true_and, and_true, true_or, or_true, and_self, reduceIte, Nat.reduceEqDiff, Nat.reduceLT, Nat.reduceLeDiff, Nat.reduceMul, false_and, and_false, reduceCtorEq, false_or, or_false, not_true_eq_false, not_false_eq_true, true_implies, false_implies, implies_true, lf_10, eq_self, Int32.reduceLT, Int32.reduceLE, Int32.reduceAdd, Int32.reduceSub, pm_same, pm_i_wI, pm_l_wL, pm_l_wM, pm_oR_rf, pm_oQ_rf, nI_1, LQ1, LQ2, LQ5, Nat.reduceEqDiff, false_or, false_and, d0, k0, k59, e1, c1, v1, e2, c2, v2, e3, c3, v3, e4, c4, v4, e5, c5, v5]
  refine pm_CI.mono (pm_CI.k59 hG h59 k59 (pp_settle d40 hI)) (fun r S1 hh => ?_)
  obtain ⟨h1, k1⟩ := hh
  try simp only [pm_WI0, pm_WI1, pm_WI2, pm_WI3, pm_WI4, pm_WI5, pm_WV, pm_WW, pm_WX, pm_if, Nat.reduceSub, Nat.reduceAdd, true_and, and_true, true_or, or_true, and_self, reduceIte, Nat.reduceEqDiff, Nat.reduceLT, Nat.reduceLeDiff, Nat.reduceMul, false_and, and_false, reduceCtorEq, false_or, or_false, not_true_eq_false, not_false_eq_true, true_implies, false_implies, implies_true, lf_10, eq_self, Int32.reduceLT, Int32.reduceLE, Int32.reduceAdd, Int32.reduceSub, pm_same, pm_i_wI, pm_l_wL, pm_l_wM, pm_oR_rf, pm_oQ_rf, nI_1, LQ1, LQ2, LQ5, Nat.reduceEqDiff, false_or, false_and, d0, k1, e1, c1, v1, e2, c2, v2, e3, c3, v3, e4, c4, v4, e5, c5, v5]
  refine pm_CI.mono h1 (fun r' S2 h2 => ?_)
  obtain ⟨er, A2, hI2⟩ := h2
  subst er
  have nx := fun c s (z1 : c ≤ cn + 20) (z2 : s ≤ sn + 229) => next A2 S2 c s hI2 z1 z2
  try simp only [pm_WI0, pm_WI1, pm_WI2, pm_WI3, pm_WI4, pm_WI5, pm_WV, pm_WW, pm_WX, pm_if, Nat.reduceSub, Nat.reduceAdd, true_and, and_true, true_or, or_true, and_self, reduceIte, Nat.reduceEqDiff, Nat.reduceLT, Nat.reduceLeDiff, Nat.reduceMul, false_and, and_false, reduceCtorEq, false_or, or_false, not_true_eq_false, not_false_eq_true, true_implies, false_implies, implies_true, lf_10, eq_self, Int32.reduceLT, Int32.reduceLE, Int32.reduceAdd, Int32.reduceSub, pm_same, pm_i_wI, pm_l_wL, pm_l_wM, pm_oR_rf, pm_oQ_rf, nI_1, LQ1, LQ2, LQ5, Nat.reduceEqDiff, false_or, false_and, d0]
  exact nx _ _ (by omega) (by omega)
theorem lb_573 {G : pm_G} {d : Nat} {A : iv_A} {S : pm_S} {x cn sn : Nat} {Q : pm_Q} (hG : pm_Gok G) (hd : 100 ≤ d) (hx : x + 5 < pm_gL G) (hL : pm_gL G ≤ 3072) (hI : Inv A S) (hcn : cn ≤ 500000) (hsn : sn ≤ 7000000) (next : ∀ A' S' cn' sn', Inv A' S' → cn' ≤ cn + 20 → sn' ≤ sn + 229 → pm_W G d 280 Q 1896 [.retAddr 101, .ref 0, .ref 59, .int (nI x)] [] S' cn' sn') : pm_W G d 280 Q 573 [.retAddr 101, .ref 0, .ref 59, .int (nI x)] [] S cn sn := by
  have hS := hI.sh
  have h59 : 59 < pm_n S := by have := hS.1; omega
  have k0 := sh_k0 hS
  have k59 := sh_k59 hS
  have d0 : 0 < d := by omega
  have d40 : 40 ≤ d - 1 := by omega
  have e1 : nI x + 1 = nI (x + 1) := nI_add x 1
  have c1 := nI_clamp (n := x + 1) (by omega)
  have v1 := vp_in_nI (n := x + 1) (N := pm_gL G) (by omega) (by omega)
  have e2 : nI x + 2 = nI (x + 2) := nI_add x 2
  have c2 := nI_clamp (n := x + 2) (by omega)
  have v2 := vp_in_nI (n := x + 2) (N := pm_gL G) (by omega) (by omega)
  have e3 : nI x + 3 = nI (x + 3) := nI_add x 3
  have c3 := nI_clamp (n := x + 3) (by omega)
  have v3 := vp_in_nI (n := x + 3) (N := pm_gL G) (by omega) (by omega)
  have e4 : nI x + 4 = nI (x + 4) := nI_add x 4
  have c4 := nI_clamp (n := x + 4) (by omega)
  have v4 := vp_in_nI (n := x + 4) (N := pm_gL G) (by omega) (by omega)
  have e5 : nI x + 5 = nI (x + 5) := nI_add x 5
  have c5 := nI_clamp (n := x + 5) (by omega)
  have v5 := vp_in_nI (n := x + 5) (N := pm_gL G) (by omega) (by omega)
  refine pm_wl_ok (J := fun t _ ls st S cn sn => pm_W G d 280 Q t ls st S cn sn) (fun _ _ _ _ _ _ _ k => k) _ 573 _ 1 pb_k280_573 _ _ _ _ _ ?_
  try simp only [pm_WI0, pm_WI1, pm_WI2, pm_WI3, pm_WI4, pm_WI5, pm_WV, pm_WW, pm_WX, pm_if, Nat.reduceSub, Nat.reduceAdd, true_and, and_true, true_or, or_true, and_self, reduceIte, Nat.reduceEqDiff, Nat.reduceLT, Nat.reduceLeDiff, Nat.reduceMul, false_and, and_false, reduceCtorEq, false_or, or_false, not_true_eq_false, not_false_eq_true, true_implies, false_implies, implies_true, lf_10, eq_self, Int32.reduceLT, Int32.reduceLE, Int32.reduceAdd, Int32.reduceSub, pm_same, pm_i_wI, pm_l_wL, pm_l_wM, pm_oR_rf, pm_oQ_rf, nI_1, LQ1, LQ2, LQ5, Nat.reduceEqDiff, false_or, false_and, d0, k0, k59, e1, c1, v1, e2, c2, v2, e3, c3, v3, e4, c4, v4, e5, c5, v5]
  refine pm_CI.mono (pm_CI.k59 hG h59 k59 (pp_join d40 hI)) (fun r S1 hh => ?_)
  obtain ⟨h1, k1⟩ := hh
  try simp only [pm_WI0, pm_WI1, pm_WI2, pm_WI3, pm_WI4, pm_WI5, pm_WV, pm_WW, pm_WX, pm_if, Nat.reduceSub, Nat.reduceAdd, true_and, and_true, true_or, or_true, and_self, reduceIte, Nat.reduceEqDiff, Nat.reduceLT, Nat.reduceLeDiff, Nat.reduceMul, false_and, and_false, reduceCtorEq, false_or, or_false, not_true_eq_false, not_false_eq_true, true_implies, false_implies, implies_true, lf_10, eq_self, Int32.reduceLT, Int32.reduceLE, Int32.reduceAdd, Int32.reduceSub, pm_same, pm_i_wI, pm_l_wL, pm_l_wM, pm_oR_rf, pm_oQ_rf, nI_1, LQ1, LQ2, LQ5, Nat.reduceEqDiff, false_or, false_and, d0, k1, e1, c1, v1, e2, c2, v2, e3, c3, v3, e4, c4, v4, e5, c5, v5]
  refine pm_CI.mono h1 (fun r' S2 h2 => ?_)
  obtain ⟨er, A2, hI2⟩ := h2
  subst er
  have nx := fun c s (z1 : c ≤ cn + 20) (z2 : s ≤ sn + 229) => next A2 S2 c s hI2 z1 z2
  try simp only [pm_WI0, pm_WI1, pm_WI2, pm_WI3, pm_WI4, pm_WI5, pm_WV, pm_WW, pm_WX, pm_if, Nat.reduceSub, Nat.reduceAdd, true_and, and_true, true_or, or_true, and_self, reduceIte, Nat.reduceEqDiff, Nat.reduceLT, Nat.reduceLeDiff, Nat.reduceMul, false_and, and_false, reduceCtorEq, false_or, or_false, not_true_eq_false, not_false_eq_true, true_implies, false_implies, implies_true, lf_10, eq_self, Int32.reduceLT, Int32.reduceLE, Int32.reduceAdd, Int32.reduceSub, pm_same, pm_i_wI, pm_l_wL, pm_l_wM, pm_oR_rf, pm_oQ_rf, nI_1, LQ1, LQ2, LQ5, Nat.reduceEqDiff, false_or, false_and, d0]
  exact nx _ _ (by omega) (by omega)
theorem lb_606 {G : pm_G} {d : Nat} {A : iv_A} {S : pm_S} {x cn sn : Nat} {Q : pm_Q} (hG : pm_Gok G) (hd : 100 ≤ d) (hx : x + 5 < pm_gL G) (hL : pm_gL G ≤ 3072) (hI : Inv A S) (hcn : cn ≤ 500000) (hsn : sn ≤ 7000000) (next : ∀ A' S' cn' sn', Inv A' S' → cn' ≤ cn + 20 → sn' ≤ sn + 229 → pm_W G d 280 Q 1896 [.retAddr 101, .ref 0, .ref 59, .int (nI x)] [] S' cn' sn') : pm_W G d 280 Q 606 [.retAddr 101, .ref 0, .ref 59, .int (nI x)] [] S cn sn := by
  have hS := hI.sh
  have h59 : 59 < pm_n S := by have := hS.1; omega
  have k0 := sh_k0 hS
  have k59 := sh_k59 hS
  have d0 : 0 < d := by omega
  have d40 : 40 ≤ d - 1 := by omega
  have e1 : nI x + 1 = nI (x + 1) := nI_add x 1
  have c1 := nI_clamp (n := x + 1) (by omega)
  have v1 := vp_in_nI (n := x + 1) (N := pm_gL G) (by omega) (by omega)
  have e2 : nI x + 2 = nI (x + 2) := nI_add x 2
  have c2 := nI_clamp (n := x + 2) (by omega)
  have v2 := vp_in_nI (n := x + 2) (N := pm_gL G) (by omega) (by omega)
  have e3 : nI x + 3 = nI (x + 3) := nI_add x 3
  have c3 := nI_clamp (n := x + 3) (by omega)
  have v3 := vp_in_nI (n := x + 3) (N := pm_gL G) (by omega) (by omega)
  have e4 : nI x + 4 = nI (x + 4) := nI_add x 4
  have c4 := nI_clamp (n := x + 4) (by omega)
  have v4 := vp_in_nI (n := x + 4) (N := pm_gL G) (by omega) (by omega)
  have e5 : nI x + 5 = nI (x + 5) := nI_add x 5
  have c5 := nI_clamp (n := x + 5) (by omega)
  have v5 := vp_in_nI (n := x + 5) (N := pm_gL G) (by omega) (by omega)
  refine pm_wl_ok (J := fun t _ ls st S cn sn => pm_W G d 280 Q t ls st S cn sn) (fun _ _ _ _ _ _ _ k => k) _ 606 _ 1 pb_k280_606 _ _ _ _ _ ?_
  try simp only [pm_WI0, pm_WI1, pm_WI2, pm_WI3, pm_WI4, pm_WI5, pm_WV, pm_WW, pm_WX, pm_if, Nat.reduceSub, Nat.reduceAdd, true_and, and_true, true_or, or_true, and_self, reduceIte, Nat.reduceEqDiff, Nat.reduceLT, Nat.reduceLeDiff, Nat.reduceMul, false_and, and_false, reduceCtorEq, false_or, or_false, not_true_eq_false, not_false_eq_true, true_implies, false_implies, implies_true, lf_10, eq_self, Int32.reduceLT, Int32.reduceLE, Int32.reduceAdd, Int32.reduceSub, pm_same, pm_i_wI, pm_l_wL, pm_l_wM, pm_oR_rf, pm_oQ_rf, nI_1, LQ1, LQ2, LQ5, Nat.reduceEqDiff, false_or, false_and, d0, k0, k59, e1, c1, v1, e2, c2, v2, e3, c3, v3, e4, c4, v4, e5, c5, v5]
  refine pm_CI.mono (pm_CI.k59 hG h59 k59 (pp_watch d40 hI)) (fun r S1 hh => ?_)
  obtain ⟨h1, k1⟩ := hh
  try simp only [pm_WI0, pm_WI1, pm_WI2, pm_WI3, pm_WI4, pm_WI5, pm_WV, pm_WW, pm_WX, pm_if, Nat.reduceSub, Nat.reduceAdd, true_and, and_true, true_or, or_true, and_self, reduceIte, Nat.reduceEqDiff, Nat.reduceLT, Nat.reduceLeDiff, Nat.reduceMul, false_and, and_false, reduceCtorEq, false_or, or_false, not_true_eq_false, not_false_eq_true, true_implies, false_implies, implies_true, lf_10, eq_self, Int32.reduceLT, Int32.reduceLE, Int32.reduceAdd, Int32.reduceSub, pm_same, pm_i_wI, pm_l_wL, pm_l_wM, pm_oR_rf, pm_oQ_rf, nI_1, LQ1, LQ2, LQ5, Nat.reduceEqDiff, false_or, false_and, d0, k1, e1, c1, v1, e2, c2, v2, e3, c3, v3, e4, c4, v4, e5, c5, v5]
  refine pm_CI.mono h1 (fun r' S2 h2 => ?_)
  obtain ⟨er, A2, hI2⟩ := h2
  subst er
  have nx := fun c s (z1 : c ≤ cn + 20) (z2 : s ≤ sn + 229) => next A2 S2 c s hI2 z1 z2
  try simp only [pm_WI0, pm_WI1, pm_WI2, pm_WI3, pm_WI4, pm_WI5, pm_WV, pm_WW, pm_WX, pm_if, Nat.reduceSub, Nat.reduceAdd, true_and, and_true, true_or, or_true, and_self, reduceIte, Nat.reduceEqDiff, Nat.reduceLT, Nat.reduceLeDiff, Nat.reduceMul, false_and, and_false, reduceCtorEq, false_or, or_false, not_true_eq_false, not_false_eq_true, true_implies, false_implies, implies_true, lf_10, eq_self, Int32.reduceLT, Int32.reduceLE, Int32.reduceAdd, Int32.reduceSub, pm_same, pm_i_wI, pm_l_wL, pm_l_wM, pm_oR_rf, pm_oQ_rf, nI_1, LQ1, LQ2, LQ5, Nat.reduceEqDiff, false_or, false_and, d0]
  exact nx _ _ (by omega) (by omega)
theorem lb_649 {G : pm_G} {d : Nat} {A : iv_A} {S : pm_S} {x cn sn : Nat} {Q : pm_Q} (hG : pm_Gok G) (hd : 100 ≤ d) (hx : x + 5 < pm_gL G) (hL : pm_gL G ≤ 3072) (hI : Inv A S) (hcn : cn ≤ 500000) (hsn : sn ≤ 7000000) (next : ∀ A' S' cn' sn', Inv A' S' → cn' ≤ cn + 20 → sn' ≤ sn + 229 → pm_W G d 280 Q 1896 [.retAddr 101, .ref 0, .ref 59, .int (nI x)] [] S' cn' sn') : pm_W G d 280 Q 649 [.retAddr 101, .ref 0, .ref 59, .int (nI x)] [] S cn sn := by
  have hS := hI.sh
  have h59 : 59 < pm_n S := by have := hS.1; omega
  have k0 := sh_k0 hS
  have k59 := sh_k59 hS
  have d0 : 0 < d := by omega
  have d40 : 40 ≤ d - 1 := by omega
  have e1 : nI x + 1 = nI (x + 1) := nI_add x 1
  have c1 := nI_clamp (n := x + 1) (by omega)
  have v1 := vp_in_nI (n := x + 1) (N := pm_gL G) (by omega) (by omega)
  have e2 : nI x + 2 = nI (x + 2) := nI_add x 2
  have c2 := nI_clamp (n := x + 2) (by omega)
  have v2 := vp_in_nI (n := x + 2) (N := pm_gL G) (by omega) (by omega)
  have e3 : nI x + 3 = nI (x + 3) := nI_add x 3
  have c3 := nI_clamp (n := x + 3) (by omega)
  have v3 := vp_in_nI (n := x + 3) (N := pm_gL G) (by omega) (by omega)
  have e4 : nI x + 4 = nI (x + 4) := nI_add x 4
  have c4 := nI_clamp (n := x + 4) (by omega)
  have v4 := vp_in_nI (n := x + 4) (N := pm_gL G) (by omega) (by omega)
  have e5 : nI x + 5 = nI (x + 5) := nI_add x 5
  have c5 := nI_clamp (n := x + 5) (by omega)
  have v5 := vp_in_nI (n := x + 5) (N := pm_gL G) (by omega) (by omega)
  refine pm_wl_ok (J := fun t _ ls st S cn sn => pm_W G d 280 Q t ls st S cn sn) (fun _ _ _ _ _ _ _ k => k) _ 649 _ 1 pb_k280_649 _ _ _ _ _ ?_
  try simp only [pm_WI0, pm_WI1, pm_WI2, pm_WI3, pm_WI4, pm_WI5, pm_WV, pm_WW, pm_WX, pm_if, Nat.reduceSub, Nat.reduceAdd, true_and, and_true, true_or, or_true, and_self, reduceIte, Nat.reduceEqDiff, Nat.reduceLT, Nat.reduceLeDiff, Nat.reduceMul, false_and, and_false, reduceCtorEq, false_or, or_false, not_true_eq_false, not_false_eq_true, true_implies, false_implies, implies_true, lf_10, eq_self, Int32.reduceLT, Int32.reduceLE, Int32.reduceAdd, Int32.reduceSub, pm_same, pm_i_wI, pm_l_wL, pm_l_wM, pm_oR_rf, pm_oQ_rf, nI_1, LQ1, LQ2, LQ5, Nat.reduceEqDiff, false_or, false_and, d0, k0, k59, e1, c1, v1, e2, c2, v2, e3, c3, v3, e4, c4, v4, e5, c5, v5]
  refine pm_CI.mono (pm_CI.k59 hG h59 k59 (pp_reach d40 hI)) (fun r S1 hh => ?_)
  obtain ⟨h1, k1⟩ := hh
  try simp only [pm_WI0, pm_WI1, pm_WI2, pm_WI3, pm_WI4, pm_WI5, pm_WV, pm_WW, pm_WX, pm_if, Nat.reduceSub, Nat.reduceAdd, true_and, and_true, true_or, or_true, and_self, reduceIte, Nat.reduceEqDiff, Nat.reduceLT, Nat.reduceLeDiff, Nat.reduceMul, false_and, and_false, reduceCtorEq, false_or, or_false, not_true_eq_false, not_false_eq_true, true_implies, false_implies, implies_true, lf_10, eq_self, Int32.reduceLT, Int32.reduceLE, Int32.reduceAdd, Int32.reduceSub, pm_same, pm_i_wI, pm_l_wL, pm_l_wM, pm_oR_rf, pm_oQ_rf, nI_1, LQ1, LQ2, LQ5, Nat.reduceEqDiff, false_or, false_and, d0, k1, e1, c1, v1, e2, c2, v2, e3, c3, v3, e4, c4, v4, e5, c5, v5]
  refine pm_CI.mono h1 (fun r' S2 h2 => ?_)
  obtain ⟨er, A2, hI2⟩ := h2
  subst er
  have nx := fun c s (z1 : c ≤ cn + 20) (z2 : s ≤ sn + 229) => next A2 S2 c s hI2 z1 z2
  try simp only [pm_WI0, pm_WI1, pm_WI2, pm_WI3, pm_WI4, pm_WI5, pm_WV, pm_WW, pm_WX, pm_if, Nat.reduceSub, Nat.reduceAdd, true_and, and_true, true_or, or_true, and_self, reduceIte, Nat.reduceEqDiff, Nat.reduceLT, Nat.reduceLeDiff, Nat.reduceMul, false_and, and_false, reduceCtorEq, false_or, or_false, not_true_eq_false, not_false_eq_true, true_implies, false_implies, implies_true, lf_10, eq_self, Int32.reduceLT, Int32.reduceLE, Int32.reduceAdd, Int32.reduceSub, pm_same, pm_i_wI, pm_l_wL, pm_l_wM, pm_oR_rf, pm_oQ_rf, nI_1, LQ1, LQ2, LQ5, Nat.reduceEqDiff, false_or, false_and, d0]
  exact nx _ _ (by omega) (by omega)
theorem lb_682 {G : pm_G} {d : Nat} {A : iv_A} {S : pm_S} {x cn sn : Nat} {Q : pm_Q} (hG : pm_Gok G) (hd : 100 ≤ d) (hx : x + 5 < pm_gL G) (hL : pm_gL G ≤ 3072) (hI : Inv A S) (hcn : cn ≤ 500000) (hsn : sn ≤ 7000000) (next : ∀ A' S' cn' sn', Inv A' S' → cn' ≤ cn + 20 → sn' ≤ sn + 229 → pm_W G d 280 Q 1896 [.retAddr 101, .ref 0, .ref 59, .int (nI x)] [] S' cn' sn') : pm_W G d 280 Q 682 [.retAddr 101, .ref 0, .ref 59, .int (nI x)] [] S cn sn := by
  have hS := hI.sh
  have h59 : 59 < pm_n S := by have := hS.1; omega
  have k0 := sh_k0 hS
  have k59 := sh_k59 hS
  have d0 : 0 < d := by omega
  have d40 : 40 ≤ d - 1 := by omega
  have e1 : nI x + 1 = nI (x + 1) := nI_add x 1
  have c1 := nI_clamp (n := x + 1) (by omega)
  have v1 := vp_in_nI (n := x + 1) (N := pm_gL G) (by omega) (by omega)
  have e2 : nI x + 2 = nI (x + 2) := nI_add x 2
  have c2 := nI_clamp (n := x + 2) (by omega)
  have v2 := vp_in_nI (n := x + 2) (N := pm_gL G) (by omega) (by omega)
  have e3 : nI x + 3 = nI (x + 3) := nI_add x 3
  have c3 := nI_clamp (n := x + 3) (by omega)
  have v3 := vp_in_nI (n := x + 3) (N := pm_gL G) (by omega) (by omega)
  have e4 : nI x + 4 = nI (x + 4) := nI_add x 4
  have c4 := nI_clamp (n := x + 4) (by omega)
  have v4 := vp_in_nI (n := x + 4) (N := pm_gL G) (by omega) (by omega)
  have e5 : nI x + 5 = nI (x + 5) := nI_add x 5
  have c5 := nI_clamp (n := x + 5) (by omega)
  have v5 := vp_in_nI (n := x + 5) (N := pm_gL G) (by omega) (by omega)
  refine pm_wl_ok (J := fun t _ ls st S cn sn => pm_W G d 280 Q t ls st S cn sn) (fun _ _ _ _ _ _ _ k => k) _ 682 _ 1 pb_k280_682 _ _ _ _ _ ?_
  try simp only [pm_WI0, pm_WI1, pm_WI2, pm_WI3, pm_WI4, pm_WI5, pm_WV, pm_WW, pm_WX, pm_if, Nat.reduceSub, Nat.reduceAdd, true_and, and_true, true_or, or_true, and_self, reduceIte, Nat.reduceEqDiff, Nat.reduceLT, Nat.reduceLeDiff, Nat.reduceMul, false_and, and_false, reduceCtorEq, false_or, or_false, not_true_eq_false, not_false_eq_true, true_implies, false_implies, implies_true, lf_10, eq_self, Int32.reduceLT, Int32.reduceLE, Int32.reduceAdd, Int32.reduceSub, pm_same, pm_i_wI, pm_l_wL, pm_l_wM, pm_oR_rf, pm_oQ_rf, nI_1, LQ1, LQ2, LQ5, Nat.reduceEqDiff, false_or, false_and, d0, k0, k59, e1, c1, v1, e2, c2, v2, e3, c3, v3, e4, c4, v4, e5, c5, v5]
  refine pm_CI.mono (pm_CI.k59 hG h59 k59 (pp_end d40 hI)) (fun r S1 hh => ?_)
  obtain ⟨h1, k1⟩ := hh
  try simp only [pm_WI0, pm_WI1, pm_WI2, pm_WI3, pm_WI4, pm_WI5, pm_WV, pm_WW, pm_WX, pm_if, Nat.reduceSub, Nat.reduceAdd, true_and, and_true, true_or, or_true, and_self, reduceIte, Nat.reduceEqDiff, Nat.reduceLT, Nat.reduceLeDiff, Nat.reduceMul, false_and, and_false, reduceCtorEq, false_or, or_false, not_true_eq_false, not_false_eq_true, true_implies, false_implies, implies_true, lf_10, eq_self, Int32.reduceLT, Int32.reduceLE, Int32.reduceAdd, Int32.reduceSub, pm_same, pm_i_wI, pm_l_wL, pm_l_wM, pm_oR_rf, pm_oQ_rf, nI_1, LQ1, LQ2, LQ5, Nat.reduceEqDiff, false_or, false_and, d0, k1, e1, c1, v1, e2, c2, v2, e3, c3, v3, e4, c4, v4, e5, c5, v5]
  refine pm_CI.mono h1 (fun r' S2 h2 => ?_)
  obtain ⟨er, A2, hI2⟩ := h2
  subst er
  have nx := fun c s (z1 : c ≤ cn + 20) (z2 : s ≤ sn + 229) => next A2 S2 c s hI2 z1 z2
  try simp only [pm_WI0, pm_WI1, pm_WI2, pm_WI3, pm_WI4, pm_WI5, pm_WV, pm_WW, pm_WX, pm_if, Nat.reduceSub, Nat.reduceAdd, true_and, and_true, true_or, or_true, and_self, reduceIte, Nat.reduceEqDiff, Nat.reduceLT, Nat.reduceLeDiff, Nat.reduceMul, false_and, and_false, reduceCtorEq, false_or, or_false, not_true_eq_false, not_false_eq_true, true_implies, false_implies, implies_true, lf_10, eq_self, Int32.reduceLT, Int32.reduceLE, Int32.reduceAdd, Int32.reduceSub, pm_same, pm_i_wI, pm_l_wL, pm_l_wM, pm_oR_rf, pm_oQ_rf, nI_1, LQ1, LQ2, LQ5, Nat.reduceEqDiff, false_or, false_and, d0]
  exact nx _ _ (by omega) (by omega)
theorem lb_715 {G : pm_G} {d : Nat} {A : iv_A} {S : pm_S} {x cn sn : Nat} {Q : pm_Q} (hG : pm_Gok G) (hd : 100 ≤ d) (hx : x + 5 < pm_gL G) (hL : pm_gL G ≤ 3072) (hI : Inv A S) (hcn : cn ≤ 500000) (hsn : sn ≤ 7000000) (next : ∀ A' S' cn' sn', Inv A' S' → cn' ≤ cn + 20 → sn' ≤ sn + 229 → pm_W G d 280 Q 1896 [.retAddr 101, .ref 0, .ref 59, .int (nI x)] [] S' cn' sn') : pm_W G d 280 Q 715 [.retAddr 101, .ref 0, .ref 59, .int (nI x)] [] S cn sn := by
  have hS := hI.sh
  have h59 : 59 < pm_n S := by have := hS.1; omega
  have k0 := sh_k0 hS
  have k59 := sh_k59 hS
  have d0 : 0 < d := by omega
  have d40 : 40 ≤ d - 1 := by omega
  have e1 : nI x + 1 = nI (x + 1) := nI_add x 1
  have c1 := nI_clamp (n := x + 1) (by omega)
  have v1 := vp_in_nI (n := x + 1) (N := pm_gL G) (by omega) (by omega)
  have e2 : nI x + 2 = nI (x + 2) := nI_add x 2
  have c2 := nI_clamp (n := x + 2) (by omega)
  have v2 := vp_in_nI (n := x + 2) (N := pm_gL G) (by omega) (by omega)
  have e3 : nI x + 3 = nI (x + 3) := nI_add x 3
  have c3 := nI_clamp (n := x + 3) (by omega)
  have v3 := vp_in_nI (n := x + 3) (N := pm_gL G) (by omega) (by omega)
  have e4 : nI x + 4 = nI (x + 4) := nI_add x 4
  have c4 := nI_clamp (n := x + 4) (by omega)
  have v4 := vp_in_nI (n := x + 4) (N := pm_gL G) (by omega) (by omega)
  have e5 : nI x + 5 = nI (x + 5) := nI_add x 5
  have c5 := nI_clamp (n := x + 5) (by omega)
  have v5 := vp_in_nI (n := x + 5) (N := pm_gL G) (by omega) (by omega)
  refine pm_wl_ok (J := fun t _ ls st S cn sn => pm_W G d 280 Q t ls st S cn sn) (fun _ _ _ _ _ _ _ k => k) _ 715 _ 1 pb_k280_715 _ _ _ _ _ ?_
  try simp only [pm_WI0, pm_WI1, pm_WI2, pm_WI3, pm_WI4, pm_WI5, pm_WV, pm_WW, pm_WX, pm_if, Nat.reduceSub, Nat.reduceAdd, true_and, and_true, true_or, or_true, and_self, reduceIte, Nat.reduceEqDiff, Nat.reduceLT, Nat.reduceLeDiff, Nat.reduceMul, false_and, and_false, reduceCtorEq, false_or, or_false, not_true_eq_false, not_false_eq_true, true_implies, false_implies, implies_true, lf_10, eq_self, Int32.reduceLT, Int32.reduceLE, Int32.reduceAdd, Int32.reduceSub, pm_same, pm_i_wI, pm_l_wL, pm_l_wM, pm_oR_rf, pm_oQ_rf, nI_1, LQ1, LQ2, LQ5, Nat.reduceEqDiff, false_or, false_and, d0, k0, k59, e1, c1, v1, e2, c2, v2, e3, c3, v3, e4, c4, v4, e5, c5, v5]
  refine pm_CI.mono (pm_CI.k59 hG h59 k59 (pp_kept d40 hI)) (fun r S1 hh => ?_)
  obtain ⟨h1, k1⟩ := hh
  try simp only [pm_WI0, pm_WI1, pm_WI2, pm_WI3, pm_WI4, pm_WI5, pm_WV, pm_WW, pm_WX, pm_if, Nat.reduceSub, Nat.reduceAdd, true_and, and_true, true_or, or_true, and_self, reduceIte, Nat.reduceEqDiff, Nat.reduceLT, Nat.reduceLeDiff, Nat.reduceMul, false_and, and_false, reduceCtorEq, false_or, or_false, not_true_eq_false, not_false_eq_true, true_implies, false_implies, implies_true, lf_10, eq_self, Int32.reduceLT, Int32.reduceLE, Int32.reduceAdd, Int32.reduceSub, pm_same, pm_i_wI, pm_l_wL, pm_l_wM, pm_oR_rf, pm_oQ_rf, nI_1, LQ1, LQ2, LQ5, Nat.reduceEqDiff, false_or, false_and, d0, k1, e1, c1, v1, e2, c2, v2, e3, c3, v3, e4, c4, v4, e5, c5, v5]
  refine pm_CI.mono h1 (fun r' S2 h2 => ?_)
  obtain ⟨er, A2, hI2⟩ := h2
  subst er
  have nx := fun c s (z1 : c ≤ cn + 20) (z2 : s ≤ sn + 229) => next A2 S2 c s hI2 z1 z2
  try simp only [pm_WI0, pm_WI1, pm_WI2, pm_WI3, pm_WI4, pm_WI5, pm_WV, pm_WW, pm_WX, pm_if, Nat.reduceSub, Nat.reduceAdd, true_and, and_true, true_or, or_true, and_self, reduceIte, Nat.reduceEqDiff, Nat.reduceLT, Nat.reduceLeDiff, Nat.reduceMul, false_and, and_false, reduceCtorEq, false_or, or_false, not_true_eq_false, not_false_eq_true, true_implies, false_implies, implies_true, lf_10, eq_self, Int32.reduceLT, Int32.reduceLE, Int32.reduceAdd, Int32.reduceSub, pm_same, pm_i_wI, pm_l_wL, pm_l_wM, pm_oR_rf, pm_oQ_rf, nI_1, LQ1, LQ2, LQ5, Nat.reduceEqDiff, false_or, false_and, d0]
  exact nx _ _ (by omega) (by omega)
theorem lb_738 {G : pm_G} {d : Nat} {A : iv_A} {S : pm_S} {x cn sn : Nat} {Q : pm_Q} (hG : pm_Gok G) (hd : 100 ≤ d) (hx : x + 5 < pm_gL G) (hL : pm_gL G ≤ 3072) (hI : Inv A S) (hcn : cn ≤ 500000) (hsn : sn ≤ 7000000) (next : ∀ A' S' cn' sn', Inv A' S' → cn' ≤ cn + 20 → sn' ≤ sn + 229 → pm_W G d 280 Q 1896 [.retAddr 101, .ref 0, .ref 59, .int (nI x)] [] S' cn' sn') : pm_W G d 280 Q 738 [.retAddr 101, .ref 0, .ref 59, .int (nI x)] [] S cn sn := by
  have hS := hI.sh
  have h59 : 59 < pm_n S := by have := hS.1; omega
  have k0 := sh_k0 hS
  have k59 := sh_k59 hS
  have d0 : 0 < d := by omega
  have d40 : 40 ≤ d - 1 := by omega
  have e1 : nI x + 1 = nI (x + 1) := nI_add x 1
  have c1 := nI_clamp (n := x + 1) (by omega)
  have v1 := vp_in_nI (n := x + 1) (N := pm_gL G) (by omega) (by omega)
  have e2 : nI x + 2 = nI (x + 2) := nI_add x 2
  have c2 := nI_clamp (n := x + 2) (by omega)
  have v2 := vp_in_nI (n := x + 2) (N := pm_gL G) (by omega) (by omega)
  have e3 : nI x + 3 = nI (x + 3) := nI_add x 3
  have c3 := nI_clamp (n := x + 3) (by omega)
  have v3 := vp_in_nI (n := x + 3) (N := pm_gL G) (by omega) (by omega)
  have e4 : nI x + 4 = nI (x + 4) := nI_add x 4
  have c4 := nI_clamp (n := x + 4) (by omega)
  have v4 := vp_in_nI (n := x + 4) (N := pm_gL G) (by omega) (by omega)
  have e5 : nI x + 5 = nI (x + 5) := nI_add x 5
  have c5 := nI_clamp (n := x + 5) (by omega)
  have v5 := vp_in_nI (n := x + 5) (N := pm_gL G) (by omega) (by omega)
  have b1 : cn + 1 ≤ 600000 := by omega
  have b2 : sn + 6 ≤ 7302250 := by omega
  refine pm_wl_ok (J := fun t _ ls st S cn sn => pm_W G d 280 Q t ls st S cn sn) (fun _ _ _ _ _ _ _ k => k) _ 738 _ 1 pb_k280_738 _ _ _ _ _ ?_
  try simp only [pm_WI0, pm_WI1, pm_WI2, pm_WI3, pm_WI4, pm_WI5, pm_WV, pm_WW, pm_WX, pm_if, Nat.reduceSub, Nat.reduceAdd, true_and, and_true, true_or, or_true, and_self, reduceIte, Nat.reduceEqDiff, Nat.reduceLT, Nat.reduceLeDiff, Nat.reduceMul, false_and, and_false, reduceCtorEq, false_or, or_false, not_true_eq_false, not_false_eq_true, true_implies, false_implies, implies_true, lf_10, eq_self, Int32.reduceLT, Int32.reduceLE, Int32.reduceAdd, Int32.reduceSub, pm_same, pm_i_wI, pm_l_wL, pm_l_wM, pm_oR_rf, pm_oQ_rf, nI_1, LQ1, LQ2, LQ5, Nat.reduceEqDiff, false_or, false_and, d0, k0, k59, e1, c1, v1, e2, c2, v2, e3, c3, v3, e4, c4, v4, e5, c5, v5, b1, b2]
  refine pm_CI.mono (pm_CI.k59 hG h59 k59 (pp_file d40 hI)) (fun r S1 hh => ?_)
  obtain ⟨h1, k1⟩ := hh
  try simp only [pm_WI0, pm_WI1, pm_WI2, pm_WI3, pm_WI4, pm_WI5, pm_WV, pm_WW, pm_WX, pm_if, Nat.reduceSub, Nat.reduceAdd, true_and, and_true, true_or, or_true, and_self, reduceIte, Nat.reduceEqDiff, Nat.reduceLT, Nat.reduceLeDiff, Nat.reduceMul, false_and, and_false, reduceCtorEq, false_or, or_false, not_true_eq_false, not_false_eq_true, true_implies, false_implies, implies_true, lf_10, eq_self, Int32.reduceLT, Int32.reduceLE, Int32.reduceAdd, Int32.reduceSub, pm_same, pm_i_wI, pm_l_wL, pm_l_wM, pm_oR_rf, pm_oQ_rf, nI_1, LQ1, LQ2, LQ5, Nat.reduceEqDiff, false_or, false_and, d0, k1, e1, c1, v1, e2, c2, v2, e3, c3, v3, e4, c4, v4, e5, c5, v5, b1, b2]
  refine pm_CI.mono h1 (fun r' S2 h2 => ?_)
  obtain ⟨er, A2, hI2⟩ := h2
  subst er
  have nx := fun c s (z1 : c ≤ cn + 20) (z2 : s ≤ sn + 229) => next A2 S2 c s hI2 z1 z2
  try simp only [pm_WI0, pm_WI1, pm_WI2, pm_WI3, pm_WI4, pm_WI5, pm_WV, pm_WW, pm_WX, pm_if, Nat.reduceSub, Nat.reduceAdd, true_and, and_true, true_or, or_true, and_self, reduceIte, Nat.reduceEqDiff, Nat.reduceLT, Nat.reduceLeDiff, Nat.reduceMul, false_and, and_false, reduceCtorEq, false_or, or_false, not_true_eq_false, not_false_eq_true, true_implies, false_implies, implies_true, lf_10, eq_self, Int32.reduceLT, Int32.reduceLE, Int32.reduceAdd, Int32.reduceSub, pm_same, pm_i_wI, pm_l_wL, pm_l_wM, pm_oR_rf, pm_oQ_rf, nI_1, LQ1, LQ2, LQ5, Nat.reduceEqDiff, false_or, false_and, d0]
  exact nx _ _ (by omega) (by omega)
theorem lb_791 {G : pm_G} {d : Nat} {A : iv_A} {S : pm_S} {x cn sn : Nat} {Q : pm_Q} (hG : pm_Gok G) (hd : 100 ≤ d) (hx : x + 5 < pm_gL G) (hL : pm_gL G ≤ 3072) (hI : Inv A S) (hcn : cn ≤ 500000) (hsn : sn ≤ 7000000) (next : ∀ A' S' cn' sn', Inv A' S' → cn' ≤ cn + 20 → sn' ≤ sn + 229 → pm_W G d 280 Q 1896 [.retAddr 101, .ref 0, .ref 59, .int (nI x)] [] S' cn' sn') : pm_W G d 280 Q 791 [.retAddr 101, .ref 0, .ref 59, .int (nI x)] [] S cn sn := by
  have hS := hI.sh
  have h59 : 59 < pm_n S := by have := hS.1; omega
  have k0 := sh_k0 hS
  have k59 := sh_k59 hS
  have d0 : 0 < d := by omega
  have d40 : 40 ≤ d - 1 := by omega
  have e1 : nI x + 1 = nI (x + 1) := nI_add x 1
  have c1 := nI_clamp (n := x + 1) (by omega)
  have v1 := vp_in_nI (n := x + 1) (N := pm_gL G) (by omega) (by omega)
  have e2 : nI x + 2 = nI (x + 2) := nI_add x 2
  have c2 := nI_clamp (n := x + 2) (by omega)
  have v2 := vp_in_nI (n := x + 2) (N := pm_gL G) (by omega) (by omega)
  have e3 : nI x + 3 = nI (x + 3) := nI_add x 3
  have c3 := nI_clamp (n := x + 3) (by omega)
  have v3 := vp_in_nI (n := x + 3) (N := pm_gL G) (by omega) (by omega)
  have e4 : nI x + 4 = nI (x + 4) := nI_add x 4
  have c4 := nI_clamp (n := x + 4) (by omega)
  have v4 := vp_in_nI (n := x + 4) (N := pm_gL G) (by omega) (by omega)
  have e5 : nI x + 5 = nI (x + 5) := nI_add x 5
  have c5 := nI_clamp (n := x + 5) (by omega)
  have v5 := vp_in_nI (n := x + 5) (N := pm_gL G) (by omega) (by omega)
  have b1 : cn + 20 ≤ 600000 := by omega
  have b2 : sn + 120 ≤ 7302250 := by omega
  refine pm_wl_ok (J := fun t _ ls st S cn sn => pm_W G d 280 Q t ls st S cn sn) (fun _ _ _ _ _ _ _ k => k) _ 791 _ 1 pb_k280_791 _ _ _ _ _ ?_
  try simp only [pm_WI0, pm_WI1, pm_WI2, pm_WI3, pm_WI4, pm_WI5, pm_WV, pm_WW, pm_WX, pm_if, Nat.reduceSub, Nat.reduceAdd, true_and, and_true, true_or, or_true, and_self, reduceIte, Nat.reduceEqDiff, Nat.reduceLT, Nat.reduceLeDiff, Nat.reduceMul, false_and, and_false, reduceCtorEq, false_or, or_false, not_true_eq_false, not_false_eq_true, true_implies, false_implies, implies_true, lf_10, eq_self, Int32.reduceLT, Int32.reduceLE, Int32.reduceAdd, Int32.reduceSub, pm_same, pm_i_wI, pm_l_wL, pm_l_wM, pm_oR_rf, pm_oQ_rf, nI_1, LQ1, LQ2, LQ5, Nat.reduceEqDiff, false_or, false_and, d0, k0, k59, e1, c1, v1, e2, c2, v2, e3, c3, v3, e4, c4, v4, e5, c5, v5, b1, b2]
  refine pm_CI.mono (pm_CI.k59 hG h59 k59 (pp_papers d40 hI)) (fun r S1 hh => ?_)
  obtain ⟨h1, k1⟩ := hh
  try simp only [pm_WI0, pm_WI1, pm_WI2, pm_WI3, pm_WI4, pm_WI5, pm_WV, pm_WW, pm_WX, pm_if, Nat.reduceSub, Nat.reduceAdd, true_and, and_true, true_or, or_true, and_self, reduceIte, Nat.reduceEqDiff, Nat.reduceLT, Nat.reduceLeDiff, Nat.reduceMul, false_and, and_false, reduceCtorEq, false_or, or_false, not_true_eq_false, not_false_eq_true, true_implies, false_implies, implies_true, lf_10, eq_self, Int32.reduceLT, Int32.reduceLE, Int32.reduceAdd, Int32.reduceSub, pm_same, pm_i_wI, pm_l_wL, pm_l_wM, pm_oR_rf, pm_oQ_rf, nI_1, LQ1, LQ2, LQ5, Nat.reduceEqDiff, false_or, false_and, d0, k1, e1, c1, v1, e2, c2, v2, e3, c3, v3, e4, c4, v4, e5, c5, v5, b1, b2]
  refine pm_CI.mono h1 (fun r' S2 h2 => ?_)
  obtain ⟨er, A2, hI2⟩ := h2
  subst er
  have nx := fun c s (z1 : c ≤ cn + 20) (z2 : s ≤ sn + 229) => next A2 S2 c s hI2 z1 z2
  try simp only [pm_WI0, pm_WI1, pm_WI2, pm_WI3, pm_WI4, pm_WI5, pm_WV, pm_WW, pm_WX, pm_if, Nat.reduceSub, Nat.reduceAdd, true_and, and_true, true_or, or_true, and_self, reduceIte, Nat.reduceEqDiff, Nat.reduceLT, Nat.reduceLeDiff, Nat.reduceMul, false_and, and_false, reduceCtorEq, false_or, or_false, not_true_eq_false, not_false_eq_true, true_implies, false_implies, implies_true, lf_10, eq_self, Int32.reduceLT, Int32.reduceLE, Int32.reduceAdd, Int32.reduceSub, pm_same, pm_i_wI, pm_l_wL, pm_l_wM, pm_oR_rf, pm_oQ_rf, nI_1, LQ1, LQ2, LQ5, Nat.reduceEqDiff, false_or, false_and, d0]
  exact nx _ _ (by omega) (by omega)
theorem lb_844 {G : pm_G} {d : Nat} {A : iv_A} {S : pm_S} {x cn sn : Nat} {Q : pm_Q} (hG : pm_Gok G) (hd : 100 ≤ d) (hx : x + 5 < pm_gL G) (hL : pm_gL G ≤ 3072) (hI : Inv A S) (hcn : cn ≤ 500000) (hsn : sn ≤ 7000000) (next : ∀ A' S' cn' sn', Inv A' S' → cn' ≤ cn + 20 → sn' ≤ sn + 229 → pm_W G d 280 Q 1896 [.retAddr 101, .ref 0, .ref 59, .int (nI x)] [] S' cn' sn') : pm_W G d 280 Q 844 [.retAddr 101, .ref 0, .ref 59, .int (nI x)] [] S cn sn := by
  have hS := hI.sh
  have h59 : 59 < pm_n S := by have := hS.1; omega
  have k0 := sh_k0 hS
  have k59 := sh_k59 hS
  have d0 : 0 < d := by omega
  have d40 : 40 ≤ d - 1 := by omega
  have e1 : nI x + 1 = nI (x + 1) := nI_add x 1
  have c1 := nI_clamp (n := x + 1) (by omega)
  have v1 := vp_in_nI (n := x + 1) (N := pm_gL G) (by omega) (by omega)
  have e2 : nI x + 2 = nI (x + 2) := nI_add x 2
  have c2 := nI_clamp (n := x + 2) (by omega)
  have v2 := vp_in_nI (n := x + 2) (N := pm_gL G) (by omega) (by omega)
  have e3 : nI x + 3 = nI (x + 3) := nI_add x 3
  have c3 := nI_clamp (n := x + 3) (by omega)
  have v3 := vp_in_nI (n := x + 3) (N := pm_gL G) (by omega) (by omega)
  have e4 : nI x + 4 = nI (x + 4) := nI_add x 4
  have c4 := nI_clamp (n := x + 4) (by omega)
  have v4 := vp_in_nI (n := x + 4) (N := pm_gL G) (by omega) (by omega)
  have e5 : nI x + 5 = nI (x + 5) := nI_add x 5
  have c5 := nI_clamp (n := x + 5) (by omega)
  have v5 := vp_in_nI (n := x + 5) (N := pm_gL G) (by omega) (by omega)
  refine pm_wl_ok (J := fun t _ ls st S cn sn => pm_W G d 280 Q t ls st S cn sn) (fun _ _ _ _ _ _ _ k => k) _ 844 _ 1 pb_k280_844 _ _ _ _ _ ?_
  try simp only [pm_WI0, pm_WI1, pm_WI2, pm_WI3, pm_WI4, pm_WI5, pm_WV, pm_WW, pm_WX, pm_if, Nat.reduceSub, Nat.reduceAdd, true_and, and_true, true_or, or_true, and_self, reduceIte, Nat.reduceEqDiff, Nat.reduceLT, Nat.reduceLeDiff, Nat.reduceMul, false_and, and_false, reduceCtorEq, false_or, or_false, not_true_eq_false, not_false_eq_true, true_implies, false_implies, implies_true, lf_10, eq_self, Int32.reduceLT, Int32.reduceLE, Int32.reduceAdd, Int32.reduceSub, pm_same, pm_i_wI, pm_l_wL, pm_l_wM, pm_oR_rf, pm_oQ_rf, nI_1, LQ1, LQ2, LQ5, Nat.reduceEqDiff, false_or, false_and, d0, k0, k59, e1, c1, v1, e2, c2, v2, e3, c3, v3, e4, c4, v4, e5, c5, v5]
  refine pm_CI.mono (pm_CI.k59 hG h59 k59 (pp_patch d40 hI)) (fun r S1 hh => ?_)
  obtain ⟨h1, k1⟩ := hh
  try simp only [pm_WI0, pm_WI1, pm_WI2, pm_WI3, pm_WI4, pm_WI5, pm_WV, pm_WW, pm_WX, pm_if, Nat.reduceSub, Nat.reduceAdd, true_and, and_true, true_or, or_true, and_self, reduceIte, Nat.reduceEqDiff, Nat.reduceLT, Nat.reduceLeDiff, Nat.reduceMul, false_and, and_false, reduceCtorEq, false_or, or_false, not_true_eq_false, not_false_eq_true, true_implies, false_implies, implies_true, lf_10, eq_self, Int32.reduceLT, Int32.reduceLE, Int32.reduceAdd, Int32.reduceSub, pm_same, pm_i_wI, pm_l_wL, pm_l_wM, pm_oR_rf, pm_oQ_rf, nI_1, LQ1, LQ2, LQ5, Nat.reduceEqDiff, false_or, false_and, d0, k1, e1, c1, v1, e2, c2, v2, e3, c3, v3, e4, c4, v4, e5, c5, v5]
  refine pm_CI.mono h1 (fun r' S2 h2 => ?_)
  obtain ⟨er, A2, hI2⟩ := h2
  subst er
  have nx := fun c s (z1 : c ≤ cn + 20) (z2 : s ≤ sn + 229) => next A2 S2 c s hI2 z1 z2
  try simp only [pm_WI0, pm_WI1, pm_WI2, pm_WI3, pm_WI4, pm_WI5, pm_WV, pm_WW, pm_WX, pm_if, Nat.reduceSub, Nat.reduceAdd, true_and, and_true, true_or, or_true, and_self, reduceIte, Nat.reduceEqDiff, Nat.reduceLT, Nat.reduceLeDiff, Nat.reduceMul, false_and, and_false, reduceCtorEq, false_or, or_false, not_true_eq_false, not_false_eq_true, true_implies, false_implies, implies_true, lf_10, eq_self, Int32.reduceLT, Int32.reduceLE, Int32.reduceAdd, Int32.reduceSub, pm_same, pm_i_wI, pm_l_wL, pm_l_wM, pm_oR_rf, pm_oQ_rf, nI_1, LQ1, LQ2, LQ5, Nat.reduceEqDiff, false_or, false_and, d0]
  exact nx _ _ (by omega) (by omega)
theorem lb_867 {G : pm_G} {d : Nat} {A : iv_A} {S : pm_S} {x cn sn : Nat} {Q : pm_Q} (hG : pm_Gok G) (hd : 100 ≤ d) (hx : x + 5 < pm_gL G) (hL : pm_gL G ≤ 3072) (hI : Inv A S) (hcn : cn ≤ 500000) (hsn : sn ≤ 7000000) (next : ∀ A' S' cn' sn', Inv A' S' → cn' ≤ cn + 20 → sn' ≤ sn + 229 → pm_W G d 280 Q 1896 [.retAddr 101, .ref 0, .ref 59, .int (nI x)] [] S' cn' sn') : pm_W G d 280 Q 867 [.retAddr 101, .ref 0, .ref 59, .int (nI x)] [] S cn sn := by
  have hS := hI.sh
  have h59 : 59 < pm_n S := by have := hS.1; omega
  have k0 := sh_k0 hS
  have k59 := sh_k59 hS
  have d0 : 0 < d := by omega
  have d40 : 40 ≤ d - 1 := by omega
  have e1 : nI x + 1 = nI (x + 1) := nI_add x 1
  have c1 := nI_clamp (n := x + 1) (by omega)
  have v1 := vp_in_nI (n := x + 1) (N := pm_gL G) (by omega) (by omega)
  have e2 : nI x + 2 = nI (x + 2) := nI_add x 2
  have c2 := nI_clamp (n := x + 2) (by omega)
  have v2 := vp_in_nI (n := x + 2) (N := pm_gL G) (by omega) (by omega)
  have e3 : nI x + 3 = nI (x + 3) := nI_add x 3
  have c3 := nI_clamp (n := x + 3) (by omega)
  have v3 := vp_in_nI (n := x + 3) (N := pm_gL G) (by omega) (by omega)
  have e4 : nI x + 4 = nI (x + 4) := nI_add x 4
  have c4 := nI_clamp (n := x + 4) (by omega)
  have v4 := vp_in_nI (n := x + 4) (N := pm_gL G) (by omega) (by omega)
  have e5 : nI x + 5 = nI (x + 5) := nI_add x 5
  have c5 := nI_clamp (n := x + 5) (by omega)
  have v5 := vp_in_nI (n := x + 5) (N := pm_gL G) (by omega) (by omega)
  refine pm_wl_ok (J := fun t _ ls st S cn sn => pm_W G d 280 Q t ls st S cn sn) (fun _ _ _ _ _ _ _ k => k) _ 867 _ 1 pb_k280_867 _ _ _ _ _ ?_
  try simp only [pm_WI0, pm_WI1, pm_WI2, pm_WI3, pm_WI4, pm_WI5, pm_WV, pm_WW, pm_WX, pm_if, Nat.reduceSub, Nat.reduceAdd, true_and, and_true, true_or, or_true, and_self, reduceIte, Nat.reduceEqDiff, Nat.reduceLT, Nat.reduceLeDiff, Nat.reduceMul, false_and, and_false, reduceCtorEq, false_or, or_false, not_true_eq_false, not_false_eq_true, true_implies, false_implies, implies_true, lf_10, eq_self, Int32.reduceLT, Int32.reduceLE, Int32.reduceAdd, Int32.reduceSub, pm_same, pm_i_wI, pm_l_wL, pm_l_wM, pm_oR_rf, pm_oQ_rf, nI_1, LQ1, LQ2, LQ5, Nat.reduceEqDiff, false_or, false_and, d0, k0, k59, e1, c1, v1, e2, c2, v2, e3, c3, v3, e4, c4, v4, e5, c5, v5]
  refine pm_CI.mono (pm_CI.k59 hG h59 k59 (pp_filed d40 hI)) (fun r S1 hh => ?_)
  obtain ⟨h1, k1⟩ := hh
  try simp only [pm_WI0, pm_WI1, pm_WI2, pm_WI3, pm_WI4, pm_WI5, pm_WV, pm_WW, pm_WX, pm_if, Nat.reduceSub, Nat.reduceAdd, true_and, and_true, true_or, or_true, and_self, reduceIte, Nat.reduceEqDiff, Nat.reduceLT, Nat.reduceLeDiff, Nat.reduceMul, false_and, and_false, reduceCtorEq, false_or, or_false, not_true_eq_false, not_false_eq_true, true_implies, false_implies, implies_true, lf_10, eq_self, Int32.reduceLT, Int32.reduceLE, Int32.reduceAdd, Int32.reduceSub, pm_same, pm_i_wI, pm_l_wL, pm_l_wM, pm_oR_rf, pm_oQ_rf, nI_1, LQ1, LQ2, LQ5, Nat.reduceEqDiff, false_or, false_and, d0, k1, e1, c1, v1, e2, c2, v2, e3, c3, v3, e4, c4, v4, e5, c5, v5]
  refine pm_CI.mono h1 (fun r' S2 h2 => ?_)
  obtain ⟨er, A2, hI2⟩ := h2
  subst er
  have nx := fun c s (z1 : c ≤ cn + 20) (z2 : s ≤ sn + 229) => next A2 S2 c s hI2 z1 z2
  try simp only [pm_WI0, pm_WI1, pm_WI2, pm_WI3, pm_WI4, pm_WI5, pm_WV, pm_WW, pm_WX, pm_if, Nat.reduceSub, Nat.reduceAdd, true_and, and_true, true_or, or_true, and_self, reduceIte, Nat.reduceEqDiff, Nat.reduceLT, Nat.reduceLeDiff, Nat.reduceMul, false_and, and_false, reduceCtorEq, false_or, or_false, not_true_eq_false, not_false_eq_true, true_implies, false_implies, implies_true, lf_10, eq_self, Int32.reduceLT, Int32.reduceLE, Int32.reduceAdd, Int32.reduceSub, pm_same, pm_i_wI, pm_l_wL, pm_l_wM, pm_oR_rf, pm_oQ_rf, nI_1, LQ1, LQ2, LQ5, Nat.reduceEqDiff, false_or, false_and, d0]
  exact nx _ _ (by omega) (by omega)
theorem lb_920 {G : pm_G} {d : Nat} {A : iv_A} {S : pm_S} {x cn sn : Nat} {Q : pm_Q} (hG : pm_Gok G) (hd : 100 ≤ d) (hx : x + 5 < pm_gL G) (hL : pm_gL G ≤ 3072) (hI : Inv A S) (hcn : cn ≤ 500000) (hsn : sn ≤ 7000000) (next : ∀ A' S' cn' sn', Inv A' S' → cn' ≤ cn + 20 → sn' ≤ sn + 229 → pm_W G d 280 Q 1896 [.retAddr 101, .ref 0, .ref 59, .int (nI x)] [] S' cn' sn') : pm_W G d 280 Q 920 [.retAddr 101, .ref 0, .ref 59, .int (nI x)] [] S cn sn := by
  have hS := hI.sh
  have h59 : 59 < pm_n S := by have := hS.1; omega
  have k0 := sh_k0 hS
  have k59 := sh_k59 hS
  have d0 : 0 < d := by omega
  have d40 : 40 ≤ d - 1 := by omega
  have e1 : nI x + 1 = nI (x + 1) := nI_add x 1
  have c1 := nI_clamp (n := x + 1) (by omega)
  have v1 := vp_in_nI (n := x + 1) (N := pm_gL G) (by omega) (by omega)
  have e2 : nI x + 2 = nI (x + 2) := nI_add x 2
  have c2 := nI_clamp (n := x + 2) (by omega)
  have v2 := vp_in_nI (n := x + 2) (N := pm_gL G) (by omega) (by omega)
  have e3 : nI x + 3 = nI (x + 3) := nI_add x 3
  have c3 := nI_clamp (n := x + 3) (by omega)
  have v3 := vp_in_nI (n := x + 3) (N := pm_gL G) (by omega) (by omega)
  have e4 : nI x + 4 = nI (x + 4) := nI_add x 4
  have c4 := nI_clamp (n := x + 4) (by omega)
  have v4 := vp_in_nI (n := x + 4) (N := pm_gL G) (by omega) (by omega)
  have e5 : nI x + 5 = nI (x + 5) := nI_add x 5
  have c5 := nI_clamp (n := x + 5) (by omega)
  have v5 := vp_in_nI (n := x + 5) (N := pm_gL G) (by omega) (by omega)
  refine pm_wl_ok (J := fun t _ ls st S cn sn => pm_W G d 280 Q t ls st S cn sn) (fun _ _ _ _ _ _ _ k => k) _ 920 _ 1 pb_k280_920 _ _ _ _ _ ?_
  try simp only [pm_WI0, pm_WI1, pm_WI2, pm_WI3, pm_WI4, pm_WI5, pm_WV, pm_WW, pm_WX, pm_if, Nat.reduceSub, Nat.reduceAdd, true_and, and_true, true_or, or_true, and_self, reduceIte, Nat.reduceEqDiff, Nat.reduceLT, Nat.reduceLeDiff, Nat.reduceMul, false_and, and_false, reduceCtorEq, false_or, or_false, not_true_eq_false, not_false_eq_true, true_implies, false_implies, implies_true, lf_10, eq_self, Int32.reduceLT, Int32.reduceLE, Int32.reduceAdd, Int32.reduceSub, pm_same, pm_i_wI, pm_l_wL, pm_l_wM, pm_oR_rf, pm_oQ_rf, nI_1, LQ1, LQ2, LQ5, Nat.reduceEqDiff, false_or, false_and, d0, k0, k59, e1, c1, v1, e2, c2, v2, e3, c3, v3, e4, c4, v4, e5, c5, v5]
  refine pm_CI.mono (pm_CI.k59 hG h59 k59 (pp_feed d40 hI)) (fun r S1 hh => ?_)
  obtain ⟨h1, k1⟩ := hh
  try simp only [pm_WI0, pm_WI1, pm_WI2, pm_WI3, pm_WI4, pm_WI5, pm_WV, pm_WW, pm_WX, pm_if, Nat.reduceSub, Nat.reduceAdd, true_and, and_true, true_or, or_true, and_self, reduceIte, Nat.reduceEqDiff, Nat.reduceLT, Nat.reduceLeDiff, Nat.reduceMul, false_and, and_false, reduceCtorEq, false_or, or_false, not_true_eq_false, not_false_eq_true, true_implies, false_implies, implies_true, lf_10, eq_self, Int32.reduceLT, Int32.reduceLE, Int32.reduceAdd, Int32.reduceSub, pm_same, pm_i_wI, pm_l_wL, pm_l_wM, pm_oR_rf, pm_oQ_rf, nI_1, LQ1, LQ2, LQ5, Nat.reduceEqDiff, false_or, false_and, d0, k1, e1, c1, v1, e2, c2, v2, e3, c3, v3, e4, c4, v4, e5, c5, v5]
  refine pm_CI.mono h1 (fun r' S2 h2 => ?_)
  obtain ⟨er, A2, hI2⟩ := h2
  subst er
  have nx := fun c s (z1 : c ≤ cn + 20) (z2 : s ≤ sn + 229) => next A2 S2 c s hI2 z1 z2
  try simp only [pm_WI0, pm_WI1, pm_WI2, pm_WI3, pm_WI4, pm_WI5, pm_WV, pm_WW, pm_WX, pm_if, Nat.reduceSub, Nat.reduceAdd, true_and, and_true, true_or, or_true, and_self, reduceIte, Nat.reduceEqDiff, Nat.reduceLT, Nat.reduceLeDiff, Nat.reduceMul, false_and, and_false, reduceCtorEq, false_or, or_false, not_true_eq_false, not_false_eq_true, true_implies, false_implies, implies_true, lf_10, eq_self, Int32.reduceLT, Int32.reduceLE, Int32.reduceAdd, Int32.reduceSub, pm_same, pm_i_wI, pm_l_wL, pm_l_wM, pm_oR_rf, pm_oQ_rf, nI_1, LQ1, LQ2, LQ5, Nat.reduceEqDiff, false_or, false_and, d0]
  exact nx _ _ (by omega) (by omega)
theorem lb_953 {G : pm_G} {d : Nat} {A : iv_A} {S : pm_S} {x cn sn : Nat} {Q : pm_Q} (hG : pm_Gok G) (hd : 100 ≤ d) (hx : x + 5 < pm_gL G) (hL : pm_gL G ≤ 3072) (hI : Inv A S) (hcn : cn ≤ 500000) (hsn : sn ≤ 7000000) (next : ∀ A' S' cn' sn', Inv A' S' → cn' ≤ cn + 20 → sn' ≤ sn + 229 → pm_W G d 280 Q 1896 [.retAddr 101, .ref 0, .ref 59, .int (nI x)] [] S' cn' sn') : pm_W G d 280 Q 953 [.retAddr 101, .ref 0, .ref 59, .int (nI x)] [] S cn sn := by
  have hS := hI.sh
  have h59 : 59 < pm_n S := by have := hS.1; omega
  have k0 := sh_k0 hS
  have k59 := sh_k59 hS
  have d0 : 0 < d := by omega
  have d40 : 40 ≤ d - 1 := by omega
  have e1 : nI x + 1 = nI (x + 1) := nI_add x 1
  have c1 := nI_clamp (n := x + 1) (by omega)
  have v1 := vp_in_nI (n := x + 1) (N := pm_gL G) (by omega) (by omega)
  have e2 : nI x + 2 = nI (x + 2) := nI_add x 2
  have c2 := nI_clamp (n := x + 2) (by omega)
  have v2 := vp_in_nI (n := x + 2) (N := pm_gL G) (by omega) (by omega)
  have e3 : nI x + 3 = nI (x + 3) := nI_add x 3
  have c3 := nI_clamp (n := x + 3) (by omega)
  have v3 := vp_in_nI (n := x + 3) (N := pm_gL G) (by omega) (by omega)
  have e4 : nI x + 4 = nI (x + 4) := nI_add x 4
  have c4 := nI_clamp (n := x + 4) (by omega)
  have v4 := vp_in_nI (n := x + 4) (N := pm_gL G) (by omega) (by omega)
  have e5 : nI x + 5 = nI (x + 5) := nI_add x 5
  have c5 := nI_clamp (n := x + 5) (by omega)
  have v5 := vp_in_nI (n := x + 5) (N := pm_gL G) (by omega) (by omega)
  have b1 : cn + 7 ≤ 600000 := by omega
  have b2 : sn + 229 ≤ 7302250 := by omega
  refine pm_wl_ok (J := fun t _ ls st S cn sn => pm_W G d 280 Q t ls st S cn sn) (fun _ _ _ _ _ _ _ k => k) _ 953 _ 1 pb_k280_953 _ _ _ _ _ ?_
  try simp only [pm_WI0, pm_WI1, pm_WI2, pm_WI3, pm_WI4, pm_WI5, pm_WV, pm_WW, pm_WX, pm_if, Nat.reduceSub, Nat.reduceAdd, true_and, and_true, true_or, or_true, and_self, reduceIte, Nat.reduceEqDiff, Nat.reduceLT, Nat.reduceLeDiff, Nat.reduceMul, false_and, and_false, reduceCtorEq, false_or, or_false, not_true_eq_false, not_false_eq_true, true_implies, false_implies, implies_true, lf_10, eq_self, Int32.reduceLT, Int32.reduceLE, Int32.reduceAdd, Int32.reduceSub, pm_same, pm_i_wI, pm_l_wL, pm_l_wM, pm_oR_rf, pm_oQ_rf, nI_1, LQ1, LQ2, LQ5, Nat.reduceEqDiff, false_or, false_and, d0, k0, k59, e1, c1, v1, e2, c2, v2, e3, c3, v3, e4, c4, v4, e5, c5, v5, b1, b2]
  refine pm_CI.mono (pm_CI.k59 hG h59 k59 (pp_law d40 hI)) (fun r S1 hh => ?_)
  obtain ⟨h1, k1⟩ := hh
  try simp only [pm_WI0, pm_WI1, pm_WI2, pm_WI3, pm_WI4, pm_WI5, pm_WV, pm_WW, pm_WX, pm_if, Nat.reduceSub, Nat.reduceAdd, true_and, and_true, true_or, or_true, and_self, reduceIte, Nat.reduceEqDiff, Nat.reduceLT, Nat.reduceLeDiff, Nat.reduceMul, false_and, and_false, reduceCtorEq, false_or, or_false, not_true_eq_false, not_false_eq_true, true_implies, false_implies, implies_true, lf_10, eq_self, Int32.reduceLT, Int32.reduceLE, Int32.reduceAdd, Int32.reduceSub, pm_same, pm_i_wI, pm_l_wL, pm_l_wM, pm_oR_rf, pm_oQ_rf, nI_1, LQ1, LQ2, LQ5, Nat.reduceEqDiff, false_or, false_and, d0, k1, e1, c1, v1, e2, c2, v2, e3, c3, v3, e4, c4, v4, e5, c5, v5, b1, b2]
  refine pm_CI.mono h1 (fun r' S2 h2 => ?_)
  obtain ⟨er, A2, hI2⟩ := h2
  subst er
  have nx := fun c s (z1 : c ≤ cn + 20) (z2 : s ≤ sn + 229) => next A2 S2 c s hI2 z1 z2
  try simp only [pm_WI0, pm_WI1, pm_WI2, pm_WI3, pm_WI4, pm_WI5, pm_WV, pm_WW, pm_WX, pm_if, Nat.reduceSub, Nat.reduceAdd, true_and, and_true, true_or, or_true, and_self, reduceIte, Nat.reduceEqDiff, Nat.reduceLT, Nat.reduceLeDiff, Nat.reduceMul, false_and, and_false, reduceCtorEq, false_or, or_false, not_true_eq_false, not_false_eq_true, true_implies, false_implies, implies_true, lf_10, eq_self, Int32.reduceLT, Int32.reduceLE, Int32.reduceAdd, Int32.reduceSub, pm_same, pm_i_wI, pm_l_wL, pm_l_wM, pm_oR_rf, pm_oQ_rf, nI_1, LQ1, LQ2, LQ5, Nat.reduceEqDiff, false_or, false_and, d0]
  exact nx _ _ (by omega) (by omega)
theorem lb_986 {G : pm_G} {d : Nat} {A : iv_A} {S : pm_S} {x cn sn : Nat} {Q : pm_Q} (hG : pm_Gok G) (hd : 100 ≤ d) (hx : x + 5 < pm_gL G) (hL : pm_gL G ≤ 3072) (hI : Inv A S) (hcn : cn ≤ 500000) (hsn : sn ≤ 7000000) (next : ∀ A' S' cn' sn', Inv A' S' → cn' ≤ cn + 20 → sn' ≤ sn + 229 → pm_W G d 280 Q 1896 [.retAddr 101, .ref 0, .ref 59, .int (nI x)] [] S' cn' sn') : pm_W G d 280 Q 986 [.retAddr 101, .ref 0, .ref 59, .int (nI x)] [] S cn sn := by
  have hS := hI.sh
  have h59 : 59 < pm_n S := by have := hS.1; omega
  have k0 := sh_k0 hS
  have k59 := sh_k59 hS
  have d0 : 0 < d := by omega
  have d40 : 40 ≤ d - 1 := by omega
  have e1 : nI x + 1 = nI (x + 1) := nI_add x 1
  have c1 := nI_clamp (n := x + 1) (by omega)
  have v1 := vp_in_nI (n := x + 1) (N := pm_gL G) (by omega) (by omega)
  have e2 : nI x + 2 = nI (x + 2) := nI_add x 2
  have c2 := nI_clamp (n := x + 2) (by omega)
  have v2 := vp_in_nI (n := x + 2) (N := pm_gL G) (by omega) (by omega)
  have e3 : nI x + 3 = nI (x + 3) := nI_add x 3
  have c3 := nI_clamp (n := x + 3) (by omega)
  have v3 := vp_in_nI (n := x + 3) (N := pm_gL G) (by omega) (by omega)
  have e4 : nI x + 4 = nI (x + 4) := nI_add x 4
  have c4 := nI_clamp (n := x + 4) (by omega)
  have v4 := vp_in_nI (n := x + 4) (N := pm_gL G) (by omega) (by omega)
  have e5 : nI x + 5 = nI (x + 5) := nI_add x 5
  have c5 := nI_clamp (n := x + 5) (by omega)
  have v5 := vp_in_nI (n := x + 5) (N := pm_gL G) (by omega) (by omega)
  refine pm_wl_ok (J := fun t _ ls st S cn sn => pm_W G d 280 Q t ls st S cn sn) (fun _ _ _ _ _ _ _ k => k) _ 986 _ 1 pb_k280_986 _ _ _ _ _ ?_
  try simp only [pm_WI0, pm_WI1, pm_WI2, pm_WI3, pm_WI4, pm_WI5, pm_WV, pm_WW, pm_WX, pm_if, Nat.reduceSub, Nat.reduceAdd, true_and, and_true, true_or, or_true, and_self, reduceIte, Nat.reduceEqDiff, Nat.reduceLT, Nat.reduceLeDiff, Nat.reduceMul, false_and, and_false, reduceCtorEq, false_or, or_false, not_true_eq_false, not_false_eq_true, true_implies, false_implies, implies_true, lf_10, eq_self, Int32.reduceLT, Int32.reduceLE, Int32.reduceAdd, Int32.reduceSub, pm_same, pm_i_wI, pm_l_wL, pm_l_wM, pm_oR_rf, pm_oQ_rf, nI_1, LQ1, LQ2, LQ5, Nat.reduceEqDiff, false_or, false_and, d0, k0, k59, e1, c1, v1, e2, c2, v2, e3, c3, v3, e4, c4, v4, e5, c5, v5]
  refine pm_CI.mono (pm_CI.k59 hG h59 k59 (pp_lawful d40 hI)) (fun r S1 hh => ?_)
  obtain ⟨h1, k1⟩ := hh
  try simp only [pm_WI0, pm_WI1, pm_WI2, pm_WI3, pm_WI4, pm_WI5, pm_WV, pm_WW, pm_WX, pm_if, Nat.reduceSub, Nat.reduceAdd, true_and, and_true, true_or, or_true, and_self, reduceIte, Nat.reduceEqDiff, Nat.reduceLT, Nat.reduceLeDiff, Nat.reduceMul, false_and, and_false, reduceCtorEq, false_or, or_false, not_true_eq_false, not_false_eq_true, true_implies, false_implies, implies_true, lf_10, eq_self, Int32.reduceLT, Int32.reduceLE, Int32.reduceAdd, Int32.reduceSub, pm_same, pm_i_wI, pm_l_wL, pm_l_wM, pm_oR_rf, pm_oQ_rf, nI_1, LQ1, LQ2, LQ5, Nat.reduceEqDiff, false_or, false_and, d0, k1, e1, c1, v1, e2, c2, v2, e3, c3, v3, e4, c4, v4, e5, c5, v5]
  refine pm_CI.mono h1 (fun r' S2 h2 => ?_)
  obtain ⟨er, A2, hI2⟩ := h2
  subst er
  have nx := fun c s (z1 : c ≤ cn + 20) (z2 : s ≤ sn + 229) => next A2 S2 c s hI2 z1 z2
  try simp only [pm_WI0, pm_WI1, pm_WI2, pm_WI3, pm_WI4, pm_WI5, pm_WV, pm_WW, pm_WX, pm_if, Nat.reduceSub, Nat.reduceAdd, true_and, and_true, true_or, or_true, and_self, reduceIte, Nat.reduceEqDiff, Nat.reduceLT, Nat.reduceLeDiff, Nat.reduceMul, false_and, and_false, reduceCtorEq, false_or, or_false, not_true_eq_false, not_false_eq_true, true_implies, false_implies, implies_true, lf_10, eq_self, Int32.reduceLT, Int32.reduceLE, Int32.reduceAdd, Int32.reduceSub, pm_same, pm_i_wI, pm_l_wL, pm_l_wM, pm_oR_rf, pm_oQ_rf, nI_1, LQ1, LQ2, LQ5, Nat.reduceEqDiff, false_or, false_and, d0]
  exact nx _ _ (by omega) (by omega)
theorem lb_1029 {G : pm_G} {d : Nat} {A : iv_A} {S : pm_S} {x cn sn : Nat} {Q : pm_Q} (hG : pm_Gok G) (hd : 100 ≤ d) (hx : x + 5 < pm_gL G) (hL : pm_gL G ≤ 3072) (hI : Inv A S) (hcn : cn ≤ 500000) (hsn : sn ≤ 7000000) (next : ∀ A' S' cn' sn', Inv A' S' → cn' ≤ cn + 20 → sn' ≤ sn + 229 → pm_W G d 280 Q 1896 [.retAddr 101, .ref 0, .ref 59, .int (nI x)] [] S' cn' sn') : pm_W G d 280 Q 1029 [.retAddr 101, .ref 0, .ref 59, .int (nI x)] [] S cn sn := by
  have hS := hI.sh
  have h59 : 59 < pm_n S := by have := hS.1; omega
  have k0 := sh_k0 hS
  have k59 := sh_k59 hS
  have d0 : 0 < d := by omega
  have d40 : 40 ≤ d - 1 := by omega
  have e1 : nI x + 1 = nI (x + 1) := nI_add x 1
  have c1 := nI_clamp (n := x + 1) (by omega)
  have v1 := vp_in_nI (n := x + 1) (N := pm_gL G) (by omega) (by omega)
  have e2 : nI x + 2 = nI (x + 2) := nI_add x 2
  have c2 := nI_clamp (n := x + 2) (by omega)
  have v2 := vp_in_nI (n := x + 2) (N := pm_gL G) (by omega) (by omega)
  have e3 : nI x + 3 = nI (x + 3) := nI_add x 3
  have c3 := nI_clamp (n := x + 3) (by omega)
  have v3 := vp_in_nI (n := x + 3) (N := pm_gL G) (by omega) (by omega)
  have e4 : nI x + 4 = nI (x + 4) := nI_add x 4
  have c4 := nI_clamp (n := x + 4) (by omega)
  have v4 := vp_in_nI (n := x + 4) (N := pm_gL G) (by omega) (by omega)
  have e5 : nI x + 5 = nI (x + 5) := nI_add x 5
  have c5 := nI_clamp (n := x + 5) (by omega)
  have v5 := vp_in_nI (n := x + 5) (N := pm_gL G) (by omega) (by omega)
  refine pm_wl_ok (J := fun t _ ls st S cn sn => pm_W G d 280 Q t ls st S cn sn) (fun _ _ _ _ _ _ _ k => k) _ 1029 _ 1 pb_k280_1029 _ _ _ _ _ ?_
  try simp only [pm_WI0, pm_WI1, pm_WI2, pm_WI3, pm_WI4, pm_WI5, pm_WV, pm_WW, pm_WX, pm_if, Nat.reduceSub, Nat.reduceAdd, true_and, and_true, true_or, or_true, and_self, reduceIte, Nat.reduceEqDiff, Nat.reduceLT, Nat.reduceLeDiff, Nat.reduceMul, false_and, and_false, reduceCtorEq, false_or, or_false, not_true_eq_false, not_false_eq_true, true_implies, false_implies, implies_true, lf_10, eq_self, Int32.reduceLT, Int32.reduceLE, Int32.reduceAdd, Int32.reduceSub, pm_same, pm_i_wI, pm_l_wL, pm_l_wM, pm_oR_rf, pm_oQ_rf, nI_1, LQ1, LQ2, LQ5, Nat.reduceEqDiff, false_or, false_and, d0, k0, k59, e1, c1, v1, e2, c2, v2, e3, c3, v3, e4, c4, v4, e5, c5, v5]
  refine pm_CI.mono (pm_CI.k59 hG h59 k59 (pp_owes d40 hI)) (fun r S1 hh => ?_)
  obtain ⟨h1, k1⟩ := hh
  try simp only [pm_WI0, pm_WI1, pm_WI2, pm_WI3, pm_WI4, pm_WI5, pm_WV, pm_WW, pm_WX, pm_if, Nat.reduceSub, Nat.reduceAdd, true_and, and_true, true_or, or_true, and_self, reduceIte, Nat.reduceEqDiff, Nat.reduceLT, Nat.reduceLeDiff, Nat.reduceMul, false_and, and_false, reduceCtorEq, false_or, or_false, not_true_eq_false, not_false_eq_true, true_implies, false_implies, implies_true, lf_10, eq_self, Int32.reduceLT, Int32.reduceLE, Int32.reduceAdd, Int32.reduceSub, pm_same, pm_i_wI, pm_l_wL, pm_l_wM, pm_oR_rf, pm_oQ_rf, nI_1, LQ1, LQ2, LQ5, Nat.reduceEqDiff, false_or, false_and, d0, k1, e1, c1, v1, e2, c2, v2, e3, c3, v3, e4, c4, v4, e5, c5, v5]
  refine pm_CI.mono h1 (fun r' S2 h2 => ?_)
  obtain ⟨er, A2, hI2⟩ := h2
  subst er
  have nx := fun c s (z1 : c ≤ cn + 20) (z2 : s ≤ sn + 229) => next A2 S2 c s hI2 z1 z2
  try simp only [pm_WI0, pm_WI1, pm_WI2, pm_WI3, pm_WI4, pm_WI5, pm_WV, pm_WW, pm_WX, pm_if, Nat.reduceSub, Nat.reduceAdd, true_and, and_true, true_or, or_true, and_self, reduceIte, Nat.reduceEqDiff, Nat.reduceLT, Nat.reduceLeDiff, Nat.reduceMul, false_and, and_false, reduceCtorEq, false_or, or_false, not_true_eq_false, not_false_eq_true, true_implies, false_implies, implies_true, lf_10, eq_self, Int32.reduceLT, Int32.reduceLE, Int32.reduceAdd, Int32.reduceSub, pm_same, pm_i_wI, pm_l_wL, pm_l_wM, pm_oR_rf, pm_oQ_rf, nI_1, LQ1, LQ2, LQ5, Nat.reduceEqDiff, false_or, false_and, d0]
  exact nx _ _ (by omega) (by omega)
theorem lb_1062 {G : pm_G} {d : Nat} {A : iv_A} {S : pm_S} {x cn sn : Nat} {Q : pm_Q} (hG : pm_Gok G) (hd : 100 ≤ d) (hx : x + 5 < pm_gL G) (hL : pm_gL G ≤ 3072) (hI : Inv A S) (hcn : cn ≤ 500000) (hsn : sn ≤ 7000000) (next : ∀ A' S' cn' sn', Inv A' S' → cn' ≤ cn + 20 → sn' ≤ sn + 229 → pm_W G d 280 Q 1896 [.retAddr 101, .ref 0, .ref 59, .int (nI x)] [] S' cn' sn') : pm_W G d 280 Q 1062 [.retAddr 101, .ref 0, .ref 59, .int (nI x)] [] S cn sn := by
  have hS := hI.sh
  have h59 : 59 < pm_n S := by have := hS.1; omega
  have k0 := sh_k0 hS
  have k59 := sh_k59 hS
  have d0 : 0 < d := by omega
  have d40 : 40 ≤ d - 1 := by omega
  have e1 : nI x + 1 = nI (x + 1) := nI_add x 1
  have c1 := nI_clamp (n := x + 1) (by omega)
  have v1 := vp_in_nI (n := x + 1) (N := pm_gL G) (by omega) (by omega)
  have e2 : nI x + 2 = nI (x + 2) := nI_add x 2
  have c2 := nI_clamp (n := x + 2) (by omega)
  have v2 := vp_in_nI (n := x + 2) (N := pm_gL G) (by omega) (by omega)
  have e3 : nI x + 3 = nI (x + 3) := nI_add x 3
  have c3 := nI_clamp (n := x + 3) (by omega)
  have v3 := vp_in_nI (n := x + 3) (N := pm_gL G) (by omega) (by omega)
  have e4 : nI x + 4 = nI (x + 4) := nI_add x 4
  have c4 := nI_clamp (n := x + 4) (by omega)
  have v4 := vp_in_nI (n := x + 4) (N := pm_gL G) (by omega) (by omega)
  have e5 : nI x + 5 = nI (x + 5) := nI_add x 5
  have c5 := nI_clamp (n := x + 5) (by omega)
  have v5 := vp_in_nI (n := x + 5) (N := pm_gL G) (by omega) (by omega)
  refine pm_wl_ok (J := fun t _ ls st S cn sn => pm_W G d 280 Q t ls st S cn sn) (fun _ _ _ _ _ _ _ k => k) _ 1062 _ 1 pb_k280_1062 _ _ _ _ _ ?_
  try simp only [pm_WI0, pm_WI1, pm_WI2, pm_WI3, pm_WI4, pm_WI5, pm_WV, pm_WW, pm_WX, pm_if, Nat.reduceSub, Nat.reduceAdd, true_and, and_true, true_or, or_true, and_self, reduceIte, Nat.reduceEqDiff, Nat.reduceLT, Nat.reduceLeDiff, Nat.reduceMul, false_and, and_false, reduceCtorEq, false_or, or_false, not_true_eq_false, not_false_eq_true, true_implies, false_implies, implies_true, lf_10, eq_self, Int32.reduceLT, Int32.reduceLE, Int32.reduceAdd, Int32.reduceSub, pm_same, pm_i_wI, pm_l_wL, pm_l_wM, pm_oR_rf, pm_oQ_rf, nI_1, LQ1, LQ2, LQ5, Nat.reduceEqDiff, false_or, false_and, d0, k0, k59, e1, c1, v1, e2, c2, v2, e3, c3, v3, e4, c4, v4, e5, c5, v5]
  refine pm_CI.mono (pm_CI.k59 hG h59 k59 (pp_owed d40 hI)) (fun r S1 hh => ?_)
  obtain ⟨h1, k1⟩ := hh
  try simp only [pm_WI0, pm_WI1, pm_WI2, pm_WI3, pm_WI4, pm_WI5, pm_WV, pm_WW, pm_WX, pm_if, Nat.reduceSub, Nat.reduceAdd, true_and, and_true, true_or, or_true, and_self, reduceIte, Nat.reduceEqDiff, Nat.reduceLT, Nat.reduceLeDiff, Nat.reduceMul, false_and, and_false, reduceCtorEq, false_or, or_false, not_true_eq_false, not_false_eq_true, true_implies, false_implies, implies_true, lf_10, eq_self, Int32.reduceLT, Int32.reduceLE, Int32.reduceAdd, Int32.reduceSub, pm_same, pm_i_wI, pm_l_wL, pm_l_wM, pm_oR_rf, pm_oQ_rf, nI_1, LQ1, LQ2, LQ5, Nat.reduceEqDiff, false_or, false_and, d0, k1, e1, c1, v1, e2, c2, v2, e3, c3, v3, e4, c4, v4, e5, c5, v5]
  refine pm_CI.mono h1 (fun r' S2 h2 => ?_)
  obtain ⟨er, A2, hI2⟩ := h2
  subst er
  have nx := fun c s (z1 : c ≤ cn + 20) (z2 : s ≤ sn + 229) => next A2 S2 c s hI2 z1 z2
  try simp only [pm_WI0, pm_WI1, pm_WI2, pm_WI3, pm_WI4, pm_WI5, pm_WV, pm_WW, pm_WX, pm_if, Nat.reduceSub, Nat.reduceAdd, true_and, and_true, true_or, or_true, and_self, reduceIte, Nat.reduceEqDiff, Nat.reduceLT, Nat.reduceLeDiff, Nat.reduceMul, false_and, and_false, reduceCtorEq, false_or, or_false, not_true_eq_false, not_false_eq_true, true_implies, false_implies, implies_true, lf_10, eq_self, Int32.reduceLT, Int32.reduceLE, Int32.reduceAdd, Int32.reduceSub, pm_same, pm_i_wI, pm_l_wL, pm_l_wM, pm_oR_rf, pm_oQ_rf, nI_1, LQ1, LQ2, LQ5, Nat.reduceEqDiff, false_or, false_and, d0]
  exact nx _ _ (by omega) (by omega)
theorem lb_1115 {G : pm_G} {d : Nat} {A : iv_A} {S : pm_S} {x cn sn : Nat} {Q : pm_Q} (hG : pm_Gok G) (hd : 100 ≤ d) (hx : x + 5 < pm_gL G) (hL : pm_gL G ≤ 3072) (hI : Inv A S) (hcn : cn ≤ 500000) (hsn : sn ≤ 7000000) (next : ∀ A' S' cn' sn', Inv A' S' → cn' ≤ cn + 20 → sn' ≤ sn + 229 → pm_W G d 280 Q 1896 [.retAddr 101, .ref 0, .ref 59, .int (nI x)] [] S' cn' sn') : pm_W G d 280 Q 1115 [.retAddr 101, .ref 0, .ref 59, .int (nI x)] [] S cn sn := by
  have hS := hI.sh
  have h59 : 59 < pm_n S := by have := hS.1; omega
  have k0 := sh_k0 hS
  have k59 := sh_k59 hS
  have d0 : 0 < d := by omega
  have d40 : 40 ≤ d - 1 := by omega
  have e1 : nI x + 1 = nI (x + 1) := nI_add x 1
  have c1 := nI_clamp (n := x + 1) (by omega)
  have v1 := vp_in_nI (n := x + 1) (N := pm_gL G) (by omega) (by omega)
  have e2 : nI x + 2 = nI (x + 2) := nI_add x 2
  have c2 := nI_clamp (n := x + 2) (by omega)
  have v2 := vp_in_nI (n := x + 2) (N := pm_gL G) (by omega) (by omega)
  have e3 : nI x + 3 = nI (x + 3) := nI_add x 3
  have c3 := nI_clamp (n := x + 3) (by omega)
  have v3 := vp_in_nI (n := x + 3) (N := pm_gL G) (by omega) (by omega)
  have e4 : nI x + 4 = nI (x + 4) := nI_add x 4
  have c4 := nI_clamp (n := x + 4) (by omega)
  have v4 := vp_in_nI (n := x + 4) (N := pm_gL G) (by omega) (by omega)
  have e5 : nI x + 5 = nI (x + 5) := nI_add x 5
  have c5 := nI_clamp (n := x + 5) (by omega)
  have v5 := vp_in_nI (n := x + 5) (N := pm_gL G) (by omega) (by omega)
  refine pm_wl_ok (J := fun t _ ls st S cn sn => pm_W G d 280 Q t ls st S cn sn) (fun _ _ _ _ _ _ _ k => k) _ 1115 _ 1 pb_k280_1115 _ _ _ _ _ ?_
  try simp only [pm_WI0, pm_WI1, pm_WI2, pm_WI3, pm_WI4, pm_WI5, pm_WV, pm_WW, pm_WX, pm_if, Nat.reduceSub, Nat.reduceAdd, true_and, and_true, true_or, or_true, and_self, reduceIte, Nat.reduceEqDiff, Nat.reduceLT, Nat.reduceLeDiff, Nat.reduceMul, false_and, and_false, reduceCtorEq, false_or, or_false, not_true_eq_false, not_false_eq_true, true_implies, false_implies, implies_true, lf_10, eq_self, Int32.reduceLT, Int32.reduceLE, Int32.reduceAdd, Int32.reduceSub, pm_same, pm_i_wI, pm_l_wL, pm_l_wM, pm_oR_rf, pm_oQ_rf, nI_1, LQ1, LQ2, LQ5, Nat.reduceEqDiff, false_or, false_and, d0, k0, k59, e1, c1, v1, e2, c2, v2, e3, c3, v3, e4, c4, v4, e5, c5, v5]
  refine pm_CI.mono (pm_CI.k59 hG h59 k59 (pp_good d40 hI)) (fun r S1 hh => ?_)
  obtain ⟨h1, k1⟩ := hh
  try simp only [pm_WI0, pm_WI1, pm_WI2, pm_WI3, pm_WI4, pm_WI5, pm_WV, pm_WW, pm_WX, pm_if, Nat.reduceSub, Nat.reduceAdd, true_and, and_true, true_or, or_true, and_self, reduceIte, Nat.reduceEqDiff, Nat.reduceLT, Nat.reduceLeDiff, Nat.reduceMul, false_and, and_false, reduceCtorEq, false_or, or_false, not_true_eq_false, not_false_eq_true, true_implies, false_implies, implies_true, lf_10, eq_self, Int32.reduceLT, Int32.reduceLE, Int32.reduceAdd, Int32.reduceSub, pm_same, pm_i_wI, pm_l_wL, pm_l_wM, pm_oR_rf, pm_oQ_rf, nI_1, LQ1, LQ2, LQ5, Nat.reduceEqDiff, false_or, false_and, d0, k1, e1, c1, v1, e2, c2, v2, e3, c3, v3, e4, c4, v4, e5, c5, v5]
  refine pm_CI.mono h1 (fun r' S2 h2 => ?_)
  obtain ⟨er, A2, hI2⟩ := h2
  subst er
  have nx := fun c s (z1 : c ≤ cn + 20) (z2 : s ≤ sn + 229) => next A2 S2 c s hI2 z1 z2
  try simp only [pm_WI0, pm_WI1, pm_WI2, pm_WI3, pm_WI4, pm_WI5, pm_WV, pm_WW, pm_WX, pm_if, Nat.reduceSub, Nat.reduceAdd, true_and, and_true, true_or, or_true, and_self, reduceIte, Nat.reduceEqDiff, Nat.reduceLT, Nat.reduceLeDiff, Nat.reduceMul, false_and, and_false, reduceCtorEq, false_or, or_false, not_true_eq_false, not_false_eq_true, true_implies, false_implies, implies_true, lf_10, eq_self, Int32.reduceLT, Int32.reduceLE, Int32.reduceAdd, Int32.reduceSub, pm_same, pm_i_wI, pm_l_wL, pm_l_wM, pm_oR_rf, pm_oQ_rf, nI_1, LQ1, LQ2, LQ5, Nat.reduceEqDiff, false_or, false_and, d0]
  exact nx _ _ (by omega) (by omega)
theorem lb_1148 {G : pm_G} {d : Nat} {A : iv_A} {S : pm_S} {x cn sn : Nat} {Q : pm_Q} (hG : pm_Gok G) (hd : 100 ≤ d) (hx : x + 5 < pm_gL G) (hL : pm_gL G ≤ 3072) (hI : Inv A S) (hcn : cn ≤ 500000) (hsn : sn ≤ 7000000) (next : ∀ A' S' cn' sn', Inv A' S' → cn' ≤ cn + 20 → sn' ≤ sn + 229 → pm_W G d 280 Q 1896 [.retAddr 101, .ref 0, .ref 59, .int (nI x)] [] S' cn' sn') : pm_W G d 280 Q 1148 [.retAddr 101, .ref 0, .ref 59, .int (nI x)] [] S cn sn := by
  have hS := hI.sh
  have h59 : 59 < pm_n S := by have := hS.1; omega
  have k0 := sh_k0 hS
  have k59 := sh_k59 hS
  have d0 : 0 < d := by omega
  have d40 : 40 ≤ d - 1 := by omega
  have e1 : nI x + 1 = nI (x + 1) := nI_add x 1
  have c1 := nI_clamp (n := x + 1) (by omega)
  have v1 := vp_in_nI (n := x + 1) (N := pm_gL G) (by omega) (by omega)
  have e2 : nI x + 2 = nI (x + 2) := nI_add x 2
  have c2 := nI_clamp (n := x + 2) (by omega)
  have v2 := vp_in_nI (n := x + 2) (N := pm_gL G) (by omega) (by omega)
  have e3 : nI x + 3 = nI (x + 3) := nI_add x 3
  have c3 := nI_clamp (n := x + 3) (by omega)
  have v3 := vp_in_nI (n := x + 3) (N := pm_gL G) (by omega) (by omega)
  have e4 : nI x + 4 = nI (x + 4) := nI_add x 4
  have c4 := nI_clamp (n := x + 4) (by omega)
  have v4 := vp_in_nI (n := x + 4) (N := pm_gL G) (by omega) (by omega)
  have e5 : nI x + 5 = nI (x + 5) := nI_add x 5
  have c5 := nI_clamp (n := x + 5) (by omega)
  have v5 := vp_in_nI (n := x + 5) (N := pm_gL G) (by omega) (by omega)
  refine pm_wl_ok (J := fun t _ ls st S cn sn => pm_W G d 280 Q t ls st S cn sn) (fun _ _ _ _ _ _ _ k => k) _ 1148 _ 1 pb_k280_1148 _ _ _ _ _ ?_
  try simp only [pm_WI0, pm_WI1, pm_WI2, pm_WI3, pm_WI4, pm_WI5, pm_WV, pm_WW, pm_WX, pm_if, Nat.reduceSub, Nat.reduceAdd, true_and, and_true, true_or, or_true, and_self, reduceIte, Nat.reduceEqDiff, Nat.reduceLT, Nat.reduceLeDiff, Nat.reduceMul, false_and, and_false, reduceCtorEq, false_or, or_false, not_true_eq_false, not_false_eq_true, true_implies, false_implies, implies_true, lf_10, eq_self, Int32.reduceLT, Int32.reduceLE, Int32.reduceAdd, Int32.reduceSub, pm_same, pm_i_wI, pm_l_wL, pm_l_wM, pm_oR_rf, pm_oQ_rf, nI_1, LQ1, LQ2, LQ5, Nat.reduceEqDiff, false_or, false_and, d0, k0, k59, e1, c1, v1, e2, c2, v2, e3, c3, v3, e4, c4, v4, e5, c5, v5]
  refine pm_CI.mono (pm_CI.k59 hG h59 k59 (pp_alike d40 hI)) (fun r S1 hh => ?_)
  obtain ⟨h1, k1⟩ := hh
  try simp only [pm_WI0, pm_WI1, pm_WI2, pm_WI3, pm_WI4, pm_WI5, pm_WV, pm_WW, pm_WX, pm_if, Nat.reduceSub, Nat.reduceAdd, true_and, and_true, true_or, or_true, and_self, reduceIte, Nat.reduceEqDiff, Nat.reduceLT, Nat.reduceLeDiff, Nat.reduceMul, false_and, and_false, reduceCtorEq, false_or, or_false, not_true_eq_false, not_false_eq_true, true_implies, false_implies, implies_true, lf_10, eq_self, Int32.reduceLT, Int32.reduceLE, Int32.reduceAdd, Int32.reduceSub, pm_same, pm_i_wI, pm_l_wL, pm_l_wM, pm_oR_rf, pm_oQ_rf, nI_1, LQ1, LQ2, LQ5, Nat.reduceEqDiff, false_or, false_and, d0, k1, e1, c1, v1, e2, c2, v2, e3, c3, v3, e4, c4, v4, e5, c5, v5]
  refine pm_CI.mono h1 (fun r' S2 h2 => ?_)
  obtain ⟨er, A2, hI2⟩ := h2
  subst er
  have nx := fun c s (z1 : c ≤ cn + 20) (z2 : s ≤ sn + 229) => next A2 S2 c s hI2 z1 z2
  try simp only [pm_WI0, pm_WI1, pm_WI2, pm_WI3, pm_WI4, pm_WI5, pm_WV, pm_WW, pm_WX, pm_if, Nat.reduceSub, Nat.reduceAdd, true_and, and_true, true_or, or_true, and_self, reduceIte, Nat.reduceEqDiff, Nat.reduceLT, Nat.reduceLeDiff, Nat.reduceMul, false_and, and_false, reduceCtorEq, false_or, or_false, not_true_eq_false, not_false_eq_true, true_implies, false_implies, implies_true, lf_10, eq_self, Int32.reduceLT, Int32.reduceLE, Int32.reduceAdd, Int32.reduceSub, pm_same, pm_i_wI, pm_l_wL, pm_l_wM, pm_oR_rf, pm_oQ_rf, nI_1, LQ1, LQ2, LQ5, Nat.reduceEqDiff, false_or, false_and, d0]
  exact nx _ _ (by omega) (by omega)
theorem lb_1181 {G : pm_G} {d : Nat} {A : iv_A} {S : pm_S} {x cn sn : Nat} {Q : pm_Q} (hG : pm_Gok G) (hd : 100 ≤ d) (hx : x + 5 < pm_gL G) (hL : pm_gL G ≤ 3072) (hI : Inv A S) (hcn : cn ≤ 500000) (hsn : sn ≤ 7000000) (next : ∀ A' S' cn' sn', Inv A' S' → cn' ≤ cn + 20 → sn' ≤ sn + 229 → pm_W G d 280 Q 1896 [.retAddr 101, .ref 0, .ref 59, .int (nI x)] [] S' cn' sn') : pm_W G d 280 Q 1181 [.retAddr 101, .ref 0, .ref 59, .int (nI x)] [] S cn sn := by
  have hS := hI.sh
  have h59 : 59 < pm_n S := by have := hS.1; omega
  have k0 := sh_k0 hS
  have k59 := sh_k59 hS
  have d0 : 0 < d := by omega
  have d40 : 40 ≤ d - 1 := by omega
  have e1 : nI x + 1 = nI (x + 1) := nI_add x 1
  have c1 := nI_clamp (n := x + 1) (by omega)
  have v1 := vp_in_nI (n := x + 1) (N := pm_gL G) (by omega) (by omega)
  have e2 : nI x + 2 = nI (x + 2) := nI_add x 2
  have c2 := nI_clamp (n := x + 2) (by omega)
  have v2 := vp_in_nI (n := x + 2) (N := pm_gL G) (by omega) (by omega)
  have e3 : nI x + 3 = nI (x + 3) := nI_add x 3
  have c3 := nI_clamp (n := x + 3) (by omega)
  have v3 := vp_in_nI (n := x + 3) (N := pm_gL G) (by omega) (by omega)
  have e4 : nI x + 4 = nI (x + 4) := nI_add x 4
  have c4 := nI_clamp (n := x + 4) (by omega)
  have v4 := vp_in_nI (n := x + 4) (N := pm_gL G) (by omega) (by omega)
  have e5 : nI x + 5 = nI (x + 5) := nI_add x 5
  have c5 := nI_clamp (n := x + 5) (by omega)
  have v5 := vp_in_nI (n := x + 5) (N := pm_gL G) (by omega) (by omega)
  refine pm_wl_ok (J := fun t _ ls st S cn sn => pm_W G d 280 Q t ls st S cn sn) (fun _ _ _ _ _ _ _ k => k) _ 1181 _ 1 pb_k280_1181 _ _ _ _ _ ?_
  try simp only [pm_WI0, pm_WI1, pm_WI2, pm_WI3, pm_WI4, pm_WI5, pm_WV, pm_WW, pm_WX, pm_if, Nat.reduceSub, Nat.reduceAdd, true_and, and_true, true_or, or_true, and_self, reduceIte, Nat.reduceEqDiff, Nat.reduceLT, Nat.reduceLeDiff, Nat.reduceMul, false_and, and_false, reduceCtorEq, false_or, or_false, not_true_eq_false, not_false_eq_true, true_implies, false_implies, implies_true, lf_10, eq_self, Int32.reduceLT, Int32.reduceLE, Int32.reduceAdd, Int32.reduceSub, pm_same, pm_i_wI, pm_l_wL, pm_l_wM, pm_oR_rf, pm_oQ_rf, nI_1, LQ1, LQ2, LQ5, Nat.reduceEqDiff, false_or, false_and, d0, k0, k59, e1, c1, v1, e2, c2, v2, e3, c3, v3, e4, c4, v4, e5, c5, v5]
  refine pm_CI.mono (pm_CI.k59 hG h59 k59 (pp_unlike d40 hI)) (fun r S1 hh => ?_)
  obtain ⟨h1, k1⟩ := hh
  try simp only [pm_WI0, pm_WI1, pm_WI2, pm_WI3, pm_WI4, pm_WI5, pm_WV, pm_WW, pm_WX, pm_if, Nat.reduceSub, Nat.reduceAdd, true_and, and_true, true_or, or_true, and_self, reduceIte, Nat.reduceEqDiff, Nat.reduceLT, Nat.reduceLeDiff, Nat.reduceMul, false_and, and_false, reduceCtorEq, false_or, or_false, not_true_eq_false, not_false_eq_true, true_implies, false_implies, implies_true, lf_10, eq_self, Int32.reduceLT, Int32.reduceLE, Int32.reduceAdd, Int32.reduceSub, pm_same, pm_i_wI, pm_l_wL, pm_l_wM, pm_oR_rf, pm_oQ_rf, nI_1, LQ1, LQ2, LQ5, Nat.reduceEqDiff, false_or, false_and, d0, k1, e1, c1, v1, e2, c2, v2, e3, c3, v3, e4, c4, v4, e5, c5, v5]
  refine pm_CI.mono h1 (fun r' S2 h2 => ?_)
  obtain ⟨er, A2, hI2⟩ := h2
  subst er
  have nx := fun c s (z1 : c ≤ cn + 20) (z2 : s ≤ sn + 229) => next A2 S2 c s hI2 z1 z2
  try simp only [pm_WI0, pm_WI1, pm_WI2, pm_WI3, pm_WI4, pm_WI5, pm_WV, pm_WW, pm_WX, pm_if, Nat.reduceSub, Nat.reduceAdd, true_and, and_true, true_or, or_true, and_self, reduceIte, Nat.reduceEqDiff, Nat.reduceLT, Nat.reduceLeDiff, Nat.reduceMul, false_and, and_false, reduceCtorEq, false_or, or_false, not_true_eq_false, not_false_eq_true, true_implies, false_implies, implies_true, lf_10, eq_self, Int32.reduceLT, Int32.reduceLE, Int32.reduceAdd, Int32.reduceSub, pm_same, pm_i_wI, pm_l_wL, pm_l_wM, pm_oR_rf, pm_oQ_rf, nI_1, LQ1, LQ2, LQ5, Nat.reduceEqDiff, false_or, false_and, d0]
  exact nx _ _ (by omega) (by omega)
theorem lb_1204 {G : pm_G} {d : Nat} {A : iv_A} {S : pm_S} {x cn sn : Nat} {Q : pm_Q} (hG : pm_Gok G) (hd : 100 ≤ d) (hx : x + 5 < pm_gL G) (hL : pm_gL G ≤ 3072) (hI : Inv A S) (hcn : cn ≤ 500000) (hsn : sn ≤ 7000000) (next : ∀ A' S' cn' sn', Inv A' S' → cn' ≤ cn + 20 → sn' ≤ sn + 229 → pm_W G d 280 Q 1896 [.retAddr 101, .ref 0, .ref 59, .int (nI x)] [] S' cn' sn') : pm_W G d 280 Q 1204 [.retAddr 101, .ref 0, .ref 59, .int (nI x)] [] S cn sn := by
  have hS := hI.sh
  have h59 : 59 < pm_n S := by have := hS.1; omega
  have k0 := sh_k0 hS
  have k59 := sh_k59 hS
  have d0 : 0 < d := by omega
  have d40 : 40 ≤ d - 1 := by omega
  have e1 : nI x + 1 = nI (x + 1) := nI_add x 1
  have c1 := nI_clamp (n := x + 1) (by omega)
  have v1 := vp_in_nI (n := x + 1) (N := pm_gL G) (by omega) (by omega)
  have e2 : nI x + 2 = nI (x + 2) := nI_add x 2
  have c2 := nI_clamp (n := x + 2) (by omega)
  have v2 := vp_in_nI (n := x + 2) (N := pm_gL G) (by omega) (by omega)
  have e3 : nI x + 3 = nI (x + 3) := nI_add x 3
  have c3 := nI_clamp (n := x + 3) (by omega)
  have v3 := vp_in_nI (n := x + 3) (N := pm_gL G) (by omega) (by omega)
  have e4 : nI x + 4 = nI (x + 4) := nI_add x 4
  have c4 := nI_clamp (n := x + 4) (by omega)
  have v4 := vp_in_nI (n := x + 4) (N := pm_gL G) (by omega) (by omega)
  have e5 : nI x + 5 = nI (x + 5) := nI_add x 5
  have c5 := nI_clamp (n := x + 5) (by omega)
  have v5 := vp_in_nI (n := x + 5) (N := pm_gL G) (by omega) (by omega)
  refine pm_wl_ok (J := fun t _ ls st S cn sn => pm_W G d 280 Q t ls st S cn sn) (fun _ _ _ _ _ _ _ k => k) _ 1204 _ 1 pb_k280_1204 _ _ _ _ _ ?_
  try simp only [pm_WI0, pm_WI1, pm_WI2, pm_WI3, pm_WI4, pm_WI5, pm_WV, pm_WW, pm_WX, pm_if, Nat.reduceSub, Nat.reduceAdd, true_and, and_true, true_or, or_true, and_self, reduceIte, Nat.reduceEqDiff, Nat.reduceLT, Nat.reduceLeDiff, Nat.reduceMul, false_and, and_false, reduceCtorEq, false_or, or_false, not_true_eq_false, not_false_eq_true, true_implies, false_implies, implies_true, lf_10, eq_self, Int32.reduceLT, Int32.reduceLE, Int32.reduceAdd, Int32.reduceSub, pm_same, pm_i_wI, pm_l_wL, pm_l_wM, pm_oR_rf, pm_oQ_rf, nI_1, LQ1, LQ2, LQ5, Nat.reduceEqDiff, false_or, false_and, d0, k0, k59, e1, c1, v1, e2, c2, v2, e3, c3, v3, e4, c4, v4, e5, c5, v5]
  refine pm_CI.mono (pm_CI.k59 hG h59 k59 (pp_cause d40 hI)) (fun r S1 hh => ?_)
  obtain ⟨h1, k1⟩ := hh
  try simp only [pm_WI0, pm_WI1, pm_WI2, pm_WI3, pm_WI4, pm_WI5, pm_WV, pm_WW, pm_WX, pm_if, Nat.reduceSub, Nat.reduceAdd, true_and, and_true, true_or, or_true, and_self, reduceIte, Nat.reduceEqDiff, Nat.reduceLT, Nat.reduceLeDiff, Nat.reduceMul, false_and, and_false, reduceCtorEq, false_or, or_false, not_true_eq_false, not_false_eq_true, true_implies, false_implies, implies_true, lf_10, eq_self, Int32.reduceLT, Int32.reduceLE, Int32.reduceAdd, Int32.reduceSub, pm_same, pm_i_wI, pm_l_wL, pm_l_wM, pm_oR_rf, pm_oQ_rf, nI_1, LQ1, LQ2, LQ5, Nat.reduceEqDiff, false_or, false_and, d0, k1, e1, c1, v1, e2, c2, v2, e3, c3, v3, e4, c4, v4, e5, c5, v5]
  refine pm_CI.mono h1 (fun r' S2 h2 => ?_)
  obtain ⟨er, A2, hI2⟩ := h2
  subst er
  have nx := fun c s (z1 : c ≤ cn + 20) (z2 : s ≤ sn + 229) => next A2 S2 c s hI2 z1 z2
  try simp only [pm_WI0, pm_WI1, pm_WI2, pm_WI3, pm_WI4, pm_WI5, pm_WV, pm_WW, pm_WX, pm_if, Nat.reduceSub, Nat.reduceAdd, true_and, and_true, true_or, or_true, and_self, reduceIte, Nat.reduceEqDiff, Nat.reduceLT, Nat.reduceLeDiff, Nat.reduceMul, false_and, and_false, reduceCtorEq, false_or, or_false, not_true_eq_false, not_false_eq_true, true_implies, false_implies, implies_true, lf_10, eq_self, Int32.reduceLT, Int32.reduceLE, Int32.reduceAdd, Int32.reduceSub, pm_same, pm_i_wI, pm_l_wL, pm_l_wM, pm_oR_rf, pm_oQ_rf, nI_1, LQ1, LQ2, LQ5, Nat.reduceEqDiff, false_or, false_and, d0]
  exact nx _ _ (by omega) (by omega)
theorem lb_1247 {G : pm_G} {d : Nat} {A : iv_A} {S : pm_S} {x cn sn : Nat} {Q : pm_Q} (hG : pm_Gok G) (hd : 100 ≤ d) (hx : x + 5 < pm_gL G) (hL : pm_gL G ≤ 3072) (hI : Inv A S) (hcn : cn ≤ 500000) (hsn : sn ≤ 7000000) (next : ∀ A' S' cn' sn', Inv A' S' → cn' ≤ cn + 20 → sn' ≤ sn + 229 → pm_W G d 280 Q 1896 [.retAddr 101, .ref 0, .ref 59, .int (nI x)] [] S' cn' sn') : pm_W G d 280 Q 1247 [.retAddr 101, .ref 0, .ref 59, .int (nI x)] [] S cn sn := by
  have hS := hI.sh
  have h59 : 59 < pm_n S := by have := hS.1; omega
  have k0 := sh_k0 hS
  have k59 := sh_k59 hS
  have d0 : 0 < d := by omega
  have d40 : 40 ≤ d - 1 := by omega
  have e1 : nI x + 1 = nI (x + 1) := nI_add x 1
  have c1 := nI_clamp (n := x + 1) (by omega)
  have v1 := vp_in_nI (n := x + 1) (N := pm_gL G) (by omega) (by omega)
  have e2 : nI x + 2 = nI (x + 2) := nI_add x 2
  have c2 := nI_clamp (n := x + 2) (by omega)
  have v2 := vp_in_nI (n := x + 2) (N := pm_gL G) (by omega) (by omega)
  have e3 : nI x + 3 = nI (x + 3) := nI_add x 3
  have c3 := nI_clamp (n := x + 3) (by omega)
  have v3 := vp_in_nI (n := x + 3) (N := pm_gL G) (by omega) (by omega)
  have e4 : nI x + 4 = nI (x + 4) := nI_add x 4
  have c4 := nI_clamp (n := x + 4) (by omega)
  have v4 := vp_in_nI (n := x + 4) (N := pm_gL G) (by omega) (by omega)
  have e5 : nI x + 5 = nI (x + 5) := nI_add x 5
  have c5 := nI_clamp (n := x + 5) (by omega)
  have v5 := vp_in_nI (n := x + 5) (N := pm_gL G) (by omega) (by omega)
  refine pm_wl_ok (J := fun t _ ls st S cn sn => pm_W G d 280 Q t ls st S cn sn) (fun _ _ _ _ _ _ _ k => k) _ 1247 _ 1 pb_k280_1247 _ _ _ _ _ ?_
  try simp only [pm_WI0, pm_WI1, pm_WI2, pm_WI3, pm_WI4, pm_WI5, pm_WV, pm_WW, pm_WX, pm_if, Nat.reduceSub, Nat.reduceAdd, true_and, and_true, true_or, or_true, and_self, reduceIte, Nat.reduceEqDiff, Nat.reduceLT, Nat.reduceLeDiff, Nat.reduceMul, false_and, and_false, reduceCtorEq, false_or, or_false, not_true_eq_false, not_false_eq_true, true_implies, false_implies, implies_true, lf_10, eq_self, Int32.reduceLT, Int32.reduceLE, Int32.reduceAdd, Int32.reduceSub, pm_same, pm_i_wI, pm_l_wL, pm_l_wM, pm_oR_rf, pm_oQ_rf, nI_1, LQ1, LQ2, LQ5, Nat.reduceEqDiff, false_or, false_and, d0, k0, k59, e1, c1, v1, e2, c2, v2, e3, c3, v3, e4, c4, v4, e5, c5, v5]
  refine pm_CI.mono (pm_CI.k59 hG h59 k59 (pp_reaches d40 hI)) (fun r S1 hh => ?_)
  obtain ⟨h1, k1⟩ := hh
  try simp only [pm_WI0, pm_WI1, pm_WI2, pm_WI3, pm_WI4, pm_WI5, pm_WV, pm_WW, pm_WX, pm_if, Nat.reduceSub, Nat.reduceAdd, true_and, and_true, true_or, or_true, and_self, reduceIte, Nat.reduceEqDiff, Nat.reduceLT, Nat.reduceLeDiff, Nat.reduceMul, false_and, and_false, reduceCtorEq, false_or, or_false, not_true_eq_false, not_false_eq_true, true_implies, false_implies, implies_true, lf_10, eq_self, Int32.reduceLT, Int32.reduceLE, Int32.reduceAdd, Int32.reduceSub, pm_same, pm_i_wI, pm_l_wL, pm_l_wM, pm_oR_rf, pm_oQ_rf, nI_1, LQ1, LQ2, LQ5, Nat.reduceEqDiff, false_or, false_and, d0, k1, e1, c1, v1, e2, c2, v2, e3, c3, v3, e4, c4, v4, e5, c5, v5]
  refine pm_CI.mono h1 (fun r' S2 h2 => ?_)
  obtain ⟨er, A2, hI2⟩ := h2
  subst er
  have nx := fun c s (z1 : c ≤ cn + 20) (z2 : s ≤ sn + 229) => next A2 S2 c s hI2 z1 z2
  try simp only [pm_WI0, pm_WI1, pm_WI2, pm_WI3, pm_WI4, pm_WI5, pm_WV, pm_WW, pm_WX, pm_if, Nat.reduceSub, Nat.reduceAdd, true_and, and_true, true_or, or_true, and_self, reduceIte, Nat.reduceEqDiff, Nat.reduceLT, Nat.reduceLeDiff, Nat.reduceMul, false_and, and_false, reduceCtorEq, false_or, or_false, not_true_eq_false, not_false_eq_true, true_implies, false_implies, implies_true, lf_10, eq_self, Int32.reduceLT, Int32.reduceLE, Int32.reduceAdd, Int32.reduceSub, pm_same, pm_i_wI, pm_l_wL, pm_l_wM, pm_oR_rf, pm_oQ_rf, nI_1, LQ1, LQ2, LQ5, Nat.reduceEqDiff, false_or, false_and, d0]
  exact nx _ _ (by omega) (by omega)
theorem lb_1280 {G : pm_G} {d : Nat} {A : iv_A} {S : pm_S} {x cn sn : Nat} {Q : pm_Q} (hG : pm_Gok G) (hd : 100 ≤ d) (hx : x + 5 < pm_gL G) (hL : pm_gL G ≤ 3072) (hI : Inv A S) (hcn : cn ≤ 500000) (hsn : sn ≤ 7000000) (next : ∀ A' S' cn' sn', Inv A' S' → cn' ≤ cn + 20 → sn' ≤ sn + 229 → pm_W G d 280 Q 1896 [.retAddr 101, .ref 0, .ref 59, .int (nI x)] [] S' cn' sn') : pm_W G d 280 Q 1280 [.retAddr 101, .ref 0, .ref 59, .int (nI x)] [] S cn sn := by
  have hS := hI.sh
  have h59 : 59 < pm_n S := by have := hS.1; omega
  have k0 := sh_k0 hS
  have k59 := sh_k59 hS
  have d0 : 0 < d := by omega
  have d40 : 40 ≤ d - 1 := by omega
  have e1 : nI x + 1 = nI (x + 1) := nI_add x 1
  have c1 := nI_clamp (n := x + 1) (by omega)
  have v1 := vp_in_nI (n := x + 1) (N := pm_gL G) (by omega) (by omega)
  have e2 : nI x + 2 = nI (x + 2) := nI_add x 2
  have c2 := nI_clamp (n := x + 2) (by omega)
  have v2 := vp_in_nI (n := x + 2) (N := pm_gL G) (by omega) (by omega)
  have e3 : nI x + 3 = nI (x + 3) := nI_add x 3
  have c3 := nI_clamp (n := x + 3) (by omega)
  have v3 := vp_in_nI (n := x + 3) (N := pm_gL G) (by omega) (by omega)
  have e4 : nI x + 4 = nI (x + 4) := nI_add x 4
  have c4 := nI_clamp (n := x + 4) (by omega)
  have v4 := vp_in_nI (n := x + 4) (N := pm_gL G) (by omega) (by omega)
  have e5 : nI x + 5 = nI (x + 5) := nI_add x 5
  have c5 := nI_clamp (n := x + 5) (by omega)
  have v5 := vp_in_nI (n := x + 5) (N := pm_gL G) (by omega) (by omega)
  refine pm_wl_ok (J := fun t _ ls st S cn sn => pm_W G d 280 Q t ls st S cn sn) (fun _ _ _ _ _ _ _ k => k) _ 1280 _ 1 pb_k280_1280 _ _ _ _ _ ?_
  try simp only [pm_WI0, pm_WI1, pm_WI2, pm_WI3, pm_WI4, pm_WI5, pm_WV, pm_WW, pm_WX, pm_if, Nat.reduceSub, Nat.reduceAdd, true_and, and_true, true_or, or_true, and_self, reduceIte, Nat.reduceEqDiff, Nat.reduceLT, Nat.reduceLeDiff, Nat.reduceMul, false_and, and_false, reduceCtorEq, false_or, or_false, not_true_eq_false, not_false_eq_true, true_implies, false_implies, implies_true, lf_10, eq_self, Int32.reduceLT, Int32.reduceLE, Int32.reduceAdd, Int32.reduceSub, pm_same, pm_i_wI, pm_l_wL, pm_l_wM, pm_oR_rf, pm_oQ_rf, nI_1, LQ1, LQ2, LQ5, Nat.reduceEqDiff, false_or, false_and, d0, k0, k59, e1, c1, v1, e2, c2, v2, e3, c3, v3, e4, c4, v4, e5, c5, v5]
  refine pm_CI.mono (pm_CI.k59 hG h59 k59 (pp_fewest d40 hI)) (fun r S1 hh => ?_)
  obtain ⟨h1, k1⟩ := hh
  try simp only [pm_WI0, pm_WI1, pm_WI2, pm_WI3, pm_WI4, pm_WI5, pm_WV, pm_WW, pm_WX, pm_if, Nat.reduceSub, Nat.reduceAdd, true_and, and_true, true_or, or_true, and_self, reduceIte, Nat.reduceEqDiff, Nat.reduceLT, Nat.reduceLeDiff, Nat.reduceMul, false_and, and_false, reduceCtorEq, false_or, or_false, not_true_eq_false, not_false_eq_true, true_implies, false_implies, implies_true, lf_10, eq_self, Int32.reduceLT, Int32.reduceLE, Int32.reduceAdd, Int32.reduceSub, pm_same, pm_i_wI, pm_l_wL, pm_l_wM, pm_oR_rf, pm_oQ_rf, nI_1, LQ1, LQ2, LQ5, Nat.reduceEqDiff, false_or, false_and, d0, k1, e1, c1, v1, e2, c2, v2, e3, c3, v3, e4, c4, v4, e5, c5, v5]
  refine pm_CI.mono h1 (fun r' S2 h2 => ?_)
  obtain ⟨er, A2, hI2⟩ := h2
  subst er
  have nx := fun c s (z1 : c ≤ cn + 20) (z2 : s ≤ sn + 229) => next A2 S2 c s hI2 z1 z2
  try simp only [pm_WI0, pm_WI1, pm_WI2, pm_WI3, pm_WI4, pm_WI5, pm_WV, pm_WW, pm_WX, pm_if, Nat.reduceSub, Nat.reduceAdd, true_and, and_true, true_or, or_true, and_self, reduceIte, Nat.reduceEqDiff, Nat.reduceLT, Nat.reduceLeDiff, Nat.reduceMul, false_and, and_false, reduceCtorEq, false_or, or_false, not_true_eq_false, not_false_eq_true, true_implies, false_implies, implies_true, lf_10, eq_self, Int32.reduceLT, Int32.reduceLE, Int32.reduceAdd, Int32.reduceSub, pm_same, pm_i_wI, pm_l_wL, pm_l_wM, pm_oR_rf, pm_oQ_rf, nI_1, LQ1, LQ2, LQ5, Nat.reduceEqDiff, false_or, false_and, d0]
  exact nx _ _ (by omega) (by omega)
theorem lb_1293 {G : pm_G} {d : Nat} {A : iv_A} {S : pm_S} {x cn sn : Nat} {Q : pm_Q} (hG : pm_Gok G) (hd : 100 ≤ d) (hx : x + 5 < pm_gL G) (hL : pm_gL G ≤ 3072) (hI : Inv A S) (hcn : cn ≤ 500000) (hsn : sn ≤ 7000000) (next : ∀ A' S' cn' sn', Inv A' S' → cn' ≤ cn + 20 → sn' ≤ sn + 229 → pm_W G d 280 Q 1896 [.retAddr 101, .ref 0, .ref 59, .int (nI x)] [] S' cn' sn') : pm_W G d 280 Q 1293 [.retAddr 101, .ref 0, .ref 59, .int (nI x)] [] S cn sn := by
  have hS := hI.sh
  have h59 : 59 < pm_n S := by have := hS.1; omega
  have k0 := sh_k0 hS
  have k59 := sh_k59 hS
  have d0 : 0 < d := by omega
  have d40 : 40 ≤ d - 1 := by omega
  have e1 : nI x + 1 = nI (x + 1) := nI_add x 1
  have c1 := nI_clamp (n := x + 1) (by omega)
  have v1 := vp_in_nI (n := x + 1) (N := pm_gL G) (by omega) (by omega)
  have e2 : nI x + 2 = nI (x + 2) := nI_add x 2
  have c2 := nI_clamp (n := x + 2) (by omega)
  have v2 := vp_in_nI (n := x + 2) (N := pm_gL G) (by omega) (by omega)
  have e3 : nI x + 3 = nI (x + 3) := nI_add x 3
  have c3 := nI_clamp (n := x + 3) (by omega)
  have v3 := vp_in_nI (n := x + 3) (N := pm_gL G) (by omega) (by omega)
  have e4 : nI x + 4 = nI (x + 4) := nI_add x 4
  have c4 := nI_clamp (n := x + 4) (by omega)
  have v4 := vp_in_nI (n := x + 4) (N := pm_gL G) (by omega) (by omega)
  have e5 : nI x + 5 = nI (x + 5) := nI_add x 5
  have c5 := nI_clamp (n := x + 5) (by omega)
  have v5 := vp_in_nI (n := x + 5) (N := pm_gL G) (by omega) (by omega)
  refine pm_wl_ok (J := fun t _ ls st S cn sn => pm_W G d 280 Q t ls st S cn sn) (fun _ _ _ _ _ _ _ k => k) _ 1293 _ 1 pb_k280_1293 _ _ _ _ _ ?_
  try simp only [pm_WI0, pm_WI1, pm_WI2, pm_WI3, pm_WI4, pm_WI5, pm_WV, pm_WW, pm_WX, pm_if, Nat.reduceSub, Nat.reduceAdd, true_and, and_true, true_or, or_true, and_self, reduceIte, Nat.reduceEqDiff, Nat.reduceLT, Nat.reduceLeDiff, Nat.reduceMul, false_and, and_false, reduceCtorEq, false_or, or_false, not_true_eq_false, not_false_eq_true, true_implies, false_implies, implies_true, lf_10, eq_self, Int32.reduceLT, Int32.reduceLE, Int32.reduceAdd, Int32.reduceSub, pm_same, pm_i_wI, pm_l_wL, pm_l_wM, pm_oR_rf, pm_oQ_rf, nI_1, LQ1, LQ2, LQ5, Nat.reduceEqDiff, false_or, false_and, d0, k0, k59, e1, c1, v1, e2, c2, v2, e3, c3, v3, e4, c4, v4, e5, c5, v5]
  refine pm_CI.mono (pm_CI.k59 hG h59 k59 (pp_report d40 hI)) (fun r S1 hh => ?_)
  obtain ⟨h1, k1⟩ := hh
  try simp only [pm_WI0, pm_WI1, pm_WI2, pm_WI3, pm_WI4, pm_WI5, pm_WV, pm_WW, pm_WX, pm_if, Nat.reduceSub, Nat.reduceAdd, true_and, and_true, true_or, or_true, and_self, reduceIte, Nat.reduceEqDiff, Nat.reduceLT, Nat.reduceLeDiff, Nat.reduceMul, false_and, and_false, reduceCtorEq, false_or, or_false, not_true_eq_false, not_false_eq_true, true_implies, false_implies, implies_true, lf_10, eq_self, Int32.reduceLT, Int32.reduceLE, Int32.reduceAdd, Int32.reduceSub, pm_same, pm_i_wI, pm_l_wL, pm_l_wM, pm_oR_rf, pm_oQ_rf, nI_1, LQ1, LQ2, LQ5, Nat.reduceEqDiff, false_or, false_and, d0, k1, e1, c1, v1, e2, c2, v2, e3, c3, v3, e4, c4, v4, e5, c5, v5]
  refine pm_CI.mono h1 (fun r' S2 h2 => ?_)
  obtain ⟨er, A2, hI2⟩ := h2
  subst er
  have nx := fun c s (z1 : c ≤ cn + 20) (z2 : s ≤ sn + 229) => next A2 S2 c s hI2 z1 z2
  try simp only [pm_WI0, pm_WI1, pm_WI2, pm_WI3, pm_WI4, pm_WI5, pm_WV, pm_WW, pm_WX, pm_if, Nat.reduceSub, Nat.reduceAdd, true_and, and_true, true_or, or_true, and_self, reduceIte, Nat.reduceEqDiff, Nat.reduceLT, Nat.reduceLeDiff, Nat.reduceMul, false_and, and_false, reduceCtorEq, false_or, or_false, not_true_eq_false, not_false_eq_true, true_implies, false_implies, implies_true, lf_10, eq_self, Int32.reduceLT, Int32.reduceLE, Int32.reduceAdd, Int32.reduceSub, pm_same, pm_i_wI, pm_l_wL, pm_l_wM, pm_oR_rf, pm_oQ_rf, nI_1, LQ1, LQ2, LQ5, Nat.reduceEqDiff, false_or, false_and, d0]
  exact nx _ _ (by omega) (by omega)
theorem lb_1316 {G : pm_G} {d : Nat} {A : iv_A} {S : pm_S} {x cn sn : Nat} {Q : pm_Q} (hG : pm_Gok G) (hd : 100 ≤ d) (hx : x + 5 < pm_gL G) (hL : pm_gL G ≤ 3072) (hI : Inv A S) (hcn : cn ≤ 500000) (hsn : sn ≤ 7000000) (next : ∀ A' S' cn' sn', Inv A' S' → cn' ≤ cn + 20 → sn' ≤ sn + 229 → pm_W G d 280 Q 1896 [.retAddr 101, .ref 0, .ref 59, .int (nI x)] [] S' cn' sn') : pm_W G d 280 Q 1316 [.retAddr 101, .ref 0, .ref 59, .int (nI x)] [] S cn sn := by
  have hS := hI.sh
  have h59 : 59 < pm_n S := by have := hS.1; omega
  have k0 := sh_k0 hS
  have k59 := sh_k59 hS
  have d0 : 0 < d := by omega
  have d40 : 40 ≤ d - 1 := by omega
  have e1 : nI x + 1 = nI (x + 1) := nI_add x 1
  have c1 := nI_clamp (n := x + 1) (by omega)
  have v1 := vp_in_nI (n := x + 1) (N := pm_gL G) (by omega) (by omega)
  have e2 : nI x + 2 = nI (x + 2) := nI_add x 2
  have c2 := nI_clamp (n := x + 2) (by omega)
  have v2 := vp_in_nI (n := x + 2) (N := pm_gL G) (by omega) (by omega)
  have e3 : nI x + 3 = nI (x + 3) := nI_add x 3
  have c3 := nI_clamp (n := x + 3) (by omega)
  have v3 := vp_in_nI (n := x + 3) (N := pm_gL G) (by omega) (by omega)
  have e4 : nI x + 4 = nI (x + 4) := nI_add x 4
  have c4 := nI_clamp (n := x + 4) (by omega)
  have v4 := vp_in_nI (n := x + 4) (N := pm_gL G) (by omega) (by omega)
  have e5 : nI x + 5 = nI (x + 5) := nI_add x 5
  have c5 := nI_clamp (n := x + 5) (by omega)
  have v5 := vp_in_nI (n := x + 5) (N := pm_gL G) (by omega) (by omega)
  refine pm_wl_ok (J := fun t _ ls st S cn sn => pm_W G d 280 Q t ls st S cn sn) (fun _ _ _ _ _ _ _ k => k) _ 1316 _ 1 pb_k280_1316 _ _ _ _ _ ?_
  try simp only [pm_WI0, pm_WI1, pm_WI2, pm_WI3, pm_WI4, pm_WI5, pm_WV, pm_WW, pm_WX, pm_if, Nat.reduceSub, Nat.reduceAdd, true_and, and_true, true_or, or_true, and_self, reduceIte, Nat.reduceEqDiff, Nat.reduceLT, Nat.reduceLeDiff, Nat.reduceMul, false_and, and_false, reduceCtorEq, false_or, or_false, not_true_eq_false, not_false_eq_true, true_implies, false_implies, implies_true, lf_10, eq_self, Int32.reduceLT, Int32.reduceLE, Int32.reduceAdd, Int32.reduceSub, pm_same, pm_i_wI, pm_l_wL, pm_l_wM, pm_oR_rf, pm_oQ_rf, nI_1, LQ1, LQ2, LQ5, Nat.reduceEqDiff, false_or, false_and, d0, k0, k59, e1, c1, v1, e2, c2, v2, e3, c3, v3, e4, c4, v4, e5, c5, v5]
  refine pm_CI.mono (pm_CI.k59 hG h59 k59 (pp_row d40 hI)) (fun r S1 hh => ?_)
  obtain ⟨h1, k1⟩ := hh
  try simp only [pm_WI0, pm_WI1, pm_WI2, pm_WI3, pm_WI4, pm_WI5, pm_WV, pm_WW, pm_WX, pm_if, Nat.reduceSub, Nat.reduceAdd, true_and, and_true, true_or, or_true, and_self, reduceIte, Nat.reduceEqDiff, Nat.reduceLT, Nat.reduceLeDiff, Nat.reduceMul, false_and, and_false, reduceCtorEq, false_or, or_false, not_true_eq_false, not_false_eq_true, true_implies, false_implies, implies_true, lf_10, eq_self, Int32.reduceLT, Int32.reduceLE, Int32.reduceAdd, Int32.reduceSub, pm_same, pm_i_wI, pm_l_wL, pm_l_wM, pm_oR_rf, pm_oQ_rf, nI_1, LQ1, LQ2, LQ5, Nat.reduceEqDiff, false_or, false_and, d0, k1, e1, c1, v1, e2, c2, v2, e3, c3, v3, e4, c4, v4, e5, c5, v5]
  refine pm_CI.mono h1 (fun r' S2 h2 => ?_)
  obtain ⟨er, A2, hI2⟩ := h2
  subst er
  have nx := fun c s (z1 : c ≤ cn + 20) (z2 : s ≤ sn + 229) => next A2 S2 c s hI2 z1 z2
  try simp only [pm_WI0, pm_WI1, pm_WI2, pm_WI3, pm_WI4, pm_WI5, pm_WV, pm_WW, pm_WX, pm_if, Nat.reduceSub, Nat.reduceAdd, true_and, and_true, true_or, or_true, and_self, reduceIte, Nat.reduceEqDiff, Nat.reduceLT, Nat.reduceLeDiff, Nat.reduceMul, false_and, and_false, reduceCtorEq, false_or, or_false, not_true_eq_false, not_false_eq_true, true_implies, false_implies, implies_true, lf_10, eq_self, Int32.reduceLT, Int32.reduceLE, Int32.reduceAdd, Int32.reduceSub, pm_same, pm_i_wI, pm_l_wL, pm_l_wM, pm_oR_rf, pm_oQ_rf, nI_1, LQ1, LQ2, LQ5, Nat.reduceEqDiff, false_or, false_and, d0]
  exact nx _ _ (by omega) (by omega)
theorem lb_1349 {G : pm_G} {d : Nat} {A : iv_A} {S : pm_S} {x cn sn : Nat} {Q : pm_Q} (hG : pm_Gok G) (hd : 100 ≤ d) (hx : x + 5 < pm_gL G) (hL : pm_gL G ≤ 3072) (hI : Inv A S) (hcn : cn ≤ 500000) (hsn : sn ≤ 7000000) (next : ∀ A' S' cn' sn', Inv A' S' → cn' ≤ cn + 20 → sn' ≤ sn + 229 → pm_W G d 280 Q 1896 [.retAddr 101, .ref 0, .ref 59, .int (nI x)] [] S' cn' sn') : pm_W G d 280 Q 1349 [.retAddr 101, .ref 0, .ref 59, .int (nI x)] [] S cn sn := by
  have hS := hI.sh
  have h59 : 59 < pm_n S := by have := hS.1; omega
  have k0 := sh_k0 hS
  have k59 := sh_k59 hS
  have d0 : 0 < d := by omega
  have d40 : 40 ≤ d - 1 := by omega
  have e1 : nI x + 1 = nI (x + 1) := nI_add x 1
  have c1 := nI_clamp (n := x + 1) (by omega)
  have v1 := vp_in_nI (n := x + 1) (N := pm_gL G) (by omega) (by omega)
  have e2 : nI x + 2 = nI (x + 2) := nI_add x 2
  have c2 := nI_clamp (n := x + 2) (by omega)
  have v2 := vp_in_nI (n := x + 2) (N := pm_gL G) (by omega) (by omega)
  have e3 : nI x + 3 = nI (x + 3) := nI_add x 3
  have c3 := nI_clamp (n := x + 3) (by omega)
  have v3 := vp_in_nI (n := x + 3) (N := pm_gL G) (by omega) (by omega)
  have e4 : nI x + 4 = nI (x + 4) := nI_add x 4
  have c4 := nI_clamp (n := x + 4) (by omega)
  have v4 := vp_in_nI (n := x + 4) (N := pm_gL G) (by omega) (by omega)
  have e5 : nI x + 5 = nI (x + 5) := nI_add x 5
  have c5 := nI_clamp (n := x + 5) (by omega)
  have v5 := vp_in_nI (n := x + 5) (N := pm_gL G) (by omega) (by omega)
  refine pm_wl_ok (J := fun t _ ls st S cn sn => pm_W G d 280 Q t ls st S cn sn) (fun _ _ _ _ _ _ _ k => k) _ 1349 _ 1 pb_k280_1349 _ _ _ _ _ ?_
  try simp only [pm_WI0, pm_WI1, pm_WI2, pm_WI3, pm_WI4, pm_WI5, pm_WV, pm_WW, pm_WX, pm_if, Nat.reduceSub, Nat.reduceAdd, true_and, and_true, true_or, or_true, and_self, reduceIte, Nat.reduceEqDiff, Nat.reduceLT, Nat.reduceLeDiff, Nat.reduceMul, false_and, and_false, reduceCtorEq, false_or, or_false, not_true_eq_false, not_false_eq_true, true_implies, false_implies, implies_true, lf_10, eq_self, Int32.reduceLT, Int32.reduceLE, Int32.reduceAdd, Int32.reduceSub, pm_same, pm_i_wI, pm_l_wL, pm_l_wM, pm_oR_rf, pm_oQ_rf, nI_1, LQ1, LQ2, LQ5, Nat.reduceEqDiff, false_or, false_and, d0, k0, k59, e1, c1, v1, e2, c2, v2, e3, c3, v3, e4, c4, v4, e5, c5, v5]
  refine pm_CI.mono (pm_CI.k59 hG h59 k59 (pp_grade d40 hI)) (fun r S1 hh => ?_)
  obtain ⟨h1, k1⟩ := hh
  try simp only [pm_WI0, pm_WI1, pm_WI2, pm_WI3, pm_WI4, pm_WI5, pm_WV, pm_WW, pm_WX, pm_if, Nat.reduceSub, Nat.reduceAdd, true_and, and_true, true_or, or_true, and_self, reduceIte, Nat.reduceEqDiff, Nat.reduceLT, Nat.reduceLeDiff, Nat.reduceMul, false_and, and_false, reduceCtorEq, false_or, or_false, not_true_eq_false, not_false_eq_true, true_implies, false_implies, implies_true, lf_10, eq_self, Int32.reduceLT, Int32.reduceLE, Int32.reduceAdd, Int32.reduceSub, pm_same, pm_i_wI, pm_l_wL, pm_l_wM, pm_oR_rf, pm_oQ_rf, nI_1, LQ1, LQ2, LQ5, Nat.reduceEqDiff, false_or, false_and, d0, k1, e1, c1, v1, e2, c2, v2, e3, c3, v3, e4, c4, v4, e5, c5, v5]
  refine pm_CI.mono h1 (fun r' S2 h2 => ?_)
  obtain ⟨er, A2, hI2⟩ := h2
  subst er
  have nx := fun c s (z1 : c ≤ cn + 20) (z2 : s ≤ sn + 229) => next A2 S2 c s hI2 z1 z2
  try simp only [pm_WI0, pm_WI1, pm_WI2, pm_WI3, pm_WI4, pm_WI5, pm_WV, pm_WW, pm_WX, pm_if, Nat.reduceSub, Nat.reduceAdd, true_and, and_true, true_or, or_true, and_self, reduceIte, Nat.reduceEqDiff, Nat.reduceLT, Nat.reduceLeDiff, Nat.reduceMul, false_and, and_false, reduceCtorEq, false_or, or_false, not_true_eq_false, not_false_eq_true, true_implies, false_implies, implies_true, lf_10, eq_self, Int32.reduceLT, Int32.reduceLE, Int32.reduceAdd, Int32.reduceSub, pm_same, pm_i_wI, pm_l_wL, pm_l_wM, pm_oR_rf, pm_oQ_rf, nI_1, LQ1, LQ2, LQ5, Nat.reduceEqDiff, false_or, false_and, d0]
  exact nx _ _ (by omega) (by omega)
theorem lb_1392 {G : pm_G} {d : Nat} {A : iv_A} {S : pm_S} {x cn sn : Nat} {Q : pm_Q} (hG : pm_Gok G) (hd : 100 ≤ d) (hx : x + 5 < pm_gL G) (hL : pm_gL G ≤ 3072) (hI : Inv A S) (hcn : cn ≤ 500000) (hsn : sn ≤ 7000000) (next : ∀ A' S' cn' sn', Inv A' S' → cn' ≤ cn + 20 → sn' ≤ sn + 229 → pm_W G d 280 Q 1896 [.retAddr 101, .ref 0, .ref 59, .int (nI x)] [] S' cn' sn') : pm_W G d 280 Q 1392 [.retAddr 101, .ref 0, .ref 59, .int (nI x)] [] S cn sn := by
  have hS := hI.sh
  have h59 : 59 < pm_n S := by have := hS.1; omega
  have k0 := sh_k0 hS
  have k59 := sh_k59 hS
  have d0 : 0 < d := by omega
  have d40 : 40 ≤ d - 1 := by omega
  have e1 : nI x + 1 = nI (x + 1) := nI_add x 1
  have c1 := nI_clamp (n := x + 1) (by omega)
  have v1 := vp_in_nI (n := x + 1) (N := pm_gL G) (by omega) (by omega)
  have e2 : nI x + 2 = nI (x + 2) := nI_add x 2
  have c2 := nI_clamp (n := x + 2) (by omega)
  have v2 := vp_in_nI (n := x + 2) (N := pm_gL G) (by omega) (by omega)
  have e3 : nI x + 3 = nI (x + 3) := nI_add x 3
  have c3 := nI_clamp (n := x + 3) (by omega)
  have v3 := vp_in_nI (n := x + 3) (N := pm_gL G) (by omega) (by omega)
  have e4 : nI x + 4 = nI (x + 4) := nI_add x 4
  have c4 := nI_clamp (n := x + 4) (by omega)
  have v4 := vp_in_nI (n := x + 4) (N := pm_gL G) (by omega) (by omega)
  have e5 : nI x + 5 = nI (x + 5) := nI_add x 5
  have c5 := nI_clamp (n := x + 5) (by omega)
  have v5 := vp_in_nI (n := x + 5) (N := pm_gL G) (by omega) (by omega)
  refine pm_wl_ok (J := fun t _ ls st S cn sn => pm_W G d 280 Q t ls st S cn sn) (fun _ _ _ _ _ _ _ k => k) _ 1392 _ 1 pb_k280_1392 _ _ _ _ _ ?_
  try simp only [pm_WI0, pm_WI1, pm_WI2, pm_WI3, pm_WI4, pm_WI5, pm_WV, pm_WW, pm_WX, pm_if, Nat.reduceSub, Nat.reduceAdd, true_and, and_true, true_or, or_true, and_self, reduceIte, Nat.reduceEqDiff, Nat.reduceLT, Nat.reduceLeDiff, Nat.reduceMul, false_and, and_false, reduceCtorEq, false_or, or_false, not_true_eq_false, not_false_eq_true, true_implies, false_implies, implies_true, lf_10, eq_self, Int32.reduceLT, Int32.reduceLE, Int32.reduceAdd, Int32.reduceSub, pm_same, pm_i_wI, pm_l_wL, pm_l_wM, pm_oR_rf, pm_oQ_rf, nI_1, LQ1, LQ2, LQ5, Nat.reduceEqDiff, false_or, false_and, d0, k0, k59, e1, c1, v1, e2, c2, v2, e3, c3, v3, e4, c4, v4, e5, c5, v5]
  refine pm_CL.mono (pm_CL.k59 hG h59 k59 (pp_habit d40 hI)) (fun r S1 hh => ?_)
  obtain ⟨h1, k1⟩ := hh
  try simp only [pm_WI0, pm_WI1, pm_WI2, pm_WI3, pm_WI4, pm_WI5, pm_WV, pm_WW, pm_WX, pm_if, Nat.reduceSub, Nat.reduceAdd, true_and, and_true, true_or, or_true, and_self, reduceIte, Nat.reduceEqDiff, Nat.reduceLT, Nat.reduceLeDiff, Nat.reduceMul, false_and, and_false, reduceCtorEq, false_or, or_false, not_true_eq_false, not_false_eq_true, true_implies, false_implies, implies_true, lf_10, eq_self, Int32.reduceLT, Int32.reduceLE, Int32.reduceAdd, Int32.reduceSub, pm_same, pm_i_wI, pm_l_wL, pm_l_wM, pm_oR_rf, pm_oQ_rf, nI_1, LQ1, LQ2, LQ5, Nat.reduceEqDiff, false_or, false_and, d0, k1, e1, c1, v1, e2, c2, v2, e3, c3, v3, e4, c4, v4, e5, c5, v5]
  refine pm_CL.mono h1 (fun r' S2 h2 => ?_)
  obtain ⟨er, A2, hI2⟩ := h2
  subst er
  have nx := fun c s (z1 : c ≤ cn + 20) (z2 : s ≤ sn + 229) => next A2 S2 c s hI2 z1 z2
  have lc : lg_cmp r' r' = 0 := lc_eq.mpr rfl
  try simp only [pm_WI0, pm_WI1, pm_WI2, pm_WI3, pm_WI4, pm_WI5, pm_WV, pm_WW, pm_WX, pm_if, Nat.reduceSub, Nat.reduceAdd, true_and, and_true, true_or, or_true, and_self, reduceIte, Nat.reduceEqDiff, Nat.reduceLT, Nat.reduceLeDiff, Nat.reduceMul, false_and, and_false, reduceCtorEq, false_or, or_false, not_true_eq_false, not_false_eq_true, true_implies, false_implies, implies_true, lf_10, eq_self, Int32.reduceLT, Int32.reduceLE, Int32.reduceAdd, Int32.reduceSub, pm_same, pm_i_wI, pm_l_wL, pm_l_wM, pm_oR_rf, pm_oQ_rf, nI_1, LQ1, LQ2, LQ5, Nat.reduceEqDiff, false_or, false_and, d0, lc]
  exact nx _ _ (by omega) (by omega)
theorem lb_1426 {G : pm_G} {d : Nat} {A : iv_A} {S : pm_S} {x cn sn : Nat} {Q : pm_Q} (hG : pm_Gok G) (hd : 100 ≤ d) (hx : x + 5 < pm_gL G) (hL : pm_gL G ≤ 3072) (hI : Inv A S) (hcn : cn ≤ 500000) (hsn : sn ≤ 7000000) (next : ∀ A' S' cn' sn', Inv A' S' → cn' ≤ cn + 20 → sn' ≤ sn + 229 → pm_W G d 280 Q 1896 [.retAddr 101, .ref 0, .ref 59, .int (nI x)] [] S' cn' sn') : pm_W G d 280 Q 1426 [.retAddr 101, .ref 0, .ref 59, .int (nI x)] [] S cn sn := by
  have hS := hI.sh
  have h59 : 59 < pm_n S := by have := hS.1; omega
  have k0 := sh_k0 hS
  have k59 := sh_k59 hS
  have d0 : 0 < d := by omega
  have d40 : 40 ≤ d - 1 := by omega
  have e1 : nI x + 1 = nI (x + 1) := nI_add x 1
  have c1 := nI_clamp (n := x + 1) (by omega)
  have v1 := vp_in_nI (n := x + 1) (N := pm_gL G) (by omega) (by omega)
  have e2 : nI x + 2 = nI (x + 2) := nI_add x 2
  have c2 := nI_clamp (n := x + 2) (by omega)
  have v2 := vp_in_nI (n := x + 2) (N := pm_gL G) (by omega) (by omega)
  have e3 : nI x + 3 = nI (x + 3) := nI_add x 3
  have c3 := nI_clamp (n := x + 3) (by omega)
  have v3 := vp_in_nI (n := x + 3) (N := pm_gL G) (by omega) (by omega)
  have e4 : nI x + 4 = nI (x + 4) := nI_add x 4
  have c4 := nI_clamp (n := x + 4) (by omega)
  have v4 := vp_in_nI (n := x + 4) (N := pm_gL G) (by omega) (by omega)
  have e5 : nI x + 5 = nI (x + 5) := nI_add x 5
  have c5 := nI_clamp (n := x + 5) (by omega)
  have v5 := vp_in_nI (n := x + 5) (N := pm_gL G) (by omega) (by omega)
  refine pm_wl_ok (J := fun t _ ls st S cn sn => pm_W G d 280 Q t ls st S cn sn) (fun _ _ _ _ _ _ _ k => k) _ 1426 _ 1 pb_k280_1426 _ _ _ _ _ ?_
  try simp only [pm_WI0, pm_WI1, pm_WI2, pm_WI3, pm_WI4, pm_WI5, pm_WV, pm_WW, pm_WX, pm_if, Nat.reduceSub, Nat.reduceAdd, true_and, and_true, true_or, or_true, and_self, reduceIte, Nat.reduceEqDiff, Nat.reduceLT, Nat.reduceLeDiff, Nat.reduceMul, false_and, and_false, reduceCtorEq, false_or, or_false, not_true_eq_false, not_false_eq_true, true_implies, false_implies, implies_true, lf_10, eq_self, Int32.reduceLT, Int32.reduceLE, Int32.reduceAdd, Int32.reduceSub, pm_same, pm_i_wI, pm_l_wL, pm_l_wM, pm_oR_rf, pm_oQ_rf, nI_1, LQ1, LQ2, LQ5, Nat.reduceEqDiff, false_or, false_and, d0, k0, k59, e1, c1, v1, e2, c2, v2, e3, c3, v3, e4, c4, v4, e5, c5, v5]
  refine pm_CI.mono (pm_CI.k59 hG h59 k59 (pp_agreed d40 hI)) (fun r S1 hh => ?_)
  obtain ⟨h1, k1⟩ := hh
  try simp only [pm_WI0, pm_WI1, pm_WI2, pm_WI3, pm_WI4, pm_WI5, pm_WV, pm_WW, pm_WX, pm_if, Nat.reduceSub, Nat.reduceAdd, true_and, and_true, true_or, or_true, and_self, reduceIte, Nat.reduceEqDiff, Nat.reduceLT, Nat.reduceLeDiff, Nat.reduceMul, false_and, and_false, reduceCtorEq, false_or, or_false, not_true_eq_false, not_false_eq_true, true_implies, false_implies, implies_true, lf_10, eq_self, Int32.reduceLT, Int32.reduceLE, Int32.reduceAdd, Int32.reduceSub, pm_same, pm_i_wI, pm_l_wL, pm_l_wM, pm_oR_rf, pm_oQ_rf, nI_1, LQ1, LQ2, LQ5, Nat.reduceEqDiff, false_or, false_and, d0, k1, e1, c1, v1, e2, c2, v2, e3, c3, v3, e4, c4, v4, e5, c5, v5]
  refine pm_CI.mono h1 (fun r' S2 h2 => ?_)
  obtain ⟨er, A2, hI2⟩ := h2
  subst er
  have nx := fun c s (z1 : c ≤ cn + 20) (z2 : s ≤ sn + 229) => next A2 S2 c s hI2 z1 z2
  try simp only [pm_WI0, pm_WI1, pm_WI2, pm_WI3, pm_WI4, pm_WI5, pm_WV, pm_WW, pm_WX, pm_if, Nat.reduceSub, Nat.reduceAdd, true_and, and_true, true_or, or_true, and_self, reduceIte, Nat.reduceEqDiff, Nat.reduceLT, Nat.reduceLeDiff, Nat.reduceMul, false_and, and_false, reduceCtorEq, false_or, or_false, not_true_eq_false, not_false_eq_true, true_implies, false_implies, implies_true, lf_10, eq_self, Int32.reduceLT, Int32.reduceLE, Int32.reduceAdd, Int32.reduceSub, pm_same, pm_i_wI, pm_l_wL, pm_l_wM, pm_oR_rf, pm_oQ_rf, nI_1, LQ1, LQ2, LQ5, Nat.reduceEqDiff, false_or, false_and, d0]
  exact nx _ _ (by omega) (by omega)
theorem lb_1459 {G : pm_G} {d : Nat} {A : iv_A} {S : pm_S} {x cn sn : Nat} {Q : pm_Q} (hG : pm_Gok G) (hd : 100 ≤ d) (hx : x + 5 < pm_gL G) (hL : pm_gL G ≤ 3072) (hI : Inv A S) (hcn : cn ≤ 500000) (hsn : sn ≤ 7000000) (next : ∀ A' S' cn' sn', Inv A' S' → cn' ≤ cn + 20 → sn' ≤ sn + 229 → pm_W G d 280 Q 1896 [.retAddr 101, .ref 0, .ref 59, .int (nI x)] [] S' cn' sn') : pm_W G d 280 Q 1459 [.retAddr 101, .ref 0, .ref 59, .int (nI x)] [] S cn sn := by
  have hS := hI.sh
  have h59 : 59 < pm_n S := by have := hS.1; omega
  have k0 := sh_k0 hS
  have k59 := sh_k59 hS
  have d0 : 0 < d := by omega
  have d40 : 40 ≤ d - 1 := by omega
  have e1 : nI x + 1 = nI (x + 1) := nI_add x 1
  have c1 := nI_clamp (n := x + 1) (by omega)
  have v1 := vp_in_nI (n := x + 1) (N := pm_gL G) (by omega) (by omega)
  have e2 : nI x + 2 = nI (x + 2) := nI_add x 2
  have c2 := nI_clamp (n := x + 2) (by omega)
  have v2 := vp_in_nI (n := x + 2) (N := pm_gL G) (by omega) (by omega)
  have e3 : nI x + 3 = nI (x + 3) := nI_add x 3
  have c3 := nI_clamp (n := x + 3) (by omega)
  have v3 := vp_in_nI (n := x + 3) (N := pm_gL G) (by omega) (by omega)
  have e4 : nI x + 4 = nI (x + 4) := nI_add x 4
  have c4 := nI_clamp (n := x + 4) (by omega)
  have v4 := vp_in_nI (n := x + 4) (N := pm_gL G) (by omega) (by omega)
  have e5 : nI x + 5 = nI (x + 5) := nI_add x 5
  have c5 := nI_clamp (n := x + 5) (by omega)
  have v5 := vp_in_nI (n := x + 5) (N := pm_gL G) (by omega) (by omega)
  refine pm_wl_ok (J := fun t _ ls st S cn sn => pm_W G d 280 Q t ls st S cn sn) (fun _ _ _ _ _ _ _ k => k) _ 1459 _ 1 pb_k280_1459 _ _ _ _ _ ?_
  try simp only [pm_WI0, pm_WI1, pm_WI2, pm_WI3, pm_WI4, pm_WI5, pm_WV, pm_WW, pm_WX, pm_if, Nat.reduceSub, Nat.reduceAdd, true_and, and_true, true_or, or_true, and_self, reduceIte, Nat.reduceEqDiff, Nat.reduceLT, Nat.reduceLeDiff, Nat.reduceMul, false_and, and_false, reduceCtorEq, false_or, or_false, not_true_eq_false, not_false_eq_true, true_implies, false_implies, implies_true, lf_10, eq_self, Int32.reduceLT, Int32.reduceLE, Int32.reduceAdd, Int32.reduceSub, pm_same, pm_i_wI, pm_l_wL, pm_l_wM, pm_oR_rf, pm_oQ_rf, nI_1, LQ1, LQ2, LQ5, Nat.reduceEqDiff, false_or, false_and, d0, k0, k59, e1, c1, v1, e2, c2, v2, e3, c3, v3, e4, c4, v4, e5, c5, v5]
  refine pm_CI.mono (pm_CI.k59 hG h59 k59 (pp_plan d40 hI)) (fun r S1 hh => ?_)
  obtain ⟨h1, k1⟩ := hh
  try simp only [pm_WI0, pm_WI1, pm_WI2, pm_WI3, pm_WI4, pm_WI5, pm_WV, pm_WW, pm_WX, pm_if, Nat.reduceSub, Nat.reduceAdd, true_and, and_true, true_or, or_true, and_self, reduceIte, Nat.reduceEqDiff, Nat.reduceLT, Nat.reduceLeDiff, Nat.reduceMul, false_and, and_false, reduceCtorEq, false_or, or_false, not_true_eq_false, not_false_eq_true, true_implies, false_implies, implies_true, lf_10, eq_self, Int32.reduceLT, Int32.reduceLE, Int32.reduceAdd, Int32.reduceSub, pm_same, pm_i_wI, pm_l_wL, pm_l_wM, pm_oR_rf, pm_oQ_rf, nI_1, LQ1, LQ2, LQ5, Nat.reduceEqDiff, false_or, false_and, d0, k1, e1, c1, v1, e2, c2, v2, e3, c3, v3, e4, c4, v4, e5, c5, v5]
  refine pm_CI.mono h1 (fun r' S2 h2 => ?_)
  obtain ⟨er, A2, hI2⟩ := h2
  subst er
  have nx := fun c s (z1 : c ≤ cn + 20) (z2 : s ≤ sn + 229) => next A2 S2 c s hI2 z1 z2
  try simp only [pm_WI0, pm_WI1, pm_WI2, pm_WI3, pm_WI4, pm_WI5, pm_WV, pm_WW, pm_WX, pm_if, Nat.reduceSub, Nat.reduceAdd, true_and, and_true, true_or, or_true, and_self, reduceIte, Nat.reduceEqDiff, Nat.reduceLT, Nat.reduceLeDiff, Nat.reduceMul, false_and, and_false, reduceCtorEq, false_or, or_false, not_true_eq_false, not_false_eq_true, true_implies, false_implies, implies_true, lf_10, eq_self, Int32.reduceLT, Int32.reduceLE, Int32.reduceAdd, Int32.reduceSub, pm_same, pm_i_wI, pm_l_wL, pm_l_wM, pm_oR_rf, pm_oQ_rf, nI_1, LQ1, LQ2, LQ5, Nat.reduceEqDiff, false_or, false_and, d0]
  exact nx _ _ (by omega) (by omega)
theorem lb_1502 {G : pm_G} {d : Nat} {A : iv_A} {S : pm_S} {x cn sn : Nat} {Q : pm_Q} (hG : pm_Gok G) (hd : 100 ≤ d) (hx : x + 5 < pm_gL G) (hL : pm_gL G ≤ 3072) (hI : Inv A S) (hcn : cn ≤ 500000) (hsn : sn ≤ 7000000) (next : ∀ A' S' cn' sn', Inv A' S' → cn' ≤ cn + 20 → sn' ≤ sn + 229 → pm_W G d 280 Q 1896 [.retAddr 101, .ref 0, .ref 59, .int (nI x)] [] S' cn' sn') : pm_W G d 280 Q 1502 [.retAddr 101, .ref 0, .ref 59, .int (nI x)] [] S cn sn := by
  have hS := hI.sh
  have h59 : 59 < pm_n S := by have := hS.1; omega
  have k0 := sh_k0 hS
  have k59 := sh_k59 hS
  have d0 : 0 < d := by omega
  have d40 : 40 ≤ d - 1 := by omega
  have e1 : nI x + 1 = nI (x + 1) := nI_add x 1
  have c1 := nI_clamp (n := x + 1) (by omega)
  have v1 := vp_in_nI (n := x + 1) (N := pm_gL G) (by omega) (by omega)
  have e2 : nI x + 2 = nI (x + 2) := nI_add x 2
  have c2 := nI_clamp (n := x + 2) (by omega)
  have v2 := vp_in_nI (n := x + 2) (N := pm_gL G) (by omega) (by omega)
  have e3 : nI x + 3 = nI (x + 3) := nI_add x 3
  have c3 := nI_clamp (n := x + 3) (by omega)
  have v3 := vp_in_nI (n := x + 3) (N := pm_gL G) (by omega) (by omega)
  have e4 : nI x + 4 = nI (x + 4) := nI_add x 4
  have c4 := nI_clamp (n := x + 4) (by omega)
  have v4 := vp_in_nI (n := x + 4) (N := pm_gL G) (by omega) (by omega)
  have e5 : nI x + 5 = nI (x + 5) := nI_add x 5
  have c5 := nI_clamp (n := x + 5) (by omega)
  have v5 := vp_in_nI (n := x + 5) (N := pm_gL G) (by omega) (by omega)
  refine pm_wl_ok (J := fun t _ ls st S cn sn => pm_W G d 280 Q t ls st S cn sn) (fun _ _ _ _ _ _ _ k => k) _ 1502 _ 1 pb_k280_1502 _ _ _ _ _ ?_
  try simp only [pm_WI0, pm_WI1, pm_WI2, pm_WI3, pm_WI4, pm_WI5, pm_WV, pm_WW, pm_WX, pm_if, Nat.reduceSub, Nat.reduceAdd, true_and, and_true, true_or, or_true, and_self, reduceIte, Nat.reduceEqDiff, Nat.reduceLT, Nat.reduceLeDiff, Nat.reduceMul, false_and, and_false, reduceCtorEq, false_or, or_false, not_true_eq_false, not_false_eq_true, true_implies, false_implies, implies_true, lf_10, eq_self, Int32.reduceLT, Int32.reduceLE, Int32.reduceAdd, Int32.reduceSub, pm_same, pm_i_wI, pm_l_wL, pm_l_wM, pm_oR_rf, pm_oQ_rf, nI_1, LQ1, LQ2, LQ5, Nat.reduceEqDiff, false_or, false_and, d0, k0, k59, e1, c1, v1, e2, c2, v2, e3, c3, v3, e4, c4, v4, e5, c5, v5]
  refine pm_CI.mono (pm_CI.k59 hG h59 k59 (pp_planless d40 hI)) (fun r S1 hh => ?_)
  obtain ⟨h1, k1⟩ := hh
  try simp only [pm_WI0, pm_WI1, pm_WI2, pm_WI3, pm_WI4, pm_WI5, pm_WV, pm_WW, pm_WX, pm_if, Nat.reduceSub, Nat.reduceAdd, true_and, and_true, true_or, or_true, and_self, reduceIte, Nat.reduceEqDiff, Nat.reduceLT, Nat.reduceLeDiff, Nat.reduceMul, false_and, and_false, reduceCtorEq, false_or, or_false, not_true_eq_false, not_false_eq_true, true_implies, false_implies, implies_true, lf_10, eq_self, Int32.reduceLT, Int32.reduceLE, Int32.reduceAdd, Int32.reduceSub, pm_same, pm_i_wI, pm_l_wL, pm_l_wM, pm_oR_rf, pm_oQ_rf, nI_1, LQ1, LQ2, LQ5, Nat.reduceEqDiff, false_or, false_and, d0, k1, e1, c1, v1, e2, c2, v2, e3, c3, v3, e4, c4, v4, e5, c5, v5]
  refine pm_CI.mono h1 (fun r' S2 h2 => ?_)
  obtain ⟨er, A2, hI2⟩ := h2
  subst er
  have nx := fun c s (z1 : c ≤ cn + 20) (z2 : s ≤ sn + 229) => next A2 S2 c s hI2 z1 z2
  try simp only [pm_WI0, pm_WI1, pm_WI2, pm_WI3, pm_WI4, pm_WI5, pm_WV, pm_WW, pm_WX, pm_if, Nat.reduceSub, Nat.reduceAdd, true_and, and_true, true_or, or_true, and_self, reduceIte, Nat.reduceEqDiff, Nat.reduceLT, Nat.reduceLeDiff, Nat.reduceMul, false_and, and_false, reduceCtorEq, false_or, or_false, not_true_eq_false, not_false_eq_true, true_implies, false_implies, implies_true, lf_10, eq_self, Int32.reduceLT, Int32.reduceLE, Int32.reduceAdd, Int32.reduceSub, pm_same, pm_i_wI, pm_l_wL, pm_l_wM, pm_oR_rf, pm_oQ_rf, nI_1, LQ1, LQ2, LQ5, Nat.reduceEqDiff, false_or, false_and, d0]
  exact nx _ _ (by omega) (by omega)
theorem lb_1515 {G : pm_G} {d : Nat} {A : iv_A} {S : pm_S} {x cn sn : Nat} {Q : pm_Q} (hG : pm_Gok G) (hd : 100 ≤ d) (hx : x + 5 < pm_gL G) (hL : pm_gL G ≤ 3072) (hI : Inv A S) (hcn : cn ≤ 500000) (hsn : sn ≤ 7000000) (next : ∀ A' S' cn' sn', Inv A' S' → cn' ≤ cn + 20 → sn' ≤ sn + 229 → pm_W G d 280 Q 1896 [.retAddr 101, .ref 0, .ref 59, .int (nI x)] [] S' cn' sn') : pm_W G d 280 Q 1515 [.retAddr 101, .ref 0, .ref 59, .int (nI x)] [] S cn sn := by
  have hS := hI.sh
  have h59 : 59 < pm_n S := by have := hS.1; omega
  have k0 := sh_k0 hS
  have k59 := sh_k59 hS
  have d0 : 0 < d := by omega
  have d40 : 40 ≤ d - 1 := by omega
  have e1 : nI x + 1 = nI (x + 1) := nI_add x 1
  have c1 := nI_clamp (n := x + 1) (by omega)
  have v1 := vp_in_nI (n := x + 1) (N := pm_gL G) (by omega) (by omega)
  have e2 : nI x + 2 = nI (x + 2) := nI_add x 2
  have c2 := nI_clamp (n := x + 2) (by omega)
  have v2 := vp_in_nI (n := x + 2) (N := pm_gL G) (by omega) (by omega)
  have e3 : nI x + 3 = nI (x + 3) := nI_add x 3
  have c3 := nI_clamp (n := x + 3) (by omega)
  have v3 := vp_in_nI (n := x + 3) (N := pm_gL G) (by omega) (by omega)
  have e4 : nI x + 4 = nI (x + 4) := nI_add x 4
  have c4 := nI_clamp (n := x + 4) (by omega)
  have v4 := vp_in_nI (n := x + 4) (N := pm_gL G) (by omega) (by omega)
  have e5 : nI x + 5 = nI (x + 5) := nI_add x 5
  have c5 := nI_clamp (n := x + 5) (by omega)
  have v5 := vp_in_nI (n := x + 5) (N := pm_gL G) (by omega) (by omega)
  refine pm_wl_ok (J := fun t _ ls st S cn sn => pm_W G d 280 Q t ls st S cn sn) (fun _ _ _ _ _ _ _ k => k) _ 1515 _ 1 pb_k280_1515 _ _ _ _ _ ?_
  try simp only [pm_WI0, pm_WI1, pm_WI2, pm_WI3, pm_WI4, pm_WI5, pm_WV, pm_WW, pm_WX, pm_if, Nat.reduceSub, Nat.reduceAdd, true_and, and_true, true_or, or_true, and_self, reduceIte, Nat.reduceEqDiff, Nat.reduceLT, Nat.reduceLeDiff, Nat.reduceMul, false_and, and_false, reduceCtorEq, false_or, or_false, not_true_eq_false, not_false_eq_true, true_implies, false_implies, implies_true, lf_10, eq_self, Int32.reduceLT, Int32.reduceLE, Int32.reduceAdd, Int32.reduceSub, pm_same, pm_i_wI, pm_l_wL, pm_l_wM, pm_oR_rf, pm_oQ_rf, nI_1, LQ1, LQ2, LQ5, Nat.reduceEqDiff, false_or, false_and, d0, k0, k59, e1, c1, v1, e2, c2, v2, e3, c3, v3, e4, c4, v4, e5, c5, v5]
  refine pm_CI.mono (pm_CI.k59 hG h59 k59 (pp_week d40 hI)) (fun r S1 hh => ?_)
  obtain ⟨h1, k1⟩ := hh
  try simp only [pm_WI0, pm_WI1, pm_WI2, pm_WI3, pm_WI4, pm_WI5, pm_WV, pm_WW, pm_WX, pm_if, Nat.reduceSub, Nat.reduceAdd, true_and, and_true, true_or, or_true, and_self, reduceIte, Nat.reduceEqDiff, Nat.reduceLT, Nat.reduceLeDiff, Nat.reduceMul, false_and, and_false, reduceCtorEq, false_or, or_false, not_true_eq_false, not_false_eq_true, true_implies, false_implies, implies_true, lf_10, eq_self, Int32.reduceLT, Int32.reduceLE, Int32.reduceAdd, Int32.reduceSub, pm_same, pm_i_wI, pm_l_wL, pm_l_wM, pm_oR_rf, pm_oQ_rf, nI_1, LQ1, LQ2, LQ5, Nat.reduceEqDiff, false_or, false_and, d0, k1, e1, c1, v1, e2, c2, v2, e3, c3, v3, e4, c4, v4, e5, c5, v5]
  refine pm_CI.mono h1 (fun r' S2 h2 => ?_)
  obtain ⟨er, A2, hI2⟩ := h2
  subst er
  have nx := fun c s (z1 : c ≤ cn + 20) (z2 : s ≤ sn + 229) => next A2 S2 c s hI2 z1 z2
  try simp only [pm_WI0, pm_WI1, pm_WI2, pm_WI3, pm_WI4, pm_WI5, pm_WV, pm_WW, pm_WX, pm_if, Nat.reduceSub, Nat.reduceAdd, true_and, and_true, true_or, or_true, and_self, reduceIte, Nat.reduceEqDiff, Nat.reduceLT, Nat.reduceLeDiff, Nat.reduceMul, false_and, and_false, reduceCtorEq, false_or, or_false, not_true_eq_false, not_false_eq_true, true_implies, false_implies, implies_true, lf_10, eq_self, Int32.reduceLT, Int32.reduceLE, Int32.reduceAdd, Int32.reduceSub, pm_same, pm_i_wI, pm_l_wL, pm_l_wM, pm_oR_rf, pm_oQ_rf, nI_1, LQ1, LQ2, LQ5, Nat.reduceEqDiff, false_or, false_and, d0]
  exact nx _ _ (by omega) (by omega)
theorem lb_1538 {G : pm_G} {d : Nat} {A : iv_A} {S : pm_S} {x cn sn : Nat} {Q : pm_Q} (hG : pm_Gok G) (hd : 100 ≤ d) (hx : x + 5 < pm_gL G) (hL : pm_gL G ≤ 3072) (hI : Inv A S) (hcn : cn ≤ 500000) (hsn : sn ≤ 7000000) (next : ∀ A' S' cn' sn', Inv A' S' → cn' ≤ cn + 20 → sn' ≤ sn + 229 → pm_W G d 280 Q 1896 [.retAddr 101, .ref 0, .ref 59, .int (nI x)] [] S' cn' sn') : pm_W G d 280 Q 1538 [.retAddr 101, .ref 0, .ref 59, .int (nI x)] [] S cn sn := by
  have hS := hI.sh
  have h59 : 59 < pm_n S := by have := hS.1; omega
  have k0 := sh_k0 hS
  have k59 := sh_k59 hS
  have d0 : 0 < d := by omega
  have d40 : 40 ≤ d - 1 := by omega
  have e1 : nI x + 1 = nI (x + 1) := nI_add x 1
  have c1 := nI_clamp (n := x + 1) (by omega)
  have v1 := vp_in_nI (n := x + 1) (N := pm_gL G) (by omega) (by omega)
  have e2 : nI x + 2 = nI (x + 2) := nI_add x 2
  have c2 := nI_clamp (n := x + 2) (by omega)
  have v2 := vp_in_nI (n := x + 2) (N := pm_gL G) (by omega) (by omega)
  have e3 : nI x + 3 = nI (x + 3) := nI_add x 3
  have c3 := nI_clamp (n := x + 3) (by omega)
  have v3 := vp_in_nI (n := x + 3) (N := pm_gL G) (by omega) (by omega)
  have e4 : nI x + 4 = nI (x + 4) := nI_add x 4
  have c4 := nI_clamp (n := x + 4) (by omega)
  have v4 := vp_in_nI (n := x + 4) (N := pm_gL G) (by omega) (by omega)
  have e5 : nI x + 5 = nI (x + 5) := nI_add x 5
  have c5 := nI_clamp (n := x + 5) (by omega)
  have v5 := vp_in_nI (n := x + 5) (N := pm_gL G) (by omega) (by omega)
  refine pm_wl_ok (J := fun t _ ls st S cn sn => pm_W G d 280 Q t ls st S cn sn) (fun _ _ _ _ _ _ _ k => k) _ 1538 _ 1 pb_k280_1538 _ _ _ _ _ ?_
  try simp only [pm_WI0, pm_WI1, pm_WI2, pm_WI3, pm_WI4, pm_WI5, pm_WV, pm_WW, pm_WX, pm_if, Nat.reduceSub, Nat.reduceAdd, true_and, and_true, true_or, or_true, and_self, reduceIte, Nat.reduceEqDiff, Nat.reduceLT, Nat.reduceLeDiff, Nat.reduceMul, false_and, and_false, reduceCtorEq, false_or, or_false, not_true_eq_false, not_false_eq_true, true_implies, false_implies, implies_true, lf_10, eq_self, Int32.reduceLT, Int32.reduceLE, Int32.reduceAdd, Int32.reduceSub, pm_same, pm_i_wI, pm_l_wL, pm_l_wM, pm_oR_rf, pm_oQ_rf, nI_1, LQ1, LQ2, LQ5, Nat.reduceEqDiff, false_or, false_and, d0, k0, k59, e1, c1, v1, e2, c2, v2, e3, c3, v3, e4, c4, v4, e5, c5, v5]
  refine pm_CI.mono (pm_CI.k59 hG h59 k59 (pp_judge d40 hI)) (fun r S1 hh => ?_)
  obtain ⟨h1, k1⟩ := hh
  try simp only [pm_WI0, pm_WI1, pm_WI2, pm_WI3, pm_WI4, pm_WI5, pm_WV, pm_WW, pm_WX, pm_if, Nat.reduceSub, Nat.reduceAdd, true_and, and_true, true_or, or_true, and_self, reduceIte, Nat.reduceEqDiff, Nat.reduceLT, Nat.reduceLeDiff, Nat.reduceMul, false_and, and_false, reduceCtorEq, false_or, or_false, not_true_eq_false, not_false_eq_true, true_implies, false_implies, implies_true, lf_10, eq_self, Int32.reduceLT, Int32.reduceLE, Int32.reduceAdd, Int32.reduceSub, pm_same, pm_i_wI, pm_l_wL, pm_l_wM, pm_oR_rf, pm_oQ_rf, nI_1, LQ1, LQ2, LQ5, Nat.reduceEqDiff, false_or, false_and, d0, k1, e1, c1, v1, e2, c2, v2, e3, c3, v3, e4, c4, v4, e5, c5, v5]
  refine pm_CI.mono h1 (fun r' S2 h2 => ?_)
  obtain ⟨er, A2, hI2⟩ := h2
  subst er
  have nx := fun c s (z1 : c ≤ cn + 20) (z2 : s ≤ sn + 229) => next A2 S2 c s hI2 z1 z2
  try simp only [pm_WI0, pm_WI1, pm_WI2, pm_WI3, pm_WI4, pm_WI5, pm_WV, pm_WW, pm_WX, pm_if, Nat.reduceSub, Nat.reduceAdd, true_and, and_true, true_or, or_true, and_self, reduceIte, Nat.reduceEqDiff, Nat.reduceLT, Nat.reduceLeDiff, Nat.reduceMul, false_and, and_false, reduceCtorEq, false_or, or_false, not_true_eq_false, not_false_eq_true, true_implies, false_implies, implies_true, lf_10, eq_self, Int32.reduceLT, Int32.reduceLE, Int32.reduceAdd, Int32.reduceSub, pm_same, pm_i_wI, pm_l_wL, pm_l_wM, pm_oR_rf, pm_oQ_rf, nI_1, LQ1, LQ2, LQ5, Nat.reduceEqDiff, false_or, false_and, d0]
  exact nx _ _ (by omega) (by omega)
theorem lb_1561 {G : pm_G} {d : Nat} {A : iv_A} {S : pm_S} {x cn sn : Nat} {Q : pm_Q} (hG : pm_Gok G) (hd : 100 ≤ d) (hx : x + 5 < pm_gL G) (hL : pm_gL G ≤ 3072) (hI : Inv A S) (hcn : cn ≤ 500000) (hsn : sn ≤ 7000000) (next : ∀ A' S' cn' sn', Inv A' S' → cn' ≤ cn + 20 → sn' ≤ sn + 229 → pm_W G d 280 Q 1896 [.retAddr 101, .ref 0, .ref 59, .int (nI x)] [] S' cn' sn') : pm_W G d 280 Q 1561 [.retAddr 101, .ref 0, .ref 59, .int (nI x)] [] S cn sn := by
  have hS := hI.sh
  have h59 : 59 < pm_n S := by have := hS.1; omega
  have k0 := sh_k0 hS
  have k59 := sh_k59 hS
  have d0 : 0 < d := by omega
  have d40 : 40 ≤ d - 1 := by omega
  have e1 : nI x + 1 = nI (x + 1) := nI_add x 1
  have c1 := nI_clamp (n := x + 1) (by omega)
  have v1 := vp_in_nI (n := x + 1) (N := pm_gL G) (by omega) (by omega)
  have e2 : nI x + 2 = nI (x + 2) := nI_add x 2
  have c2 := nI_clamp (n := x + 2) (by omega)
  have v2 := vp_in_nI (n := x + 2) (N := pm_gL G) (by omega) (by omega)
  have e3 : nI x + 3 = nI (x + 3) := nI_add x 3
  have c3 := nI_clamp (n := x + 3) (by omega)
  have v3 := vp_in_nI (n := x + 3) (N := pm_gL G) (by omega) (by omega)
  have e4 : nI x + 4 = nI (x + 4) := nI_add x 4
  have c4 := nI_clamp (n := x + 4) (by omega)
  have v4 := vp_in_nI (n := x + 4) (N := pm_gL G) (by omega) (by omega)
  have e5 : nI x + 5 = nI (x + 5) := nI_add x 5
  have c5 := nI_clamp (n := x + 5) (by omega)
  have v5 := vp_in_nI (n := x + 5) (N := pm_gL G) (by omega) (by omega)
  refine pm_wl_ok (J := fun t _ ls st S cn sn => pm_W G d 280 Q t ls st S cn sn) (fun _ _ _ _ _ _ _ k => k) _ 1561 _ 1 pb_k280_1561 _ _ _ _ _ ?_
  try simp only [pm_WI0, pm_WI1, pm_WI2, pm_WI3, pm_WI4, pm_WI5, pm_WV, pm_WW, pm_WX, pm_if, Nat.reduceSub, Nat.reduceAdd, true_and, and_true, true_or, or_true, and_self, reduceIte, Nat.reduceEqDiff, Nat.reduceLT, Nat.reduceLeDiff, Nat.reduceMul, false_and, and_false, reduceCtorEq, false_or, or_false, not_true_eq_false, not_false_eq_true, true_implies, false_implies, implies_true, lf_10, eq_self, Int32.reduceLT, Int32.reduceLE, Int32.reduceAdd, Int32.reduceSub, pm_same, pm_i_wI, pm_l_wL, pm_l_wM, pm_oR_rf, pm_oQ_rf, nI_1, LQ1, LQ2, LQ5, Nat.reduceEqDiff, false_or, false_and, d0, k0, k59, e1, c1, v1, e2, c2, v2, e3, c3, v3, e4, c4, v4, e5, c5, v5]
  refine pm_CI.mono (pm_CI.k59 hG h59 k59 (pp_act d40 hI)) (fun r S1 hh => ?_)
  obtain ⟨h1, k1⟩ := hh
  try simp only [pm_WI0, pm_WI1, pm_WI2, pm_WI3, pm_WI4, pm_WI5, pm_WV, pm_WW, pm_WX, pm_if, Nat.reduceSub, Nat.reduceAdd, true_and, and_true, true_or, or_true, and_self, reduceIte, Nat.reduceEqDiff, Nat.reduceLT, Nat.reduceLeDiff, Nat.reduceMul, false_and, and_false, reduceCtorEq, false_or, or_false, not_true_eq_false, not_false_eq_true, true_implies, false_implies, implies_true, lf_10, eq_self, Int32.reduceLT, Int32.reduceLE, Int32.reduceAdd, Int32.reduceSub, pm_same, pm_i_wI, pm_l_wL, pm_l_wM, pm_oR_rf, pm_oQ_rf, nI_1, LQ1, LQ2, LQ5, Nat.reduceEqDiff, false_or, false_and, d0, k1, e1, c1, v1, e2, c2, v2, e3, c3, v3, e4, c4, v4, e5, c5, v5]
  refine pm_CI.mono h1 (fun r' S2 h2 => ?_)
  obtain ⟨er, A2, hI2⟩ := h2
  subst er
  have nx := fun c s (z1 : c ≤ cn + 20) (z2 : s ≤ sn + 229) => next A2 S2 c s hI2 z1 z2
  try simp only [pm_WI0, pm_WI1, pm_WI2, pm_WI3, pm_WI4, pm_WI5, pm_WV, pm_WW, pm_WX, pm_if, Nat.reduceSub, Nat.reduceAdd, true_and, and_true, true_or, or_true, and_self, reduceIte, Nat.reduceEqDiff, Nat.reduceLT, Nat.reduceLeDiff, Nat.reduceMul, false_and, and_false, reduceCtorEq, false_or, or_false, not_true_eq_false, not_false_eq_true, true_implies, false_implies, implies_true, lf_10, eq_self, Int32.reduceLT, Int32.reduceLE, Int32.reduceAdd, Int32.reduceSub, pm_same, pm_i_wI, pm_l_wL, pm_l_wM, pm_oR_rf, pm_oQ_rf, nI_1, LQ1, LQ2, LQ5, Nat.reduceEqDiff, false_or, false_and, d0]
  exact nx _ _ (by omega) (by omega)
theorem lb_1604 {G : pm_G} {d : Nat} {A : iv_A} {S : pm_S} {x cn sn : Nat} {Q : pm_Q} (hG : pm_Gok G) (hd : 100 ≤ d) (hx : x + 5 < pm_gL G) (hL : pm_gL G ≤ 3072) (hI : Inv A S) (hcn : cn ≤ 500000) (hsn : sn ≤ 7000000) (next : ∀ A' S' cn' sn', Inv A' S' → cn' ≤ cn + 20 → sn' ≤ sn + 229 → pm_W G d 280 Q 1896 [.retAddr 101, .ref 0, .ref 59, .int (nI x)] [] S' cn' sn') : pm_W G d 280 Q 1604 [.retAddr 101, .ref 0, .ref 59, .int (nI x)] [] S cn sn := by
  have hS := hI.sh
  have h59 : 59 < pm_n S := by have := hS.1; omega
  have k0 := sh_k0 hS
  have k59 := sh_k59 hS
  have d0 : 0 < d := by omega
  have d40 : 40 ≤ d - 1 := by omega
  have e1 : nI x + 1 = nI (x + 1) := nI_add x 1
  have c1 := nI_clamp (n := x + 1) (by omega)
  have v1 := vp_in_nI (n := x + 1) (N := pm_gL G) (by omega) (by omega)
  have e2 : nI x + 2 = nI (x + 2) := nI_add x 2
  have c2 := nI_clamp (n := x + 2) (by omega)
  have v2 := vp_in_nI (n := x + 2) (N := pm_gL G) (by omega) (by omega)
  have e3 : nI x + 3 = nI (x + 3) := nI_add x 3
  have c3 := nI_clamp (n := x + 3) (by omega)
  have v3 := vp_in_nI (n := x + 3) (N := pm_gL G) (by omega) (by omega)
  have e4 : nI x + 4 = nI (x + 4) := nI_add x 4
  have c4 := nI_clamp (n := x + 4) (by omega)
  have v4 := vp_in_nI (n := x + 4) (N := pm_gL G) (by omega) (by omega)
  have e5 : nI x + 5 = nI (x + 5) := nI_add x 5
  have c5 := nI_clamp (n := x + 5) (by omega)
  have v5 := vp_in_nI (n := x + 5) (N := pm_gL G) (by omega) (by omega)
  refine pm_wl_ok (J := fun t _ ls st S cn sn => pm_W G d 280 Q t ls st S cn sn) (fun _ _ _ _ _ _ _ k => k) _ 1604 _ 1 pb_k280_1604 _ _ _ _ _ ?_
  try simp only [pm_WI0, pm_WI1, pm_WI2, pm_WI3, pm_WI4, pm_WI5, pm_WV, pm_WW, pm_WX, pm_if, Nat.reduceSub, Nat.reduceAdd, true_and, and_true, true_or, or_true, and_self, reduceIte, Nat.reduceEqDiff, Nat.reduceLT, Nat.reduceLeDiff, Nat.reduceMul, false_and, and_false, reduceCtorEq, false_or, or_false, not_true_eq_false, not_false_eq_true, true_implies, false_implies, implies_true, lf_10, eq_self, Int32.reduceLT, Int32.reduceLE, Int32.reduceAdd, Int32.reduceSub, pm_same, pm_i_wI, pm_l_wL, pm_l_wM, pm_oR_rf, pm_oQ_rf, nI_1, LQ1, LQ2, LQ5, Nat.reduceEqDiff, false_or, false_and, d0, k0, k59, e1, c1, v1, e2, c2, v2, e3, c3, v3, e4, c4, v4, e5, c5, v5]
  refine pm_CI.mono (pm_CI.k59 hG h59 k59 (pp_trace d40 hI)) (fun r S1 hh => ?_)
  obtain ⟨h1, k1⟩ := hh
  try simp only [pm_WI0, pm_WI1, pm_WI2, pm_WI3, pm_WI4, pm_WI5, pm_WV, pm_WW, pm_WX, pm_if, Nat.reduceSub, Nat.reduceAdd, true_and, and_true, true_or, or_true, and_self, reduceIte, Nat.reduceEqDiff, Nat.reduceLT, Nat.reduceLeDiff, Nat.reduceMul, false_and, and_false, reduceCtorEq, false_or, or_false, not_true_eq_false, not_false_eq_true, true_implies, false_implies, implies_true, lf_10, eq_self, Int32.reduceLT, Int32.reduceLE, Int32.reduceAdd, Int32.reduceSub, pm_same, pm_i_wI, pm_l_wL, pm_l_wM, pm_oR_rf, pm_oQ_rf, nI_1, LQ1, LQ2, LQ5, Nat.reduceEqDiff, false_or, false_and, d0, k1, e1, c1, v1, e2, c2, v2, e3, c3, v3, e4, c4, v4, e5, c5, v5]
  refine pm_CI.mono h1 (fun r' S2 h2 => ?_)
  obtain ⟨er, A2, hI2⟩ := h2
  subst er
  have nx := fun c s (z1 : c ≤ cn + 20) (z2 : s ≤ sn + 229) => next A2 S2 c s hI2 z1 z2
  try simp only [pm_WI0, pm_WI1, pm_WI2, pm_WI3, pm_WI4, pm_WI5, pm_WV, pm_WW, pm_WX, pm_if, Nat.reduceSub, Nat.reduceAdd, true_and, and_true, true_or, or_true, and_self, reduceIte, Nat.reduceEqDiff, Nat.reduceLT, Nat.reduceLeDiff, Nat.reduceMul, false_and, and_false, reduceCtorEq, false_or, or_false, not_true_eq_false, not_false_eq_true, true_implies, false_implies, implies_true, lf_10, eq_self, Int32.reduceLT, Int32.reduceLE, Int32.reduceAdd, Int32.reduceSub, pm_same, pm_i_wI, pm_l_wL, pm_l_wM, pm_oR_rf, pm_oQ_rf, nI_1, LQ1, LQ2, LQ5, Nat.reduceEqDiff, false_or, false_and, d0]
  exact nx _ _ (by omega) (by omega)
theorem lb_1627 {G : pm_G} {d : Nat} {A : iv_A} {S : pm_S} {x cn sn : Nat} {Q : pm_Q} (hG : pm_Gok G) (hd : 100 ≤ d) (hx : x + 5 < pm_gL G) (hL : pm_gL G ≤ 3072) (hI : Inv A S) (hcn : cn ≤ 500000) (hsn : sn ≤ 7000000) (next : ∀ A' S' cn' sn', Inv A' S' → cn' ≤ cn + 20 → sn' ≤ sn + 229 → pm_W G d 280 Q 1896 [.retAddr 101, .ref 0, .ref 59, .int (nI x)] [] S' cn' sn') : pm_W G d 280 Q 1627 [.retAddr 101, .ref 0, .ref 59, .int (nI x)] [] S cn sn := by
  have hS := hI.sh
  have h59 : 59 < pm_n S := by have := hS.1; omega
  have k0 := sh_k0 hS
  have k59 := sh_k59 hS
  have d0 : 0 < d := by omega
  have d40 : 40 ≤ d - 1 := by omega
  have e1 : nI x + 1 = nI (x + 1) := nI_add x 1
  have c1 := nI_clamp (n := x + 1) (by omega)
  have v1 := vp_in_nI (n := x + 1) (N := pm_gL G) (by omega) (by omega)
  have e2 : nI x + 2 = nI (x + 2) := nI_add x 2
  have c2 := nI_clamp (n := x + 2) (by omega)
  have v2 := vp_in_nI (n := x + 2) (N := pm_gL G) (by omega) (by omega)
  have e3 : nI x + 3 = nI (x + 3) := nI_add x 3
  have c3 := nI_clamp (n := x + 3) (by omega)
  have v3 := vp_in_nI (n := x + 3) (N := pm_gL G) (by omega) (by omega)
  have e4 : nI x + 4 = nI (x + 4) := nI_add x 4
  have c4 := nI_clamp (n := x + 4) (by omega)
  have v4 := vp_in_nI (n := x + 4) (N := pm_gL G) (by omega) (by omega)
  have e5 : nI x + 5 = nI (x + 5) := nI_add x 5
  have c5 := nI_clamp (n := x + 5) (by omega)
  have v5 := vp_in_nI (n := x + 5) (N := pm_gL G) (by omega) (by omega)
  refine pm_wl_ok (J := fun t _ ls st S cn sn => pm_W G d 280 Q t ls st S cn sn) (fun _ _ _ _ _ _ _ k => k) _ 1627 _ 1 pb_k280_1627 _ _ _ _ _ ?_
  try simp only [pm_WI0, pm_WI1, pm_WI2, pm_WI3, pm_WI4, pm_WI5, pm_WV, pm_WW, pm_WX, pm_if, Nat.reduceSub, Nat.reduceAdd, true_and, and_true, true_or, or_true, and_self, reduceIte, Nat.reduceEqDiff, Nat.reduceLT, Nat.reduceLeDiff, Nat.reduceMul, false_and, and_false, reduceCtorEq, false_or, or_false, not_true_eq_false, not_false_eq_true, true_implies, false_implies, implies_true, lf_10, eq_self, Int32.reduceLT, Int32.reduceLE, Int32.reduceAdd, Int32.reduceSub, pm_same, pm_i_wI, pm_l_wL, pm_l_wM, pm_oR_rf, pm_oQ_rf, nI_1, LQ1, LQ2, LQ5, Nat.reduceEqDiff, false_or, false_and, d0, k0, k59, e1, c1, v1, e2, c2, v2, e3, c3, v3, e4, c4, v4, e5, c5, v5]
  refine pm_CI.mono (pm_CI.k59 hG h59 k59 (pp_taken d40 hI)) (fun r S1 hh => ?_)
  obtain ⟨h1, k1⟩ := hh
  try simp only [pm_WI0, pm_WI1, pm_WI2, pm_WI3, pm_WI4, pm_WI5, pm_WV, pm_WW, pm_WX, pm_if, Nat.reduceSub, Nat.reduceAdd, true_and, and_true, true_or, or_true, and_self, reduceIte, Nat.reduceEqDiff, Nat.reduceLT, Nat.reduceLeDiff, Nat.reduceMul, false_and, and_false, reduceCtorEq, false_or, or_false, not_true_eq_false, not_false_eq_true, true_implies, false_implies, implies_true, lf_10, eq_self, Int32.reduceLT, Int32.reduceLE, Int32.reduceAdd, Int32.reduceSub, pm_same, pm_i_wI, pm_l_wL, pm_l_wM, pm_oR_rf, pm_oQ_rf, nI_1, LQ1, LQ2, LQ5, Nat.reduceEqDiff, false_or, false_and, d0, k1, e1, c1, v1, e2, c2, v2, e3, c3, v3, e4, c4, v4, e5, c5, v5]
  refine pm_CI.mono h1 (fun r' S2 h2 => ?_)
  obtain ⟨er, A2, hI2⟩ := h2
  subst er
  have nx := fun c s (z1 : c ≤ cn + 20) (z2 : s ≤ sn + 229) => next A2 S2 c s hI2 z1 z2
  try simp only [pm_WI0, pm_WI1, pm_WI2, pm_WI3, pm_WI4, pm_WI5, pm_WV, pm_WW, pm_WX, pm_if, Nat.reduceSub, Nat.reduceAdd, true_and, and_true, true_or, or_true, and_self, reduceIte, Nat.reduceEqDiff, Nat.reduceLT, Nat.reduceLeDiff, Nat.reduceMul, false_and, and_false, reduceCtorEq, false_or, or_false, not_true_eq_false, not_false_eq_true, true_implies, false_implies, implies_true, lf_10, eq_self, Int32.reduceLT, Int32.reduceLE, Int32.reduceAdd, Int32.reduceSub, pm_same, pm_i_wI, pm_l_wL, pm_l_wM, pm_oR_rf, pm_oQ_rf, nI_1, LQ1, LQ2, LQ5, Nat.reduceEqDiff, false_or, false_and, d0]
  exact nx _ _ (by omega) (by omega)
theorem lb_1660 {G : pm_G} {d : Nat} {A : iv_A} {S : pm_S} {x cn sn : Nat} {Q : pm_Q} (hG : pm_Gok G) (hd : 100 ≤ d) (hx : x + 5 < pm_gL G) (hL : pm_gL G ≤ 3072) (hI : Inv A S) (hcn : cn ≤ 500000) (hsn : sn ≤ 7000000) (next : ∀ A' S' cn' sn', Inv A' S' → cn' ≤ cn + 20 → sn' ≤ sn + 229 → pm_W G d 280 Q 1896 [.retAddr 101, .ref 0, .ref 59, .int (nI x)] [] S' cn' sn') : pm_W G d 280 Q 1660 [.retAddr 101, .ref 0, .ref 59, .int (nI x)] [] S cn sn := by
  have hS := hI.sh
  have h59 : 59 < pm_n S := by have := hS.1; omega
  have k0 := sh_k0 hS
  have k59 := sh_k59 hS
  have d0 : 0 < d := by omega
  have d40 : 40 ≤ d - 1 := by omega
  have e1 : nI x + 1 = nI (x + 1) := nI_add x 1
  have c1 := nI_clamp (n := x + 1) (by omega)
  have v1 := vp_in_nI (n := x + 1) (N := pm_gL G) (by omega) (by omega)
  have e2 : nI x + 2 = nI (x + 2) := nI_add x 2
  have c2 := nI_clamp (n := x + 2) (by omega)
  have v2 := vp_in_nI (n := x + 2) (N := pm_gL G) (by omega) (by omega)
  have e3 : nI x + 3 = nI (x + 3) := nI_add x 3
  have c3 := nI_clamp (n := x + 3) (by omega)
  have v3 := vp_in_nI (n := x + 3) (N := pm_gL G) (by omega) (by omega)
  have e4 : nI x + 4 = nI (x + 4) := nI_add x 4
  have c4 := nI_clamp (n := x + 4) (by omega)
  have v4 := vp_in_nI (n := x + 4) (N := pm_gL G) (by omega) (by omega)
  have e5 : nI x + 5 = nI (x + 5) := nI_add x 5
  have c5 := nI_clamp (n := x + 5) (by omega)
  have v5 := vp_in_nI (n := x + 5) (N := pm_gL G) (by omega) (by omega)
  refine pm_wl_ok (J := fun t _ ls st S cn sn => pm_W G d 280 Q t ls st S cn sn) (fun _ _ _ _ _ _ _ k => k) _ 1660 _ 1 pb_k280_1660 _ _ _ _ _ ?_
  try simp only [pm_WI0, pm_WI1, pm_WI2, pm_WI3, pm_WI4, pm_WI5, pm_WV, pm_WW, pm_WX, pm_if, Nat.reduceSub, Nat.reduceAdd, true_and, and_true, true_or, or_true, and_self, reduceIte, Nat.reduceEqDiff, Nat.reduceLT, Nat.reduceLeDiff, Nat.reduceMul, false_and, and_false, reduceCtorEq, false_or, or_false, not_true_eq_false, not_false_eq_true, true_implies, false_implies, implies_true, lf_10, eq_self, Int32.reduceLT, Int32.reduceLE, Int32.reduceAdd, Int32.reduceSub, pm_same, pm_i_wI, pm_l_wL, pm_l_wM, pm_oR_rf, pm_oQ_rf, nI_1, LQ1, LQ2, LQ5, Nat.reduceEqDiff, false_or, false_and, d0, k0, k59, e1, c1, v1, e2, c2, v2, e3, c3, v3, e4, c4, v4, e5, c5, v5]
  refine pm_CI.mono (pm_CI.k59 hG h59 k59 (pp_count d40 hI)) (fun r S1 hh => ?_)
  obtain ⟨h1, k1⟩ := hh
  try simp only [pm_WI0, pm_WI1, pm_WI2, pm_WI3, pm_WI4, pm_WI5, pm_WV, pm_WW, pm_WX, pm_if, Nat.reduceSub, Nat.reduceAdd, true_and, and_true, true_or, or_true, and_self, reduceIte, Nat.reduceEqDiff, Nat.reduceLT, Nat.reduceLeDiff, Nat.reduceMul, false_and, and_false, reduceCtorEq, false_or, or_false, not_true_eq_false, not_false_eq_true, true_implies, false_implies, implies_true, lf_10, eq_self, Int32.reduceLT, Int32.reduceLE, Int32.reduceAdd, Int32.reduceSub, pm_same, pm_i_wI, pm_l_wL, pm_l_wM, pm_oR_rf, pm_oQ_rf, nI_1, LQ1, LQ2, LQ5, Nat.reduceEqDiff, false_or, false_and, d0, k1, e1, c1, v1, e2, c2, v2, e3, c3, v3, e4, c4, v4, e5, c5, v5]
  refine pm_CI.mono h1 (fun r' S2 h2 => ?_)
  obtain ⟨er, A2, hI2⟩ := h2
  subst er
  have nx := fun c s (z1 : c ≤ cn + 20) (z2 : s ≤ sn + 229) => next A2 S2 c s hI2 z1 z2
  try simp only [pm_WI0, pm_WI1, pm_WI2, pm_WI3, pm_WI4, pm_WI5, pm_WV, pm_WW, pm_WX, pm_if, Nat.reduceSub, Nat.reduceAdd, true_and, and_true, true_or, or_true, and_self, reduceIte, Nat.reduceEqDiff, Nat.reduceLT, Nat.reduceLeDiff, Nat.reduceMul, false_and, and_false, reduceCtorEq, false_or, or_false, not_true_eq_false, not_false_eq_true, true_implies, false_implies, implies_true, lf_10, eq_self, Int32.reduceLT, Int32.reduceLE, Int32.reduceAdd, Int32.reduceSub, pm_same, pm_i_wI, pm_l_wL, pm_l_wM, pm_oR_rf, pm_oQ_rf, nI_1, LQ1, LQ2, LQ5, Nat.reduceEqDiff, false_or, false_and, d0]
  exact nx _ _ (by omega) (by omega)
theorem lb_1683 {G : pm_G} {d : Nat} {A : iv_A} {S : pm_S} {x cn sn : Nat} {Q : pm_Q} (hG : pm_Gok G) (hd : 100 ≤ d) (hx : x + 5 < pm_gL G) (hL : pm_gL G ≤ 3072) (hI : Inv A S) (hcn : cn ≤ 500000) (hsn : sn ≤ 7000000) (next : ∀ A' S' cn' sn', Inv A' S' → cn' ≤ cn + 20 → sn' ≤ sn + 229 → pm_W G d 280 Q 1896 [.retAddr 101, .ref 0, .ref 59, .int (nI x)] [] S' cn' sn') : pm_W G d 280 Q 1683 [.retAddr 101, .ref 0, .ref 59, .int (nI x)] [] S cn sn := by
  have hS := hI.sh
  have h59 : 59 < pm_n S := by have := hS.1; omega
  have k0 := sh_k0 hS
  have k59 := sh_k59 hS
  have d0 : 0 < d := by omega
  have d40 : 40 ≤ d - 1 := by omega
  have e1 : nI x + 1 = nI (x + 1) := nI_add x 1
  have c1 := nI_clamp (n := x + 1) (by omega)
  have v1 := vp_in_nI (n := x + 1) (N := pm_gL G) (by omega) (by omega)
  have e2 : nI x + 2 = nI (x + 2) := nI_add x 2
  have c2 := nI_clamp (n := x + 2) (by omega)
  have v2 := vp_in_nI (n := x + 2) (N := pm_gL G) (by omega) (by omega)
  have e3 : nI x + 3 = nI (x + 3) := nI_add x 3
  have c3 := nI_clamp (n := x + 3) (by omega)
  have v3 := vp_in_nI (n := x + 3) (N := pm_gL G) (by omega) (by omega)
  have e4 : nI x + 4 = nI (x + 4) := nI_add x 4
  have c4 := nI_clamp (n := x + 4) (by omega)
  have v4 := vp_in_nI (n := x + 4) (N := pm_gL G) (by omega) (by omega)
  have e5 : nI x + 5 = nI (x + 5) := nI_add x 5
  have c5 := nI_clamp (n := x + 5) (by omega)
  have v5 := vp_in_nI (n := x + 5) (N := pm_gL G) (by omega) (by omega)
  refine pm_wl_ok (J := fun t _ ls st S cn sn => pm_W G d 280 Q t ls st S cn sn) (fun _ _ _ _ _ _ _ k => k) _ 1683 _ 1 pb_k280_1683 _ _ _ _ _ ?_
  try simp only [pm_WI0, pm_WI1, pm_WI2, pm_WI3, pm_WI4, pm_WI5, pm_WV, pm_WW, pm_WX, pm_if, Nat.reduceSub, Nat.reduceAdd, true_and, and_true, true_or, or_true, and_self, reduceIte, Nat.reduceEqDiff, Nat.reduceLT, Nat.reduceLeDiff, Nat.reduceMul, false_and, and_false, reduceCtorEq, false_or, or_false, not_true_eq_false, not_false_eq_true, true_implies, false_implies, implies_true, lf_10, eq_self, Int32.reduceLT, Int32.reduceLE, Int32.reduceAdd, Int32.reduceSub, pm_same, pm_i_wI, pm_l_wL, pm_l_wM, pm_oR_rf, pm_oQ_rf, nI_1, LQ1, LQ2, LQ5, Nat.reduceEqDiff, false_or, false_and, d0, k0, k59, e1, c1, v1, e2, c2, v2, e3, c3, v3, e4, c4, v4, e5, c5, v5]
  refine pm_CI.mono (pm_CI.k59 hG h59 k59 (pp_tape d40 hI)) (fun r S1 hh => ?_)
  obtain ⟨h1, k1⟩ := hh
  try simp only [pm_WI0, pm_WI1, pm_WI2, pm_WI3, pm_WI4, pm_WI5, pm_WV, pm_WW, pm_WX, pm_if, Nat.reduceSub, Nat.reduceAdd, true_and, and_true, true_or, or_true, and_self, reduceIte, Nat.reduceEqDiff, Nat.reduceLT, Nat.reduceLeDiff, Nat.reduceMul, false_and, and_false, reduceCtorEq, false_or, or_false, not_true_eq_false, not_false_eq_true, true_implies, false_implies, implies_true, lf_10, eq_self, Int32.reduceLT, Int32.reduceLE, Int32.reduceAdd, Int32.reduceSub, pm_same, pm_i_wI, pm_l_wL, pm_l_wM, pm_oR_rf, pm_oQ_rf, nI_1, LQ1, LQ2, LQ5, Nat.reduceEqDiff, false_or, false_and, d0, k1, e1, c1, v1, e2, c2, v2, e3, c3, v3, e4, c4, v4, e5, c5, v5]
  refine pm_CI.mono h1 (fun r' S2 h2 => ?_)
  obtain ⟨er, A2, hI2⟩ := h2
  subst er
  have nx := fun c s (z1 : c ≤ cn + 20) (z2 : s ≤ sn + 229) => next A2 S2 c s hI2 z1 z2
  try simp only [pm_WI0, pm_WI1, pm_WI2, pm_WI3, pm_WI4, pm_WI5, pm_WV, pm_WW, pm_WX, pm_if, Nat.reduceSub, Nat.reduceAdd, true_and, and_true, true_or, or_true, and_self, reduceIte, Nat.reduceEqDiff, Nat.reduceLT, Nat.reduceLeDiff, Nat.reduceMul, false_and, and_false, reduceCtorEq, false_or, or_false, not_true_eq_false, not_false_eq_true, true_implies, false_implies, implies_true, lf_10, eq_self, Int32.reduceLT, Int32.reduceLE, Int32.reduceAdd, Int32.reduceSub, pm_same, pm_i_wI, pm_l_wL, pm_l_wM, pm_oR_rf, pm_oQ_rf, nI_1, LQ1, LQ2, LQ5, Nat.reduceEqDiff, false_or, false_and, d0]
  exact nx _ _ (by omega) (by omega)
theorem lb_1726 {G : pm_G} {d : Nat} {A : iv_A} {S : pm_S} {x cn sn : Nat} {Q : pm_Q} (hG : pm_Gok G) (hd : 100 ≤ d) (hx : x + 5 < pm_gL G) (hL : pm_gL G ≤ 3072) (hI : Inv A S) (hcn : cn ≤ 500000) (hsn : sn ≤ 7000000) (next : ∀ A' S' cn' sn', Inv A' S' → cn' ≤ cn + 20 → sn' ≤ sn + 229 → pm_W G d 280 Q 1896 [.retAddr 101, .ref 0, .ref 59, .int (nI x)] [] S' cn' sn') : pm_W G d 280 Q 1726 [.retAddr 101, .ref 0, .ref 59, .int (nI x)] [] S cn sn := by
  have hS := hI.sh
  have h59 : 59 < pm_n S := by have := hS.1; omega
  have k0 := sh_k0 hS
  have k59 := sh_k59 hS
  have d0 : 0 < d := by omega
  have d40 : 40 ≤ d - 1 := by omega
  have e1 : nI x + 1 = nI (x + 1) := nI_add x 1
  have c1 := nI_clamp (n := x + 1) (by omega)
  have v1 := vp_in_nI (n := x + 1) (N := pm_gL G) (by omega) (by omega)
  have e2 : nI x + 2 = nI (x + 2) := nI_add x 2
  have c2 := nI_clamp (n := x + 2) (by omega)
  have v2 := vp_in_nI (n := x + 2) (N := pm_gL G) (by omega) (by omega)
  have e3 : nI x + 3 = nI (x + 3) := nI_add x 3
  have c3 := nI_clamp (n := x + 3) (by omega)
  have v3 := vp_in_nI (n := x + 3) (N := pm_gL G) (by omega) (by omega)
  have e4 : nI x + 4 = nI (x + 4) := nI_add x 4
  have c4 := nI_clamp (n := x + 4) (by omega)
  have v4 := vp_in_nI (n := x + 4) (N := pm_gL G) (by omega) (by omega)
  have e5 : nI x + 5 = nI (x + 5) := nI_add x 5
  have c5 := nI_clamp (n := x + 5) (by omega)
  have v5 := vp_in_nI (n := x + 5) (N := pm_gL G) (by omega) (by omega)
  have lit : (pm_gx G (x + 3)).toInt64 = (pm_gx G (x + 3)).toInt64 := rfl
  refine pm_wl_ok (J := fun t _ ls st S cn sn => pm_W G d 280 Q t ls st S cn sn) (fun _ _ _ _ _ _ _ k => k) _ 1726 _ 1 pb_k280_1726 _ _ _ _ _ ?_
  try simp only [pm_WI0, pm_WI1, pm_WI2, pm_WI3, pm_WI4, pm_WI5, pm_WV, pm_WW, pm_WX, pm_if, Nat.reduceSub, Nat.reduceAdd, true_and, and_true, true_or, or_true, and_self, reduceIte, Nat.reduceEqDiff, Nat.reduceLT, Nat.reduceLeDiff, Nat.reduceMul, false_and, and_false, reduceCtorEq, false_or, or_false, not_true_eq_false, not_false_eq_true, true_implies, false_implies, implies_true, lf_10, eq_self, Int32.reduceLT, Int32.reduceLE, Int32.reduceAdd, Int32.reduceSub, pm_same, pm_i_wI, pm_l_wL, pm_l_wM, pm_oR_rf, pm_oQ_rf, nI_1, LQ1, LQ2, LQ5, Nat.reduceEqDiff, false_or, false_and, d0, k0, k59, e1, c1, v1, e2, c2, v2, e3, c3, v3, e4, c4, v4, e5, c5, v5]
  refine pm_CI.mono (pm_CI.k59 hG h59 k59 (pp_item d40 hI)) (fun r S1 hh => ?_)
  obtain ⟨h1, k1⟩ := hh
  try simp only [pm_WI0, pm_WI1, pm_WI2, pm_WI3, pm_WI4, pm_WI5, pm_WV, pm_WW, pm_WX, pm_if, Nat.reduceSub, Nat.reduceAdd, true_and, and_true, true_or, or_true, and_self, reduceIte, Nat.reduceEqDiff, Nat.reduceLT, Nat.reduceLeDiff, Nat.reduceMul, false_and, and_false, reduceCtorEq, false_or, or_false, not_true_eq_false, not_false_eq_true, true_implies, false_implies, implies_true, lf_10, eq_self, Int32.reduceLT, Int32.reduceLE, Int32.reduceAdd, Int32.reduceSub, pm_same, pm_i_wI, pm_l_wL, pm_l_wM, pm_oR_rf, pm_oQ_rf, nI_1, LQ1, LQ2, LQ5, Nat.reduceEqDiff, false_or, false_and, d0, k1, e1, c1, v1, e2, c2, v2, e3, c3, v3, e4, c4, v4, e5, c5, v5]
  refine pm_CI.mono h1 (fun r' S2 h2 => ?_)
  obtain ⟨er, A2, hI2⟩ := h2
  subst er
  have nx := fun c s (z1 : c ≤ cn + 20) (z2 : s ≤ sn + 229) => next A2 S2 c s hI2 z1 z2
  try simp only [pm_WI0, pm_WI1, pm_WI2, pm_WI3, pm_WI4, pm_WI5, pm_WV, pm_WW, pm_WX, pm_if, Nat.reduceSub, Nat.reduceAdd, true_and, and_true, true_or, or_true, and_self, reduceIte, Nat.reduceEqDiff, Nat.reduceLT, Nat.reduceLeDiff, Nat.reduceMul, false_and, and_false, reduceCtorEq, false_or, or_false, not_true_eq_false, not_false_eq_true, true_implies, false_implies, implies_true, lf_10, eq_self, Int32.reduceLT, Int32.reduceLE, Int32.reduceAdd, Int32.reduceSub, pm_same, pm_i_wI, pm_l_wL, pm_l_wM, pm_oR_rf, pm_oQ_rf, nI_1, LQ1, LQ2, LQ5, Nat.reduceEqDiff, false_or, false_and, d0]
  exact nx _ _ (by omega) (by omega)
theorem lb_1799 {G : pm_G} {d : Nat} {A : iv_A} {S : pm_S} {x cn sn : Nat} {Q : pm_Q} (hG : pm_Gok G) (hd : 100 ≤ d) (hx : x + 5 < pm_gL G) (hL : pm_gL G ≤ 3072) (hI : Inv A S) (hcn : cn ≤ 500000) (hsn : sn ≤ 7000000) (next : ∀ A' S' cn' sn', Inv A' S' → cn' ≤ cn + 20 → sn' ≤ sn + 229 → pm_W G d 280 Q 1896 [.retAddr 101, .ref 0, .ref 59, .int (nI x)] [] S' cn' sn') : pm_W G d 280 Q 1799 [.retAddr 101, .ref 0, .ref 59, .int (nI x)] [] S cn sn := by
  have hS := hI.sh
  have h59 : 59 < pm_n S := by have := hS.1; omega
  have k0 := sh_k0 hS
  have k59 := sh_k59 hS
  have d0 : 0 < d := by omega
  have d40 : 40 ≤ d - 1 := by omega
  have e1 : nI x + 1 = nI (x + 1) := nI_add x 1
  have c1 := nI_clamp (n := x + 1) (by omega)
  have v1 := vp_in_nI (n := x + 1) (N := pm_gL G) (by omega) (by omega)
  have e2 : nI x + 2 = nI (x + 2) := nI_add x 2
  have c2 := nI_clamp (n := x + 2) (by omega)
  have v2 := vp_in_nI (n := x + 2) (N := pm_gL G) (by omega) (by omega)
  have e3 : nI x + 3 = nI (x + 3) := nI_add x 3
  have c3 := nI_clamp (n := x + 3) (by omega)
  have v3 := vp_in_nI (n := x + 3) (N := pm_gL G) (by omega) (by omega)
  have e4 : nI x + 4 = nI (x + 4) := nI_add x 4
  have c4 := nI_clamp (n := x + 4) (by omega)
  have v4 := vp_in_nI (n := x + 4) (N := pm_gL G) (by omega) (by omega)
  have e5 : nI x + 5 = nI (x + 5) := nI_add x 5
  have c5 := nI_clamp (n := x + 5) (by omega)
  have v5 := vp_in_nI (n := x + 5) (N := pm_gL G) (by omega) (by omega)
  refine pm_wl_ok (J := fun t _ ls st S cn sn => pm_W G d 280 Q t ls st S cn sn) (fun _ _ _ _ _ _ _ k => k) _ 1799 _ 1 pb_k280_1799 _ _ _ _ _ ?_
  try simp only [pm_WI0, pm_WI1, pm_WI2, pm_WI3, pm_WI4, pm_WI5, pm_WV, pm_WW, pm_WX, pm_if, Nat.reduceSub, Nat.reduceAdd, true_and, and_true, true_or, or_true, and_self, reduceIte, Nat.reduceEqDiff, Nat.reduceLT, Nat.reduceLeDiff, Nat.reduceMul, false_and, and_false, reduceCtorEq, false_or, or_false, not_true_eq_false, not_false_eq_true, true_implies, false_implies, implies_true, lf_10, eq_self, Int32.reduceLT, Int32.reduceLE, Int32.reduceAdd, Int32.reduceSub, pm_same, pm_i_wI, pm_l_wL, pm_l_wM, pm_oR_rf, pm_oQ_rf, nI_1, LQ1, LQ2, LQ5, Nat.reduceEqDiff, false_or, false_and, d0, k0, k59, e1, c1, v1, e2, c2, v2, e3, c3, v3, e4, c4, v4, e5, c5, v5]
  refine pm_CL.mono (pm_CL.k59 hG h59 k59 (pp_read d40 hI)) (fun r S1 hh => ?_)
  obtain ⟨h1, k1⟩ := hh
  try simp only [pm_WI0, pm_WI1, pm_WI2, pm_WI3, pm_WI4, pm_WI5, pm_WV, pm_WW, pm_WX, pm_if, Nat.reduceSub, Nat.reduceAdd, true_and, and_true, true_or, or_true, and_self, reduceIte, Nat.reduceEqDiff, Nat.reduceLT, Nat.reduceLeDiff, Nat.reduceMul, false_and, and_false, reduceCtorEq, false_or, or_false, not_true_eq_false, not_false_eq_true, true_implies, false_implies, implies_true, lf_10, eq_self, Int32.reduceLT, Int32.reduceLE, Int32.reduceAdd, Int32.reduceSub, pm_same, pm_i_wI, pm_l_wL, pm_l_wM, pm_oR_rf, pm_oQ_rf, nI_1, LQ1, LQ2, LQ5, Nat.reduceEqDiff, false_or, false_and, d0, k1, e1, c1, v1, e2, c2, v2, e3, c3, v3, e4, c4, v4, e5, c5, v5]
  refine pm_CL.mono h1 (fun r' S2 h2 => ?_)
  obtain ⟨er, A2, hI2⟩ := h2
  subst er
  have nx := fun c s (z1 : c ≤ cn + 20) (z2 : s ≤ sn + 229) => next A2 S2 c s hI2 z1 z2
  have lc : lg_cmp r' r' = 0 := lc_eq.mpr rfl
  try simp only [pm_WI0, pm_WI1, pm_WI2, pm_WI3, pm_WI4, pm_WI5, pm_WV, pm_WW, pm_WX, pm_if, Nat.reduceSub, Nat.reduceAdd, true_and, and_true, true_or, or_true, and_self, reduceIte, Nat.reduceEqDiff, Nat.reduceLT, Nat.reduceLeDiff, Nat.reduceMul, false_and, and_false, reduceCtorEq, false_or, or_false, not_true_eq_false, not_false_eq_true, true_implies, false_implies, implies_true, lf_10, eq_self, Int32.reduceLT, Int32.reduceLE, Int32.reduceAdd, Int32.reduceSub, pm_same, pm_i_wI, pm_l_wL, pm_l_wM, pm_oR_rf, pm_oQ_rf, nI_1, LQ1, LQ2, LQ5, Nat.reduceEqDiff, false_or, false_and, d0, lc]
  exact nx _ _ (by omega) (by omega)
theorem lb_1833 {G : pm_G} {d : Nat} {A : iv_A} {S : pm_S} {x cn sn : Nat} {Q : pm_Q} (hG : pm_Gok G) (hd : 100 ≤ d) (hx : x + 5 < pm_gL G) (hL : pm_gL G ≤ 3072) (hI : Inv A S) (hcn : cn ≤ 500000) (hsn : sn ≤ 7000000) (next : ∀ A' S' cn' sn', Inv A' S' → cn' ≤ cn + 20 → sn' ≤ sn + 229 → pm_W G d 280 Q 1896 [.retAddr 101, .ref 0, .ref 59, .int (nI x)] [] S' cn' sn') : pm_W G d 280 Q 1833 [.retAddr 101, .ref 0, .ref 59, .int (nI x)] [] S cn sn := by
  have hS := hI.sh
  have h59 : 59 < pm_n S := by have := hS.1; omega
  have k0 := sh_k0 hS
  have k59 := sh_k59 hS
  have d0 : 0 < d := by omega
  have d40 : 40 ≤ d - 1 := by omega
  have e1 : nI x + 1 = nI (x + 1) := nI_add x 1
  have c1 := nI_clamp (n := x + 1) (by omega)
  have v1 := vp_in_nI (n := x + 1) (N := pm_gL G) (by omega) (by omega)
  have e2 : nI x + 2 = nI (x + 2) := nI_add x 2
  have c2 := nI_clamp (n := x + 2) (by omega)
  have v2 := vp_in_nI (n := x + 2) (N := pm_gL G) (by omega) (by omega)
  have e3 : nI x + 3 = nI (x + 3) := nI_add x 3
  have c3 := nI_clamp (n := x + 3) (by omega)
  have v3 := vp_in_nI (n := x + 3) (N := pm_gL G) (by omega) (by omega)
  have e4 : nI x + 4 = nI (x + 4) := nI_add x 4
  have c4 := nI_clamp (n := x + 4) (by omega)
  have v4 := vp_in_nI (n := x + 4) (N := pm_gL G) (by omega) (by omega)
  have e5 : nI x + 5 = nI (x + 5) := nI_add x 5
  have c5 := nI_clamp (n := x + 5) (by omega)
  have v5 := vp_in_nI (n := x + 5) (N := pm_gL G) (by omega) (by omega)
  refine pm_wl_ok (J := fun t _ ls st S cn sn => pm_W G d 280 Q t ls st S cn sn) (fun _ _ _ _ _ _ _ k => k) _ 1833 _ 1 pb_k280_1833 _ _ _ _ _ ?_
  try simp only [pm_WI0, pm_WI1, pm_WI2, pm_WI3, pm_WI4, pm_WI5, pm_WV, pm_WW, pm_WX, pm_if, Nat.reduceSub, Nat.reduceAdd, true_and, and_true, true_or, or_true, and_self, reduceIte, Nat.reduceEqDiff, Nat.reduceLT, Nat.reduceLeDiff, Nat.reduceMul, false_and, and_false, reduceCtorEq, false_or, or_false, not_true_eq_false, not_false_eq_true, true_implies, false_implies, implies_true, lf_10, eq_self, Int32.reduceLT, Int32.reduceLE, Int32.reduceAdd, Int32.reduceSub, pm_same, pm_i_wI, pm_l_wL, pm_l_wM, pm_oR_rf, pm_oQ_rf, nI_1, LQ1, LQ2, LQ5, Nat.reduceEqDiff, false_or, false_and, d0, k0, k59, e1, c1, v1, e2, c2, v2, e3, c3, v3, e4, c4, v4, e5, c5, v5]
  refine pm_CI.mono (pm_CI.k59 hG h59 k59 (pp_shift d40 hI)) (fun r S1 hh => ?_)
  obtain ⟨h1, k1⟩ := hh
  try simp only [pm_WI0, pm_WI1, pm_WI2, pm_WI3, pm_WI4, pm_WI5, pm_WV, pm_WW, pm_WX, pm_if, Nat.reduceSub, Nat.reduceAdd, true_and, and_true, true_or, or_true, and_self, reduceIte, Nat.reduceEqDiff, Nat.reduceLT, Nat.reduceLeDiff, Nat.reduceMul, false_and, and_false, reduceCtorEq, false_or, or_false, not_true_eq_false, not_false_eq_true, true_implies, false_implies, implies_true, lf_10, eq_self, Int32.reduceLT, Int32.reduceLE, Int32.reduceAdd, Int32.reduceSub, pm_same, pm_i_wI, pm_l_wL, pm_l_wM, pm_oR_rf, pm_oQ_rf, nI_1, LQ1, LQ2, LQ5, Nat.reduceEqDiff, false_or, false_and, d0, k1, e1, c1, v1, e2, c2, v2, e3, c3, v3, e4, c4, v4, e5, c5, v5]
  refine pm_CI.mono h1 (fun r' S2 h2 => ?_)
  obtain ⟨er, A2, hI2⟩ := h2
  subst er
  have nx := fun c s (z1 : c ≤ cn + 20) (z2 : s ≤ sn + 229) => next A2 S2 c s hI2 z1 z2
  try simp only [pm_WI0, pm_WI1, pm_WI2, pm_WI3, pm_WI4, pm_WI5, pm_WV, pm_WW, pm_WX, pm_if, Nat.reduceSub, Nat.reduceAdd, true_and, and_true, true_or, or_true, and_self, reduceIte, Nat.reduceEqDiff, Nat.reduceLT, Nat.reduceLeDiff, Nat.reduceMul, false_and, and_false, reduceCtorEq, false_or, or_false, not_true_eq_false, not_false_eq_true, true_implies, false_implies, implies_true, lf_10, eq_self, Int32.reduceLT, Int32.reduceLE, Int32.reduceAdd, Int32.reduceSub, pm_same, pm_i_wI, pm_l_wL, pm_l_wM, pm_oR_rf, pm_oQ_rf, nI_1, LQ1, LQ2, LQ5, Nat.reduceEqDiff, false_or, false_and, d0]
  exact nx _ _ (by omega) (by omega)
