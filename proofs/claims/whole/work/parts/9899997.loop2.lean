/-! THE LAW'S LOOP -/
theorem lo_6 {L x : Nat} (hL : L ≤ 3072) (hx : x ≤ 4000) : (nI L - 6 < nI x) ↔ L < x + 6 := by
  rw [Int32.lt_iff_toInt_lt, Int32.toInt_sub, nI_toInt (by omega), nI_toInt (by omega), show (6 : Int32).toInt = 6 from rfl, Int.bmod_eq_of_le (by omega) (by omega)]
  omega
set_option maxRecDepth 8000 in
theorem law_18 {G : pm_G} {d : Nat} {A : iv_A} {S : pm_S} {x cn sn : Nat} {Q : pm_Q} (hG : pm_Gok G) (hd : 100 ≤ d) (hx : x + 6 ≤ pm_gL G) (hL : pm_gL G ≤ 3072) (hI : Inv A S) (hcn : cn ≤ 500000) (hsn : sn ≤ 7000000) (next : ∀ A' S' cn' sn', Inv A' S' → cn' ≤ cn + 20 → sn' ≤ sn + 229 → pm_W G d 280 Q 1896 [.retAddr 101, .ref 0, .ref 59, .int (nI x)] [] S' cn' sn') : pm_W G d 280 Q 18 [.retAddr 101, .ref 0, .ref 59, .int (nI x)] [] S cn sn := by
  have hle : ¬ nI (pm_gL G) - 6 < nI x := fun z => by have := (lo_6 hL (by omega)).mp z; omega
  have eL : Int32.ofNat (pm_gL G) = nI (pm_gL G) := rfl
  have c0 := nI_clamp (n := x) (by omega)
  have v0 := vp_in_nI (n := x) (N := pm_gL G) (by omega) (by omega)
  have b240 := lb_240 (G := G) (d := d) (Q := Q) hG hd (by omega) hL hI hcn hsn next
  have b263 := lb_263 (G := G) (d := d) (Q := Q) hG hd (by omega) hL hI hcn hsn next
  have b286 := lb_286 (G := G) (d := d) (Q := Q) hG hd (by omega) hL hI hcn hsn next
  have b319 := lb_319 (G := G) (d := d) (Q := Q) hG hd (by omega) hL hI hcn hsn next
  have b342 := lb_342 (G := G) (d := d) (Q := Q) hG hd (by omega) hL hI hcn hsn next
  have b375 := lb_375 (G := G) (d := d) (Q := Q) hG hd (by omega) hL hI hcn hsn next
  have b438 := lb_438 (G := G) (d := d) (Q := Q) hG hd (by omega) hL hI hcn hsn next
  have b471 := lb_471 (G := G) (d := d) (Q := Q) hG hd (by omega) hL hI hcn hsn next
  have b494 := lb_494 (G := G) (d := d) (Q := Q) hG hd (by omega) hL hI hcn hsn next
  have b517 := lb_517 (G := G) (d := d) (Q := Q) hG hd (by omega) hL hI hcn hsn next
  have b550 := lb_550 (G := G) (d := d) (Q := Q) hG hd (by omega) hL hI hcn hsn next
  have b573 := lb_573 (G := G) (d := d) (Q := Q) hG hd (by omega) hL hI hcn hsn next
  have b606 := lb_606 (G := G) (d := d) (Q := Q) hG hd (by omega) hL hI hcn hsn next
  have b649 := lb_649 (G := G) (d := d) (Q := Q) hG hd (by omega) hL hI hcn hsn next
  have b682 := lb_682 (G := G) (d := d) (Q := Q) hG hd (by omega) hL hI hcn hsn next
  have b715 := lb_715 (G := G) (d := d) (Q := Q) hG hd (by omega) hL hI hcn hsn next
  have b738 := lb_738 (G := G) (d := d) (Q := Q) hG hd (by omega) hL hI hcn hsn next
  have b791 := lb_791 (G := G) (d := d) (Q := Q) hG hd (by omega) hL hI hcn hsn next
  have b844 := lb_844 (G := G) (d := d) (Q := Q) hG hd (by omega) hL hI hcn hsn next
  have b867 := lb_867 (G := G) (d := d) (Q := Q) hG hd (by omega) hL hI hcn hsn next
  have b920 := lb_920 (G := G) (d := d) (Q := Q) hG hd (by omega) hL hI hcn hsn next
  have b953 := lb_953 (G := G) (d := d) (Q := Q) hG hd (by omega) hL hI hcn hsn next
  have b986 := lb_986 (G := G) (d := d) (Q := Q) hG hd (by omega) hL hI hcn hsn next
  have b1029 := lb_1029 (G := G) (d := d) (Q := Q) hG hd (by omega) hL hI hcn hsn next
  have b1062 := lb_1062 (G := G) (d := d) (Q := Q) hG hd (by omega) hL hI hcn hsn next
  have b1115 := lb_1115 (G := G) (d := d) (Q := Q) hG hd (by omega) hL hI hcn hsn next
  have b1148 := lb_1148 (G := G) (d := d) (Q := Q) hG hd (by omega) hL hI hcn hsn next
  have b1181 := lb_1181 (G := G) (d := d) (Q := Q) hG hd (by omega) hL hI hcn hsn next
  have b1204 := lb_1204 (G := G) (d := d) (Q := Q) hG hd (by omega) hL hI hcn hsn next
  have b1247 := lb_1247 (G := G) (d := d) (Q := Q) hG hd (by omega) hL hI hcn hsn next
  have b1280 := lb_1280 (G := G) (d := d) (Q := Q) hG hd (by omega) hL hI hcn hsn next
  have b1293 := lb_1293 (G := G) (d := d) (Q := Q) hG hd (by omega) hL hI hcn hsn next
  have b1316 := lb_1316 (G := G) (d := d) (Q := Q) hG hd (by omega) hL hI hcn hsn next
  have b1349 := lb_1349 (G := G) (d := d) (Q := Q) hG hd (by omega) hL hI hcn hsn next
  have b1392 := lb_1392 (G := G) (d := d) (Q := Q) hG hd (by omega) hL hI hcn hsn next
  have b1426 := lb_1426 (G := G) (d := d) (Q := Q) hG hd (by omega) hL hI hcn hsn next
  have b1459 := lb_1459 (G := G) (d := d) (Q := Q) hG hd (by omega) hL hI hcn hsn next
  have b1502 := lb_1502 (G := G) (d := d) (Q := Q) hG hd (by omega) hL hI hcn hsn next
  have b1515 := lb_1515 (G := G) (d := d) (Q := Q) hG hd (by omega) hL hI hcn hsn next
  have b1538 := lb_1538 (G := G) (d := d) (Q := Q) hG hd (by omega) hL hI hcn hsn next
  have b1561 := lb_1561 (G := G) (d := d) (Q := Q) hG hd (by omega) hL hI hcn hsn next
  have b1604 := lb_1604 (G := G) (d := d) (Q := Q) hG hd (by omega) hL hI hcn hsn next
  have b1627 := lb_1627 (G := G) (d := d) (Q := Q) hG hd (by omega) hL hI hcn hsn next
  have b1660 := lb_1660 (G := G) (d := d) (Q := Q) hG hd (by omega) hL hI hcn hsn next
  have b1683 := lb_1683 (G := G) (d := d) (Q := Q) hG hd (by omega) hL hI hcn hsn next
  have b1726 := lb_1726 (G := G) (d := d) (Q := Q) hG hd (by omega) hL hI hcn hsn next
  have b1799 := lb_1799 (G := G) (d := d) (Q := Q) hG hd (by omega) hL hI hcn hsn next
  have b1833 := lb_1833 (G := G) (d := d) (Q := Q) hG hd (by omega) hL hI hcn hsn next
  have b1896 := next A S cn sn hI (by omega) (by omega)
  refine pm_wl_ok (J := fun t _ ls st S cn sn => pm_W G d 280 Q t ls st S cn sn) (fun _ _ _ _ _ _ _ k => k) _ 18 _ 1 pb_k280_18 _ _ _ _ _ ?_
  try simp only [pm_WI0, pm_WI1, pm_WI2, pm_WI3, pm_WI4, pm_WI5, pm_WV, pm_WW, pm_WX, pm_if, Nat.reduceSub, Nat.reduceAdd, true_and, and_true, true_or, or_true, and_self, reduceIte, Nat.reduceEqDiff, Nat.reduceLT, Nat.reduceLeDiff, Nat.reduceMul, false_and, and_false, reduceCtorEq, false_or, or_false, not_true_eq_false, not_false_eq_true, true_implies, false_implies, implies_true, lf_10, eq_self, Int32.reduceLT, Int32.reduceLE, Int32.reduceAdd, Int32.reduceSub, pm_same, pm_i_wI, pm_l_wL, pm_l_wM, pm_oR_rf, pm_oQ_rf, nI_1, Nat.reduceEqDiff, false_or, false_and, hle, eL, c0, v0]
  repeat' (first | (with_reducible refine ⟨fun _ => ?_, fun _ => ?_⟩) | fail)
  all_goals first | exact b240 | exact b263 | exact b286 | exact b319 | exact b342 | exact b375 | exact b438 | exact b471 | exact b494 | exact b517 | exact b550 | exact b573 | exact b606 | exact b649 | exact b682 | exact b715 | exact b738 | exact b791 | exact b844 | exact b867 | exact b920 | exact b953 | exact b986 | exact b1029 | exact b1062 | exact b1115 | exact b1148 | exact b1181 | exact b1204 | exact b1247 | exact b1280 | exact b1293 | exact b1316 | exact b1349 | exact b1392 | exact b1426 | exact b1459 | exact b1502 | exact b1515 | exact b1538 | exact b1561 | exact b1604 | exact b1627 | exact b1660 | exact b1683 | exact b1726 | exact b1799 | exact b1833 | exact b1896
theorem law_out {G : pm_G} {d : Nat} {S : pm_S} {x cn sn : Nat} {Q : pm_Q} (hx : pm_gL G < x + 6) (hx2 : x ≤ 4000) (hL : pm_gL G ≤ 3072) (hQ : Q (some (.int 1)) S) : pm_W G d 280 Q 18 [.retAddr 101, .ref 0, .ref 59, .int (nI x)] [] S cn sn := by
  have hle : nI (pm_gL G) - 6 < nI x := (lo_6 hL hx2).mpr hx
  have eL : Int32.ofNat (pm_gL G) = nI (pm_gL G) := rfl
  have fin : pm_W G d 280 Q 1902 [.retAddr 101, .ref 0, .ref 59, .int (nI x)] [] S cn sn := by
    refine pm_wl_ok (J := fun t _ ls st S cn sn => pm_W G d 280 Q t ls st S cn sn) (fun _ _ _ _ _ _ _ k => k) _ 1902 _ 1 pb_k280_1902 _ _ _ _ _ ?_
    try simp only [pm_WI0, pm_WI1, pm_WI2, pm_WI3, pm_WI4, pm_WI5, pm_WV, pm_WW, pm_WX, pm_if, Nat.reduceSub, Nat.reduceAdd, true_and, and_true, true_or, or_true, and_self, reduceIte, Nat.reduceEqDiff, Nat.reduceLT, Nat.reduceLeDiff, Nat.reduceMul, false_and, and_false, reduceCtorEq, false_or, or_false, not_true_eq_false, not_false_eq_true, true_implies, false_implies, implies_true, lf_10, eq_self, Int32.reduceLT, Int32.reduceLE, Int32.reduceAdd, Int32.reduceSub, pm_same, pm_i_wI, pm_l_wL, pm_l_wM, pm_oR_rf, pm_oQ_rf, nI_1, Nat.reduceEqDiff, false_or, false_and, hQ]
    repeat' (first | exact hQ | refine ⟨?_, ?_⟩ | decide | fail)
  refine pm_wl_ok (J := fun t _ ls st S cn sn => pm_W G d 280 Q t ls st S cn sn) (fun _ _ _ _ _ _ _ k => k) _ 18 _ 1 pb_k280_18 _ _ _ _ _ ?_
  try simp only [pm_WI0, pm_WI1, pm_WI2, pm_WI3, pm_WI4, pm_WI5, pm_WV, pm_WW, pm_WX, pm_if, Nat.reduceSub, Nat.reduceAdd, true_and, and_true, true_or, or_true, and_self, reduceIte, Nat.reduceEqDiff, Nat.reduceLT, Nat.reduceLeDiff, Nat.reduceMul, false_and, and_false, reduceCtorEq, false_or, or_false, not_true_eq_false, not_false_eq_true, true_implies, false_implies, implies_true, lf_10, eq_self, Int32.reduceLT, Int32.reduceLE, Int32.reduceAdd, Int32.reduceSub, pm_same, pm_i_wI, pm_l_wL, pm_l_wM, pm_oR_rf, pm_oQ_rf, nI_1, Nat.reduceEqDiff, false_or, false_and, hle, eL]
  exact fin
theorem law_loop {G : pm_G} {d : Nat} {Q : pm_Q} (hG : pm_Gok G) (hd : 100 ≤ d) (hL : pm_gL G ≤ 3072) (hQ : ∀ S, Q (some (.int 1)) S) : ∀ (k x : Nat) (A : iv_A) (S : pm_S) (cn sn : Nat), pm_gL G < x + 6 * (k + 1) → x ≤ 4000 → Inv A S → cn ≤ 200 + 4 * x → sn ≤ 7000 + 40 * x → pm_W G d 280 Q 18 [.retAddr 101, .ref 0, .ref 59, .int (nI x)] [] S cn sn
  | 0, x, A, S, cn, sn, h, hx, _, _, _ => law_out (by omega) hx hL (hQ S)
  | k + 1, x, A, S, cn, sn, h, hx, hI, hcn, hsn => by
    by_cases c : x + 6 ≤ pm_gL G
    · refine law_18 hG hd c hL hI (by omega) (by omega) (fun A' S' cn' sn' hI' h1 h2 => ?_)
      have nx := law_loop hG hd hL hQ k (x + 6) A' S' cn' sn' (by omega) (by omega) hI' (by omega) (by omega)
      have e6 : nI x + 6 = nI (x + 6) := nI_add x 6
      refine pm_wl_ok (J := fun t _ ls st S cn sn => pm_W G d 280 Q t ls st S cn sn) (fun _ _ _ _ _ _ _ k => k) _ 1896 _ 1 pb_k280_1896 _ _ _ _ _ ?_
      try simp only [pm_WI0, pm_WI1, pm_WI2, pm_WI3, pm_WI4, pm_WI5, pm_WV, pm_WW, pm_WX, pm_if, Nat.reduceSub, Nat.reduceAdd, true_and, and_true, true_or, or_true, and_self, reduceIte, Nat.reduceEqDiff, Nat.reduceLT, Nat.reduceLeDiff, Nat.reduceMul, false_and, and_false, reduceCtorEq, false_or, or_false, not_true_eq_false, not_false_eq_true, true_implies, false_implies, implies_true, lf_10, eq_self, Int32.reduceLT, Int32.reduceLE, Int32.reduceAdd, Int32.reduceSub, pm_same, pm_i_wI, pm_l_wL, pm_l_wM, pm_oR_rf, pm_oQ_rf, nI_1, Nat.reduceEqDiff, false_or, false_and, e6]
      exact nx
    · exact law_out (by omega) hx hL (hQ S)
theorem law_all {G : pm_G} {d : Nat} {Q : pm_Q} (hG : pm_Gok G) (hd : 100 ≤ d) (hL : pm_gL G ≤ 3072) (hQ : ∀ S, Q (some (.int 1)) S) {S : pm_S} (h : ct ([], [], []) S) : pm_W G d 280 Q 0 [.retAddr 101, .float 0, .float 0, .float 0] [] S 0 0 := by
  refine pm_wl_ok (l := cx_b0) (J := fun t _ ls st S cn sn => pm_W G d 280 Q t ls st S cn sn) (fun _ _ _ _ _ _ _ k => k) 0 18 1 pb_k280_0 _ _ _ _ _ (cx_wl_ok (by omega) (fun t f ls st D S cn sn h e => ?_) (fun j args D S KB q h e hq => cx_c_ok 4 (d - 1) (by omega) j args D S KB q h e hq) (fun D S h e => by cases e) cx_b0 18 1 _ _ _ _ _ _ h cx_run)
  rw [Bool.and_eq_true, decide_eq_true_eq] at e
  obtain ⟨e1, e2⟩ := e
  subst e1
  unfold cx_fin at e2
  split at e2
  · rw [Bool.and_eq_true, Bool.and_eq_true, Bool.and_eq_true, decide_eq_true_eq, decide_eq_true_eq, decide_eq_true_eq] at e2
    obtain ⟨x0, e3, e4, e5⟩ := e2
    subst x0
    exact law_loop hG hd hL hQ 600 0 cx_A S _ _ (by omega) (by omega) (inv_start h e3) (by omega) (by omega)
  · cases e2
