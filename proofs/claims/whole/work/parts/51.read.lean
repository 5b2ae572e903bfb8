/-! THE TEXT read by the class -/
def sg (b : Nat) : Int32 := if b = 256 then -1 else nI b
/-- the reader's place p in a text of n bytes -/
def rd (S : pm_S) (p n : Nat) : Prop := pm_i S 5 2 = nI p ∧ pm_i S 5 1 = nI n ∧ p ≤ n ∧ n ≤ 160 ∧ ∀ k, k < n → iv_in (pm_i S 6 k) 0 255
theorem rd.mv {S : pm_S} {p q n : Nat} (h : rd S p n) (hq : q ≤ n) : rd (pm_wI S 5 2 (nI q)) q n := by
  obtain ⟨h1, h2, h3, h4, h5⟩ := h
  refine ⟨by rw [pm_i_wI]; simp, by rw [pm_i_wI]; simp [h2], hq, h4, fun k hk => ?_⟩
  rw [pm_i_wI_ne (by decide)]; exact h5 k hk
theorem pm_wI_wI {S : pm_S} {p j : Nat} {v u : Int32} : pm_wI (pm_wI S p j v) p j u = pm_wI S p j u := by
  unfold pm_wI
  have : va_up (va_up S.2.2.2.1 p (va_up (S.2.2.2.1 p) j v)) p (va_up (va_up S.2.2.2.1 p (va_up (S.2.2.2.1 p) j v) p) j u) = va_up S.2.2.2.1 p (va_up (S.2.2.2.1 p) j u) := by
    funext x y
    simp only [va_up]
    by_cases hx : x = p
    · subst hx; by_cases hy : y = j <;> simp [va_up, hy]
    · simp [hx]
  simp only [this]
theorem pm_wI_self {S : pm_S} {p j : Nat} {v : Int32} (h : pm_i S p j = v) : pm_wI S p j v = S := by
  subst h
  unfold pm_wI
  have : va_up S.2.2.2.1 p (va_up (S.2.2.2.1 p) j (pm_i S p j)) = S.2.2.2.1 := by
    funext x y
    simp only [va_up, pm_i]
    by_cases hx : x = p
    · subst hx; by_cases hy : y = j <;> simp [va_up, hy]
    · simp [hx]
  rw [this]
section PVG
variable {G : pm_G} {d : Nat} {args : List Value} {S : pm_S}
theorem pv_goI {q : Int32 → pm_S → Prop} (j n : Nat) {T : pm_Tb} (hT : pm_tok j T = true) (hj : j < 280) (hp : plainName (pm_y j).cls = true) (hl : (lg_sl (args.map (pm_v G))).length ≤ pm_mL j) (hdb : pm_ndb args = true) (h : pm_wb G d j (pm_QI q) (pm_lk T) n 0 0 (pm_en (pm_mL j) args) [] S 0 0) : pm_CI G d j args S q :=
  pm_start hj hp hl (pm_ndb_ok hdb) (pm_wb_ok hT n 0 0 _ _ _ _ _ h)
theorem pv_goV {q : pm_S → Prop} (j n : Nat) {T : pm_Tb} (hT : pm_tok j T = true) (hj : j < 280) (hp : plainName (pm_y j).cls = true) (hl : (lg_sl (args.map (pm_v G))).length ≤ pm_mL j) (hdb : pm_ndb args = true) (h : pm_wb G d j (pm_QV q) (pm_lk T) n 0 0 (pm_en (pm_mL j) args) [] S 0 0) : pm_CV G d j args S q :=
  pm_start hj hp hl (pm_ndb_ok hdb) (pm_wb_ok hT n 0 0 _ _ _ _ _ h)
end PVG
theorem rd_lt {S : pm_S} {p n : Nat} (h : rd S p n) (hp : p < n) : gx_b (pm_i S 6) n p = (pm_i S 6 p).toNatClampNeg ∧ pm_i S 6 p = nI (gx_b (pm_i S 6) n p) ∧ gx_b (pm_i S 6) n p < 256 := by
  have h5 := h.2.2.2.2 p hp
  have e : gx_b (pm_i S 6) n p = (pm_i S 6 p).toNatClampNeg := by unfold gx_b; rw [if_pos hp]
  refine ⟨e, by rw [e]; exact iv_nn h5.1, ?_⟩
  rw [e]; have := iv_le (n := 255) 255 h5.2 (by decide); omega
theorem rd_B {S : pm_S} {v : Int32} {n : Nat} : gx_b (pm_i (pm_wI S 5 2 v) 6) n = gx_b (pm_i S 6) n := by rw [pm_i_wI_ne (by decide)]
theorem gx_b_eof {f : Nat → Int32} {n : Nat} : ∀ i, n ≤ i → gx_b f n i = 256 := fun i h => gx_b_end h
theorem rd_44 {G : pm_G} {d : Nat} {S : pm_S} {p n : Nat} {q : Int32 → pm_S → Prop} (hS : Sh S) (hr : rd S p n) (h : q (sg (gx_b (pm_i S 6) n p)) S) : pm_CI G d 44 [.ref 5] S q := by
  have hn := hr.2.2.2.1
  have hp := hr.2.2.1
  refine pm_goI 44 40 pb_c44 (by decide) (Nat.le_of_ble_eq_true rfl) rfl ?_
  simp only [show pm_mL 44 = 1 from rfl, pm_WI0, pm_WI1, pm_WI2, pm_WI3, pm_WI4, pm_WI5, pm_WV, pm_WW, pm_WX, pb_B44, pm_if, pm_QI_at, pm_QL_at, pm_QV_at, pm_QR_at, pm_QR_at0, pm_QR_at1, Nat.reduceSub, Nat.reduceAdd, List.replicate_zero, List.replicate_succ, true_and, and_true, true_or, or_true, and_self, reduceIte, Nat.reduceEqDiff, Nat.reduceLT, Nat.reduceLeDiff, Nat.reduceMul, false_and, and_false, reduceCtorEq, false_or, or_false, not_true_eq_false, not_false_eq_true, true_implies, false_implies, implies_true, lf_10, eq_self, Int32.reduceLT, Int32.reduceLE, Int32.reduceAdd, Int32.reduceSub, pm_same, pm_i_wI, pm_l_wL, pm_l_wM, pm_oR_rf, pm_oQ_rf, sh_k5 hS, sh_r5_0 hS, sh_k6 hS, sh_z6 hS, hr.1, hr.2.1, nI_1]
  refine ⟨fun z => ?_, fun z => ?_⟩
  · have : n ≤ p := (nI_leI (by omega) (by omega)).mp z
    unfold sg at h
    rw [gx_b_end this, if_pos rfl] at h; exact h
  · have hpn : p < n := by
      by_cases h1 : p < n
      · exact h1
      · exact absurd (nI_le (by omega) (by omega)) z
    obtain ⟨e1, e2, e3⟩ := rd_lt hr hpn
    unfold sg at h
    rw [if_neg (by omega), ← e2] at h
    refine ⟨vp_in_nI (by omega) (by decide), ?_⟩
    rw [nI_clamp (by omega)]; exact h
theorem rd_46 {G : pm_G} {d : Nat} {S : pm_S} {p n c : Nat} {q : Int32 → pm_S → Prop} (hS : Sh S) (hr : rd S p n) (hc : c < 256) (h1 : gx_b (pm_i S 6) n p = c → q 1 (pm_wI S 5 2 (nI (p + 1)))) (h0 : ¬ gx_b (pm_i S 6) n p = c → q 0 S) : pm_CI G d 46 [.ref 5, .int (nI c)] S q := by
  have hn := hr.2.2.2.1
  have hp := hr.2.2.1
  refine pm_goI 46 40 pb_c46 (by decide) (Nat.le_of_ble_eq_true rfl) rfl ?_
  simp only [show pm_mL 46 = 2 from rfl, pm_WI0, pm_WI1, pm_WI2, pm_WI3, pm_WI4, pm_WI5, pm_WV, pm_WW, pm_WX, pb_B46, pm_if, pm_QI_at, pm_QL_at, pm_QV_at, pm_QR_at, pm_QR_at0, pm_QR_at1, Nat.reduceSub, Nat.reduceAdd, List.replicate_zero, List.replicate_succ, true_and, and_true, true_or, or_true, and_self, reduceIte, Nat.reduceEqDiff, Nat.reduceLT, Nat.reduceLeDiff, Nat.reduceMul, false_and, and_false, reduceCtorEq, false_or, or_false, not_true_eq_false, not_false_eq_true, true_implies, false_implies, implies_true, lf_10, eq_self, Int32.reduceLT, Int32.reduceLE, Int32.reduceAdd, Int32.reduceSub, pm_same, pm_i_wI, pm_l_wL, pm_l_wM, pm_oR_rf, pm_oQ_rf, sh_k5 hS, sh_r5_0 hS, sh_k6 hS, sh_z6 hS, hr.1, hr.2.1, nI_1]
  refine ⟨fun z => ?_, fun z => ?_⟩
  · have : n ≤ p := (nI_leI (by omega) (by omega)).mp z
    exact h0 (by rw [gx_b_end this]; omega)
  · have hpn : p < n := by
      by_cases h1 : p < n
      · exact h1
      · exact absurd (nI_le (by omega) (by omega)) z
    obtain ⟨e1, e2, e3⟩ := rd_lt hr hpn
    rw [nI_clamp (by omega), e2]
    refine ⟨vp_in_nI (by omega) (by decide), fun y => ?_, fun y => ?_⟩
    · exact h1 ((nI_eq (by omega) (by omega)).mp y)
    · exact h0 (fun e => y (by rw [e]))
theorem rd_270 {G : pm_G} {d i : Nat} {S : pm_S} {q : Int32 → pm_S → Prop} (hi : i < 10) (h : q 0 S) : pm_CI G d 270 [.retAddr i] S q := by
  refine pv_goI 270 40 pb_c270 (by decide) (by decide +kernel) (Nat.le_of_ble_eq_true rfl) rfl ?_
  simp only [show pm_mL 270 = 1 from rfl, pm_WI0, pm_WI1, pm_WI2, pm_WI3, pm_WI4, pm_WI5, pm_WV, pm_WW, pm_WX, pb_B270, pm_if, pm_QI_at, pm_QL_at, pm_QV_at, pm_QR_at, pm_QR_at0, pm_QR_at1, Nat.reduceSub, Nat.reduceAdd, List.replicate_zero, List.replicate_succ, true_and, and_true, true_or, or_true, and_self, reduceIte, Nat.reduceEqDiff, Nat.reduceLT, Nat.reduceLeDiff, Nat.reduceMul, false_and, and_false, reduceCtorEq, false_or, or_false, not_true_eq_false, not_false_eq_true, true_implies, false_implies, implies_true, lf_10, eq_self, Int32.reduceLT, Int32.reduceLE, Int32.reduceAdd, Int32.reduceSub]
  exact ⟨hi, h⟩
theorem rd_269 {G : pm_G} {d i : Nat} {S : pm_S} {q : Int32 → pm_S → Prop} (hd : 0 < d) (hi : i < 10) (h : q (nI (pm_sl.getD i 0)) S) : pm_CI G d 269 [.retAddr i] S q := by
  refine pv_goI 269 40 pb_c269 (by decide) (by decide +kernel) (Nat.le_of_ble_eq_true rfl) rfl ?_
  simp only [show pm_mL 269 = 1 from rfl, pm_WI0, pm_WI1, pm_WI2, pm_WI3, pm_WI4, pm_WI5, pm_WV, pm_WW, pm_WX, pb_B269, pm_if, pm_QI_at, pm_QL_at, pm_QV_at, pm_QR_at, pm_QR_at0, pm_QR_at1, Nat.reduceSub, Nat.reduceAdd, List.replicate_zero, List.replicate_succ, true_and, and_true, true_or, or_true, and_self, reduceIte, Nat.reduceEqDiff, Nat.reduceLT, Nat.reduceLeDiff, Nat.reduceMul, false_and, and_false, reduceCtorEq, false_or, or_false, not_true_eq_false, not_false_eq_true, true_implies, false_implies, implies_true, lf_10, eq_self, Int32.reduceLT, Int32.reduceLE, Int32.reduceAdd, Int32.reduceSub]
  refine ⟨hi, Or.inr ⟨by omega, by omega, hi, hd, rd_270 hi ?_⟩⟩
  rw [show (20 + i - 20) = i by omega, sb_shr0]
  exact h
theorem rd_272 {G : pm_G} {d i : Nat} {S : pm_S} {q : Int32 → pm_S → Prop} (hi : i < 10) (h : q 1 S) : pm_CI G d 272 [.retAddr i] S q := by
  refine pv_goI 272 40 pb_c272 (by decide) (by decide +kernel) (Nat.le_of_ble_eq_true rfl) rfl ?_
  simp only [show pm_mL 272 = 1 from rfl, pm_WI0, pm_WI1, pm_WI2, pm_WI3, pm_WI4, pm_WI5, pm_WV, pm_WW, pm_WX, pb_B272, pm_if, pm_QI_at, pm_QL_at, pm_QV_at, pm_QR_at, pm_QR_at0, pm_QR_at1, Nat.reduceSub, Nat.reduceAdd, List.replicate_zero, List.replicate_succ, true_and, and_true, true_or, or_true, and_self, reduceIte, Nat.reduceEqDiff, Nat.reduceLT, Nat.reduceLeDiff, Nat.reduceMul, false_and, and_false, reduceCtorEq, false_or, or_false, not_true_eq_false, not_false_eq_true, true_implies, false_implies, implies_true, lf_10, eq_self, Int32.reduceLT, Int32.reduceLE, Int32.reduceAdd, Int32.reduceSub]
  exact ⟨hi, h⟩
theorem rd_275 {G : pm_G} {d : Nat} {S : pm_S} {x y : Int32} {v : Value} {q : Int32 → pm_S → Prop} (hv : v = .null ∨ v = .retAddr 102) (hx : 0 ≤ x ∧ x < y) (h : q x S) : pm_CI G d 275 [.int x, .int y, v] S q := by
  rcases hv with rfl | rfl
  · refine pv_goI 275 40 pb_c275 (by decide) (by decide +kernel) (Nat.le_of_ble_eq_true rfl) rfl ?_
    simp only [show pm_mL 275 = 3 from rfl, pm_WI0, pm_WI1, pm_WI2, pm_WI3, pm_WI4, pm_WI5, pm_WV, pm_WW, pm_WX, pb_B275, pm_if, pm_QI_at, pm_QL_at, pm_QV_at, pm_QR_at, pm_QR_at0, pm_QR_at1, Nat.reduceSub, Nat.reduceAdd, List.replicate_zero, List.replicate_succ, true_and, and_true, true_or, or_true, and_self, reduceIte, Nat.reduceEqDiff, Nat.reduceLT, Nat.reduceLeDiff, Nat.reduceMul, false_and, and_false, reduceCtorEq, false_or, or_false, not_true_eq_false, not_false_eq_true, true_implies, false_implies, implies_true, lf_10, eq_self, Int32.reduceLT, Int32.reduceLE, Int32.reduceAdd, Int32.reduceSub]
    exact ⟨fun z => by exfalso; lia, fun _ => ⟨fun _ => h, fun z => absurd hx.2 z⟩⟩
  · refine pv_goI 275 40 pb_c275 (by decide) (by decide +kernel) (Nat.le_of_ble_eq_true rfl) rfl ?_
    simp only [show pm_mL 275 = 3 from rfl, pm_WI0, pm_WI1, pm_WI2, pm_WI3, pm_WI4, pm_WI5, pm_WV, pm_WW, pm_WX, pb_B275, pm_if, pm_QI_at, pm_QL_at, pm_QV_at, pm_QR_at, pm_QR_at0, pm_QR_at1, Nat.reduceSub, Nat.reduceAdd, List.replicate_zero, List.replicate_succ, true_and, and_true, true_or, or_true, and_self, reduceIte, Nat.reduceEqDiff, Nat.reduceLT, Nat.reduceLeDiff, Nat.reduceMul, false_and, and_false, reduceCtorEq, false_or, or_false, not_true_eq_false, not_false_eq_true, true_implies, false_implies, implies_true, lf_10, eq_self, Int32.reduceLT, Int32.reduceLE, Int32.reduceAdd, Int32.reduceSub]
    exact ⟨fun z => by exfalso; lia, fun _ => ⟨fun _ => h, fun z => absurd hx.2 z⟩⟩
theorem rd_273 {G : pm_G} {d : Nat} {S : pm_S} {x y : Int32} {q : pm_S → Prop} (hd : 0 < d) (hx : 0 ≤ x ∧ x < y) (h : q S) : pm_CV G d 273 [.int x, .int y] S q := by
  refine pv_goV 273 40 pb_c273 (by decide) (by decide +kernel) (Nat.le_of_ble_eq_true rfl) rfl ?_
  simp only [show pm_mL 273 = 2 from rfl, pm_WI0, pm_WI1, pm_WI2, pm_WI3, pm_WI4, pm_WI5, pm_WV, pm_WW, pm_WX, pb_B273, pm_if, pm_QI_at, pm_QL_at, pm_QV_at, pm_QR_at, pm_QR_at0, pm_QR_at1, Nat.reduceSub, Nat.reduceAdd, List.replicate_zero, List.replicate_succ, true_and, and_true, true_or, or_true, and_self, reduceIte, Nat.reduceEqDiff, Nat.reduceLT, Nat.reduceLeDiff, Nat.reduceMul, false_and, and_false, reduceCtorEq, false_or, or_false, not_true_eq_false, not_false_eq_true, true_implies, false_implies, implies_true, lf_10, eq_self, Int32.reduceLT, Int32.reduceLE, Int32.reduceAdd, Int32.reduceSub]
  exact ⟨⟨hd, rd_275 (Or.inl rfl) hx h⟩, hd, rd_275 (Or.inr rfl) hx h⟩
theorem rd_sb : ∀ i, i < 10 → ∀ j, j < pm_sl.getD i 0 → pm_sl.getD i 0 < 10 ∧ (((pm_sb.getD i []).getD j 0 &&& 255).toUInt32 % 65536).toInt32 = (pm_sb.getD i []).getD j 0 ∧ narrow FieldType.char (Value.int ((pm_sb.getD i []).getD j 0)) = Value.int ((pm_sb.getD i []).getD j 0) := by decide
theorem rd_274 {G : pm_G} {d i j : Nat} {S : pm_S} {q : Int32 → pm_S → Prop} (hd : 2 ≤ d) (hi : i < 10) (hj : j < pm_sl.getD i 0) (h : q ((pm_sb.getD i []).getD j 0) S) : pm_CI G d 274 [.retAddr (20 + i), .int (nI j)] S q := by
  obtain ⟨s1, s2, s3⟩ := rd_sb i hi j hj
  refine pv_goI 274 40 pb_c274 (by decide) (by decide +kernel) (Nat.le_of_ble_eq_true rfl) rfl ?_
  simp only [show pm_mL 274 = 2 from rfl, pm_WI0, pm_WI1, pm_WI2, pm_WI3, pm_WI4, pm_WI5, pm_WV, pm_WW, pm_WX, pb_B274, pm_if, pm_QI_at, pm_QL_at, pm_QV_at, pm_QR_at, pm_QR_at0, pm_QR_at1, Nat.reduceSub, Nat.reduceAdd, List.replicate_zero, List.replicate_succ, true_and, and_true, true_or, or_true, and_self, reduceIte, Nat.reduceEqDiff, Nat.reduceLT, Nat.reduceLeDiff, Nat.reduceMul, false_and, and_false, reduceCtorEq, false_or, or_false, not_true_eq_false, not_false_eq_true, true_implies, false_implies, implies_true, lf_10, eq_self, Int32.reduceLT, Int32.reduceLE, Int32.reduceAdd, Int32.reduceSub]
  rw [show (20 + i - 20) = i by omega]
  refine Or.inr ⟨by omega, by omega, by omega, rd_273 (by omega) ⟨nI_pos' (by omega), nI_lt hj (by omega)⟩ ?_⟩
  rw [nI_clamp (by omega), s2]
  exact ⟨by omega, by omega, vp_in_nI hj (by omega), Or.inr (Or.inr s3), h⟩
theorem rd_271 {G : pm_G} {d i j : Nat} {S : pm_S} {q : Int32 → pm_S → Prop} (hd : 4 ≤ d) (hi : i < 10) (hj : j < pm_sl.getD i 0) (h : q ((pm_sb.getD i []).getD j 0) S) : pm_CI G d 271 [.retAddr i, .int (nI j)] S q := by
  obtain ⟨s1, s2, s3⟩ := rd_sb i hi j hj
  refine pv_goI 271 40 pb_c271 (by decide) (by decide +kernel) (Nat.le_of_ble_eq_true rfl) rfl ?_
  simp only [show pm_mL 271 = 2 from rfl, pm_WI0, pm_WI1, pm_WI2, pm_WI3, pm_WI4, pm_WI5, pm_WV, pm_WW, pm_WX, pb_B271, pm_if, pm_QI_at, pm_QL_at, pm_QV_at, pm_QR_at, pm_QR_at0, pm_QR_at1, Nat.reduceSub, Nat.reduceAdd, List.replicate_zero, List.replicate_succ, true_and, and_true, true_or, or_true, and_self, reduceIte, Nat.reduceEqDiff, Nat.reduceLT, Nat.reduceLeDiff, Nat.reduceMul, false_and, and_false, reduceCtorEq, false_or, or_false, not_true_eq_false, not_false_eq_true, true_implies, false_implies, implies_true, lf_10, eq_self, Int32.reduceLT, Int32.reduceLE, Int32.reduceAdd, Int32.reduceSub]
  refine ⟨hi, by omega, rd_272 hi ⟨fun z => absurd z (by decide), fun _ => ⟨hi, by omega, rd_274 (by omega) hi hj ⟨Or.inr (Or.inr s3), h⟩⟩⟩⟩
/-- the word's bytes as numbers -/
def wb (i : Nat) : List Nat := (pm_sb.getD i []).map Int32.toNatClampNeg
theorem wb_ok : ∀ i, i < 10 → (wb i).length = pm_sl.getD i 0 ∧ ∀ j, j < pm_sl.getD i 0 → (pm_sb.getD i []).getD j 0 = nI ((wb i).getD j 0) ∧ (wb i).getD j 0 < 256 := by decide
theorem gx_w_drop {B : Nat → Nat} {l : List Nat} {i p : Nat} (hi : i < l.length) : gx_w B (l.drop i) p = if B p = l.getD i 0 then gx_w B (l.drop (i + 1)) (p + 1) else (p, none) := by
  rw [List.drop_eq_getElem_cons hi]
  simp only [gx_w]
  rw [List.getD_eq_getElem?_getD, List.getElem?_eq_getElem hi]
  rfl
theorem rd_45 {G : pm_G} {d : Nat} {S : pm_S} {p n i : Nat} {q : Int32 → pm_S → Prop} (hd : 6 ≤ d) (hS : Sh S) (hr : rd S p n) (hi : i < 10) (h1 : ∀ r, gx_w (gx_b (pm_i S 6) n) (wb i) p = (r, some ()) → r ≤ n → q 1 (pm_wI S 5 2 (nI r))) (h0 : ∀ r, gx_w (gx_b (pm_i S 6) n) (wb i) p = (r, none) → r ≤ n → q 0 (pm_wI S 5 2 (nI r))) : pm_CI G d 45 [.ref 5, .retAddr i] S q := by
  obtain ⟨w1, w2⟩ := wb_ok i hi
  have hn := hr.2.2.2.1
  refine pm_goI 45 40 pb_c45 (by decide) (Nat.le_of_ble_eq_true rfl) rfl ?_
  simp only [show pm_mL 45 = 3 from rfl, pm_WI0, pm_WI1, pm_WI2, pm_WI3, pm_WI4, pm_WI5, pm_WV, pm_WW, pm_WX, pb_B45, pm_if, pm_QI_at, pm_QL_at, pm_QV_at, pm_QR_at, pm_QR_at0, pm_QR_at1, Nat.reduceSub, Nat.reduceAdd, List.replicate_zero, List.replicate_succ, true_and, and_true, true_or, or_true, and_self, reduceIte, Nat.reduceEqDiff, Nat.reduceLT, Nat.reduceLeDiff, Nat.reduceMul, false_and, and_false, reduceCtorEq, false_or, or_false, not_true_eq_false, not_false_eq_true, true_implies, false_implies, implies_true, lf_10, eq_self, Int32.reduceLT, Int32.reduceLE, Int32.reduceAdd, Int32.reduceSub, pm_same, pm_i_wI, pm_l_wL, pm_l_wM, pm_oR_rf, pm_oQ_rf, sh_k5 hS]
  have key : ∀ k j, j + k = pm_sl.getD i 0 → p + j ≤ n → gx_w (gx_b (pm_i S 6) n) ((wb i).drop j) (p + j) = gx_w (gx_b (pm_i S 6) n) (wb i) p → pm_W G d 45 (pm_QI q) 2 [.ref 5, .retAddr i, .int (nI j)] [] (pm_wI S 5 2 (nI (p + j))) 0 0 := by
    intro k
    induction k with
    | zero =>
      intro j hj hpj e
      have hjl : j = (wb i).length := by omega
      rw [hjl, List.drop_length] at e
      refine pm_wb_ok pb_c45 40 2 0 _ _ _ _ _ ?_
      simp only [pm_WI0, pm_WI1, pm_WI2, pm_WI3, pm_WI4, pm_WI5, pm_WV, pm_WW, pm_WX, pb_B45, pm_if, pm_QI_at, pm_QL_at, pm_QV_at, pm_QR_at, pm_QR_at0, pm_QR_at1, Nat.reduceSub, Nat.reduceAdd, List.replicate_zero, List.replicate_succ, true_and, and_true, true_or, or_true, and_self, reduceIte, Nat.reduceEqDiff, Nat.reduceLT, Nat.reduceLeDiff, Nat.reduceMul, false_and, and_false, reduceCtorEq, false_or, or_false, not_true_eq_false, not_false_eq_true, true_implies, false_implies, implies_true, lf_10, eq_self, Int32.reduceLT, Int32.reduceLE, Int32.reduceAdd, Int32.reduceSub, pm_same, pm_i_wI, pm_l_wL, pm_l_wM, pm_oR_rf, pm_oQ_rf, sh_k5 hS]
      refine ⟨hi, by omega, rd_269 (by omega) hi ?_⟩
      rw [show pm_sl.getD i 0 = j by omega]
      refine ⟨fun _ => h1 _ (by rw [← e, ← hjl]; rfl) hpj, fun z => absurd (Int32.le_refl _) z⟩
    | succ k ih =>
      intro j hj hpj e
      have hjl : j < pm_sl.getD i 0 := by omega
      obtain ⟨u1, u2⟩ := w2 j hjl
      rw [gx_w_drop (by omega)] at e
      have hr2 := hr.mv hpj
      have hs10 := (rd_sb i hi j hjl).1
      refine pm_wb_ok pb_c45 40 2 0 _ _ _ _ _ ?_
      simp only [pm_WI0, pm_WI1, pm_WI2, pm_WI3, pm_WI4, pm_WI5, pm_WV, pm_WW, pm_WX, pb_B45, pm_if, pm_QI_at, pm_QL_at, pm_QV_at, pm_QR_at, pm_QR_at0, pm_QR_at1, Nat.reduceSub, Nat.reduceAdd, List.replicate_zero, List.replicate_succ, true_and, and_true, true_or, or_true, and_self, reduceIte, Nat.reduceEqDiff, Nat.reduceLT, Nat.reduceLeDiff, Nat.reduceMul, false_and, and_false, reduceCtorEq, false_or, or_false, not_true_eq_false, not_false_eq_true, true_implies, false_implies, implies_true, lf_10, eq_self, Int32.reduceLT, Int32.reduceLE, Int32.reduceAdd, Int32.reduceSub, pm_same, pm_i_wI, pm_l_wL, pm_l_wM, pm_oR_rf, pm_oQ_rf, sh_k5 hS]
      refine ⟨hi, by omega, rd_269 (by omega) hi ⟨fun z => absurd z (nI_ge hjl (by omega)), fun _ => ⟨hi, by omega, rd_271 (by omega) hi hjl ⟨by omega, sh_k5 hS, ?_⟩⟩⟩⟩
      rw [u1]
      refine rd_46 (S := pm_wI S 5 2 (nI (p + j))) hS hr2 u2 (fun y => ?_) (fun y => ?_) <;> rw [rd_B] at y
      · refine ⟨fun z => absurd z (by decide), fun _ => ?_⟩
        rw [if_pos y] at e
        have hlt : p + j < n := gx_lt gx_b_eof y u2
        rw [pm_wI_wI, nI_1]
        exact ih (j + 1) (by omega) (by omega) e
      · refine ⟨fun _ => ?_, fun z => absurd rfl z⟩
        rw [if_neg y] at e
        exact h0 _ e.symm hpj
  have := key (pm_sl.getD i 0) 0 (by omega) (by have := hr.2.2.1; omega) rfl
  rw [Nat.add_zero, pm_wI_self hr.1] at this
  exact this
