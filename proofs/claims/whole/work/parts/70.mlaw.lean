theorem gx_one_le {B : Nat → Nat} {n : Nat} (hB : ∀ i, n ≤ i → B i = 256) {L : gx_L} {f p : Nat} {ws : List Nat} (hp : p ≤ n) (hl : ∀ c, c ∈ ws → c < 256) : (gx_one B L f ws p).1 ≤ n := by
  unfold gx_one
  refine gx_bd_le (gx_w_le hB ws p hp hl).1 (fun _ q hq => gx_bd_le ?_ (fun _ _ h => h))
  rcases gx_two (gx_num B 0 4 q) with ⟨x, ex⟩ | ⟨x, v, ex⟩
  · have := gx_num_no ex; rw [ex]; show x ≤ n; omega
  · rw [ex]; exact (gx_num_ok hB (by omega) ex).2.1
theorem gx_num_le' {B : Nat → Nat} {n : Nat} (hB : ∀ i, n ≤ i → B i = 256) {least most p : Nat} (hm : 1 ≤ most) (hp : p ≤ n) : (gx_num B least most p).1 ≤ n := by
  rcases gx_two (gx_num B least most p) with ⟨x, ex⟩ | ⟨x, v, ex⟩
  · have := gx_num_no ex; rw [ex]; show x ≤ n; omega
  · rw [ex]; exact (gx_num_ok hB hm ex).2.1
theorem gx_clause_le {B : Nat → Nat} {n : Nat} (hB : ∀ i, n ≤ i → B i = 256) {L : gx_L} {p x : Nat} {o : Option gx_L} (hp : p ≤ n) (e : gx_clause B L p = (x, o)) : x ≤ n := by
  have : (gx_clause B L p).1 ≤ n := by
    unfold gx_clause
    split
    · unfold gx_owe
      refine gx_bd_le (gx_w_le hB _ p hp (by decide)).1 (fun _ q hq => gx_bd_le (gx_num_le' hB (by omega) hq) (fun _ q hq => gx_bd_le (gx_w_le hB _ q hq (by decide)).1 (fun _ q hq => gx_bd_le (gx_num_le' hB (by omega) hq) (fun m q hq => ?_))))
      split
      · have hq1 : q < n := gx_lt hB (by assumption) (by omega)
        refine gx_bd_le ?_ (fun _ r hr => gx_bd_le (gx_ok_le (gx_e_ok hB hr)) (fun _ _ h => h))
        split
        · exact (gx_w_le hB _ _ (by omega) (by decide)).1
        · exact (gx_w_le hB _ _ (by omega) (by decide)).1
      · exact hq
    · split
      · have hq1 : p < n := gx_lt hB (by assumption) (by omega)
        split
        · exact gx_one_le hB (by omega) (by decide)
        · unfold gx_reach
          exact gx_bd_le (gx_w_le hB _ _ (by omega) (by decide)).1 (fun _ r hr => gx_bd_le (gx_ok_le (gx_e_ok hB hr)) (fun _ _ h => h))
      · split
        · unfold gx_scale
          exact gx_bd_le (gx_w_le hB _ p hp (by decide)).1 (fun _ q hq => gx_bd_le (gx_num_le' hB (by omega) hq) (fun _ q hq => gx_bd_le (gx_w_le hB _ q hq (by decide)).1 (fun _ q hq => gx_bd_le (gx_num_le' hB (by omega) hq) (fun _ _ h => h))))
        · split
          · exact gx_one_le hB hp (by decide)
          · split
            · exact gx_one_le hB hp (by decide)
            · split
              · exact gx_one_le hB hp (by decide)
              · split
                · exact gx_one_le hB hp (by decide)
                · exact hp
  rw [e] at this; exact this
theorem mr_178 {G : pm_G} {d : Nat} {S : pm_S} {t : Nat → Bool} {q : pm_S → Prop} (hS : Sh S) (h : ∀ T, lfr S T → mlr T t gx_0 → (∀ j, j < 52 → pm_i T 59 j = pm_i S 59 j) → q T) : pm_CV G d 178 [.ref 59] S q := by
  refine pm_goV 178 40 pb_c178 (by decide) (Nat.le_of_ble_eq_true rfl) rfl ?_
  try simp only [show pm_mL 178 = 1 from rfl, pm_WI0, pm_WI1, pm_WI2, pm_WI3, pm_WI4, pm_WI5, pm_WV, pm_WW, pm_WX, pb_B178, pm_if, pm_QI_at, pm_QL_at, pm_QV_at, pm_QR_at, pm_QR_at0, pm_QR_at1, Nat.reduceSub, Nat.reduceAdd, List.replicate_zero, List.replicate_succ, true_and, and_true, true_or, or_true, and_self, reduceIte, Nat.reduceEqDiff, Nat.reduceLT, Nat.reduceLeDiff, Nat.reduceMul, false_and, and_false, reduceCtorEq, false_or, or_false, not_true_eq_false, not_false_eq_true, true_implies, false_implies, implies_true, lf_10, eq_self, Int32.reduceLT, Int32.reduceLE, Int32.reduceAdd, Int32.reduceSub, pm_same, pm_i_wI, pm_l_wL, pm_l_wM, pm_oR_rf, pm_oQ_rf, sh_k59 hS]
  refine h _ (((((((((lfr.rf.w (by omega) (by omega)).w (by omega) (by omega)).w (by omega) (by omega)).w (by omega) (by omega)).w (by omega) (by omega)).w (by omega) (by omega)).w (by omega) (by omega)).w (by omega) (by omega)).w (by omega) (by omega)) ⟨?_, fun k hk => absurd hk (Nat.not_lt_zero k), ?_, fun f f1 f2 => ?_⟩ (fun j hj => ?_)
  · simp [pm_i_wI]; rfl
  · simp [pm_i_wI]; rfl
  · have : f = 10 ∨ f = 11 ∨ f = 12 ∨ f = 13 ∨ f = 14 ∨ f = 15 ∨ f = 16 := by omega
    rcases this with rfl | rfl | rfl | rfl | rfl | rfl | rfl <;> simp [pm_i_wI] <;> rfl
  · try simp only [pm_i_wI]
    repeat rw [if_neg (by omega)]
theorem mr_179e {G : pm_G} {f : Nat → Int32} {n : Nat} {t : Nat → Bool} {T : pm_S} {r : gx_R Unit} {a b c : Value} {q : pm_S → Prop} {d : Nat} (hd : 3 ≤ d) (hcx : cx T f n t) (hr : r.1 ≤ n) (h : q (ms T 0 (match r.2 with
  | some _ => if n ≤ r.1 then r else (r.1, none)
  | none => r))) : pm_W G d 179 (pm_QV q) 34 [.ref 59, a, b, c, .int 0, .float 0] [] (ms T 0 r) 0 0 := by
  obtain ⟨hS, hm, h18, h24, h24b, ht⟩ := id hcx
  have hn := hm.2.1
  obtain ⟨x, _ | u⟩ := r
  · simp only at h hr
    have hms : ms T 0 (x, none) = mst T (nI x) (nI x) (nI 0) := rfl
    have hx0 : 0 ≤ nI x := nI_pos' (by omega)
    rw [hms] at h ⊢
    refine pm_wb_ok pb_c179 4 34 0 _ _ _ _ _ ?_
    try simp only [pm_WI0, pm_WI1, pm_WI2, pm_WI3, pm_WI4, pm_WI5, pm_WV, pm_WW, pm_WX, pb_B179, pm_if, pm_QI_at, pm_QL_at, pm_QV_at, pm_QR_at, pm_QR_at0, pm_QR_at1, Nat.reduceSub, Nat.reduceAdd, List.replicate_zero, List.replicate_succ, true_and, and_true, true_or, or_true, and_self, reduceIte, Nat.reduceEqDiff, Nat.reduceLT, Nat.reduceLeDiff, Nat.reduceMul, false_and, and_false, reduceCtorEq, false_or, or_false, not_true_eq_false, not_false_eq_true, true_implies, false_implies, implies_true, lf_10, eq_self, Int32.reduceLT, Int32.reduceLE, Int32.reduceAdd, Int32.reduceSub, pm_same, pm_i_wI, pm_l_wL, pm_l_wM, pm_oR_rf, pm_oQ_rf, sh_k59 hS, sh_r59_25 hS, sh_k80 hS, sh_z80 hS, sh_r59_27 hS, sh_k81 hS, sh_z81 hS, mst_w46, mst_w48, mst_w49, mst_46, mst_48, mst_49, mst_k, mst_z, mst_r, mst_n, mst_l, mst_R62, mst_R64, mst_R65, mst_R66, mst_R67, mst_R78, mst_R80, mst_R81, mst_F18, mst_F24, mst_F45, mst_F47, mst_F50, mst_F51, nI_1, LQ1, LQ2, LQ4, LQ1, LQ2, ms_k, ms_z, ms_r, ms_49, ms_w49, ms_R62, ms_R64, ms_R65, ms_R66, ms_R67, ms_R75, ms_R76, ms_R77, ms_R78, ms_R79, ms_R80, ms_R81, ms_R95, ms_R96, ms_R97, ms_F0, ms_F2, ms_F18, ms_F24, ms_F31, ms_F26, ms_F45, ms_F47, ms_F50, ms_F51, ms_F52, ms_F53, ms_F54, ms_F55, ms_F56, ms_F57, ms_F58, ms_F59, ms_F60, ms_F61, ms_F62, ms_F63, sh_r59_60 hS, sh_k95 hS, sh_z95 hS, sh_r59_61 hS, sh_k96 hS, sh_z96 hS, sh_r59_62 hS, sh_k97 hS, sh_z97 hS, hx0]
    exact h
  · simp only at h hr
    have hms : ms T 0 (x, some u) = mst T (nI x) (-1) (nI 0) := rfl
    have hms2 : ms T 0 (x, none) = mst T (nI x) (nI x) (nI 0) := rfl
    rw [hms]
    refine pm_wb_ok pb_c179 4 34 0 _ _ _ _ _ ?_
    try simp only [pm_WI0, pm_WI1, pm_WI2, pm_WI3, pm_WI4, pm_WI5, pm_WV, pm_WW, pm_WX, pb_B179, pm_if, pm_QI_at, pm_QL_at, pm_QV_at, pm_QR_at, pm_QR_at0, pm_QR_at1, Nat.reduceSub, Nat.reduceAdd, List.replicate_zero, List.replicate_succ, true_and, and_true, true_or, or_true, and_self, reduceIte, Nat.reduceEqDiff, Nat.reduceLT, Nat.reduceLeDiff, Nat.reduceMul, false_and, and_false, reduceCtorEq, false_or, or_false, not_true_eq_false, not_false_eq_true, true_implies, false_implies, implies_true, lf_10, eq_self, Int32.reduceLT, Int32.reduceLE, Int32.reduceAdd, Int32.reduceSub, pm_same, pm_i_wI, pm_l_wL, pm_l_wM, pm_oR_rf, pm_oQ_rf, sh_k59 hS, sh_r59_25 hS, sh_k80 hS, sh_z80 hS, sh_r59_27 hS, sh_k81 hS, sh_z81 hS, mst_w46, mst_w48, mst_w49, mst_46, mst_48, mst_49, mst_k, mst_z, mst_r, mst_n, mst_l, mst_R62, mst_R64, mst_R65, mst_R66, mst_R67, mst_R78, mst_R80, mst_R81, mst_F18, mst_F24, mst_F45, mst_F47, mst_F50, mst_F51, nI_1, LQ1, LQ2, LQ4, LQ1, LQ2, ms_k, ms_z, ms_r, ms_49, ms_w49, ms_R62, ms_R64, ms_R65, ms_R66, ms_R67, ms_R75, ms_R76, ms_R77, ms_R78, ms_R79, ms_R80, ms_R81, ms_R95, ms_R96, ms_R97, ms_F0, ms_F2, ms_F18, ms_F24, ms_F31, ms_F26, ms_F45, ms_F47, ms_F50, ms_F51, ms_F52, ms_F53, ms_F54, ms_F55, ms_F56, ms_F57, ms_F58, ms_F59, ms_F60, ms_F61, ms_F62, ms_F63, sh_r59_60 hS, sh_k95 hS, sh_z95 hS, sh_r59_61 hS, sh_k96 hS, sh_z96 hS, sh_r59_62 hS, sh_k97 hS, sh_z97 hS, hm.1]
    refine ⟨fun z => ?_, fun z => ⟨by omega, mr_187l hS ?_⟩⟩
    · have hnx : n ≤ x := (nI_leI (by omega) (by omega)).mp z
      rw [if_pos hnx, hms] at h; exact h
    · have hnx : ¬ n ≤ x := fun y => z (nI_le y (by omega))
      rw [if_neg hnx, hms2] at h; exact h
/-- the loop over the clauses -/
theorem mr_179k {G : pm_G} {f : Nat → Int32} {n : Nat} {t : Nat → Bool} {a b : Int32} {q : pm_S → Prop} {d : Nat} (hd : 30 ≤ d) : ∀ (g : Nat) (S : pm_S) (L : gx_L) (p : Nat), cx S f n t → gx_wf t L (10 - (g + 1)) p → mlr S t L → g + 1 ≤ 10 → p ≤ n →
    (∀ x L' T, gx_law (gx_b f n) n (g + 1) L p = (x, some L') → lfr S T → mlr T t L' → q (ms T 0 (x, some ()))) → (∀ x T, gx_law (gx_b f n) n (g + 1) L p = (x, none) → lfr S T → q (ms T 0 (x, none))) →
    pm_W G d 179 (pm_QV q) 34 [.ref 59, .int a, .int b, .int (nI (10 - (g + 1))), .int 1, .float 0] [] (ms S 0 (p, some ())) 0 0 := by
  intro g
  induction g with
  | zero =>
    intro S L p hcx hw hmlr hg hp h1 h0
    obtain ⟨hS, hm, h18, h24, h24b, ht⟩ := id hcx
    have hn := hm.2.1
    have e10 : (10 : Int32) ≤ nI 10 := by decide
    refine pm_wb_ok pb_c179 3 34 0 _ _ _ _ _ ?_
    try simp only [pm_WI0, pm_WI1, pm_WI2, pm_WI3, pm_WI4, pm_WI5, pm_WV, pm_WW, pm_WX, pb_B179, pm_if, pm_QI_at, pm_QL_at, pm_QV_at, pm_QR_at, pm_QR_at0, pm_QR_at1, Nat.reduceSub, Nat.reduceAdd, List.replicate_zero, List.replicate_succ, true_and, and_true, true_or, or_true, and_self, reduceIte, Nat.reduceEqDiff, Nat.reduceLT, Nat.reduceLeDiff, Nat.reduceMul, false_and, and_false, reduceCtorEq, false_or, or_false, not_true_eq_false, not_false_eq_true, true_implies, false_implies, implies_true, lf_10, eq_self, Int32.reduceLT, Int32.reduceLE, Int32.reduceAdd, Int32.reduceSub, pm_same, pm_i_wI, pm_l_wL, pm_l_wM, pm_oR_rf, pm_oQ_rf, sh_k59 hS, sh_r59_25 hS, sh_k80 hS, sh_z80 hS, sh_r59_27 hS, sh_k81 hS, sh_z81 hS, mst_w46, mst_w48, mst_w49, mst_46, mst_48, mst_49, mst_k, mst_z, mst_r, mst_n, mst_l, mst_R62, mst_R64, mst_R65, mst_R66, mst_R67, mst_R78, mst_R80, mst_R81, mst_F18, mst_F24, mst_F45, mst_F47, mst_F50, mst_F51, nI_1, LQ1, LQ2, LQ4, LQ1, LQ2, ms_k, ms_z, ms_r, ms_49, ms_w49, ms_R62, ms_R64, ms_R65, ms_R66, ms_R67, ms_R75, ms_R76, ms_R77, ms_R78, ms_R79, ms_R80, ms_R81, ms_R95, ms_R96, ms_R97, ms_F0, ms_F2, ms_F18, ms_F24, ms_F31, ms_F26, ms_F45, ms_F47, ms_F50, ms_F51, ms_F52, ms_F53, ms_F54, ms_F55, ms_F56, ms_F57, ms_F58, ms_F59, ms_F60, ms_F61, ms_F62, ms_F63, sh_r59_60 hS, sh_k95 hS, sh_z95 hS, sh_r59_61 hS, sh_k96 hS, sh_z96 hS, sh_r59_62 hS, sh_k97 hS, sh_z97 hS, e10]
    refine ⟨by omega, mr_180 (by omega) hcx hw hmlr (by omega) (Nat.le_refl p) hp (fun x L' T e hf hl => ?_) (fun x T e hf => ?_)⟩
    · have hx := wf_clause gx_b_eof hw hp e
      refine pv_W (mr_179e (a := .int a) (b := .int b) (c := .int (nI 10)) (by omega) (hcx.fr hf) (by exact hx.2.2) ?_) (by simp [pv_le, pm_unk])
      have el : gx_law (gx_b f n) n 1 L p = if n ≤ x then (x, some L') else (x, none) := by
        rw [gx_law, gx_bd_some e]; split <;> rfl
      show q (ms T 0 (if n ≤ x then (x, some ()) else (x, none)))
      split
      · rename_i hnx; rw [if_pos hnx] at el; exact h1 x L' T el hf hl
      · rename_i hnx; rw [if_neg hnx] at el; exact h0 x T el hf
    · have hx := gx_clause_le gx_b_eof hp e
      refine pv_W (mr_179e (a := .int a) (b := .int b) (c := .int (nI 10)) (by omega) (hcx.fr hf) (by exact hx) ?_) (by simp [pv_le, pm_unk])
      exact h0 x T (by rw [gx_law, gx_bd_none e]) hf
  | succ g ih =>
    intro S L p hcx hw hmlr hg hp h1 h0
    obtain ⟨hS, hm, h18, h24, h24b, ht⟩ := id hcx
    have hn := hm.2.1
    have e1 : 10 - (g + 1 + 1) + 1 = 10 - (g + 1) := by omega
    have e10 : ¬ (10 : Int32) ≤ nI (10 - (g + 1)) := nI_ge (a := 10 - (g + 1)) (b := 10) (by omega) (by omega)
    refine pm_wb_ok pb_c179 3 34 0 _ _ _ _ _ ?_
    try simp only [pm_WI0, pm_WI1, pm_WI2, pm_WI3, pm_WI4, pm_WI5, pm_WV, pm_WW, pm_WX, pb_B179, pm_if, pm_QI_at, pm_QL_at, pm_QV_at, pm_QR_at, pm_QR_at0, pm_QR_at1, Nat.reduceSub, Nat.reduceAdd, List.replicate_zero, List.replicate_succ, true_and, and_true, true_or, or_true, and_self, reduceIte, Nat.reduceEqDiff, Nat.reduceLT, Nat.reduceLeDiff, Nat.reduceMul, false_and, and_false, reduceCtorEq, false_or, or_false, not_true_eq_false, not_false_eq_true, true_implies, false_implies, implies_true, lf_10, eq_self, Int32.reduceLT, Int32.reduceLE, Int32.reduceAdd, Int32.reduceSub, pm_same, pm_i_wI, pm_l_wL, pm_l_wM, pm_oR_rf, pm_oQ_rf, sh_k59 hS, sh_r59_25 hS, sh_k80 hS, sh_z80 hS, sh_r59_27 hS, sh_k81 hS, sh_z81 hS, mst_w46, mst_w48, mst_w49, mst_46, mst_48, mst_49, mst_k, mst_z, mst_r, mst_n, mst_l, mst_R62, mst_R64, mst_R65, mst_R66, mst_R67, mst_R78, mst_R80, mst_R81, mst_F18, mst_F24, mst_F45, mst_F47, mst_F50, mst_F51, nI_1, LQ1, LQ2, LQ4, LQ1, LQ2, ms_k, ms_z, ms_r, ms_49, ms_w49, ms_R62, ms_R64, ms_R65, ms_R66, ms_R67, ms_R75, ms_R76, ms_R77, ms_R78, ms_R79, ms_R80, ms_R81, ms_R95, ms_R96, ms_R97, ms_F0, ms_F2, ms_F18, ms_F24, ms_F31, ms_F26, ms_F45, ms_F47, ms_F50, ms_F51, ms_F52, ms_F53, ms_F54, ms_F55, ms_F56, ms_F57, ms_F58, ms_F59, ms_F60, ms_F61, ms_F62, ms_F63, sh_r59_60 hS, sh_k95 hS, sh_z95 hS, sh_r59_61 hS, sh_k96 hS, sh_z96 hS, sh_r59_62 hS, sh_k97 hS, sh_z97 hS, e1, e10]
    refine ⟨by omega, mr_180 (by omega) hcx hw hmlr (by omega) (Nat.le_refl p) hp (fun x L' T e hf hl => ?_) (fun x T e hf => ?_)⟩
    · have hx := wf_clause gx_b_eof hw hp e
      have hcT := hcx.fr hf
      have hms : ms T 0 (x, some ()) = mst T (nI x) (-1) (nI 0) := rfl
      have el : gx_law (gx_b f n) n (g + 1 + 1) L p = if n ≤ x then (x, some L') else if gx_b f n x = 59 then gx_law (gx_b f n) n (g + 1) L' (x + 1) else (x, none) := by
        rw [gx_law, gx_bd_some e]
        show (if n ≤ x then _ else if g + 1 = 0 then _ else _) = _
        rw [if_neg (show ¬ g + 1 = 0 by omega)]
      refine ⟨by omega, by rw [ms_k]; exact sh_k59 hcT.1, ?_⟩
      rw [hms]
      refine mr_186l (c := 59) (by omega) hcT.1 hcT.2.1 hx.2.2 (by omega) (fun y => ?_) (fun y => ?_)
      · have hxn : x < n := gx_lt gx_b_eof y (by omega)
        rw [if_neg (by omega), if_pos y] at el
        refine ⟨fun z => absurd z (by decide), fun _ => ?_⟩
        have hw2 : gx_wf t L' (10 - (g + 1)) (x + 1) := wf_mono hx.1 (by omega) (by omega)
        exact pv_W (ih T L' (x + 1) hcT hw2 hl (by omega) (by omega) (fun x2 L2 T2 e2 hf2 hl2 => h1 x2 L2 T2 (by rw [el]; exact e2) (hf.tr hf2) hl2) (fun x2 T2 e2 hf2 => h0 x2 T2 (by rw [el]; exact e2) (hf.tr hf2))) (by simp [pv_le, pm_unk])
      · rw [if_neg (show ¬ gx_b f n x = 59 from y)] at el
        refine ⟨fun _ => ?_, fun z => absurd rfl z⟩
        refine pv_W (mr_179e (a := .int a) (b := .int b) (c := .int (nI (10 - (g + 1)))) (r := (x, some ())) (by omega) hcT (by exact hx.2.2) ?_) (by simp [pv_le, pm_unk])
        show q (ms T 0 (if n ≤ x then (x, some ()) else (x, none)))
        split
        · rename_i hnx; rw [if_pos hnx] at el; exact h1 x L' T el hf hl
        · rename_i hnx; rw [if_neg hnx] at el; exact h0 x T el hf
    · have hx := gx_clause_le gx_b_eof hp e
      have hcT := hcx.fr hf
      have hms : ms T 0 (x, none) = mst T (nI x) (nI x) (nI 0) := rfl
      refine ⟨by omega, by rw [ms_k]; exact sh_k59 hcT.1, ?_⟩
      rw [hms]
      refine mr_186f (c := 59) hcT.1 (p := 0) (by omega) ⟨fun _ => ?_, fun z => absurd rfl z⟩
      refine pv_W (mr_179e (a := .int a) (b := .int b) (c := .int (nI (10 - (g + 1)))) (r := (x, none)) (by omega) hcT (by exact hx) ?_) (by simp [pv_le, pm_unk])
      exact h0 x T (by rw [gx_law, gx_bd_none e]) hf
theorem mr_179 {G : pm_G} {d : Nat} {S : pm_S} {f : Nat → Int32} {n : Nat} {t : Nat → Bool} {bs : Int32} {q : pm_S → Prop} (hd : 31 ≤ d) (hS : Sh S) (hn : n ≤ 160) (hf : ∀ k, k < n → iv_in (f k) 0 255) (hb : (bs = -1 ∧ f = pm_i S 80) ∨ ∃ l, l < 12 ∧ bs = nI (160 * l) ∧ f = iv_txt S l) (h18 : iv_c S 18 ≤ 40) (h24 : pm_i S 59 24 = nI (iv_c S 24)) (h24b : iv_c S 24 ≤ 150) (ht : tq S t)
    (h1 : ∀ x L T, gx_read f n = (x, some L) → sc S T → sF S T → mlr T t L → pm_i T 59 48 = -1 → q T) (h0 : ∀ x T, gx_read f n = (x, none) → sc S T → pm_i T 59 48 = nI x → q T) : pm_CV G d 179 [.ref 59, .int bs, .int (nI n)] S q := by
  refine pm_goV 179 1 pb_c179 (by decide) (Nat.le_of_ble_eq_true rfl) rfl ?_
  try simp only [show pm_mL 179 = 6 from rfl, pm_WI0, pm_WI1, pm_WI2, pm_WI3, pm_WI4, pm_WI5, pm_WV, pm_WW, pm_WX, pb_B179, pm_if, pm_QI_at, pm_QL_at, pm_QV_at, pm_QR_at, pm_QR_at0, pm_QR_at1, Nat.reduceSub, Nat.reduceAdd, List.replicate_zero, List.replicate_succ, true_and, and_true, true_or, or_true, and_self, reduceIte, Nat.reduceEqDiff, Nat.reduceLT, Nat.reduceLeDiff, Nat.reduceMul, false_and, and_false, reduceCtorEq, false_or, or_false, not_true_eq_false, not_false_eq_true, true_implies, false_implies, implies_true, lf_10, eq_self, Int32.reduceLT, Int32.reduceLE, Int32.reduceAdd, Int32.reduceSub, pm_same, pm_i_wI, pm_l_wL, pm_l_wM, pm_oR_rf, pm_oQ_rf, sh_k59 hS]
  generalize hU : pm_wI (pm_wI (pm_wI (pm_wI (pm_wI S 59 45 bs) 59 46 0) 59 47 (nI n)) 59 48 (-1)) 59 49 0 = U
  have hsU : sc S U := by
    rw [← hU]
    exact ((((sc.rf.wI (by unfold sc_q; omega)).wI (by unfold sc_q; omega)).wI (by unfold sc_q; omega)).wI (by unfold sc_q; omega)).wI (by unfold sc_q; omega)
  have hfU : sF S U := by
    rw [← hU]
    exact ((((sF.rf.w (by omega)).w (by omega)).w (by omega)).w (by omega)).w (by omega)
  have hSU := hsU.sh hS
  have u46 : pm_i U 59 46 = 0 := by rw [← hU]; simp [pm_i_wI]
  have u48 : pm_i U 59 48 = -1 := by rw [← hU]; simp [pm_i_wI]
  have u49 : pm_i U 59 49 = 0 := by rw [← hU]; simp [pm_i_wI]
  have u45 : pm_i U 59 45 = bs := by rw [← hU]; simp [pm_i_wI]
  have u47 : pm_i U 59 47 = nI n := by rw [← hU]; simp [pm_i_wI]
  have u50 : pm_i U 59 50 = pm_i S 59 50 := by rw [← hU]; simp [pm_i_wI]
  have u51 : pm_i U 59 51 = pm_i S 59 51 := by rw [← hU]; simp [pm_i_wI]
  refine ⟨by omega, mr_178 (t := t) hSU (fun T hf' hl hj => ?_)⟩
  have hcx : cx T f n t := by
    refine cx.fr (S := U) ⟨hSU, ⟨u47, hn, hf, ?_⟩, by rw [hsU.c (by omega)]; exact h18, by rw [hsU.m24, hsU.c (by omega)]; exact h24, by rw [hsU.c (by omega)]; exact h24b, ?_⟩ hf'
    · rw [u45]
      rcases hb with ⟨a, b⟩ | ⟨l, a, b, c⟩
      · exact Or.inl ⟨a, by rw [hsU.r80]; exact b⟩
      · exact Or.inr ⟨l, a, b, by rw [c]; unfold iv_txt; rw [hsU.r81]⟩
    · rcases ht with ⟨a, b⟩ | ⟨m, a, b, c⟩
      · exact Or.inl ⟨by rw [u50]; exact a, b⟩
      · exact Or.inr ⟨m, by rw [hsU.c (by omega)]; exact a, by rw [u50]; exact b, by rw [u51, tv_me hsU.me]; exact c⟩
  have eT : T = ms T 0 (0, some ()) := by
    unfold ms mst
    rw [pm_wI_self (S := T) (p := 59) (j := 46) (by rw [hj 46 (by omega), u46]; rfl), pm_wI_self (S := T) (p := 59) (j := 48) (by rw [hj 48 (by omega), u48]), pm_wI_self (S := T) (p := 59) (j := 49) (by rw [hj 49 (by omega), u49]; rfl)]
  have hST : sc S T := hsU.tr hf'.1
  have key := mr_179k (G := G) (d := d) (f := f) (n := n) (t := t) (a := bs) (b := nI n) (q := q) (by omega) 9 T gx_0 0 hcx wf_0 hl (by omega) (Nat.zero_le _) (fun x L' T' e hf2 hl2 => ?_) (fun x T' e hf2 => ?_)
  · rw [← eT] at key
    first | exact key | (rw [eT]; exact key) | skip
  · refine h1 x L' _ e (hST.tr (hf2.1.tr ms_sc)) (((hfU.tr hf'.2.2.2.2.2).tr hf2.2.2.2.2.2).tr (((sF.rf.w (by omega)).w (by omega)).w (by omega))) (hl2.cg (fun j j1 j2 => ms_f (by omega)) (fun p p1 p2 => ms_row (by omega))) ?_
    exact mst_48
  · refine h0 x _ e (hST.tr (hf2.1.tr ms_sc)) ?_
    exact mst_48
theorem ac_s_yes {c : Nat → Bool} {bt : Nat → Nat → Bool} {acc : Option Nat} {a : Nat} (hc : c a = true) (ho : ac_ok bt acc a = true) : some a = ac_s c bt acc a := by unfold ac_s; rw [hc, ho]; rfl
theorem ac_s_keep {c : Nat → Bool} {bt : Nat → Nat → Bool} {acc : Option Nat} {a : Nat} (hc : c a = true) (ho : ac_ok bt acc a = false) : acc = ac_s c bt acc a := by unfold ac_s; rw [hc, ho]; rfl
theorem ml_176 {G : pm_G} {d : Nat} {S : pm_S} {b k : Int32} {q : Int32 → pm_S → Prop} (hS : Sh S) (hn : pm_i S 59 31 = nI (iv_c S 31)) (hn2 : iv_c S 31 ≤ 12) (h : q (oI (lwo S b k)) S) : pm_CI G d 176 [.ref 59, .int b, .int k] S q := by
  unfold lwo at h
  generalize hN : iv_c S 31 = n at *
  refine pm_goI 176 40 pb_c176 (by decide) (Nat.le_of_ble_eq_true rfl) rfl ?_
  try simp only [show pm_mL 176 = 5 from rfl, pm_WI0, pm_WI1, pm_WI2, pm_WI3, pm_WI4, pm_WI5, pm_WV, pm_WW, pm_WX, pb_B176, pm_if, pm_QI_at, pm_QL_at, pm_QV_at, pm_QR_at, pm_QR_at0, pm_QR_at1, Nat.reduceSub, Nat.reduceAdd, List.replicate_zero, List.replicate_succ, true_and, and_true, true_or, or_true, and_self, reduceIte, Nat.reduceEqDiff, Nat.reduceLT, Nat.reduceLeDiff, Nat.reduceMul, false_and, and_false, reduceCtorEq, false_or, or_false, not_true_eq_false, not_false_eq_true, true_implies, false_implies, implies_true, lf_10, eq_self, Int32.reduceLT, Int32.reduceLE, Int32.reduceAdd, Int32.reduceSub, pm_same, pm_i_wI, pm_l_wL, pm_l_wM, pm_oR_rf, pm_oQ_rf, sh_k59 hS, sh_r59_29 hS, sh_k83 hS, sh_z83 hS, sh_r59_30 hS, sh_k84 hS, sh_z84 hS]
  refine pv_loopR (fun i => [.ref 59, .int b, .int k, .int (oI (ac_f (fun l => decide (pm_i S 83 l = b ∧ ¬ k < pm_i S 84 l)) (ac_bt (pm_i S 84) true) (List.range i) none)), .int (nI i)]) n (fun i hi hk => ?_) ?_
  · have hc := nI_clamp (n := i) (by omega)
    have hle : ¬ nI n ≤ nI i := nI_ge hi (by omega)
    have hvi := vp_in_nI (n := i) (N := 12) (by omega) (by decide)
    have hb : ∀ b', ac_f (fun l => decide (pm_i S 83 l = b ∧ ¬ k < pm_i S 84 l)) (ac_bt (pm_i S 84) true) (List.range i) none = some b' → b' < i := fun b' e => ac_f_lt e
    try simp only [ac_f_succ] at hk
    revert hk hb
    generalize ac_f (fun l => decide (pm_i S 83 l = b ∧ ¬ k < pm_i S 84 l)) (ac_bt (pm_i S 84) true) (List.range i) none = acc
    intro hb hk
    have go : ∀ acc', acc' = ac_s (fun l => decide (pm_i S 83 l = b ∧ ¬ k < pm_i S 84 l)) (ac_bt (pm_i S 84) true) acc i → pm_W G d 176 (pm_QI q) 5 [.ref 59, .int b, .int k, .int (oI acc'), .int (nI (i + 1))] [] S 0 0 := fun acc' e => by rw [e]; exact hk
    have no : (fun l => decide (pm_i S 83 l = b ∧ ¬ k < pm_i S 84 l)) i = false → pm_W G d 176 (pm_QI q) 5 [.ref 59, .int b, .int k, .int (oI acc), .int (nI (i + 1))] [] S 0 0 := fun hf => go acc (ac_s_none hf).symm
    refine pm_wb_ok pb_c176 60 5 0 _ _ _ _ _ ?_
    try simp only [pm_WI0, pm_WI1, pm_WI2, pm_WI3, pm_WI4, pm_WI5, pm_WV, pm_WW, pm_WX, pb_B176, pm_if, pm_QI_at, pm_QL_at, pm_QV_at, pm_QR_at, pm_QR_at0, pm_QR_at1, Nat.reduceSub, Nat.reduceAdd, List.replicate_zero, List.replicate_succ, true_and, and_true, true_or, or_true, and_self, reduceIte, Nat.reduceEqDiff, Nat.reduceLT, Nat.reduceLeDiff, Nat.reduceMul, false_and, and_false, reduceCtorEq, false_or, or_false, not_true_eq_false, not_false_eq_true, true_implies, false_implies, implies_true, lf_10, eq_self, Int32.reduceLT, Int32.reduceLE, Int32.reduceAdd, Int32.reduceSub, pm_same, pm_i_wI, pm_l_wL, pm_l_wM, pm_oR_rf, pm_oQ_rf, sh_k59 hS, sh_r59_29 hS, sh_k83 hS, sh_z83 hS, sh_r59_30 hS, sh_k84 hS, sh_z84 hS, hn, hc, hle, nI_1]
    refine ⟨hvi, fun c1 => ⟨hvi, fun c2 => ?_, fun c2 => ?_⟩, fun c1 => ?_⟩
    · exact no (by simp [c2])
    · have hyes : decide (pm_i S 83 i = b ∧ ¬ k < pm_i S 84 i) = true := by simp [c1, c2]
      cases acc with
      | none =>
        refine ⟨fun _ => ?_, fun z => absurd (show oI none < 0 by decide) z⟩
        exact go (some i) (ac_s_yes hyes rfl)
      | some b' =>
        have hbi := hb b' rfl
        have hcb : (oI (some b')).toNatClampNeg = b' := nI_clamp (by omega)
        refine ⟨fun z => absurd z (nI_pos (by omega)), fun _ => ⟨hvi, vp_in_nI (by omega) (by decide), ?_⟩⟩
        rw [hcb]
        refine ⟨fun z => ?_, fun z => ?_⟩
        · exact go (some b') (ac_s_keep hyes (by simp [ac_ok, ac_bt, z]))
        · exact go (some i) (ac_s_yes hyes (by simp [ac_ok, ac_bt, z]))
    · exact no (by simp [c1])
  · refine pm_wb_ok pb_c176 60 5 0 _ _ _ _ _ ?_
    try simp only [pm_WI0, pm_WI1, pm_WI2, pm_WI3, pm_WI4, pm_WI5, pm_WV, pm_WW, pm_WX, pb_B176, pm_if, pm_QI_at, pm_QL_at, pm_QV_at, pm_QR_at, pm_QR_at0, pm_QR_at1, Nat.reduceSub, Nat.reduceAdd, List.replicate_zero, List.replicate_succ, true_and, and_true, true_or, or_true, and_self, reduceIte, Nat.reduceEqDiff, Nat.reduceLT, Nat.reduceLeDiff, Nat.reduceMul, false_and, and_false, reduceCtorEq, false_or, or_false, not_true_eq_false, not_false_eq_true, true_implies, false_implies, implies_true, lf_10, eq_self, Int32.reduceLT, Int32.reduceLE, Int32.reduceAdd, Int32.reduceSub, pm_same, pm_i_wI, pm_l_wL, pm_l_wM, pm_oR_rf, pm_oQ_rf, sh_k59 hS, sh_r59_29 hS, sh_k83 hS, sh_z83 hS, sh_r59_30 hS, sh_k84 hS, sh_z84 hS, hn, Int32.le_refl]
    exact h
theorem MI.c31 {S : pm_S} (h : iv_MI S) : iv_c S 31 ≤ 12 ∧ pm_i S 59 31 = nI (iv_c S 31) := ⟨iv_le (n := 12) 12 h.2.2.2.2.1.1.2 (by decide), iv_nn h.2.2.2.2.1.1.1⟩
theorem MI.c24 {S : pm_S} (h : iv_MI S) : iv_c S 24 ≤ 150 ∧ pm_i S 59 24 = nI (iv_c S 24) := ⟨iv_le (n := 150) 150 h.2.2.2.1.1.2 (by decide), iv_nn h.2.2.2.1.1.1⟩
theorem MI.c18 {S : pm_S} (h : iv_MI S) : iv_c S 18 ≤ 40 ∧ pm_i S 59 18 = nI (iv_c S 18) := ⟨iv_le (n := 40) 40 h.2.2.1.1.2 (by decide), iv_nn h.2.2.1.1.1⟩
theorem MI.c2 {S : pm_S} (h : iv_MI S) : iv_c S 2 ≤ 20 ∧ pm_i S 59 2 = nI (iv_c S 2) := ⟨iv_le (n := 20) 20 h.2.1.2.1.2 (by decide), iv_nn h.2.1.2.1.1⟩
theorem lawL_read {S : pm_S} (h : iv_MI S) {i : Nat} (hi : i < iv_c S 31) : ∃ p, gx_read (iv_txt S i) (pm_i S 82 i).toNatClampNeg = (p, some (lawL S (some i))) := by
  obtain ⟨_, _, d3, _, p, L, e⟩ := h.2.2.2.2.1.2 i hi
  exact ⟨p, by rw [e]; unfold lawL; simp only [e]; rfl⟩
theorem ml_177F {G : pm_G} {d : Nat} {S : pm_S} {l : Option Nat} {m k : Int32} {t : Nat → Bool} {q : pm_S → Prop} (hd : 32 ≤ d) (hM : iv_MI S) (hl : ∀ i, l = some i → i < iv_c S 31) (ht : (m = -1 ∧ t = fun _ => false) ∨ ∃ a, a < iv_c S 18 ∧ m = nI a ∧ t = tv S a k) (h : ∀ T, sc S T → sF S T → mlr T t (lawL S l) → q T) : pm_CV G d 177 [.ref 59, .int (oI l), .int m, .int k] S q := by
  have hS := hM.1
  generalize hU : pm_wI (pm_wI S 59 50 m) 59 51 k = U
  have hsU : sc S U := by
    rw [← hU]; exact (sc.rf.wI (by unfold sc_q; omega)).wI (by unfold sc_q; omega)
  have hfU : sF S U := by
    rw [← hU]; exact (sF.rf.w (by omega)).w (by omega)
  have hSU := hsU.sh hS
  have u50 : pm_i U 59 50 = m := by rw [← hU]; simp [pm_i_wI]
  have u51 : pm_i U 59 51 = k := by rw [← hU]; simp [pm_i_wI]
  have htU : tq U t := by
    rcases ht with ⟨a, b⟩ | ⟨a, b, c, e⟩
    · exact Or.inl ⟨by rw [u50]; exact a, b⟩
    · exact Or.inr ⟨a, by rw [hsU.c (by omega)]; exact b, by rw [u50]; exact c, by rw [u51, tv_me hsU.me]; exact e⟩
  cases l with
  | none =>
    have hlt : ¬ 0 ≤ oI none := by decide
    refine pm_goV 177 3 pb_c177 (by decide) (Nat.le_of_ble_eq_true rfl) rfl ?_
    try simp only [show pm_mL 177 = 4 from rfl, pm_WI0, pm_WI1, pm_WI2, pm_WI3, pm_WI4, pm_WI5, pm_WV, pm_WW, pm_WX, pb_B177, pm_if, pm_QI_at, pm_QL_at, pm_QV_at, pm_QR_at, pm_QR_at0, pm_QR_at1, Nat.reduceSub, Nat.reduceAdd, List.replicate_zero, List.replicate_succ, true_and, and_true, true_or, or_true, and_self, reduceIte, Nat.reduceEqDiff, Nat.reduceLT, Nat.reduceLeDiff, Nat.reduceMul, false_and, and_false, reduceCtorEq, false_or, or_false, not_true_eq_false, not_false_eq_true, true_implies, false_implies, implies_true, lf_10, eq_self, Int32.reduceLT, Int32.reduceLE, Int32.reduceAdd, Int32.reduceSub, pm_same, pm_i_wI, pm_l_wL, pm_l_wM, pm_oR_rf, pm_oQ_rf, sh_k59 hS, sh_r59_28 hS, sh_k82 hS, sh_z82 hS, hlt, hU]
    refine ⟨by omega, mr_178 (t := t) hSU (fun T hf' hl hj => h T (hsU.tr hf'.1) (hfU.tr hf'.2.2.2.2.2) hl)⟩
  | some i =>
    have hi := hl i rfl
    have hi12 := (MI.c31 hM).1
    have hlt : 0 ≤ nI i := nI_pos' (by omega)
    obtain ⟨d1, d2, d3, d4, _⟩ := hM.2.2.2.2.1.2 i hi
    obtain ⟨p, hrd⟩ := lawL_read hM hi
    have h82 := iv_le (n := 160) 160 d3.2 (by decide)
    have hoi : oI (some i) = nI i := rfl
    have hmul : (160 : Int32) * nI i = nI (160 * i) := pk_mul 160 i
    refine pm_goV 177 3 pb_c177 (by decide) (Nat.le_of_ble_eq_true rfl) rfl ?_
    try simp only [show pm_mL 177 = 4 from rfl, pm_WI0, pm_WI1, pm_WI2, pm_WI3, pm_WI4, pm_WI5, pm_WV, pm_WW, pm_WX, pb_B177, pm_if, pm_QI_at, pm_QL_at, pm_QV_at, pm_QR_at, pm_QR_at0, pm_QR_at1, Nat.reduceSub, Nat.reduceAdd, List.replicate_zero, List.replicate_succ, true_and, and_true, true_or, or_true, and_self, reduceIte, Nat.reduceEqDiff, Nat.reduceLT, Nat.reduceLeDiff, Nat.reduceMul, false_and, and_false, reduceCtorEq, false_or, or_false, not_true_eq_false, not_false_eq_true, true_implies, false_implies, implies_true, lf_10, eq_self, Int32.reduceLT, Int32.reduceLE, Int32.reduceAdd, Int32.reduceSub, pm_same, pm_i_wI, pm_l_wL, pm_l_wM, pm_oR_rf, pm_oQ_rf, sh_k59 hS, sh_r59_28 hS, sh_k82 hS, sh_z82 hS, hlt, hU, hoi, hmul]
    rw [nI_clamp (by omega)]
    refine ⟨vp_in_nI (by omega) (by decide), by omega, ?_⟩
    have e82 : pm_i U 82 i = nI (pm_i S 82 i).toNatClampNeg := by rw [hsU.r82]; exact iv_nn d3.1
    try rw [e82]
    try rw [show pm_i S 82 i = nI (pm_i S 82 i).toNatClampNeg from iv_nn d3.1]
    try rw [nI_clamp (n := (pm_i S 82 i).toNatClampNeg) (by omega)]
    have etx : iv_txt U i = iv_txt S i := by unfold iv_txt; rw [hsU.r81]
    refine mr_179 (f := iv_txt S i) (t := t) (by omega) hSU h82 (fun k hk => d4 k (by omega)) (Or.inr ⟨i, by omega, rfl, etx.symm⟩) (by rw [hsU.c (by omega)]; exact (MI.c18 hM).1) (by rw [hsU.m24, hsU.c (by omega)]; exact (MI.c24 hM).2) (by rw [hsU.c (by omega)]; exact (MI.c24 hM).1) htU (fun x L T e hs hF hl _ => ?_) (fun x T e _ _ => ?_)
    · rw [hrd] at e
      have : lawL S (some i) = L := Option.some.inj (congrArg Prod.snd e)
      exact h T (hsU.tr hs) (hfU.tr hF) (by rw [this]; exact hl)
    · rw [hrd] at e; cases e
theorem ml_177 {G : pm_G} {d : Nat} {S : pm_S} {l : Option Nat} {m k : Int32} {t : Nat → Bool} {q : pm_S → Prop} (hd : 32 ≤ d) (hM : iv_MI S) (hl : ∀ i, l = some i → i < iv_c S 31) (ht : (m = -1 ∧ t = fun _ => false) ∨ ∃ a, a < iv_c S 18 ∧ m = nI a ∧ t = tv S a k) (h : ∀ T, sc S T → mlr T t (lawL S l) → q T) : pm_CV G d 177 [.ref 59, .int (oI l), .int m, .int k] S q :=
  ml_177F hd hM hl ht (fun T hs _ hL => h T hs hL)
theorem gx_dummy : True := trivial
