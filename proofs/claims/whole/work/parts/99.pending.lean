/-! the model reads and judges E: F, T, E with k more ( and ! left -/
def mFC (G : pm_G) (S : pm_S) (f : Nat → Int32) (n : Nat) (t : Nat → Bool) (k : Nat) : Prop := ∀ (r : gx_R Unit) (q : Int32 → pm_S → Prop) (d : Nat), 7 + 3 * k ≤ d → r.1 ≤ n → (∀ b : Int32, (b = 0 ∨ b = 1) → (∀ e, (gx_bd r (fun _ p => gx_F (gx_b f n) 160 k p)).2 = some e → b = bI (gx_hv t e)) → q b (ms S (6 - k) (un (gx_bd r (fun _ p => gx_F (gx_b f n) 160 k p))))) → pm_CI G d 193 [.ref 59] (ms S (6 - k) r) q
def mBC (G : pm_G) (S : pm_S) (f : Nat → Int32) (n : Nat) (t : Nat → Bool) (k : Nat) : Prop := ∀ (r : gx_R Unit) (q : Int32 → pm_S → Prop) (d : Nat), 8 + 3 * k ≤ d → r.1 ≤ n → (∀ b : Int32, (b = 0 ∨ b = 1) → (∀ e, (gx_bd r (fun _ p => gx_TT (gx_F (gx_b f n) 160 k) (gx_b f n) 160 p)).2 = some e → b = bI (gx_hv t e)) → q b (ms S (6 - k) (un (gx_bd r (fun _ p => gx_TT (gx_F (gx_b f n) 160 k) (gx_b f n) 160 p))))) → pm_CI G d 192 [.ref 59] (ms S (6 - k) r) q
def mEC (G : pm_G) (S : pm_S) (f : Nat → Int32) (n : Nat) (t : Nat → Bool) (k : Nat) : Prop := ∀ (r : gx_R Unit) (q : Int32 → pm_S → Prop) (d : Nat), 9 + 3 * k ≤ d → r.1 ≤ n → (∀ b : Int32, (b = 0 ∨ b = 1) → (∀ e, (gx_bd r (fun _ p => gx_EE (gx_F (gx_b f n) 160 k) (gx_b f n) 160 p)).2 = some e → b = bI (gx_hv t e)) → q b (ms S (6 - k) (un (gx_bd r (fun _ p => gx_EE (gx_F (gx_b f n) 160 k) (gx_b f n) 160 p))))) → pm_CI G d 191 [.ref 59] (ms S (6 - k) r) q
theorem un_le {α : Type} {r : gx_R α} : (un r).1 = r.1 := rfl
theorem un_bds {r : gx_R (List Nat)} {f : List Nat → List Nat} : un (gx_bd r (fun s q => (q, some (f s)))) = un r := by
  obtain ⟨p, _ | v⟩ := r <;> rfl
theorem gx_ok_le {n p : Nat} {r : gx_R (List Nat)} (h : gx_ok n p r) : r.1 ≤ n := by
  obtain ⟨x, _ | s⟩ := r
  · exact (h.1 x rfl).2
  · exact (h.2 x s rfl).2.1
theorem mr_192f {G : pm_G} {S : pm_S} {k p : Nat} {v : Int32} {X : Value} {q : Int32 → pm_S → Prop} {d : Nat} (hd : 3 ≤ d) (hS : Sh S) (hp : p < 2 ^ 31) (hv : v = 0 ∨ v = 1) (h : q v (ms S k (p, none))) : pm_W G d 192 (pm_QI q) 5 [.ref 59, .int v, X] [] (ms S k (p, none)) 0 0 := by
  refine pm_wb_ok pb_c192 3 5 0 _ _ _ _ _ ?_
  try simp only [pm_WI0, pm_WI1, pm_WI2, pm_WI3, pm_WI4, pm_WI5, pm_WV, pm_WW, pm_WX, pb_B192, pm_if, pm_QI_at, pm_QL_at, pm_QV_at, pm_QR_at, pm_QR_at0, pm_QR_at1, Nat.reduceSub, Nat.reduceAdd, List.replicate_zero, List.replicate_succ, true_and, and_true, true_or, or_true, and_self, reduceIte, Nat.reduceEqDiff, Nat.reduceLT, Nat.reduceLeDiff, Nat.reduceMul, false_and, and_false, reduceCtorEq, false_or, or_false, not_true_eq_false, not_false_eq_true, true_implies, false_implies, implies_true, lf_10, eq_self, Int32.reduceLT, Int32.reduceLE, Int32.reduceAdd, Int32.reduceSub, pm_same, pm_i_wI, pm_l_wL, pm_l_wM, pm_oR_rf, pm_oQ_rf, sh_k59 hS, sh_r59_25 hS, sh_k80 hS, sh_z80 hS, sh_r59_27 hS, sh_k81 hS, sh_z81 hS, mst_w46, mst_w48, mst_w49, mst_46, mst_48, mst_49, mst_k, mst_z, mst_r, mst_n, mst_l, mst_R62, mst_R64, mst_R65, mst_R66, mst_R67, mst_R78, mst_R80, mst_R81, mst_F18, mst_F24, mst_F45, mst_F47, mst_F50, mst_F51, nI_1, LQ1, LQ2, LQ4, LQ1, LQ2, ms_k, ms_z, ms_r, ms_49, ms_w49, ms_R62, ms_R64, ms_R65, ms_R66, ms_R67, ms_R75, ms_R76, ms_R77, ms_R78, ms_R79, ms_R80, ms_R81, ms_R95, ms_R96, ms_R97, ms_F0, ms_F2, ms_F18, ms_F24, ms_F31, ms_F26, ms_F45, ms_F47, ms_F50, ms_F51, ms_F52, ms_F53, ms_F54, ms_F55, ms_F56, ms_F57, ms_F58, ms_F59, ms_F60, ms_F61, ms_F62, ms_F63, bI]
  refine ⟨by omega, mr_186f (c := 38) (p := 0) hS hp ?_⟩
  try simp only [pm_WV, pm_WW, true_and, and_true, true_or, or_true, and_self, reduceIte, Nat.reduceEqDiff, Nat.reduceLT, Nat.reduceLeDiff, Nat.reduceMul, false_and, and_false, reduceCtorEq, false_or, or_false, not_true_eq_false, not_false_eq_true, true_implies, false_implies, implies_true, lf_10, eq_self, Int32.reduceLT, Int32.reduceLE, Int32.reduceAdd, Int32.reduceSub, pm_same, pm_i_wI, pm_l_wL, pm_l_wM, pm_oR_rf, pm_oQ_rf, sh_k59 hS, sh_r59_25 hS, sh_k80 hS, sh_z80 hS, sh_r59_27 hS, sh_k81 hS, sh_z81 hS, mst_w46, mst_w48, mst_w49, mst_46, mst_48, mst_49, mst_k, mst_z, mst_r, mst_n, mst_l, mst_R62, mst_R64, mst_R65, mst_R66, mst_R67, mst_R78, mst_R80, mst_R81, mst_F18, mst_F24, mst_F45, mst_F47, mst_F50, mst_F51, nI_1, LQ1, LQ2, LQ4, LQ1, LQ2, ms_k, ms_z, ms_r, ms_49, ms_w49, ms_R62, ms_R64, ms_R65, ms_R66, ms_R67, ms_R75, ms_R76, ms_R77, ms_R78, ms_R79, ms_R80, ms_R81, ms_R95, ms_R96, ms_R97, ms_F0, ms_F2, ms_F18, ms_F24, ms_F31, ms_F26, ms_F45, ms_F47, ms_F50, ms_F51, ms_F52, ms_F53, ms_F54, ms_F55, ms_F56, ms_F57, ms_F58, ms_F59, ms_F60, ms_F61, ms_F62, ms_F63, pm_WI0, pm_WI1, pm_WI2, pm_WI3, pm_WI4, pm_WI5, pm_WV, pm_WW, pm_WX, pb_B192, pm_if, pm_QI_at, pm_QL_at, pm_QV_at, pm_QR_at, pm_QR_at0, pm_QR_at1, Nat.reduceSub, Nat.reduceAdd, List.replicate_zero, List.replicate_succ]
  first | exact ⟨hv, h⟩ | exact ⟨fun _ => ⟨hv, h⟩, fun z => absurd rfl z⟩
theorem mr_192k {G : pm_G} {S : pm_S} {f : Nat → Int32} {n : Nat} {t : Nat → Bool} {k : Nat} (hS : Sh S) (hm : mrc S f n) (h18 : iv_c S 18 ≤ 40) (h24 : pm_i S 59 24 = nI (iv_c S 24)) (h24b : iv_c S 24 ≤ 150) (ht : tq S t) (hsub : mFC G S f n t k) {q : Int32 → pm_S → Prop} {d : Nat} (hd : 8 + 3 * k ≤ d) : ∀ (g : Nat) (s : List Nat) (p : Nat) (X : Value), gx_ev t s (2 * k + 2) → p ≤ n → n < p + g → (∀ b : Int32, (b = 0 ∨ b = 1) → (∀ e, (gx_T (gx_F (gx_b f n) 160 k) (gx_b f n) g s p).2 = some e → b = bI (gx_hv t e)) → q b (ms S (6 - k) (un (gx_T (gx_F (gx_b f n) 160 k) (gx_b f n) g s p)))) → pm_W G d 192 (pm_QI q) 5 [.ref 59, .int (bI (gx_hv t s)), X] [] (ms S (6 - k) (p, some ())) 0 0 := by
  have hn := hm.2.1
  intro g
  induction g with
  | zero => intro s p X _ h1 h2; omega
  | succ g ih =>
    intro s p X hev hp hg h
    have hms : ms S (6 - k) (p, some ()) = mst S (nI p) (-1) (nI (6 - k)) := rfl
    rw [hms]
    refine pm_wb_ok pb_c192 4 5 0 _ _ _ _ _ ?_
    try simp only [pm_WI0, pm_WI1, pm_WI2, pm_WI3, pm_WI4, pm_WI5, pm_WV, pm_WW, pm_WX, pb_B192, pm_if, pm_QI_at, pm_QL_at, pm_QV_at, pm_QR_at, pm_QR_at0, pm_QR_at1, Nat.reduceSub, Nat.reduceAdd, List.replicate_zero, List.replicate_succ, true_and, and_true, true_or, or_true, and_self, reduceIte, Nat.reduceEqDiff, Nat.reduceLT, Nat.reduceLeDiff, Nat.reduceMul, false_and, and_false, reduceCtorEq, false_or, or_false, not_true_eq_false, not_false_eq_true, true_implies, false_implies, implies_true, lf_10, eq_self, Int32.reduceLT, Int32.reduceLE, Int32.reduceAdd, Int32.reduceSub, pm_same, pm_i_wI, pm_l_wL, pm_l_wM, pm_oR_rf, pm_oQ_rf, sh_k59 hS, sh_r59_25 hS, sh_k80 hS, sh_z80 hS, sh_r59_27 hS, sh_k81 hS, sh_z81 hS, mst_w46, mst_w48, mst_w49, mst_46, mst_48, mst_49, mst_k, mst_z, mst_r, mst_n, mst_l, mst_R62, mst_R64, mst_R65, mst_R66, mst_R67, mst_R78, mst_R80, mst_R81, mst_F18, mst_F24, mst_F45, mst_F47, mst_F50, mst_F51, nI_1, LQ1, LQ2, LQ4, LQ1, LQ2, ms_k, ms_z, ms_r, ms_49, ms_w49, ms_R62, ms_R64, ms_R65, ms_R66, ms_R67, ms_R75, ms_R76, ms_R77, ms_R78, ms_R79, ms_R80, ms_R81, ms_R95, ms_R96, ms_R97, ms_F0, ms_F2, ms_F18, ms_F24, ms_F31, ms_F26, ms_F45, ms_F47, ms_F50, ms_F51, ms_F52, ms_F53, ms_F54, ms_F55, ms_F56, ms_F57, ms_F58, ms_F59, ms_F60, ms_F61, ms_F62, ms_F63]
    refine ⟨by omega, mr_186l (c := 38) (by omega) hS hm hp (by omega) (fun y => ?_) (fun y => ?_)⟩
    · have hpn : p < n := gx_lt gx_b_eof y (by omega)
      refine ⟨fun z => absurd z (by decide), fun _ => ⟨by omega, sh_k59 hS, hsub (p + 1, some ()) _ (d - 1) (by omega) (by show p + 1 ≤ n; omega) (fun b hb he => ?_)⟩⟩
      have eR : gx_bd ((p + 1, some ()) : gx_R Unit) (fun _ p => gx_F (gx_b f n) 160 k p) = gx_F (gx_b f n) 160 k (p + 1) := rfl
      rw [eR] at he ⊢
      have hok := (gx_F_ok (B := gx_b f n) gx_b_eof 160 k (p + 1) (by omega))
      rcases gx_two (gx_F (gx_b f n) 160 k (p + 1)) with ⟨x, ex⟩ | ⟨x, r, ex⟩
      · have eG : gx_T (gx_F (gx_b f n) 160 k) (gx_b f n) (g + 1) s p = (x, none) := by
          rw [gx_T]
          rw [if_pos y, gx_bd_none ex]
        have hx := (hok.1 x ex).2
        rw [ex, un_none]
        have fin : ∀ v X, (v = 0 ∨ v = 1) → pm_W G d 192 (pm_QI q) 5 [.ref 59, .int v, X] [] (ms S (6 - k) (x, none)) 0 0 := fun v X hv => mr_192f (by omega) hS (by omega) hv (by
          have := h v hv (fun e z => (by rw [eG] at z; cases z))
          rw [eG] at this; exact this)
        rcases hb with rfl | rfl <;> cases gx_hv t s <;> simp only [bI, pm_WV, pm_WW, true_and, and_true, true_or, or_true, and_self, reduceIte, Nat.reduceEqDiff, Nat.reduceLT, Nat.reduceLeDiff, Nat.reduceMul, false_and, and_false, reduceCtorEq, false_or, or_false, not_true_eq_false, not_false_eq_true, true_implies, false_implies, implies_true, lf_10, eq_self, Int32.reduceLT, Int32.reduceLE, Int32.reduceAdd, Int32.reduceSub, pm_same, pm_i_wI, pm_l_wL, pm_l_wM, pm_oR_rf, pm_oQ_rf, sh_k59 hS, sh_r59_25 hS, sh_k80 hS, sh_z80 hS, sh_r59_27 hS, sh_k81 hS, sh_z81 hS, mst_w46, mst_w48, mst_w49, mst_46, mst_48, mst_49, mst_k, mst_z, mst_r, mst_n, mst_l, mst_R62, mst_R64, mst_R65, mst_R66, mst_R67, mst_R78, mst_R80, mst_R81, mst_F18, mst_F24, mst_F45, mst_F47, mst_F50, mst_F51, nI_1, LQ1, LQ2, LQ4, LQ1, LQ2, ms_k, ms_z, ms_r, ms_49, ms_w49, ms_R62, ms_R64, ms_R65, ms_R66, ms_R67, ms_R75, ms_R76, ms_R77, ms_R78, ms_R79, ms_R80, ms_R81, ms_R95, ms_R96, ms_R97, ms_F0, ms_F2, ms_F18, ms_F24, ms_F31, ms_F26, ms_F45, ms_F47, ms_F50, ms_F51, ms_F52, ms_F53, ms_F54, ms_F55, ms_F56, ms_F57, ms_F58, ms_F59, ms_F60, ms_F61, ms_F62, ms_F63, pm_WI0, pm_WI1, pm_WI2, pm_WI3, pm_WI4, pm_WI5, pm_WV, pm_WW, pm_WX, pb_B192, pm_if, pm_QI_at, pm_QL_at, pm_QV_at, pm_QR_at, pm_QR_at0, pm_QR_at1, Nat.reduceSub, Nat.reduceAdd, List.replicate_zero, List.replicate_succ] <;> exact fin _ _ (by first | exact Or.inl rfl | exact Or.inr rfl)
      · have hev2 := (ev_F (t := t) 160 k _ _ _ ex)
        have hx := hok.2 x r ex
        have e2 := ev_and hev hev2 (by omega)
        have eG : gx_T (gx_F (gx_b f n) 160 k) (gx_b f n) (g + 1) s p = gx_T (gx_F (gx_b f n) 160 k) (gx_b f n) g (s ++ (r ++ [9])) x := by
          conv => lhs; rw [gx_T]
          rw [if_pos y, gx_bd_some ex]
        rw [eG] at h
        have hbb := he r (by rw [ex])
        rw [ex, un_some, hbb]
        have := ih (s ++ (r ++ [9])) x
        rw [e2.1] at this
        cases h1 : gx_hv t s <;> cases h2 : gx_hv t r <;> simp only [h1, h2, bI, Bool.and_self, Bool.and_false, Bool.and_true, Bool.or_self, Bool.or_false, Bool.or_true, Bool.false_and, Bool.true_and, Bool.false_or, Bool.true_or, Bool.false_eq_true, pm_WV, pm_WW, true_and, and_true, true_or, or_true, and_self, reduceIte, Nat.reduceEqDiff, Nat.reduceLT, Nat.reduceLeDiff, Nat.reduceMul, false_and, and_false, reduceCtorEq, false_or, or_false, not_true_eq_false, not_false_eq_true, true_implies, false_implies, implies_true, lf_10, eq_self, Int32.reduceLT, Int32.reduceLE, Int32.reduceAdd, Int32.reduceSub, pm_same, pm_i_wI, pm_l_wL, pm_l_wM, pm_oR_rf, pm_oQ_rf, sh_k59 hS, sh_r59_25 hS, sh_k80 hS, sh_z80 hS, sh_r59_27 hS, sh_k81 hS, sh_z81 hS, mst_w46, mst_w48, mst_w49, mst_46, mst_48, mst_49, mst_k, mst_z, mst_r, mst_n, mst_l, mst_R62, mst_R64, mst_R65, mst_R66, mst_R67, mst_R78, mst_R80, mst_R81, mst_F18, mst_F24, mst_F45, mst_F47, mst_F50, mst_F51, nI_1, LQ1, LQ2, LQ4, LQ1, LQ2, ms_k, ms_z, ms_r, ms_49, ms_w49, ms_R62, ms_R64, ms_R65, ms_R66, ms_R67, ms_R75, ms_R76, ms_R77, ms_R78, ms_R79, ms_R80, ms_R81, ms_R95, ms_R96, ms_R97, ms_F0, ms_F2, ms_F18, ms_F24, ms_F31, ms_F26, ms_F45, ms_F47, ms_F50, ms_F51, ms_F52, ms_F53, ms_F54, ms_F55, ms_F56, ms_F57, ms_F58, ms_F59, ms_F60, ms_F61, ms_F62, ms_F63, pm_WI0, pm_WI1, pm_WI2, pm_WI3, pm_WI4, pm_WI5, pm_WV, pm_WW, pm_WX, pb_B192, pm_if, pm_QI_at, pm_QL_at, pm_QV_at, pm_QR_at, pm_QR_at0, pm_QR_at1, Nat.reduceSub, Nat.reduceAdd, List.replicate_zero, List.replicate_succ] at this ⊢ <;> exact this _ e2.2 hx.2.1 (by omega) h
    · have eG : gx_T (gx_F (gx_b f n) 160 k) (gx_b f n) (g + 1) s p = (p, some s) := by
        rw [gx_T]
        rw [if_neg y]
      refine ⟨fun _ => ⟨bI01 _, ?_⟩, fun z => absurd rfl z⟩
      have := h _ (bI01 (gx_hv t s)) (fun e z => by rw [eG] at z; cases z; rfl)
      rw [eG] at this
      exact this
theorem mr_192 {G : pm_G} {S : pm_S} {f : Nat → Int32} {n : Nat} {t : Nat → Bool} {k : Nat} (hS : Sh S) (hm : mrc S f n) (h18 : iv_c S 18 ≤ 40) (h24 : pm_i S 59 24 = nI (iv_c S 24)) (h24b : iv_c S 24 ≤ 150) (ht : tq S t) (hsub : mFC G S f n t k) : mBC G S f n t k := by
  intro r q d hd hr h
  have hn := hm.2.1
  refine pm_goI 192 1 pb_c192 (by decide) (Nat.le_of_ble_eq_true rfl) rfl ?_
  try simp only [show pm_mL 192 = 3 from rfl, pm_WI0, pm_WI1, pm_WI2, pm_WI3, pm_WI4, pm_WI5, pm_WV, pm_WW, pm_WX, pb_B192, pm_if, pm_QI_at, pm_QL_at, pm_QV_at, pm_QR_at, pm_QR_at0, pm_QR_at1, Nat.reduceSub, Nat.reduceAdd, List.replicate_zero, List.replicate_succ, true_and, and_true, true_or, or_true, and_self, reduceIte, Nat.reduceEqDiff, Nat.reduceLT, Nat.reduceLeDiff, Nat.reduceMul, false_and, and_false, reduceCtorEq, false_or, or_false, not_true_eq_false, not_false_eq_true, true_implies, false_implies, implies_true, lf_10, eq_self, Int32.reduceLT, Int32.reduceLE, Int32.reduceAdd, Int32.reduceSub, pm_same, pm_i_wI, pm_l_wL, pm_l_wM, pm_oR_rf, pm_oQ_rf, sh_k59 hS, sh_r59_25 hS, sh_k80 hS, sh_z80 hS, sh_r59_27 hS, sh_k81 hS, sh_z81 hS, mst_w46, mst_w48, mst_w49, mst_46, mst_48, mst_49, mst_k, mst_z, mst_r, mst_n, mst_l, mst_R62, mst_R64, mst_R65, mst_R66, mst_R67, mst_R78, mst_R80, mst_R81, mst_F18, mst_F24, mst_F45, mst_F47, mst_F50, mst_F51, nI_1, LQ1, LQ2, LQ4, LQ1, LQ2, ms_k, ms_z, ms_r, ms_49, ms_w49, ms_R62, ms_R64, ms_R65, ms_R66, ms_R67, ms_R75, ms_R76, ms_R77, ms_R78, ms_R79, ms_R80, ms_R81, ms_R95, ms_R96, ms_R97, ms_F0, ms_F2, ms_F18, ms_F24, ms_F31, ms_F26, ms_F45, ms_F47, ms_F50, ms_F51, ms_F52, ms_F53, ms_F54, ms_F55, ms_F56, ms_F57, ms_F58, ms_F59, ms_F60, ms_F61, ms_F62, ms_F63]
  refine ⟨by omega, hsub r _ (d - 1) (by omega) hr (fun b hb he => ?_)⟩
  obtain ⟨p, _ | u⟩ := r
  · have e0 : un (gx_bd ((p, none) : gx_R Unit) (fun _ p => gx_F (gx_b f n) 160 k p)) = (p, none) := rfl
    rw [e0]
    exact mr_192f (by omega) hS (by have : p ≤ n := hr; omega) hb (h b hb (fun e z => (by cases z)))
  · have hp : p ≤ n := hr
    have eR : gx_bd ((p, some u) : gx_R Unit) (fun _ p => gx_F (gx_b f n) 160 k p) = gx_F (gx_b f n) 160 k p := rfl
    have eF : gx_bd ((p, some u) : gx_R Unit) (fun _ p => gx_TT (gx_F (gx_b f n) 160 k) (gx_b f n) 160 p) = gx_TT (gx_F (gx_b f n) 160 k) (gx_b f n) 160 p := rfl
    rw [eR] at he ⊢
    rw [eF] at h
    have hok := (gx_F_ok (B := gx_b f n) gx_b_eof 160 k p hp)
    rcases gx_two (gx_F (gx_b f n) 160 k p) with ⟨x, ex⟩ | ⟨x, s, ex⟩
    · have eG : gx_TT (gx_F (gx_b f n) 160 k) (gx_b f n) 160 p = (x, none) := by unfold gx_TT; rw [gx_bd_none ex]
      have hx := (hok.1 x ex).2
      rw [ex, un_none]
      refine mr_192f (by omega) hS (by omega) hb ?_
      have := h b hb (fun e z => (by rw [eG] at z; cases z))
      rw [eG] at this; exact this
    · have eG : gx_TT (gx_F (gx_b f n) 160 k) (gx_b f n) 160 p = gx_T (gx_F (gx_b f n) 160 k) (gx_b f n) 160 s x := by unfold gx_TT; rw [gx_bd_some ex]
      have hx := hok.2 x s ex
      rw [ex, un_some, he s (by rw [ex])]
      rw [eG] at h
      exact mr_192k hS hm h18 h24 h24b ht hsub hd 160 s x _ (ev_mono (ev_F (t := t) 160 k _ _ _ ex) (by omega)) hx.2.1 (by omega) h
theorem mr_191f {G : pm_G} {S : pm_S} {k p : Nat} {v : Int32} {X : Value} {q : Int32 → pm_S → Prop} {d : Nat} (hd : 3 ≤ d) (hS : Sh S) (hp : p < 2 ^ 31) (hv : v = 0 ∨ v = 1) (h : q v (ms S k (p, none))) : pm_W G d 191 (pm_QI q) 5 [.ref 59, .int v, X] [] (ms S k (p, none)) 0 0 := by
  refine pm_wb_ok pb_c191 3 5 0 _ _ _ _ _ ?_
  try simp only [pm_WI0, pm_WI1, pm_WI2, pm_WI3, pm_WI4, pm_WI5, pm_WV, pm_WW, pm_WX, pb_B191, pm_if, pm_QI_at, pm_QL_at, pm_QV_at, pm_QR_at, pm_QR_at0, pm_QR_at1, Nat.reduceSub, Nat.reduceAdd, List.replicate_zero, List.replicate_succ, true_and, and_true, true_or, or_true, and_self, reduceIte, Nat.reduceEqDiff, Nat.reduceLT, Nat.reduceLeDiff, Nat.reduceMul, false_and, and_false, reduceCtorEq, false_or, or_false, not_true_eq_false, not_false_eq_true, true_implies, false_implies, implies_true, lf_10, eq_self, Int32.reduceLT, Int32.reduceLE, Int32.reduceAdd, Int32.reduceSub, pm_same, pm_i_wI, pm_l_wL, pm_l_wM, pm_oR_rf, pm_oQ_rf, sh_k59 hS, sh_r59_25 hS, sh_k80 hS, sh_z80 hS, sh_r59_27 hS, sh_k81 hS, sh_z81 hS, mst_w46, mst_w48, mst_w49, mst_46, mst_48, mst_49, mst_k, mst_z, mst_r, mst_n, mst_l, mst_R62, mst_R64, mst_R65, mst_R66, mst_R67, mst_R78, mst_R80, mst_R81, mst_F18, mst_F24, mst_F45, mst_F47, mst_F50, mst_F51, nI_1, LQ1, LQ2, LQ4, LQ1, LQ2, ms_k, ms_z, ms_r, ms_49, ms_w49, ms_R62, ms_R64, ms_R65, ms_R66, ms_R67, ms_R75, ms_R76, ms_R77, ms_R78, ms_R79, ms_R80, ms_R81, ms_R95, ms_R96, ms_R97, ms_F0, ms_F2, ms_F18, ms_F24, ms_F31, ms_F26, ms_F45, ms_F47, ms_F50, ms_F51, ms_F52, ms_F53, ms_F54, ms_F55, ms_F56, ms_F57, ms_F58, ms_F59, ms_F60, ms_F61, ms_F62, ms_F63, bI]
  refine ⟨by omega, mr_186f (c := 124) (p := 0) hS hp ?_⟩
  try simp only [pm_WV, pm_WW, true_and, and_true, true_or, or_true, and_self, reduceIte, Nat.reduceEqDiff, Nat.reduceLT, Nat.reduceLeDiff, Nat.reduceMul, false_and, and_false, reduceCtorEq, false_or, or_false, not_true_eq_false, not_false_eq_true, true_implies, false_implies, implies_true, lf_10, eq_self, Int32.reduceLT, Int32.reduceLE, Int32.reduceAdd, Int32.reduceSub, pm_same, pm_i_wI, pm_l_wL, pm_l_wM, pm_oR_rf, pm_oQ_rf, sh_k59 hS, sh_r59_25 hS, sh_k80 hS, sh_z80 hS, sh_r59_27 hS, sh_k81 hS, sh_z81 hS, mst_w46, mst_w48, mst_w49, mst_46, mst_48, mst_49, mst_k, mst_z, mst_r, mst_n, mst_l, mst_R62, mst_R64, mst_R65, mst_R66, mst_R67, mst_R78, mst_R80, mst_R81, mst_F18, mst_F24, mst_F45, mst_F47, mst_F50, mst_F51, nI_1, LQ1, LQ2, LQ4, LQ1, LQ2, ms_k, ms_z, ms_r, ms_49, ms_w49, ms_R62, ms_R64, ms_R65, ms_R66, ms_R67, ms_R75, ms_R76, ms_R77, ms_R78, ms_R79, ms_R80, ms_R81, ms_R95, ms_R96, ms_R97, ms_F0, ms_F2, ms_F18, ms_F24, ms_F31, ms_F26, ms_F45, ms_F47, ms_F50, ms_F51, ms_F52, ms_F53, ms_F54, ms_F55, ms_F56, ms_F57, ms_F58, ms_F59, ms_F60, ms_F61, ms_F62, ms_F63, pm_WI0, pm_WI1, pm_WI2, pm_WI3, pm_WI4, pm_WI5, pm_WV, pm_WW, pm_WX, pb_B191, pm_if, pm_QI_at, pm_QL_at, pm_QV_at, pm_QR_at, pm_QR_at0, pm_QR_at1, Nat.reduceSub, Nat.reduceAdd, List.replicate_zero, List.replicate_succ]
  first | exact ⟨hv, h⟩ | exact ⟨fun _ => ⟨hv, h⟩, fun z => absurd rfl z⟩
theorem mr_191k {G : pm_G} {S : pm_S} {f : Nat → Int32} {n : Nat} {t : Nat → Bool} {k : Nat} (hS : Sh S) (hm : mrc S f n) (h18 : iv_c S 18 ≤ 40) (h24 : pm_i S 59 24 = nI (iv_c S 24)) (h24b : iv_c S 24 ≤ 150) (ht : tq S t) (hsub : mBC G S f n t k) {q : Int32 → pm_S → Prop} {d : Nat} (hd : 9 + 3 * k ≤ d) : ∀ (g : Nat) (s : List Nat) (p : Nat) (X : Value), gx_ev t s (2 * k + 3) → p ≤ n → n < p + g → (∀ b : Int32, (b = 0 ∨ b = 1) → (∀ e, (gx_E (gx_F (gx_b f n) 160 k) (gx_b f n) 160 g s p).2 = some e → b = bI (gx_hv t e)) → q b (ms S (6 - k) (un (gx_E (gx_F (gx_b f n) 160 k) (gx_b f n) 160 g s p)))) → pm_W G d 191 (pm_QI q) 5 [.ref 59, .int (bI (gx_hv t s)), X] [] (ms S (6 - k) (p, some ())) 0 0 := by
  have hn := hm.2.1
  intro g
  induction g with
  | zero => intro s p X _ h1 h2; omega
  | succ g ih =>
    intro s p X hev hp hg h
    have hms : ms S (6 - k) (p, some ()) = mst S (nI p) (-1) (nI (6 - k)) := rfl
    rw [hms]
    refine pm_wb_ok pb_c191 4 5 0 _ _ _ _ _ ?_
    try simp only [pm_WI0, pm_WI1, pm_WI2, pm_WI3, pm_WI4, pm_WI5, pm_WV, pm_WW, pm_WX, pb_B191, pm_if, pm_QI_at, pm_QL_at, pm_QV_at, pm_QR_at, pm_QR_at0, pm_QR_at1, Nat.reduceSub, Nat.reduceAdd, List.replicate_zero, List.replicate_succ, true_and, and_true, true_or, or_true, and_self, reduceIte, Nat.reduceEqDiff, Nat.reduceLT, Nat.reduceLeDiff, Nat.reduceMul, false_and, and_false, reduceCtorEq, false_or, or_false, not_true_eq_false, not_false_eq_true, true_implies, false_implies, implies_true, lf_10, eq_self, Int32.reduceLT, Int32.reduceLE, Int32.reduceAdd, Int32.reduceSub, pm_same, pm_i_wI, pm_l_wL, pm_l_wM, pm_oR_rf, pm_oQ_rf, sh_k59 hS, sh_r59_25 hS, sh_k80 hS, sh_z80 hS, sh_r59_27 hS, sh_k81 hS, sh_z81 hS, mst_w46, mst_w48, mst_w49, mst_46, mst_48, mst_49, mst_k, mst_z, mst_r, mst_n, mst_l, mst_R62, mst_R64, mst_R65, mst_R66, mst_R67, mst_R78, mst_R80, mst_R81, mst_F18, mst_F24, mst_F45, mst_F47, mst_F50, mst_F51, nI_1, LQ1, LQ2, LQ4, LQ1, LQ2, ms_k, ms_z, ms_r, ms_49, ms_w49, ms_R62, ms_R64, ms_R65, ms_R66, ms_R67, ms_R75, ms_R76, ms_R77, ms_R78, ms_R79, ms_R80, ms_R81, ms_R95, ms_R96, ms_R97, ms_F0, ms_F2, ms_F18, ms_F24, ms_F31, ms_F26, ms_F45, ms_F47, ms_F50, ms_F51, ms_F52, ms_F53, ms_F54, ms_F55, ms_F56, ms_F57, ms_F58, ms_F59, ms_F60, ms_F61, ms_F62, ms_F63]
    refine ⟨by omega, mr_186l (c := 124) (by omega) hS hm hp (by omega) (fun y => ?_) (fun y => ?_)⟩
    · have hpn : p < n := gx_lt gx_b_eof y (by omega)
      refine ⟨fun z => absurd z (by decide), fun _ => ⟨by omega, sh_k59 hS, hsub (p + 1, some ()) _ (d - 1) (by omega) (by show p + 1 ≤ n; omega) (fun b hb he => ?_)⟩⟩
      have eR : gx_bd ((p + 1, some ()) : gx_R Unit) (fun _ p => gx_TT (gx_F (gx_b f n) 160 k) (gx_b f n) 160 p) = gx_TT (gx_F (gx_b f n) 160 k) (gx_b f n) 160 (p + 1) := rfl
      rw [eR] at he ⊢
      have hok := (gx_TT_ok (B := gx_b f n) (F := gx_F (gx_b f n) 160 k) gx_b_eof (fun p hp => gx_F_ok gx_b_eof 160 k p hp) 160 (p := p + 1) (by omega))
      rcases gx_two (gx_TT (gx_F (gx_b f n) 160 k) (gx_b f n) 160 (p + 1)) with ⟨x, ex⟩ | ⟨x, r, ex⟩
      · have eG : gx_E (gx_F (gx_b f n) 160 k) (gx_b f n) 160 (g + 1) s p = (x, none) := by
          rw [gx_E]
          rw [if_pos y, gx_bd_none ex]
        have hx := (hok.1 x ex).2
        rw [ex, un_none]
        have fin : ∀ v X, (v = 0 ∨ v = 1) → pm_W G d 191 (pm_QI q) 5 [.ref 59, .int v, X] [] (ms S (6 - k) (x, none)) 0 0 := fun v X hv => mr_191f (by omega) hS (by omega) hv (by
          have := h v hv (fun e z => (by rw [eG] at z; cases z))
          rw [eG] at this; exact this)
        rcases hb with rfl | rfl <;> cases gx_hv t s <;> simp only [bI, pm_WV, pm_WW, true_and, and_true, true_or, or_true, and_self, reduceIte, Nat.reduceEqDiff, Nat.reduceLT, Nat.reduceLeDiff, Nat.reduceMul, false_and, and_false, reduceCtorEq, false_or, or_false, not_true_eq_false, not_false_eq_true, true_implies, false_implies, implies_true, lf_10, eq_self, Int32.reduceLT, Int32.reduceLE, Int32.reduceAdd, Int32.reduceSub, pm_same, pm_i_wI, pm_l_wL, pm_l_wM, pm_oR_rf, pm_oQ_rf, sh_k59 hS, sh_r59_25 hS, sh_k80 hS, sh_z80 hS, sh_r59_27 hS, sh_k81 hS, sh_z81 hS, mst_w46, mst_w48, mst_w49, mst_46, mst_48, mst_49, mst_k, mst_z, mst_r, mst_n, mst_l, mst_R62, mst_R64, mst_R65, mst_R66, mst_R67, mst_R78, mst_R80, mst_R81, mst_F18, mst_F24, mst_F45, mst_F47, mst_F50, mst_F51, nI_1, LQ1, LQ2, LQ4, LQ1, LQ2, ms_k, ms_z, ms_r, ms_49, ms_w49, ms_R62, ms_R64, ms_R65, ms_R66, ms_R67, ms_R75, ms_R76, ms_R77, ms_R78, ms_R79, ms_R80, ms_R81, ms_R95, ms_R96, ms_R97, ms_F0, ms_F2, ms_F18, ms_F24, ms_F31, ms_F26, ms_F45, ms_F47, ms_F50, ms_F51, ms_F52, ms_F53, ms_F54, ms_F55, ms_F56, ms_F57, ms_F58, ms_F59, ms_F60, ms_F61, ms_F62, ms_F63, pm_WI0, pm_WI1, pm_WI2, pm_WI3, pm_WI4, pm_WI5, pm_WV, pm_WW, pm_WX, pb_B191, pm_if, pm_QI_at, pm_QL_at, pm_QV_at, pm_QR_at, pm_QR_at0, pm_QR_at1, Nat.reduceSub, Nat.reduceAdd, List.replicate_zero, List.replicate_succ] <;> exact fin _ _ (by first | exact Or.inl rfl | exact Or.inr rfl)
      · have hev2 := (ev_TT (t := t) (fun p q s h => ev_F 160 k p q s h) ex)
        have hx := hok.2 x r ex
        have e2 := ev_or hev hev2 (by omega)
        have eG : gx_E (gx_F (gx_b f n) 160 k) (gx_b f n) 160 (g + 1) s p = gx_E (gx_F (gx_b f n) 160 k) (gx_b f n) 160 g (s ++ (r ++ [10])) x := by
          conv => lhs; rw [gx_E]
          rw [if_pos y, gx_bd_some ex]
        rw [eG] at h
        have hbb := he r (by rw [ex])
        rw [ex, un_some, hbb]
        have := ih (s ++ (r ++ [10])) x
        rw [e2.1] at this
        cases h1 : gx_hv t s <;> cases h2 : gx_hv t r <;> simp only [h1, h2, bI, Bool.and_self, Bool.and_false, Bool.and_true, Bool.or_self, Bool.or_false, Bool.or_true, Bool.false_and, Bool.true_and, Bool.false_or, Bool.true_or, Bool.false_eq_true, pm_WV, pm_WW, true_and, and_true, true_or, or_true, and_self, reduceIte, Nat.reduceEqDiff, Nat.reduceLT, Nat.reduceLeDiff, Nat.reduceMul, false_and, and_false, reduceCtorEq, false_or, or_false, not_true_eq_false, not_false_eq_true, true_implies, false_implies, implies_true, lf_10, eq_self, Int32.reduceLT, Int32.reduceLE, Int32.reduceAdd, Int32.reduceSub, pm_same, pm_i_wI, pm_l_wL, pm_l_wM, pm_oR_rf, pm_oQ_rf, sh_k59 hS, sh_r59_25 hS, sh_k80 hS, sh_z80 hS, sh_r59_27 hS, sh_k81 hS, sh_z81 hS, mst_w46, mst_w48, mst_w49, mst_46, mst_48, mst_49, mst_k, mst_z, mst_r, mst_n, mst_l, mst_R62, mst_R64, mst_R65, mst_R66, mst_R67, mst_R78, mst_R80, mst_R81, mst_F18, mst_F24, mst_F45, mst_F47, mst_F50, mst_F51, nI_1, LQ1, LQ2, LQ4, LQ1, LQ2, ms_k, ms_z, ms_r, ms_49, ms_w49, ms_R62, ms_R64, ms_R65, ms_R66, ms_R67, ms_R75, ms_R76, ms_R77, ms_R78, ms_R79, ms_R80, ms_R81, ms_R95, ms_R96, ms_R97, ms_F0, ms_F2, ms_F18, ms_F24, ms_F31, ms_F26, ms_F45, ms_F47, ms_F50, ms_F51, ms_F52, ms_F53, ms_F54, ms_F55, ms_F56, ms_F57, ms_F58, ms_F59, ms_F60, ms_F61, ms_F62, ms_F63, pm_WI0, pm_WI1, pm_WI2, pm_WI3, pm_WI4, pm_WI5, pm_WV, pm_WW, pm_WX, pb_B191, pm_if, pm_QI_at, pm_QL_at, pm_QV_at, pm_QR_at, pm_QR_at0, pm_QR_at1, Nat.reduceSub, Nat.reduceAdd, List.replicate_zero, List.replicate_succ] at this ⊢ <;> exact this _ e2.2 hx.2.1 (by omega) h
    · have eG : gx_E (gx_F (gx_b f n) 160 k) (gx_b f n) 160 (g + 1) s p = (p, some s) := by
        rw [gx_E]
        rw [if_neg y]
      refine ⟨fun _ => ⟨bI01 _, ?_⟩, fun z => absurd rfl z⟩
      have := h _ (bI01 (gx_hv t s)) (fun e z => by rw [eG] at z; cases z; rfl)
      rw [eG] at this
      exact this
theorem mr_191 {G : pm_G} {S : pm_S} {f : Nat → Int32} {n : Nat} {t : Nat → Bool} {k : Nat} (hS : Sh S) (hm : mrc S f n) (h18 : iv_c S 18 ≤ 40) (h24 : pm_i S 59 24 = nI (iv_c S 24)) (h24b : iv_c S 24 ≤ 150) (ht : tq S t) (hsub : mBC G S f n t k) : mEC G S f n t k := by
  intro r q d hd hr h
  have hn := hm.2.1
  refine pm_goI 191 1 pb_c191 (by decide) (Nat.le_of_ble_eq_true rfl) rfl ?_
  try simp only [show pm_mL 191 = 3 from rfl, pm_WI0, pm_WI1, pm_WI2, pm_WI3, pm_WI4, pm_WI5, pm_WV, pm_WW, pm_WX, pb_B191, pm_if, pm_QI_at, pm_QL_at, pm_QV_at, pm_QR_at, pm_QR_at0, pm_QR_at1, Nat.reduceSub, Nat.reduceAdd, List.replicate_zero, List.replicate_succ, true_and, and_true, true_or, or_true, and_self, reduceIte, Nat.reduceEqDiff, Nat.reduceLT, Nat.reduceLeDiff, Nat.reduceMul, false_and, and_false, reduceCtorEq, false_or, or_false, not_true_eq_false, not_false_eq_true, true_implies, false_implies, implies_true, lf_10, eq_self, Int32.reduceLT, Int32.reduceLE, Int32.reduceAdd, Int32.reduceSub, pm_same, pm_i_wI, pm_l_wL, pm_l_wM, pm_oR_rf, pm_oQ_rf, sh_k59 hS, sh_r59_25 hS, sh_k80 hS, sh_z80 hS, sh_r59_27 hS, sh_k81 hS, sh_z81 hS, mst_w46, mst_w48, mst_w49, mst_46, mst_48, mst_49, mst_k, mst_z, mst_r, mst_n, mst_l, mst_R62, mst_R64, mst_R65, mst_R66, mst_R67, mst_R78, mst_R80, mst_R81, mst_F18, mst_F24, mst_F45, mst_F47, mst_F50, mst_F51, nI_1, LQ1, LQ2, LQ4, LQ1, LQ2, ms_k, ms_z, ms_r, ms_49, ms_w49, ms_R62, ms_R64, ms_R65, ms_R66, ms_R67, ms_R75, ms_R76, ms_R77, ms_R78, ms_R79, ms_R80, ms_R81, ms_R95, ms_R96, ms_R97, ms_F0, ms_F2, ms_F18, ms_F24, ms_F31, ms_F26, ms_F45, ms_F47, ms_F50, ms_F51, ms_F52, ms_F53, ms_F54, ms_F55, ms_F56, ms_F57, ms_F58, ms_F59, ms_F60, ms_F61, ms_F62, ms_F63]
  refine ⟨by omega, hsub r _ (d - 1) (by omega) hr (fun b hb he => ?_)⟩
  obtain ⟨p, _ | u⟩ := r
  · have e0 : un (gx_bd ((p, none) : gx_R Unit) (fun _ p => gx_TT (gx_F (gx_b f n) 160 k) (gx_b f n) 160 p)) = (p, none) := rfl
    rw [e0]
    exact mr_191f (by omega) hS (by have : p ≤ n := hr; omega) hb (h b hb (fun e z => (by cases z)))
  · have hp : p ≤ n := hr
    have eR : gx_bd ((p, some u) : gx_R Unit) (fun _ p => gx_TT (gx_F (gx_b f n) 160 k) (gx_b f n) 160 p) = gx_TT (gx_F (gx_b f n) 160 k) (gx_b f n) 160 p := rfl
    have eF : gx_bd ((p, some u) : gx_R Unit) (fun _ p => gx_EE (gx_F (gx_b f n) 160 k) (gx_b f n) 160 p) = gx_EE (gx_F (gx_b f n) 160 k) (gx_b f n) 160 p := rfl
    rw [eR] at he ⊢
    rw [eF] at h
    have hok := (gx_TT_ok (B := gx_b f n) (F := gx_F (gx_b f n) 160 k) gx_b_eof (fun p hp => gx_F_ok gx_b_eof 160 k p hp) 160 (p := p) hp)
    rcases gx_two (gx_TT (gx_F (gx_b f n) 160 k) (gx_b f n) 160 p) with ⟨x, ex⟩ | ⟨x, s, ex⟩
    · have eG : gx_EE (gx_F (gx_b f n) 160 k) (gx_b f n) 160 p = (x, none) := by unfold gx_EE; rw [gx_bd_none ex]
      have hx := (hok.1 x ex).2
      rw [ex, un_none]
      refine mr_191f (by omega) hS (by omega) hb ?_
      have := h b hb (fun e z => (by rw [eG] at z; cases z))
      rw [eG] at this; exact this
    · have eG : gx_EE (gx_F (gx_b f n) 160 k) (gx_b f n) 160 p = gx_E (gx_F (gx_b f n) 160 k) (gx_b f n) 160 160 s x := by unfold gx_EE; rw [gx_bd_some ex]
      have hx := hok.2 x s ex
      rw [ex, un_some, he s (by rw [ex])]
      rw [eG] at h
      exact mr_191k hS hm h18 h24 h24b ht hsub hd 160 s x _ (ev_mono (ev_TT (t := t) (fun p q s h => ev_F 160 k p q s h) ex) (by omega)) hx.2.1 (by omega) h
theorem mr_193f {G : pm_G} {S : pm_S} {o p : Nat} {q : Int32 → pm_S → Prop} {d : Nat} (hS : Sh S) (hp : p < 2 ^ 31) (h : q 0 (ms S o (p, none))) : pm_CI G d 193 [.ref 59] (ms S o (p, none)) q := by
  have hx : ¬ nI p < 0 := nI_pos hp
  have hms : ms S o (p, none) = mst S (nI p) (nI p) (nI o) := rfl
  rw [hms] at h ⊢
  refine pm_goI 193 40 pb_c193 (by decide) (Nat.le_of_ble_eq_true rfl) rfl ?_
  try simp only [show pm_mL 193 = 3 from rfl, pm_WI0, pm_WI1, pm_WI2, pm_WI3, pm_WI4, pm_WI5, pm_WV, pm_WW, pm_WX, pb_B193, pm_if, pm_QI_at, pm_QL_at, pm_QV_at, pm_QR_at, pm_QR_at0, pm_QR_at1, Nat.reduceSub, Nat.reduceAdd, List.replicate_zero, List.replicate_succ, true_and, and_true, true_or, or_true, and_self, reduceIte, Nat.reduceEqDiff, Nat.reduceLT, Nat.reduceLeDiff, Nat.reduceMul, false_and, and_false, reduceCtorEq, false_or, or_false, not_true_eq_false, not_false_eq_true, true_implies, false_implies, implies_true, lf_10, eq_self, Int32.reduceLT, Int32.reduceLE, Int32.reduceAdd, Int32.reduceSub, pm_same, pm_i_wI, pm_l_wL, pm_l_wM, pm_oR_rf, pm_oQ_rf, sh_k59 hS, sh_r59_25 hS, sh_k80 hS, sh_z80 hS, sh_r59_27 hS, sh_k81 hS, sh_z81 hS, mst_w46, mst_w48, mst_w49, mst_46, mst_48, mst_49, mst_k, mst_z, mst_r, mst_n, mst_l, mst_R62, mst_R64, mst_R65, mst_R66, mst_R67, mst_R78, mst_R80, mst_R81, mst_F18, mst_F24, mst_F45, mst_F47, mst_F50, mst_F51, nI_1, LQ1, LQ2, LQ4, LQ1, LQ2, ms_k, ms_z, ms_r, ms_49, ms_w49, ms_R62, ms_R64, ms_R65, ms_R66, ms_R67, ms_R75, ms_R76, ms_R77, ms_R78, ms_R79, ms_R80, ms_R81, ms_R95, ms_R96, ms_R97, ms_F0, ms_F2, ms_F18, ms_F24, ms_F31, ms_F26, ms_F45, ms_F47, ms_F50, ms_F51, ms_F52, ms_F53, ms_F54, ms_F55, ms_F56, ms_F57, ms_F58, ms_F59, ms_F60, ms_F61, ms_F62, ms_F63, hx]
  exact h
theorem mr_193t {G : pm_G} {S : pm_S} {f : Nat → Int32} {n : Nat} {t : Nat → Bool} {k : Nat} (hS : Sh S) (hm : mrc S f n) (h18 : iv_c S 18 ≤ 40) (h24 : pm_i S 59 24 = nI (iv_c S 24)) (h24b : iv_c S 24 ≤ 150) (ht : tq S t) {p : Nat} {q : Int32 → pm_S → Prop} {d : Nat} (hd : 7 ≤ d) (hp : p ≤ n) (y1 : ¬ gx_b f n p = 33) (y2 : ¬ gx_b f n p = 40) (h : ∀ b : Int32, (b = 0 ∨ b = 1) → (∀ e, (gx_test (gx_b f n) p).2 = some e → b = bI (gx_hv t e)) → q b (ms S k (un (gx_test (gx_b f n) p)))) : pm_CI G d 193 [.ref 59] (ms S k (p, some ())) q := by
  have hn := hm.2.1
  have hms : ms S k (p, some ()) = mst S (nI p) (-1) (nI k) := rfl
  have z1 : ¬ sg (gx_b f n p) = 33 := fun z => y1 ((sg_nc hm (c := 33) (by omega)).mp z)
  have z2 : ¬ sg (gx_b f n p) = 40 := fun z => y2 ((sg_nc hm (c := 40) (by omega)).mp z)
  rw [hms]
  refine pm_goI 193 1 pb_c193 (by decide) (Nat.le_of_ble_eq_true rfl) rfl ?_
  try simp only [show pm_mL 193 = 3 from rfl, pm_WI0, pm_WI1, pm_WI2, pm_WI3, pm_WI4, pm_WI5, pm_WV, pm_WW, pm_WX, pb_B193, pm_if, pm_QI_at, pm_QL_at, pm_QV_at, pm_QR_at, pm_QR_at0, pm_QR_at1, Nat.reduceSub, Nat.reduceAdd, List.replicate_zero, List.replicate_succ, true_and, and_true, true_or, or_true, and_self, reduceIte, Nat.reduceEqDiff, Nat.reduceLT, Nat.reduceLeDiff, Nat.reduceMul, false_and, and_false, reduceCtorEq, false_or, or_false, not_true_eq_false, not_false_eq_true, true_implies, false_implies, implies_true, lf_10, eq_self, Int32.reduceLT, Int32.reduceLE, Int32.reduceAdd, Int32.reduceSub, pm_same, pm_i_wI, pm_l_wL, pm_l_wM, pm_oR_rf, pm_oQ_rf, sh_k59 hS, sh_r59_25 hS, sh_k80 hS, sh_z80 hS, sh_r59_27 hS, sh_k81 hS, sh_z81 hS, mst_w46, mst_w48, mst_w49, mst_46, mst_48, mst_49, mst_k, mst_z, mst_r, mst_n, mst_l, mst_R62, mst_R64, mst_R65, mst_R66, mst_R67, mst_R78, mst_R80, mst_R81, mst_F18, mst_F24, mst_F45, mst_F47, mst_F50, mst_F51, nI_1, LQ1, LQ2, LQ4, LQ1, LQ2, ms_k, ms_z, ms_r, ms_49, ms_w49, ms_R62, ms_R64, ms_R65, ms_R66, ms_R67, ms_R75, ms_R76, ms_R77, ms_R78, ms_R79, ms_R80, ms_R81, ms_R95, ms_R96, ms_R97, ms_F0, ms_F2, ms_F18, ms_F24, ms_F31, ms_F26, ms_F45, ms_F47, ms_F50, ms_F51, ms_F52, ms_F53, ms_F54, ms_F55, ms_F56, ms_F57, ms_F58, ms_F59, ms_F60, ms_F61, ms_F62, ms_F63]
  refine pm_wb_ok pb_c193 3 9 0 _ _ _ _ _ ?_
  try simp only [pm_WI0, pm_WI1, pm_WI2, pm_WI3, pm_WI4, pm_WI5, pm_WV, pm_WW, pm_WX, pb_B193, pm_if, pm_QI_at, pm_QL_at, pm_QV_at, pm_QR_at, pm_QR_at0, pm_QR_at1, Nat.reduceSub, Nat.reduceAdd, List.replicate_zero, List.replicate_succ, true_and, and_true, true_or, or_true, and_self, reduceIte, Nat.reduceEqDiff, Nat.reduceLT, Nat.reduceLeDiff, Nat.reduceMul, false_and, and_false, reduceCtorEq, false_or, or_false, not_true_eq_false, not_false_eq_true, true_implies, false_implies, implies_true, lf_10, eq_self, Int32.reduceLT, Int32.reduceLE, Int32.reduceAdd, Int32.reduceSub, pm_same, pm_i_wI, pm_l_wL, pm_l_wM, pm_oR_rf, pm_oQ_rf, sh_k59 hS, sh_r59_25 hS, sh_k80 hS, sh_z80 hS, sh_r59_27 hS, sh_k81 hS, sh_z81 hS, mst_w46, mst_w48, mst_w49, mst_46, mst_48, mst_49, mst_k, mst_z, mst_r, mst_n, mst_l, mst_R62, mst_R64, mst_R65, mst_R66, mst_R67, mst_R78, mst_R80, mst_R81, mst_F18, mst_F24, mst_F45, mst_F47, mst_F50, mst_F51, nI_1, LQ1, LQ2, LQ4, LQ1, LQ2, ms_k, ms_z, ms_r, ms_49, ms_w49, ms_R62, ms_R64, ms_R65, ms_R66, ms_R67, ms_R75, ms_R76, ms_R77, ms_R78, ms_R79, ms_R80, ms_R81, ms_R95, ms_R96, ms_R97, ms_F0, ms_F2, ms_F18, ms_F24, ms_F31, ms_F26, ms_F45, ms_F47, ms_F50, ms_F51, ms_F52, ms_F53, ms_F54, ms_F55, ms_F56, ms_F57, ms_F58, ms_F59, ms_F60, ms_F61, ms_F62, ms_F63]
  refine ⟨by omega, mr_181 hS hm hp ?_⟩
  try simp only [pm_WV, pm_WW, true_and, and_true, true_or, or_true, and_self, reduceIte, Nat.reduceEqDiff, Nat.reduceLT, Nat.reduceLeDiff, Nat.reduceMul, false_and, and_false, reduceCtorEq, false_or, or_false, not_true_eq_false, not_false_eq_true, true_implies, false_implies, implies_true, lf_10, eq_self, Int32.reduceLT, Int32.reduceLE, Int32.reduceAdd, Int32.reduceSub, pm_same, pm_i_wI, pm_l_wL, pm_l_wM, pm_oR_rf, pm_oQ_rf, sh_k59 hS, sh_r59_25 hS, sh_k80 hS, sh_z80 hS, sh_r59_27 hS, sh_k81 hS, sh_z81 hS, mst_w46, mst_w48, mst_w49, mst_46, mst_48, mst_49, mst_k, mst_z, mst_r, mst_n, mst_l, mst_R62, mst_R64, mst_R65, mst_R66, mst_R67, mst_R78, mst_R80, mst_R81, mst_F18, mst_F24, mst_F45, mst_F47, mst_F50, mst_F51, nI_1, LQ1, LQ2, LQ4, LQ1, LQ2, ms_k, ms_z, ms_r, ms_49, ms_w49, ms_R62, ms_R64, ms_R65, ms_R66, ms_R67, ms_R75, ms_R76, ms_R77, ms_R78, ms_R79, ms_R80, ms_R81, ms_R95, ms_R96, ms_R97, ms_F0, ms_F2, ms_F18, ms_F24, ms_F31, ms_F26, ms_F45, ms_F47, ms_F50, ms_F51, ms_F52, ms_F53, ms_F54, ms_F55, ms_F56, ms_F57, ms_F58, ms_F59, ms_F60, ms_F61, ms_F62, ms_F63, pm_WI0, pm_WI1, pm_WI2, pm_WI3, pm_WI4, pm_WI5, pm_WV, pm_WW, pm_WX, pb_B193, pm_if, pm_QI_at, pm_QL_at, pm_QV_at, pm_QR_at, pm_QR_at0, pm_QR_at1, Nat.reduceSub, Nat.reduceAdd, List.replicate_zero, List.replicate_succ, z1, z2]
  exact ⟨by omega, mr_194 (o := k) (by omega) hS hm h18 h24 h24b ht hp (fun b hb he => ⟨hb, h b hb he⟩)⟩
theorem mr_193o {G : pm_G} {S : pm_S} {f : Nat → Int32} {n : Nat} {t : Nat → Bool} {p c : Nat} (hS : Sh S) (hm : mrc S f n) (h18 : iv_c S 18 ≤ 40) (h24 : pm_i S 59 24 = nI (iv_c S 24)) (h24b : iv_c S 24 ≤ 150) (ht : tq S t) {q : Int32 → pm_S → Prop} {d : Nat} (hd : 7 ≤ d) (hp : p ≤ n) (hc : c = 33 ∨ c = 40) (y : gx_b f n p = c) (h : q 0 (ms S 6 (p, none))) : pm_CI G d 193 [.ref 59] (ms S 6 (p, some ())) q := by
  have hn := hm.2.1
  have hms : ms S 6 (p, some ()) = mst S (nI p) (-1) 6 := rfl
  have h' : q 0 (mst S (nI p) (nI p) 6) := h
  rw [hms]
  refine pm_goI 193 1 pb_c193 (by decide) (Nat.le_of_ble_eq_true rfl) rfl ?_
  try simp only [show pm_mL 193 = 3 from rfl, pm_WI0, pm_WI1, pm_WI2, pm_WI3, pm_WI4, pm_WI5, pm_WV, pm_WW, pm_WX, pb_B193, pm_if, pm_QI_at, pm_QL_at, pm_QV_at, pm_QR_at, pm_QR_at0, pm_QR_at1, Nat.reduceSub, Nat.reduceAdd, List.replicate_zero, List.replicate_succ, true_and, and_true, true_or, or_true, and_self, reduceIte, Nat.reduceEqDiff, Nat.reduceLT, Nat.reduceLeDiff, Nat.reduceMul, false_and, and_false, reduceCtorEq, false_or, or_false, not_true_eq_false, not_false_eq_true, true_implies, false_implies, implies_true, lf_10, eq_self, Int32.reduceLT, Int32.reduceLE, Int32.reduceAdd, Int32.reduceSub, pm_same, pm_i_wI, pm_l_wL, pm_l_wM, pm_oR_rf, pm_oQ_rf, sh_k59 hS, sh_r59_25 hS, sh_k80 hS, sh_z80 hS, sh_r59_27 hS, sh_k81 hS, sh_z81 hS, mst_w46, mst_w48, mst_w49, mst_46, mst_48, mst_49, mst_k, mst_z, mst_r, mst_n, mst_l, mst_R62, mst_R64, mst_R65, mst_R66, mst_R67, mst_R78, mst_R80, mst_R81, mst_F18, mst_F24, mst_F45, mst_F47, mst_F50, mst_F51, nI_1, LQ1, LQ2, LQ4, LQ1, LQ2, ms_k, ms_z, ms_r, ms_49, ms_w49, ms_R62, ms_R64, ms_R65, ms_R66, ms_R67, ms_R75, ms_R76, ms_R77, ms_R78, ms_R79, ms_R80, ms_R81, ms_R95, ms_R96, ms_R97, ms_F0, ms_F2, ms_F18, ms_F24, ms_F31, ms_F26, ms_F45, ms_F47, ms_F50, ms_F51, ms_F52, ms_F53, ms_F54, ms_F55, ms_F56, ms_F57, ms_F58, ms_F59, ms_F60, ms_F61, ms_F62, ms_F63]
  rcases hc with rfl | rfl
  · have es : sg (gx_b f n p) = 33 := by rw [y]; rfl
    refine pm_wb_ok pb_c193 1 9 0 _ _ _ _ _ ?_
    try simp only [pm_WI0, pm_WI1, pm_WI2, pm_WI3, pm_WI4, pm_WI5, pm_WV, pm_WW, pm_WX, pb_B193, pm_if, pm_QI_at, pm_QL_at, pm_QV_at, pm_QR_at, pm_QR_at0, pm_QR_at1, Nat.reduceSub, Nat.reduceAdd, List.replicate_zero, List.replicate_succ, true_and, and_true, true_or, or_true, and_self, reduceIte, Nat.reduceEqDiff, Nat.reduceLT, Nat.reduceLeDiff, Nat.reduceMul, false_and, and_false, reduceCtorEq, false_or, or_false, not_true_eq_false, not_false_eq_true, true_implies, false_implies, implies_true, lf_10, eq_self, Int32.reduceLT, Int32.reduceLE, Int32.reduceAdd, Int32.reduceSub, pm_same, pm_i_wI, pm_l_wL, pm_l_wM, pm_oR_rf, pm_oQ_rf, sh_k59 hS, sh_r59_25 hS, sh_k80 hS, sh_z80 hS, sh_r59_27 hS, sh_k81 hS, sh_z81 hS, mst_w46, mst_w48, mst_w49, mst_46, mst_48, mst_49, mst_k, mst_z, mst_r, mst_n, mst_l, mst_R62, mst_R64, mst_R65, mst_R66, mst_R67, mst_R78, mst_R80, mst_R81, mst_F18, mst_F24, mst_F45, mst_F47, mst_F50, mst_F51, nI_1, LQ1, LQ2, LQ4, LQ1, LQ2, ms_k, ms_z, ms_r, ms_49, ms_w49, ms_R62, ms_R64, ms_R65, ms_R66, ms_R67, ms_R75, ms_R76, ms_R77, ms_R78, ms_R79, ms_R80, ms_R81, ms_R95, ms_R96, ms_R97, ms_F0, ms_F2, ms_F18, ms_F24, ms_F31, ms_F26, ms_F45, ms_F47, ms_F50, ms_F51, ms_F52, ms_F53, ms_F54, ms_F55, ms_F56, ms_F57, ms_F58, ms_F59, ms_F60, ms_F61, ms_F62, ms_F63]
    refine ⟨by omega, mr_181 hS hm hp ?_⟩
    try simp only [pm_WV, pm_WW, true_and, and_true, true_or, or_true, and_self, reduceIte, Nat.reduceEqDiff, Nat.reduceLT, Nat.reduceLeDiff, Nat.reduceMul, false_and, and_false, reduceCtorEq, false_or, or_false, not_true_eq_false, not_false_eq_true, true_implies, false_implies, implies_true, lf_10, eq_self, Int32.reduceLT, Int32.reduceLE, Int32.reduceAdd, Int32.reduceSub, pm_same, pm_i_wI, pm_l_wL, pm_l_wM, pm_oR_rf, pm_oQ_rf, sh_k59 hS, sh_r59_25 hS, sh_k80 hS, sh_z80 hS, sh_r59_27 hS, sh_k81 hS, sh_z81 hS, mst_w46, mst_w48, mst_w49, mst_46, mst_48, mst_49, mst_k, mst_z, mst_r, mst_n, mst_l, mst_R62, mst_R64, mst_R65, mst_R66, mst_R67, mst_R78, mst_R80, mst_R81, mst_F18, mst_F24, mst_F45, mst_F47, mst_F50, mst_F51, nI_1, LQ1, LQ2, LQ4, LQ1, LQ2, ms_k, ms_z, ms_r, ms_49, ms_w49, ms_R62, ms_R64, ms_R65, ms_R66, ms_R67, ms_R75, ms_R76, ms_R77, ms_R78, ms_R79, ms_R80, ms_R81, ms_R95, ms_R96, ms_R97, ms_F0, ms_F2, ms_F18, ms_F24, ms_F31, ms_F26, ms_F45, ms_F47, ms_F50, ms_F51, ms_F52, ms_F53, ms_F54, ms_F55, ms_F56, ms_F57, ms_F58, ms_F59, ms_F60, ms_F61, ms_F62, ms_F63, pm_WI0, pm_WI1, pm_WI2, pm_WI3, pm_WI4, pm_WI5, pm_WV, pm_WW, pm_WX, pb_B193, pm_if, pm_QI_at, pm_QL_at, pm_QV_at, pm_QR_at, pm_QR_at0, pm_QR_at1, Nat.reduceSub, Nat.reduceAdd, List.replicate_zero, List.replicate_succ, es]
    refine pm_wb_ok pb_c193 4 26 0 _ _ _ _ _ ?_
    try simp only [pm_WI0, pm_WI1, pm_WI2, pm_WI3, pm_WI4, pm_WI5, pm_WV, pm_WW, pm_WX, pb_B193, pm_if, pm_QI_at, pm_QL_at, pm_QV_at, pm_QR_at, pm_QR_at0, pm_QR_at1, Nat.reduceSub, Nat.reduceAdd, List.replicate_zero, List.replicate_succ, true_and, and_true, true_or, or_true, and_self, reduceIte, Nat.reduceEqDiff, Nat.reduceLT, Nat.reduceLeDiff, Nat.reduceMul, false_and, and_false, reduceCtorEq, false_or, or_false, not_true_eq_false, not_false_eq_true, true_implies, false_implies, implies_true, lf_10, eq_self, Int32.reduceLT, Int32.reduceLE, Int32.reduceAdd, Int32.reduceSub, pm_same, pm_i_wI, pm_l_wL, pm_l_wM, pm_oR_rf, pm_oQ_rf, sh_k59 hS, sh_r59_25 hS, sh_k80 hS, sh_z80 hS, sh_r59_27 hS, sh_k81 hS, sh_z81 hS, mst_w46, mst_w48, mst_w49, mst_46, mst_48, mst_49, mst_k, mst_z, mst_r, mst_n, mst_l, mst_R62, mst_R64, mst_R65, mst_R66, mst_R67, mst_R78, mst_R80, mst_R81, mst_F18, mst_F24, mst_F45, mst_F47, mst_F50, mst_F51, nI_1, LQ1, LQ2, LQ4, LQ1, LQ2, ms_k, ms_z, ms_r, ms_49, ms_w49, ms_R62, ms_R64, ms_R65, ms_R66, ms_R67, ms_R75, ms_R76, ms_R77, ms_R78, ms_R79, ms_R80, ms_R81, ms_R95, ms_R96, ms_R97, ms_F0, ms_F2, ms_F18, ms_F24, ms_F31, ms_F26, ms_F45, ms_F47, ms_F50, ms_F51, ms_F52, ms_F53, ms_F54, ms_F55, ms_F56, ms_F57, ms_F58, ms_F59, ms_F60, ms_F61, ms_F62, ms_F63]
    exact ⟨by omega, mr_187l hS ⟨fun _ => h', fun z => absurd (Int32.le_refl 0) z⟩⟩
  · have es : sg (gx_b f n p) = 40 := by rw [y]; rfl
    refine pm_wb_ok pb_c193 1 9 0 _ _ _ _ _ ?_
    try simp only [pm_WI0, pm_WI1, pm_WI2, pm_WI3, pm_WI4, pm_WI5, pm_WV, pm_WW, pm_WX, pb_B193, pm_if, pm_QI_at, pm_QL_at, pm_QV_at, pm_QR_at, pm_QR_at0, pm_QR_at1, Nat.reduceSub, Nat.reduceAdd, List.replicate_zero, List.replicate_succ, true_and, and_true, true_or, or_true, and_self, reduceIte, Nat.reduceEqDiff, Nat.reduceLT, Nat.reduceLeDiff, Nat.reduceMul, false_and, and_false, reduceCtorEq, false_or, or_false, not_true_eq_false, not_false_eq_true, true_implies, false_implies, implies_true, lf_10, eq_self, Int32.reduceLT, Int32.reduceLE, Int32.reduceAdd, Int32.reduceSub, pm_same, pm_i_wI, pm_l_wL, pm_l_wM, pm_oR_rf, pm_oQ_rf, sh_k59 hS, sh_r59_25 hS, sh_k80 hS, sh_z80 hS, sh_r59_27 hS, sh_k81 hS, sh_z81 hS, mst_w46, mst_w48, mst_w49, mst_46, mst_48, mst_49, mst_k, mst_z, mst_r, mst_n, mst_l, mst_R62, mst_R64, mst_R65, mst_R66, mst_R67, mst_R78, mst_R80, mst_R81, mst_F18, mst_F24, mst_F45, mst_F47, mst_F50, mst_F51, nI_1, LQ1, LQ2, LQ4, LQ1, LQ2, ms_k, ms_z, ms_r, ms_49, ms_w49, ms_R62, ms_R64, ms_R65, ms_R66, ms_R67, ms_R75, ms_R76, ms_R77, ms_R78, ms_R79, ms_R80, ms_R81, ms_R95, ms_R96, ms_R97, ms_F0, ms_F2, ms_F18, ms_F24, ms_F31, ms_F26, ms_F45, ms_F47, ms_F50, ms_F51, ms_F52, ms_F53, ms_F54, ms_F55, ms_F56, ms_F57, ms_F58, ms_F59, ms_F60, ms_F61, ms_F62, ms_F63]
    refine ⟨by omega, mr_181 hS hm hp ?_⟩
    try simp only [pm_WV, pm_WW, true_and, and_true, true_or, or_true, and_self, reduceIte, Nat.reduceEqDiff, Nat.reduceLT, Nat.reduceLeDiff, Nat.reduceMul, false_and, and_false, reduceCtorEq, false_or, or_false, not_true_eq_false, not_false_eq_true, true_implies, false_implies, implies_true, lf_10, eq_self, Int32.reduceLT, Int32.reduceLE, Int32.reduceAdd, Int32.reduceSub, pm_same, pm_i_wI, pm_l_wL, pm_l_wM, pm_oR_rf, pm_oQ_rf, sh_k59 hS, sh_r59_25 hS, sh_k80 hS, sh_z80 hS, sh_r59_27 hS, sh_k81 hS, sh_z81 hS, mst_w46, mst_w48, mst_w49, mst_46, mst_48, mst_49, mst_k, mst_z, mst_r, mst_n, mst_l, mst_R62, mst_R64, mst_R65, mst_R66, mst_R67, mst_R78, mst_R80, mst_R81, mst_F18, mst_F24, mst_F45, mst_F47, mst_F50, mst_F51, nI_1, LQ1, LQ2, LQ4, LQ1, LQ2, ms_k, ms_z, ms_r, ms_49, ms_w49, ms_R62, ms_R64, ms_R65, ms_R66, ms_R67, ms_R75, ms_R76, ms_R77, ms_R78, ms_R79, ms_R80, ms_R81, ms_R95, ms_R96, ms_R97, ms_F0, ms_F2, ms_F18, ms_F24, ms_F31, ms_F26, ms_F45, ms_F47, ms_F50, ms_F51, ms_F52, ms_F53, ms_F54, ms_F55, ms_F56, ms_F57, ms_F58, ms_F59, ms_F60, ms_F61, ms_F62, ms_F63, pm_WI0, pm_WI1, pm_WI2, pm_WI3, pm_WI4, pm_WI5, pm_WV, pm_WW, pm_WX, pb_B193, pm_if, pm_QI_at, pm_QL_at, pm_QV_at, pm_QR_at, pm_QR_at0, pm_QR_at1, Nat.reduceSub, Nat.reduceAdd, List.replicate_zero, List.replicate_succ, es]
    refine pm_wb_ok pb_c193 4 26 0 _ _ _ _ _ ?_
    try simp only [pm_WI0, pm_WI1, pm_WI2, pm_WI3, pm_WI4, pm_WI5, pm_WV, pm_WW, pm_WX, pb_B193, pm_if, pm_QI_at, pm_QL_at, pm_QV_at, pm_QR_at, pm_QR_at0, pm_QR_at1, Nat.reduceSub, Nat.reduceAdd, List.replicate_zero, List.replicate_succ, true_and, and_true, true_or, or_true, and_self, reduceIte, Nat.reduceEqDiff, Nat.reduceLT, Nat.reduceLeDiff, Nat.reduceMul, false_and, and_false, reduceCtorEq, false_or, or_false, not_true_eq_false, not_false_eq_true, true_implies, false_implies, implies_true, lf_10, eq_self, Int32.reduceLT, Int32.reduceLE, Int32.reduceAdd, Int32.reduceSub, pm_same, pm_i_wI, pm_l_wL, pm_l_wM, pm_oR_rf, pm_oQ_rf, sh_k59 hS, sh_r59_25 hS, sh_k80 hS, sh_z80 hS, sh_r59_27 hS, sh_k81 hS, sh_z81 hS, mst_w46, mst_w48, mst_w49, mst_46, mst_48, mst_49, mst_k, mst_z, mst_r, mst_n, mst_l, mst_R62, mst_R64, mst_R65, mst_R66, mst_R67, mst_R78, mst_R80, mst_R81, mst_F18, mst_F24, mst_F45, mst_F47, mst_F50, mst_F51, nI_1, LQ1, LQ2, LQ4, LQ1, LQ2, ms_k, ms_z, ms_r, ms_49, ms_w49, ms_R62, ms_R64, ms_R65, ms_R66, ms_R67, ms_R75, ms_R76, ms_R77, ms_R78, ms_R79, ms_R80, ms_R81, ms_R95, ms_R96, ms_R97, ms_F0, ms_F2, ms_F18, ms_F24, ms_F31, ms_F26, ms_F45, ms_F47, ms_F50, ms_F51, ms_F52, ms_F53, ms_F54, ms_F55, ms_F56, ms_F57, ms_F58, ms_F59, ms_F60, ms_F61, ms_F62, ms_F63]
    exact ⟨by omega, mr_187l hS ⟨fun _ => h', fun z => absurd (Int32.le_refl 0) z⟩⟩
theorem mr_193 {G : pm_G} {S : pm_S} {f : Nat → Int32} {n : Nat} {t : Nat → Bool} {k : Nat} (hS : Sh S) (hm : mrc S f n) (h18 : iv_c S 18 ≤ 40) (h24 : pm_i S 59 24 = nI (iv_c S 24)) (h24b : iv_c S 24 ≤ 150) (ht : tq S t) (hk : k < 6) (hF : mFC G S f n t k) (hE : mEC G S f n t k) : mFC G S f n t (k + 1) := by
  intro r q d hd hr h
  have hn := hm.2.1
  obtain ⟨p, _ | u⟩ := r
  · exact mr_193f hS (by have : p ≤ n := hr; omega) (h 0 (Or.inl rfl) (fun e z => (by cases z)))
  · have hp : p ≤ n := hr
    have eF : gx_bd ((p, some u) : gx_R Unit) (fun _ p => gx_F (gx_b f n) 160 (k + 1) p) = gx_F (gx_b f n) 160 (k + 1) p := rfl
    rw [eF] at h
    have ho : nI (6 - (k + 1)) + 1 = nI (6 - k) := by rw [nI_1]; congr 1; omega
    have ho2 : nI (6 - k) - 1 = nI (6 - (k + 1)) := by rw [← ho]; lia
    have ho6 : ¬ nI (6 - (k + 1)) = 6 := fun z => by
      have := (nI_eq (a := 6 - (k + 1)) (b := 6) (by omega) (by omega)).mp z
      omega
    have hms : ms S (6 - (k + 1)) (p, some u) = mst S (nI p) (-1) (nI (6 - (k + 1))) := rfl
    by_cases y1 : gx_b f n p = 33
    · have hpn : p < n := gx_lt gx_b_eof y1 (by omega)
      have ec : gx_F (gx_b f n) 160 (k + 1) p = gx_bd (gx_F (gx_b f n) 160 k (p + 1)) (fun s q => (q, some (s ++ [8]))) := by rw [gx_F, if_pos y1]
      rw [ec] at h
      have es : sg (gx_b f n p) = 33 := by rw [y1]; rfl
      rw [hms]
      refine pm_goI 193 1 pb_c193 (by decide) (Nat.le_of_ble_eq_true rfl) rfl ?_
      try simp only [show pm_mL 193 = 3 from rfl, pm_WI0, pm_WI1, pm_WI2, pm_WI3, pm_WI4, pm_WI5, pm_WV, pm_WW, pm_WX, pb_B193, pm_if, pm_QI_at, pm_QL_at, pm_QV_at, pm_QR_at, pm_QR_at0, pm_QR_at1, Nat.reduceSub, Nat.reduceAdd, List.replicate_zero, List.replicate_succ, true_and, and_true, true_or, or_true, and_self, reduceIte, Nat.reduceEqDiff, Nat.reduceLT, Nat.reduceLeDiff, Nat.reduceMul, false_and, and_false, reduceCtorEq, false_or, or_false, not_true_eq_false, not_false_eq_true, true_implies, false_implies, implies_true, lf_10, eq_self, Int32.reduceLT, Int32.reduceLE, Int32.reduceAdd, Int32.reduceSub, pm_same, pm_i_wI, pm_l_wL, pm_l_wM, pm_oR_rf, pm_oQ_rf, sh_k59 hS, sh_r59_25 hS, sh_k80 hS, sh_z80 hS, sh_r59_27 hS, sh_k81 hS, sh_z81 hS, mst_w46, mst_w48, mst_w49, mst_46, mst_48, mst_49, mst_k, mst_z, mst_r, mst_n, mst_l, mst_R62, mst_R64, mst_R65, mst_R66, mst_R67, mst_R78, mst_R80, mst_R81, mst_F18, mst_F24, mst_F45, mst_F47, mst_F50, mst_F51, nI_1, LQ1, LQ2, LQ4, LQ1, LQ2, ms_k, ms_z, ms_r, ms_49, ms_w49, ms_R62, ms_R64, ms_R65, ms_R66, ms_R67, ms_R75, ms_R76, ms_R77, ms_R78, ms_R79, ms_R80, ms_R81, ms_R95, ms_R96, ms_R97, ms_F0, ms_F2, ms_F18, ms_F24, ms_F31, ms_F26, ms_F45, ms_F47, ms_F50, ms_F51, ms_F52, ms_F53, ms_F54, ms_F55, ms_F56, ms_F57, ms_F58, ms_F59, ms_F60, ms_F61, ms_F62, ms_F63]
      refine pm_wb_ok pb_c193 1 9 0 _ _ _ _ _ ?_
      try simp only [pm_WI0, pm_WI1, pm_WI2, pm_WI3, pm_WI4, pm_WI5, pm_WV, pm_WW, pm_WX, pb_B193, pm_if, pm_QI_at, pm_QL_at, pm_QV_at, pm_QR_at, pm_QR_at0, pm_QR_at1, Nat.reduceSub, Nat.reduceAdd, List.replicate_zero, List.replicate_succ, true_and, and_true, true_or, or_true, and_self, reduceIte, Nat.reduceEqDiff, Nat.reduceLT, Nat.reduceLeDiff, Nat.reduceMul, false_and, and_false, reduceCtorEq, false_or, or_false, not_true_eq_false, not_false_eq_true, true_implies, false_implies, implies_true, lf_10, eq_self, Int32.reduceLT, Int32.reduceLE, Int32.reduceAdd, Int32.reduceSub, pm_same, pm_i_wI, pm_l_wL, pm_l_wM, pm_oR_rf, pm_oQ_rf, sh_k59 hS, sh_r59_25 hS, sh_k80 hS, sh_z80 hS, sh_r59_27 hS, sh_k81 hS, sh_z81 hS, mst_w46, mst_w48, mst_w49, mst_46, mst_48, mst_49, mst_k, mst_z, mst_r, mst_n, mst_l, mst_R62, mst_R64, mst_R65, mst_R66, mst_R67, mst_R78, mst_R80, mst_R81, mst_F18, mst_F24, mst_F45, mst_F47, mst_F50, mst_F51, nI_1, LQ1, LQ2, LQ4, LQ1, LQ2, ms_k, ms_z, ms_r, ms_49, ms_w49, ms_R62, ms_R64, ms_R65, ms_R66, ms_R67, ms_R75, ms_R76, ms_R77, ms_R78, ms_R79, ms_R80, ms_R81, ms_R95, ms_R96, ms_R97, ms_F0, ms_F2, ms_F18, ms_F24, ms_F31, ms_F26, ms_F45, ms_F47, ms_F50, ms_F51, ms_F52, ms_F53, ms_F54, ms_F55, ms_F56, ms_F57, ms_F58, ms_F59, ms_F60, ms_F61, ms_F62, ms_F63]
      refine ⟨by omega, mr_181 hS hm hp ?_⟩
      try simp only [pm_WV, pm_WW, true_and, and_true, true_or, or_true, and_self, reduceIte, Nat.reduceEqDiff, Nat.reduceLT, Nat.reduceLeDiff, Nat.reduceMul, false_and, and_false, reduceCtorEq, false_or, or_false, not_true_eq_false, not_false_eq_true, true_implies, false_implies, implies_true, lf_10, eq_self, Int32.reduceLT, Int32.reduceLE, Int32.reduceAdd, Int32.reduceSub, pm_same, pm_i_wI, pm_l_wL, pm_l_wM, pm_oR_rf, pm_oQ_rf, sh_k59 hS, sh_r59_25 hS, sh_k80 hS, sh_z80 hS, sh_r59_27 hS, sh_k81 hS, sh_z81 hS, mst_w46, mst_w48, mst_w49, mst_46, mst_48, mst_49, mst_k, mst_z, mst_r, mst_n, mst_l, mst_R62, mst_R64, mst_R65, mst_R66, mst_R67, mst_R78, mst_R80, mst_R81, mst_F18, mst_F24, mst_F45, mst_F47, mst_F50, mst_F51, nI_1, LQ1, LQ2, LQ4, LQ1, LQ2, ms_k, ms_z, ms_r, ms_49, ms_w49, ms_R62, ms_R64, ms_R65, ms_R66, ms_R67, ms_R75, ms_R76, ms_R77, ms_R78, ms_R79, ms_R80, ms_R81, ms_R95, ms_R96, ms_R97, ms_F0, ms_F2, ms_F18, ms_F24, ms_F31, ms_F26, ms_F45, ms_F47, ms_F50, ms_F51, ms_F52, ms_F53, ms_F54, ms_F55, ms_F56, ms_F57, ms_F58, ms_F59, ms_F60, ms_F61, ms_F62, ms_F63, pm_WI0, pm_WI1, pm_WI2, pm_WI3, pm_WI4, pm_WI5, pm_WV, pm_WW, pm_WX, pb_B193, pm_if, pm_QI_at, pm_QL_at, pm_QV_at, pm_QR_at, pm_QR_at0, pm_QR_at1, Nat.reduceSub, Nat.reduceAdd, List.replicate_zero, List.replicate_succ, es, ho6, ho]
      refine pm_wb_ok pb_c193 2 26 0 _ _ _ _ _ ?_
      try simp only [pm_WI0, pm_WI1, pm_WI2, pm_WI3, pm_WI4, pm_WI5, pm_WV, pm_WW, pm_WX, pb_B193, pm_if, pm_QI_at, pm_QL_at, pm_QV_at, pm_QR_at, pm_QR_at0, pm_QR_at1, Nat.reduceSub, Nat.reduceAdd, List.replicate_zero, List.replicate_succ, true_and, and_true, true_or, or_true, and_self, reduceIte, Nat.reduceEqDiff, Nat.reduceLT, Nat.reduceLeDiff, Nat.reduceMul, false_and, and_false, reduceCtorEq, false_or, or_false, not_true_eq_false, not_false_eq_true, true_implies, false_implies, implies_true, lf_10, eq_self, Int32.reduceLT, Int32.reduceLE, Int32.reduceAdd, Int32.reduceSub, pm_same, pm_i_wI, pm_l_wL, pm_l_wM, pm_oR_rf, pm_oQ_rf, sh_k59 hS, sh_r59_25 hS, sh_k80 hS, sh_z80 hS, sh_r59_27 hS, sh_k81 hS, sh_z81 hS, mst_w46, mst_w48, mst_w49, mst_46, mst_48, mst_49, mst_k, mst_z, mst_r, mst_n, mst_l, mst_R62, mst_R64, mst_R65, mst_R66, mst_R67, mst_R78, mst_R80, mst_R81, mst_F18, mst_F24, mst_F45, mst_F47, mst_F50, mst_F51, nI_1, LQ1, LQ2, LQ4, LQ1, LQ2, ms_k, ms_z, ms_r, ms_49, ms_w49, ms_R62, ms_R64, ms_R65, ms_R66, ms_R67, ms_R75, ms_R76, ms_R77, ms_R78, ms_R79, ms_R80, ms_R81, ms_R95, ms_R96, ms_R97, ms_F0, ms_F2, ms_F18, ms_F24, ms_F31, ms_F26, ms_F45, ms_F47, ms_F50, ms_F51, ms_F52, ms_F53, ms_F54, ms_F55, ms_F56, ms_F57, ms_F58, ms_F59, ms_F60, ms_F61, ms_F62, ms_F63, ho6, ho]
      refine ⟨by omega, hF (p + 1, some ()) _ (d - 1) (by omega) (by show p + 1 ≤ n; omega) (fun b hb he => ?_)⟩
      have eR : gx_bd ((p + 1, some ()) : gx_R Unit) (fun _ p => gx_F (gx_b f n) 160 k p) = gx_F (gx_b f n) 160 k (p + 1) := rfl
      rw [eR] at he ⊢
      rw [un_bds] at h
      have hq : q (if b = 0 then 1 else 0) (ms S (6 - (k + 1)) (un (gx_F (gx_b f n) 160 k (p + 1)))) := by
        refine h _ (by split <;> simp) (fun e z => ?_)
        rcases gx_two (gx_F (gx_b f n) 160 k (p + 1)) with ⟨x, ex⟩ | ⟨x, s, ex⟩
        · rw [gx_bd_none ex] at z; cases z
        · rw [gx_bd_some ex] at z; cases z
          rw [(ev_not (ev_F 160 k _ _ _ ex)).1, he s (by rw [ex])]
          cases gx_hv t s <;> rfl
      rcases hb with rfl | rfl
      · try simp only [pm_WV, pm_WW, true_and, and_true, true_or, or_true, and_self, reduceIte, Nat.reduceEqDiff, Nat.reduceLT, Nat.reduceLeDiff, Nat.reduceMul, false_and, and_false, reduceCtorEq, false_or, or_false, not_true_eq_false, not_false_eq_true, true_implies, false_implies, implies_true, lf_10, eq_self, Int32.reduceLT, Int32.reduceLE, Int32.reduceAdd, Int32.reduceSub, pm_same, pm_i_wI, pm_l_wL, pm_l_wM, pm_oR_rf, pm_oQ_rf, sh_k59 hS, sh_r59_25 hS, sh_k80 hS, sh_z80 hS, sh_r59_27 hS, sh_k81 hS, sh_z81 hS, mst_w46, mst_w48, mst_w49, mst_46, mst_48, mst_49, mst_k, mst_z, mst_r, mst_n, mst_l, mst_R62, mst_R64, mst_R65, mst_R66, mst_R67, mst_R78, mst_R80, mst_R81, mst_F18, mst_F24, mst_F45, mst_F47, mst_F50, mst_F51, nI_1, LQ1, LQ2, LQ4, LQ1, LQ2, ms_k, ms_z, ms_r, ms_49, ms_w49, ms_R62, ms_R64, ms_R65, ms_R66, ms_R67, ms_R75, ms_R76, ms_R77, ms_R78, ms_R79, ms_R80, ms_R81, ms_R95, ms_R96, ms_R97, ms_F0, ms_F2, ms_F18, ms_F24, ms_F31, ms_F26, ms_F45, ms_F47, ms_F50, ms_F51, ms_F52, ms_F53, ms_F54, ms_F55, ms_F56, ms_F57, ms_F58, ms_F59, ms_F60, ms_F61, ms_F62, ms_F63, pm_WI0, pm_WI1, pm_WI2, pm_WI3, pm_WI4, pm_WI5, pm_WV, pm_WW, pm_WX, pb_B193, pm_if, pm_QI_at, pm_QL_at, pm_QV_at, pm_QR_at, pm_QR_at0, pm_QR_at1, Nat.reduceSub, Nat.reduceAdd, List.replicate_zero, List.replicate_succ, ho2] at hq ⊢
        refine pm_wb_ok pb_c193 3 93 0 _ _ _ _ _ ?_
        try simp only [pm_WI0, pm_WI1, pm_WI2, pm_WI3, pm_WI4, pm_WI5, pm_WV, pm_WW, pm_WX, pb_B193, pm_if, pm_QI_at, pm_QL_at, pm_QV_at, pm_QR_at, pm_QR_at0, pm_QR_at1, Nat.reduceSub, Nat.reduceAdd, List.replicate_zero, List.replicate_succ, true_and, and_true, true_or, or_true, and_self, reduceIte, Nat.reduceEqDiff, Nat.reduceLT, Nat.reduceLeDiff, Nat.reduceMul, false_and, and_false, reduceCtorEq, false_or, or_false, not_true_eq_false, not_false_eq_true, true_implies, false_implies, implies_true, lf_10, eq_self, Int32.reduceLT, Int32.reduceLE, Int32.reduceAdd, Int32.reduceSub, pm_same, pm_i_wI, pm_l_wL, pm_l_wM, pm_oR_rf, pm_oQ_rf, sh_k59 hS, sh_r59_25 hS, sh_k80 hS, sh_z80 hS, sh_r59_27 hS, sh_k81 hS, sh_z81 hS, mst_w46, mst_w48, mst_w49, mst_46, mst_48, mst_49, mst_k, mst_z, mst_r, mst_n, mst_l, mst_R62, mst_R64, mst_R65, mst_R66, mst_R67, mst_R78, mst_R80, mst_R81, mst_F18, mst_F24, mst_F45, mst_F47, mst_F50, mst_F51, nI_1, LQ1, LQ2, LQ4, LQ1, LQ2, ms_k, ms_z, ms_r, ms_49, ms_w49, ms_R62, ms_R64, ms_R65, ms_R66, ms_R67, ms_R75, ms_R76, ms_R77, ms_R78, ms_R79, ms_R80, ms_R81, ms_R95, ms_R96, ms_R97, ms_F0, ms_F2, ms_F18, ms_F24, ms_F31, ms_F26, ms_F45, ms_F47, ms_F50, ms_F51, ms_F52, ms_F53, ms_F54, ms_F55, ms_F56, ms_F57, ms_F58, ms_F59, ms_F60, ms_F61, ms_F62, ms_F63, ho2]
        exact hq
      · try simp only [pm_WV, pm_WW, true_and, and_true, true_or, or_true, and_self, reduceIte, Nat.reduceEqDiff, Nat.reduceLT, Nat.reduceLeDiff, Nat.reduceMul, false_and, and_false, reduceCtorEq, false_or, or_false, not_true_eq_false, not_false_eq_true, true_implies, false_implies, implies_true, lf_10, eq_self, Int32.reduceLT, Int32.reduceLE, Int32.reduceAdd, Int32.reduceSub, pm_same, pm_i_wI, pm_l_wL, pm_l_wM, pm_oR_rf, pm_oQ_rf, sh_k59 hS, sh_r59_25 hS, sh_k80 hS, sh_z80 hS, sh_r59_27 hS, sh_k81 hS, sh_z81 hS, mst_w46, mst_w48, mst_w49, mst_46, mst_48, mst_49, mst_k, mst_z, mst_r, mst_n, mst_l, mst_R62, mst_R64, mst_R65, mst_R66, mst_R67, mst_R78, mst_R80, mst_R81, mst_F18, mst_F24, mst_F45, mst_F47, mst_F50, mst_F51, nI_1, LQ1, LQ2, LQ4, LQ1, LQ2, ms_k, ms_z, ms_r, ms_49, ms_w49, ms_R62, ms_R64, ms_R65, ms_R66, ms_R67, ms_R75, ms_R76, ms_R77, ms_R78, ms_R79, ms_R80, ms_R81, ms_R95, ms_R96, ms_R97, ms_F0, ms_F2, ms_F18, ms_F24, ms_F31, ms_F26, ms_F45, ms_F47, ms_F50, ms_F51, ms_F52, ms_F53, ms_F54, ms_F55, ms_F56, ms_F57, ms_F58, ms_F59, ms_F60, ms_F61, ms_F62, ms_F63, pm_WI0, pm_WI1, pm_WI2, pm_WI3, pm_WI4, pm_WI5, pm_WV, pm_WW, pm_WX, pb_B193, pm_if, pm_QI_at, pm_QL_at, pm_QV_at, pm_QR_at, pm_QR_at0, pm_QR_at1, Nat.reduceSub, Nat.reduceAdd, List.replicate_zero, List.replicate_succ, ho2] at hq ⊢
        refine pm_wb_ok pb_c193 5 85 0 _ _ _ _ _ ?_
        try simp only [pm_WI0, pm_WI1, pm_WI2, pm_WI3, pm_WI4, pm_WI5, pm_WV, pm_WW, pm_WX, pb_B193, pm_if, pm_QI_at, pm_QL_at, pm_QV_at, pm_QR_at, pm_QR_at0, pm_QR_at1, Nat.reduceSub, Nat.reduceAdd, List.replicate_zero, List.replicate_succ, true_and, and_true, true_or, or_true, and_self, reduceIte, Nat.reduceEqDiff, Nat.reduceLT, Nat.reduceLeDiff, Nat.reduceMul, false_and, and_false, reduceCtorEq, false_or, or_false, not_true_eq_false, not_false_eq_true, true_implies, false_implies, implies_true, lf_10, eq_self, Int32.reduceLT, Int32.reduceLE, Int32.reduceAdd, Int32.reduceSub, pm_same, pm_i_wI, pm_l_wL, pm_l_wM, pm_oR_rf, pm_oQ_rf, sh_k59 hS, sh_r59_25 hS, sh_k80 hS, sh_z80 hS, sh_r59_27 hS, sh_k81 hS, sh_z81 hS, mst_w46, mst_w48, mst_w49, mst_46, mst_48, mst_49, mst_k, mst_z, mst_r, mst_n, mst_l, mst_R62, mst_R64, mst_R65, mst_R66, mst_R67, mst_R78, mst_R80, mst_R81, mst_F18, mst_F24, mst_F45, mst_F47, mst_F50, mst_F51, nI_1, LQ1, LQ2, LQ4, LQ1, LQ2, ms_k, ms_z, ms_r, ms_49, ms_w49, ms_R62, ms_R64, ms_R65, ms_R66, ms_R67, ms_R75, ms_R76, ms_R77, ms_R78, ms_R79, ms_R80, ms_R81, ms_R95, ms_R96, ms_R97, ms_F0, ms_F2, ms_F18, ms_F24, ms_F31, ms_F26, ms_F45, ms_F47, ms_F50, ms_F51, ms_F52, ms_F53, ms_F54, ms_F55, ms_F56, ms_F57, ms_F58, ms_F59, ms_F60, ms_F61, ms_F62, ms_F63, ho2]
        exact hq
    · by_cases y2 : gx_b f n p = 40
      · have hpn : p < n := gx_lt gx_b_eof y2 (by omega)
        have ec : gx_F (gx_b f n) 160 (k + 1) p = gx_bd (gx_EE (gx_F (gx_b f n) 160 k) (gx_b f n) 160 (p + 1)) (fun s q => if gx_b f n q = 41 then (q + 1, some s) else (q, none)) := by rw [gx_F, if_neg y1, if_pos y2]
        rw [ec] at h
        have es : sg (gx_b f n p) = 40 := by rw [y2]; rfl
        rw [hms]
        refine pm_goI 193 1 pb_c193 (by decide) (Nat.le_of_ble_eq_true rfl) rfl ?_
        try simp only [show pm_mL 193 = 3 from rfl, pm_WI0, pm_WI1, pm_WI2, pm_WI3, pm_WI4, pm_WI5, pm_WV, pm_WW, pm_WX, pb_B193, pm_if, pm_QI_at, pm_QL_at, pm_QV_at, pm_QR_at, pm_QR_at0, pm_QR_at1, Nat.reduceSub, Nat.reduceAdd, List.replicate_zero, List.replicate_succ, true_and, and_true, true_or, or_true, and_self, reduceIte, Nat.reduceEqDiff, Nat.reduceLT, Nat.reduceLeDiff, Nat.reduceMul, false_and, and_false, reduceCtorEq, false_or, or_false, not_true_eq_false, not_false_eq_true, true_implies, false_implies, implies_true, lf_10, eq_self, Int32.reduceLT, Int32.reduceLE, Int32.reduceAdd, Int32.reduceSub, pm_same, pm_i_wI, pm_l_wL, pm_l_wM, pm_oR_rf, pm_oQ_rf, sh_k59 hS, sh_r59_25 hS, sh_k80 hS, sh_z80 hS, sh_r59_27 hS, sh_k81 hS, sh_z81 hS, mst_w46, mst_w48, mst_w49, mst_46, mst_48, mst_49, mst_k, mst_z, mst_r, mst_n, mst_l, mst_R62, mst_R64, mst_R65, mst_R66, mst_R67, mst_R78, mst_R80, mst_R81, mst_F18, mst_F24, mst_F45, mst_F47, mst_F50, mst_F51, nI_1, LQ1, LQ2, LQ4, LQ1, LQ2, ms_k, ms_z, ms_r, ms_49, ms_w49, ms_R62, ms_R64, ms_R65, ms_R66, ms_R67, ms_R75, ms_R76, ms_R77, ms_R78, ms_R79, ms_R80, ms_R81, ms_R95, ms_R96, ms_R97, ms_F0, ms_F2, ms_F18, ms_F24, ms_F31, ms_F26, ms_F45, ms_F47, ms_F50, ms_F51, ms_F52, ms_F53, ms_F54, ms_F55, ms_F56, ms_F57, ms_F58, ms_F59, ms_F60, ms_F61, ms_F62, ms_F63]
        refine pm_wb_ok pb_c193 1 9 0 _ _ _ _ _ ?_
        try simp only [pm_WI0, pm_WI1, pm_WI2, pm_WI3, pm_WI4, pm_WI5, pm_WV, pm_WW, pm_WX, pb_B193, pm_if, pm_QI_at, pm_QL_at, pm_QV_at, pm_QR_at, pm_QR_at0, pm_QR_at1, Nat.reduceSub, Nat.reduceAdd, List.replicate_zero, List.replicate_succ, true_and, and_true, true_or, or_true, and_self, reduceIte, Nat.reduceEqDiff, Nat.reduceLT, Nat.reduceLeDiff, Nat.reduceMul, false_and, and_false, reduceCtorEq, false_or, or_false, not_true_eq_false, not_false_eq_true, true_implies, false_implies, implies_true, lf_10, eq_self, Int32.reduceLT, Int32.reduceLE, Int32.reduceAdd, Int32.reduceSub, pm_same, pm_i_wI, pm_l_wL, pm_l_wM, pm_oR_rf, pm_oQ_rf, sh_k59 hS, sh_r59_25 hS, sh_k80 hS, sh_z80 hS, sh_r59_27 hS, sh_k81 hS, sh_z81 hS, mst_w46, mst_w48, mst_w49, mst_46, mst_48, mst_49, mst_k, mst_z, mst_r, mst_n, mst_l, mst_R62, mst_R64, mst_R65, mst_R66, mst_R67, mst_R78, mst_R80, mst_R81, mst_F18, mst_F24, mst_F45, mst_F47, mst_F50, mst_F51, nI_1, LQ1, LQ2, LQ4, LQ1, LQ2, ms_k, ms_z, ms_r, ms_49, ms_w49, ms_R62, ms_R64, ms_R65, ms_R66, ms_R67, ms_R75, ms_R76, ms_R77, ms_R78, ms_R79, ms_R80, ms_R81, ms_R95, ms_R96, ms_R97, ms_F0, ms_F2, ms_F18, ms_F24, ms_F31, ms_F26, ms_F45, ms_F47, ms_F50, ms_F51, ms_F52, ms_F53, ms_F54, ms_F55, ms_F56, ms_F57, ms_F58, ms_F59, ms_F60, ms_F61, ms_F62, ms_F63]
        refine ⟨by omega, mr_181 hS hm hp ?_⟩
        try simp only [pm_WV, pm_WW, true_and, and_true, true_or, or_true, and_self, reduceIte, Nat.reduceEqDiff, Nat.reduceLT, Nat.reduceLeDiff, Nat.reduceMul, false_and, and_false, reduceCtorEq, false_or, or_false, not_true_eq_false, not_false_eq_true, true_implies, false_implies, implies_true, lf_10, eq_self, Int32.reduceLT, Int32.reduceLE, Int32.reduceAdd, Int32.reduceSub, pm_same, pm_i_wI, pm_l_wL, pm_l_wM, pm_oR_rf, pm_oQ_rf, sh_k59 hS, sh_r59_25 hS, sh_k80 hS, sh_z80 hS, sh_r59_27 hS, sh_k81 hS, sh_z81 hS, mst_w46, mst_w48, mst_w49, mst_46, mst_48, mst_49, mst_k, mst_z, mst_r, mst_n, mst_l, mst_R62, mst_R64, mst_R65, mst_R66, mst_R67, mst_R78, mst_R80, mst_R81, mst_F18, mst_F24, mst_F45, mst_F47, mst_F50, mst_F51, nI_1, LQ1, LQ2, LQ4, LQ1, LQ2, ms_k, ms_z, ms_r, ms_49, ms_w49, ms_R62, ms_R64, ms_R65, ms_R66, ms_R67, ms_R75, ms_R76, ms_R77, ms_R78, ms_R79, ms_R80, ms_R81, ms_R95, ms_R96, ms_R97, ms_F0, ms_F2, ms_F18, ms_F24, ms_F31, ms_F26, ms_F45, ms_F47, ms_F50, ms_F51, ms_F52, ms_F53, ms_F54, ms_F55, ms_F56, ms_F57, ms_F58, ms_F59, ms_F60, ms_F61, ms_F62, ms_F63, pm_WI0, pm_WI1, pm_WI2, pm_WI3, pm_WI4, pm_WI5, pm_WV, pm_WW, pm_WX, pb_B193, pm_if, pm_QI_at, pm_QL_at, pm_QV_at, pm_QR_at, pm_QR_at0, pm_QR_at1, Nat.reduceSub, Nat.reduceAdd, List.replicate_zero, List.replicate_succ, es, ho6, ho]
        refine pm_wb_ok pb_c193 2 26 0 _ _ _ _ _ ?_
        try simp only [pm_WI0, pm_WI1, pm_WI2, pm_WI3, pm_WI4, pm_WI5, pm_WV, pm_WW, pm_WX, pb_B193, pm_if, pm_QI_at, pm_QL_at, pm_QV_at, pm_QR_at, pm_QR_at0, pm_QR_at1, Nat.reduceSub, Nat.reduceAdd, List.replicate_zero, List.replicate_succ, true_and, and_true, true_or, or_true, and_self, reduceIte, Nat.reduceEqDiff, Nat.reduceLT, Nat.reduceLeDiff, Nat.reduceMul, false_and, and_false, reduceCtorEq, false_or, or_false, not_true_eq_false, not_false_eq_true, true_implies, false_implies, implies_true, lf_10, eq_self, Int32.reduceLT, Int32.reduceLE, Int32.reduceAdd, Int32.reduceSub, pm_same, pm_i_wI, pm_l_wL, pm_l_wM, pm_oR_rf, pm_oQ_rf, sh_k59 hS, sh_r59_25 hS, sh_k80 hS, sh_z80 hS, sh_r59_27 hS, sh_k81 hS, sh_z81 hS, mst_w46, mst_w48, mst_w49, mst_46, mst_48, mst_49, mst_k, mst_z, mst_r, mst_n, mst_l, mst_R62, mst_R64, mst_R65, mst_R66, mst_R67, mst_R78, mst_R80, mst_R81, mst_F18, mst_F24, mst_F45, mst_F47, mst_F50, mst_F51, nI_1, LQ1, LQ2, LQ4, LQ1, LQ2, ms_k, ms_z, ms_r, ms_49, ms_w49, ms_R62, ms_R64, ms_R65, ms_R66, ms_R67, ms_R75, ms_R76, ms_R77, ms_R78, ms_R79, ms_R80, ms_R81, ms_R95, ms_R96, ms_R97, ms_F0, ms_F2, ms_F18, ms_F24, ms_F31, ms_F26, ms_F45, ms_F47, ms_F50, ms_F51, ms_F52, ms_F53, ms_F54, ms_F55, ms_F56, ms_F57, ms_F58, ms_F59, ms_F60, ms_F61, ms_F62, ms_F63, ho6, ho]
        try refine pm_wb_ok pb_c193 1 89 0 _ _ _ _ _ ?_
        try simp only [pm_WI0, pm_WI1, pm_WI2, pm_WI3, pm_WI4, pm_WI5, pm_WV, pm_WW, pm_WX, pb_B193, pm_if, pm_QI_at, pm_QL_at, pm_QV_at, pm_QR_at, pm_QR_at0, pm_QR_at1, Nat.reduceSub, Nat.reduceAdd, List.replicate_zero, List.replicate_succ, true_and, and_true, true_or, or_true, and_self, reduceIte, Nat.reduceEqDiff, Nat.reduceLT, Nat.reduceLeDiff, Nat.reduceMul, false_and, and_false, reduceCtorEq, false_or, or_false, not_true_eq_false, not_false_eq_true, true_implies, false_implies, implies_true, lf_10, eq_self, Int32.reduceLT, Int32.reduceLE, Int32.reduceAdd, Int32.reduceSub, pm_same, pm_i_wI, pm_l_wL, pm_l_wM, pm_oR_rf, pm_oQ_rf, sh_k59 hS, sh_r59_25 hS, sh_k80 hS, sh_z80 hS, sh_r59_27 hS, sh_k81 hS, sh_z81 hS, mst_w46, mst_w48, mst_w49, mst_46, mst_48, mst_49, mst_k, mst_z, mst_r, mst_n, mst_l, mst_R62, mst_R64, mst_R65, mst_R66, mst_R67, mst_R78, mst_R80, mst_R81, mst_F18, mst_F24, mst_F45, mst_F47, mst_F50, mst_F51, nI_1, LQ1, LQ2, LQ4, LQ1, LQ2, ms_k, ms_z, ms_r, ms_49, ms_w49, ms_R62, ms_R64, ms_R65, ms_R66, ms_R67, ms_R75, ms_R76, ms_R77, ms_R78, ms_R79, ms_R80, ms_R81, ms_R95, ms_R96, ms_R97, ms_F0, ms_F2, ms_F18, ms_F24, ms_F31, ms_F26, ms_F45, ms_F47, ms_F50, ms_F51, ms_F52, ms_F53, ms_F54, ms_F55, ms_F56, ms_F57, ms_F58, ms_F59, ms_F60, ms_F61, ms_F62, ms_F63]
        refine ⟨by omega, hE (p + 1, some ()) _ (d - 1) (by omega) (by show p + 1 ≤ n; omega) (fun b hb he => ?_)⟩
        have eR : gx_bd ((p + 1, some ()) : gx_R Unit) (fun _ p => gx_EE (gx_F (gx_b f n) 160 k) (gx_b f n) 160 p) = gx_EE (gx_F (gx_b f n) 160 k) (gx_b f n) 160 (p + 1) := rfl
        rw [eR] at he ⊢
        have hok := gx_ok_le (gx_EE_ok (B := gx_b f n) (F := gx_F (gx_b f n) 160 k) gx_b_eof (fun p hp => gx_F_ok gx_b_eof 160 k p hp) 160 (p := p + 1) (by omega))
        have hq : q b (ms S (6 - (k + 1)) (gx_bd (un (gx_EE (gx_F (gx_b f n) 160 k) (gx_b f n) 160 (p + 1))) (fun _ p => gx_w (gx_b f n) [41] p))) := by
          have := h b hb (fun e z => ?_)
          · refine cast (congrArg (fun r => q b (ms S (6 - (k + 1)) r)) ?_) this
            rcases gx_two (gx_EE (gx_F (gx_b f n) 160 k) (gx_b f n) 160 (p + 1)) with ⟨x, ex⟩ | ⟨x, s, ex⟩
            · rw [ex]; rfl
            · rw [ex]
              show un (if gx_b f n x = 41 then (x + 1, some s) else (x, none)) = (if gx_b f n x = 41 then (x + 1, some ()) else (x, none))
              split <;> rfl
          · rcases gx_two (gx_EE (gx_F (gx_b f n) 160 k) (gx_b f n) 160 (p + 1)) with ⟨x, ex⟩ | ⟨x, s, ex⟩
            · rw [gx_bd_none ex] at z; cases z
            · rw [gx_bd_some ex] at z
              split at z
              · cases z; exact he _ (by rw [ex])
              · cases z
        try simp only [pm_WV, pm_WW, true_and, and_true, true_or, or_true, and_self, reduceIte, Nat.reduceEqDiff, Nat.reduceLT, Nat.reduceLeDiff, Nat.reduceMul, false_and, and_false, reduceCtorEq, false_or, or_false, not_true_eq_false, not_false_eq_true, true_implies, false_implies, implies_true, lf_10, eq_self, Int32.reduceLT, Int32.reduceLE, Int32.reduceAdd, Int32.reduceSub, pm_same, pm_i_wI, pm_l_wL, pm_l_wM, pm_oR_rf, pm_oQ_rf, sh_k59 hS, sh_r59_25 hS, sh_k80 hS, sh_z80 hS, sh_r59_27 hS, sh_k81 hS, sh_z81 hS, mst_w46, mst_w48, mst_w49, mst_46, mst_48, mst_49, mst_k, mst_z, mst_r, mst_n, mst_l, mst_R62, mst_R64, mst_R65, mst_R66, mst_R67, mst_R78, mst_R80, mst_R81, mst_F18, mst_F24, mst_F45, mst_F47, mst_F50, mst_F51, nI_1, LQ1, LQ2, LQ4, LQ1, LQ2, ms_k, ms_z, ms_r, ms_49, ms_w49, ms_R62, ms_R64, ms_R65, ms_R66, ms_R67, ms_R75, ms_R76, ms_R77, ms_R78, ms_R79, ms_R80, ms_R81, ms_R95, ms_R96, ms_R97, ms_F0, ms_F2, ms_F18, ms_F24, ms_F31, ms_F26, ms_F45, ms_F47, ms_F50, ms_F51, ms_F52, ms_F53, ms_F54, ms_F55, ms_F56, ms_F57, ms_F58, ms_F59, ms_F60, ms_F61, ms_F62, ms_F63, pm_WI0, pm_WI1, pm_WI2, pm_WI3, pm_WI4, pm_WI5, pm_WV, pm_WW, pm_WX, pb_B193, pm_if, pm_QI_at, pm_QL_at, pm_QV_at, pm_QR_at, pm_QR_at0, pm_QR_at1, Nat.reduceSub, Nat.reduceAdd, List.replicate_zero, List.replicate_succ]
        try refine pm_wb_ok pb_c193 1 93 0 _ _ _ _ _ ?_
        try simp only [pm_WI0, pm_WI1, pm_WI2, pm_WI3, pm_WI4, pm_WI5, pm_WV, pm_WW, pm_WX, pb_B193, pm_if, pm_QI_at, pm_QL_at, pm_QV_at, pm_QR_at, pm_QR_at0, pm_QR_at1, Nat.reduceSub, Nat.reduceAdd, List.replicate_zero, List.replicate_succ, true_and, and_true, true_or, or_true, and_self, reduceIte, Nat.reduceEqDiff, Nat.reduceLT, Nat.reduceLeDiff, Nat.reduceMul, false_and, and_false, reduceCtorEq, false_or, or_false, not_true_eq_false, not_false_eq_true, true_implies, false_implies, implies_true, lf_10, eq_self, Int32.reduceLT, Int32.reduceLE, Int32.reduceAdd, Int32.reduceSub, pm_same, pm_i_wI, pm_l_wL, pm_l_wM, pm_oR_rf, pm_oQ_rf, sh_k59 hS, sh_r59_25 hS, sh_k80 hS, sh_z80 hS, sh_r59_27 hS, sh_k81 hS, sh_z81 hS, mst_w46, mst_w48, mst_w49, mst_46, mst_48, mst_49, mst_k, mst_z, mst_r, mst_n, mst_l, mst_R62, mst_R64, mst_R65, mst_R66, mst_R67, mst_R78, mst_R80, mst_R81, mst_F18, mst_F24, mst_F45, mst_F47, mst_F50, mst_F51, nI_1, LQ1, LQ2, LQ4, LQ1, LQ2, ms_k, ms_z, ms_r, ms_49, ms_w49, ms_R62, ms_R64, ms_R65, ms_R66, ms_R67, ms_R75, ms_R76, ms_R77, ms_R78, ms_R79, ms_R80, ms_R81, ms_R95, ms_R96, ms_R97, ms_F0, ms_F2, ms_F18, ms_F24, ms_F31, ms_F26, ms_F45, ms_F47, ms_F50, ms_F51, ms_F52, ms_F53, ms_F54, ms_F55, ms_F56, ms_F57, ms_F58, ms_F59, ms_F60, ms_F61, ms_F62, ms_F63]
        refine ⟨by omega, mr_185 (c := 41) (by omega) hS hm hok (by omega) ?_⟩
        try simp only [pm_WV, pm_WW, true_and, and_true, true_or, or_true, and_self, reduceIte, Nat.reduceEqDiff, Nat.reduceLT, Nat.reduceLeDiff, Nat.reduceMul, false_and, and_false, reduceCtorEq, false_or, or_false, not_true_eq_false, not_false_eq_true, true_implies, false_implies, implies_true, lf_10, eq_self, Int32.reduceLT, Int32.reduceLE, Int32.reduceAdd, Int32.reduceSub, pm_same, pm_i_wI, pm_l_wL, pm_l_wM, pm_oR_rf, pm_oQ_rf, sh_k59 hS, sh_r59_25 hS, sh_k80 hS, sh_z80 hS, sh_r59_27 hS, sh_k81 hS, sh_z81 hS, mst_w46, mst_w48, mst_w49, mst_46, mst_48, mst_49, mst_k, mst_z, mst_r, mst_n, mst_l, mst_R62, mst_R64, mst_R65, mst_R66, mst_R67, mst_R78, mst_R80, mst_R81, mst_F18, mst_F24, mst_F45, mst_F47, mst_F50, mst_F51, nI_1, LQ1, LQ2, LQ4, LQ1, LQ2, ms_k, ms_z, ms_r, ms_49, ms_w49, ms_R62, ms_R64, ms_R65, ms_R66, ms_R67, ms_R75, ms_R76, ms_R77, ms_R78, ms_R79, ms_R80, ms_R81, ms_R95, ms_R96, ms_R97, ms_F0, ms_F2, ms_F18, ms_F24, ms_F31, ms_F26, ms_F45, ms_F47, ms_F50, ms_F51, ms_F52, ms_F53, ms_F54, ms_F55, ms_F56, ms_F57, ms_F58, ms_F59, ms_F60, ms_F61, ms_F62, ms_F63, pm_WI0, pm_WI1, pm_WI2, pm_WI3, pm_WI4, pm_WI5, pm_WV, pm_WW, pm_WX, pb_B193, pm_if, pm_QI_at, pm_QL_at, pm_QV_at, pm_QR_at, pm_QR_at0, pm_QR_at1, Nat.reduceSub, Nat.reduceAdd, List.replicate_zero, List.replicate_succ, ho2]
        try refine pm_wb_ok pb_c193 1 106 0 _ _ _ _ _ ?_
        try simp only [pm_WI0, pm_WI1, pm_WI2, pm_WI3, pm_WI4, pm_WI5, pm_WV, pm_WW, pm_WX, pb_B193, pm_if, pm_QI_at, pm_QL_at, pm_QV_at, pm_QR_at, pm_QR_at0, pm_QR_at1, Nat.reduceSub, Nat.reduceAdd, List.replicate_zero, List.replicate_succ, true_and, and_true, true_or, or_true, and_self, reduceIte, Nat.reduceEqDiff, Nat.reduceLT, Nat.reduceLeDiff, Nat.reduceMul, false_and, and_false, reduceCtorEq, false_or, or_false, not_true_eq_false, not_false_eq_true, true_implies, false_implies, implies_true, lf_10, eq_self, Int32.reduceLT, Int32.reduceLE, Int32.reduceAdd, Int32.reduceSub, pm_same, pm_i_wI, pm_l_wL, pm_l_wM, pm_oR_rf, pm_oQ_rf, sh_k59 hS, sh_r59_25 hS, sh_k80 hS, sh_z80 hS, sh_r59_27 hS, sh_k81 hS, sh_z81 hS, mst_w46, mst_w48, mst_w49, mst_46, mst_48, mst_49, mst_k, mst_z, mst_r, mst_n, mst_l, mst_R62, mst_R64, mst_R65, mst_R66, mst_R67, mst_R78, mst_R80, mst_R81, mst_F18, mst_F24, mst_F45, mst_F47, mst_F50, mst_F51, nI_1, LQ1, LQ2, LQ4, LQ1, LQ2, ms_k, ms_z, ms_r, ms_49, ms_w49, ms_R62, ms_R64, ms_R65, ms_R66, ms_R67, ms_R75, ms_R76, ms_R77, ms_R78, ms_R79, ms_R80, ms_R81, ms_R95, ms_R96, ms_R97, ms_F0, ms_F2, ms_F18, ms_F24, ms_F31, ms_F26, ms_F45, ms_F47, ms_F50, ms_F51, ms_F52, ms_F53, ms_F54, ms_F55, ms_F56, ms_F57, ms_F58, ms_F59, ms_F60, ms_F61, ms_F62, ms_F63, ho2]
        first | exact ⟨hb, hq⟩ | exact hq
      · have ec : gx_F (gx_b f n) 160 (k + 1) p = gx_test (gx_b f n) p := by rw [gx_F, if_neg y1, if_neg y2]
        rw [ec] at h
        exact mr_193t hS hm h18 h24 h24b ht (by omega) hp y1 y2 h
theorem mr_193z {G : pm_G} {S : pm_S} {f : Nat → Int32} {n : Nat} {t : Nat → Bool} (hS : Sh S) (hm : mrc S f n) (h18 : iv_c S 18 ≤ 40) (h24 : pm_i S 59 24 = nI (iv_c S 24)) (h24b : iv_c S 24 ≤ 150) (ht : tq S t) : mFC G S f n t 0 := by
  intro r q d hd hr h
  have hn := hm.2.1
  obtain ⟨p, _ | u⟩ := r
  · exact mr_193f hS (by have : p ≤ n := hr; omega) (h 0 (Or.inl rfl) (fun e z => (by cases z)))
  · have hp : p ≤ n := hr
    have eF : gx_bd ((p, some u) : gx_R Unit) (fun _ p => gx_F (gx_b f n) 160 0 p) = gx_test (gx_b f n) p := rfl
    rw [eF] at h
    have no : ∀ c, c = 33 ∨ c = 40 → gx_b f n p = c → gx_test (gx_b f n) p = (p, none) := fun c hc y => by
      unfold gx_test
      rw [if_neg (by omega), if_neg (by omega), if_neg (by omega), if_neg (by omega), if_neg (by omega)]
    by_cases y1 : gx_b f n p = 33
    · refine mr_193o hS hm h18 h24 h24b ht (by omega) hp (Or.inl rfl) y1 ?_
      have := h 0 (Or.inl rfl) (fun e z => (by rw [no 33 (Or.inl rfl) y1] at z; cases z))
      rw [no 33 (Or.inl rfl) y1] at this; exact this
    · by_cases y2 : gx_b f n p = 40
      · refine mr_193o hS hm h18 h24 h24b ht (by omega) hp (Or.inr rfl) y2 ?_
        have := h 0 (Or.inl rfl) (fun e z => (by rw [no 40 (Or.inr rfl) y2] at z; cases z))
        rw [no 40 (Or.inr rfl) y2] at this; exact this
      · exact mr_193t hS hm h18 h24 h24b ht (by omega) hp y1 y2 h
theorem mr_all {G : pm_G} {S : pm_S} {f : Nat → Int32} {n : Nat} {t : Nat → Bool} (hS : Sh S) (hm : mrc S f n) (h18 : iv_c S 18 ≤ 40) (h24 : pm_i S 59 24 = nI (iv_c S 24)) (h24b : iv_c S 24 ≤ 150) (ht : tq S t) : ∀ k, k ≤ 6 → mFC G S f n t k ∧ mEC G S f n t k
  | 0, _ => by
    have h1 := mr_193z (G := G) hS hm h18 h24 h24b ht
    exact ⟨h1, mr_191 hS hm h18 h24 h24b ht (mr_192 hS hm h18 h24 h24b ht h1)⟩
  | k + 1, hk => by
    have ih := mr_all (G := G) hS hm h18 h24 h24b ht k (by omega)
    have h1 := mr_193 hS hm h18 h24 h24b ht (by omega) ih.1 ih.2
    exact ⟨h1, mr_191 hS hm h18 h24 h24b ht (mr_192 hS hm h18 h24 h24b ht h1)⟩
/-- the model reads an E -/
theorem mr_e {G : pm_G} {S : pm_S} {f : Nat → Int32} {n : Nat} {t : Nat → Bool} (hS : Sh S) (hm : mrc S f n) (h18 : iv_c S 18 ≤ 40) (h24 : pm_i S 59 24 = nI (iv_c S 24)) (h24b : iv_c S 24 ≤ 150) (ht : tq S t) {r : gx_R Unit} {q : Int32 → pm_S → Prop} {d : Nat} (hd : 27 ≤ d) (hr : r.1 ≤ n) (h : ∀ b : Int32, (b = 0 ∨ b = 1) → (∀ e, (gx_bd r (fun _ p => gx_e (gx_b f n) p)).2 = some e → b = bI (gx_hv t e)) → q b (ms S 0 (un (gx_bd r (fun _ p => gx_e (gx_b f n) p))))) : pm_CI G d 191 [.ref 59] (ms S 0 r) q := (mr_all (G := G) hS hm h18 h24 h24b ht 6 (by omega)).2 r q d (by omega) hr h
/-! THE TEXT's E read by the class -/
def cPC (G : pm_G) (j : Nat) (S0 : pm_S) (D : Nat) (W : Nat → Nat) (n k dd : Nat) (R : Nat → gx_R (List Nat)) : Prop := ∀ (d : Nat) (S : pm_S) (p : Nat) (L : gx_L) (q : Int32 → pm_S → Prop), dd ≤ d → rs S0 D W n S p L → L.2.2.length ≤ p →
  (∀ x e S', R p = (x, some e) → rs S0 D W n S' x (L.1, L.2.1, L.2.2 ++ e) → q 1 S') → (∀ x e S', R p = (x, none) → rs S0 D W n S' x (L.1, L.2.1, L.2.2 ++ e) → e.length + p ≤ x → q 0 S') → pm_CI G d j [.ref 5, .int (nI (6 - k))] S q
def cFC (G : pm_G) (S0 : pm_S) (D : Nat) (W : Nat → Nat) (n k : Nat) : Prop := cPC G 50 S0 D W n k (7 + 2 * k) (fun p => gx_F (gx_b (pm_i S0 6) n) 160 k p)
def cEC (G : pm_G) (S0 : pm_S) (D : Nat) (W : Nat → Nat) (n k : Nat) : Prop := cPC G 49 S0 D W n k (8 + 2 * k) (fun p => gx_EE (gx_F (gx_b (pm_i S0 6) n) 160 k) (gx_b (pm_i S0 6) n) 160 p)
section CRD
variable {G : pm_G} {S0 : pm_S} {D n : Nat} {W : Nat → Nat}
theorem rs.L {S : pm_S} {p : Nat} {L L' : gx_L} (h : rs S0 D W n S p L) (e : L = L') : rs S0 D W n S p L' := by rw [← e]; exact h
theorem rs.l0 {S : pm_S} {p : Nat} {L : gx_L} (h : rs S0 D W n S p L) : rs S0 D W n S p (L.1, L.2.1, L.2.2 ++ []) := by rw [List.append_nil]; exact h
theorem rd50_80 (hS0 : Sh S0) (hd0 : dl S0 D W) {d : Nat} (hd : 2 ≤ d) {b : Int32} (hb : b = 0 ∨ b = 1) {v : Value} {j : Nat} (hj : j ≤ 6) {q : Int32 → pm_S → Prop} : ∀ (m i : Nat) (S : pm_S) (x : Nat) (L : gx_L), i + m = j → rs S0 D W n S x L → L.2.2.length + m ≤ 160 → (∀ S', rs S0 D W n S' x (L.1, L.2.1, L.2.2 ++ List.replicate m 8) → q b S') → pm_W G d 50 (pm_QI q) 80 [.ref 5, v, .int (nI j), .int b, .int (nI i)] [] S 0 0 := by
  intro m
  induction m with
  | zero =>
    intro i S x L hi hr hl h
    have hS := hr.sh hS0
    have hdl := hr.todl hd0
    have ht := hr.text hd0
    have hr3 := hr.2.2.1
    have hn := hr3.2.2.2.1
    have hpn := hr3.2.2.1
    have hr5 : pm_r S 5 3 = some D := hdl.1
    have hkD : pm_k S D = 5 := hdl.2.1
    have rB : gx_b (pm_i S 6) n = gx_b (pm_i S0 6) n := by rw [ht]
    have : i = j := by omega
    subst this
    refine pm_wb_ok pb_c50 3 80 0 _ _ _ _ _ ?_
    try simp only [pm_WI0, pm_WI1, pm_WI2, pm_WI3, pm_WI4, pm_WI5, pm_WV, pm_WW, pm_WX, pb_B50, pm_if, pm_QI_at, pm_QL_at, pm_QV_at, pm_QR_at, pm_QR_at0, pm_QR_at1, Nat.reduceSub, Nat.reduceAdd, List.replicate_zero, List.replicate_succ, true_and, and_true, true_or, or_true, and_self, reduceIte, Nat.reduceEqDiff, Nat.reduceLT, Nat.reduceLeDiff, Nat.reduceMul, false_and, and_false, reduceCtorEq, false_or, or_false, not_true_eq_false, not_false_eq_true, true_implies, false_implies, implies_true, lf_10, eq_self, Int32.reduceLT, Int32.reduceLE, Int32.reduceAdd, Int32.reduceSub, Int32.reduceDiv, Int32.reduceMul, pm_same, pm_i_wI, pm_l_wL, pm_l_wM, pm_oR_rf, pm_oQ_rf, sh_k5 hS, nI_1, sw_e, LQ1, LQ2, Int32.le_refl]
    exact ⟨hb, h S hr.l0⟩
  | succ m ih =>
    intro i S x L hi hr hl h
    have hS := hr.sh hS0
    have hdl := hr.todl hd0
    have ht := hr.text hd0
    have hr3 := hr.2.2.1
    have hn := hr3.2.2.2.1
    have hpn := hr3.2.2.1
    have hr5 : pm_r S 5 3 = some D := hdl.1
    have hkD : pm_k S D = 5 := hdl.2.1
    have rB : gx_b (pm_i S 6) n = gx_b (pm_i S0 6) n := by rw [ht]
    have hle : ¬ nI j ≤ nI i := nI_ge (by omega) (by omega)
    refine pm_wb_ok pb_c50 3 80 0 _ _ _ _ _ ?_
    try simp only [pm_WI0, pm_WI1, pm_WI2, pm_WI3, pm_WI4, pm_WI5, pm_WV, pm_WW, pm_WX, pb_B50, pm_if, pm_QI_at, pm_QL_at, pm_QV_at, pm_QR_at, pm_QR_at0, pm_QR_at1, Nat.reduceSub, Nat.reduceAdd, List.replicate_zero, List.replicate_succ, true_and, and_true, true_or, or_true, and_self, reduceIte, Nat.reduceEqDiff, Nat.reduceLT, Nat.reduceLeDiff, Nat.reduceMul, false_and, and_false, reduceCtorEq, false_or, or_false, not_true_eq_false, not_false_eq_true, true_implies, false_implies, implies_true, lf_10, eq_self, Int32.reduceLT, Int32.reduceLE, Int32.reduceAdd, Int32.reduceSub, Int32.reduceDiv, Int32.reduceMul, pm_same, pm_i_wI, pm_l_wL, pm_l_wM, pm_oR_rf, pm_oQ_rf, sh_k5 hS, nI_1, sw_e, LQ1, LQ2, hr5, hkD, hle]
    refine ⟨by omega, rd_38 (k := 8) (s := 0) (m := 0) hd0 hr (by omega) (by omega) (by omega) (by omega) (fun S' hS' => ?_)⟩
    refine ih (i + 1) S' x _ (by omega) hS' (by simp; omega) (fun S2 hS2 => h S2 (hS2.L ?_))
    show (L.1, L.2.1, (L.2.2 ++ [gx_st 8 0 0]) ++ List.replicate m 8) = (L.1, L.2.1, L.2.2 ++ List.replicate (m + 1) 8)
    rw [List.append_assoc]; rfl
theorem rd50_77 (hS0 : Sh S0) (hd0 : dl S0 D W) {d : Nat} (hd : 2 ≤ d) {b : Int32} (hb : b = 0 ∨ b = 1) {v u : Value} {j : Nat} (hj : j ≤ 6) {q : Int32 → pm_S → Prop} {S : pm_S} {x : Nat} {L : gx_L} (hr : rs S0 D W n S x L) (hl : L.2.2.length + j ≤ 160) (h : ∀ S', rs S0 D W n S' x (L.1, L.2.1, L.2.2 ++ List.replicate j 8) → q b S') : pm_W G d 50 (pm_QI q) 77 [.ref 5, v, .int (nI j), .int b, u] [] S 0 0 := by
  have hS := hr.sh hS0
  have hdl := hr.todl hd0
  have ht := hr.text hd0
  have hr3 := hr.2.2.1
  have hn := hr3.2.2.2.1
  have hpn := hr3.2.2.1
  have hr5 : pm_r S 5 3 = some D := hdl.1
  have hkD : pm_k S D = 5 := hdl.2.1
  have rB : gx_b (pm_i S 6) n = gx_b (pm_i S0 6) n := by rw [ht]
  refine pm_wb_ok pb_c50 1 77 0 _ _ _ _ _ ?_
  try simp only [pm_WI0, pm_WI1, pm_WI2, pm_WI3, pm_WI4, pm_WI5, pm_WV, pm_WW, pm_WX, pb_B50, pm_if, pm_QI_at, pm_QL_at, pm_QV_at, pm_QR_at, pm_QR_at0, pm_QR_at1, Nat.reduceSub, Nat.reduceAdd, List.replicate_zero, List.replicate_succ, true_and, and_true, true_or, or_true, and_self, reduceIte, Nat.reduceEqDiff, Nat.reduceLT, Nat.reduceLeDiff, Nat.reduceMul, false_and, and_false, reduceCtorEq, false_or, or_false, not_true_eq_false, not_false_eq_true, true_implies, false_implies, implies_true, lf_10, eq_self, Int32.reduceLT, Int32.reduceLE, Int32.reduceAdd, Int32.reduceSub, Int32.reduceDiv, Int32.reduceMul, pm_same, pm_i_wI, pm_l_wL, pm_l_wM, pm_oR_rf, pm_oQ_rf, sh_k5 hS, nI_1, sw_e, LQ1, LQ2]
  exact rd50_80 hS0 hd0 hd hb hj j 0 S x L (by omega) hr hl h
theorem rd50_72 (hS0 : Sh S0) (hd0 : dl S0 D W) {d : Nat} (hd : 7 ≤ d) {v u u2 : Value} {j : Nat} (hj : j ≤ 6) {q : Int32 → pm_S → Prop} {S : pm_S} {p : Nat} {L : gx_L} (hr : rs S0 D W n S p L) (hl : L.2.2.length + j ≤ p) (h1 : ∀ x e S', gx_test (gx_b (pm_i S0 6) n) p = (x, some e) → rs S0 D W n S' x (L.1, L.2.1, L.2.2 ++ (e ++ List.replicate j 8)) → q 1 S') (h0 : ∀ x e S', gx_test (gx_b (pm_i S0 6) n) p = (x, none) → rs S0 D W n S' x (L.1, L.2.1, L.2.2 ++ e) → e.length + p ≤ x + j → q 0 S') : pm_W G d 50 (pm_QI q) 72 [.ref 5, v, .int (nI j), u, u2] [] S 0 0 := by
  have hS := hr.sh hS0
  have hdl := hr.todl hd0
  have ht := hr.text hd0
  have hr3 := hr.2.2.1
  have hn := hr3.2.2.2.1
  have hpn := hr3.2.2.1
  have hr5 : pm_r S 5 3 = some D := hdl.1
  have hkD : pm_k S D = 5 := hdl.2.1
  have rB : gx_b (pm_i S 6) n = gx_b (pm_i S0 6) n := by rw [ht]
  have hok := gx_test_ok (B := gx_b (pm_i S0 6) n) gx_b_eof hpn
  refine pm_wb_ok pb_c50 1 72 0 _ _ _ _ _ ?_
  try simp only [pm_WI0, pm_WI1, pm_WI2, pm_WI3, pm_WI4, pm_WI5, pm_WV, pm_WW, pm_WX, pb_B50, pm_if, pm_QI_at, pm_QL_at, pm_QV_at, pm_QR_at, pm_QR_at0, pm_QR_at1, Nat.reduceSub, Nat.reduceAdd, List.replicate_zero, List.replicate_succ, true_and, and_true, true_or, or_true, and_self, reduceIte, Nat.reduceEqDiff, Nat.reduceLT, Nat.reduceLeDiff, Nat.reduceMul, false_and, and_false, reduceCtorEq, false_or, or_false, not_true_eq_false, not_false_eq_true, true_implies, false_implies, implies_true, lf_10, eq_self, Int32.reduceLT, Int32.reduceLE, Int32.reduceAdd, Int32.reduceSub, Int32.reduceDiv, Int32.reduceMul, pm_same, pm_i_wI, pm_l_wL, pm_l_wM, pm_oR_rf, pm_oQ_rf, sh_k5 hS, nI_1, sw_e, LQ1, LQ2]
  refine ⟨by omega, rd_51 (by omega) hS0 hd0 hr (by omega) (fun x e S' he hS' => ?_) (fun x S' he hS' => ?_)⟩
  · obtain ⟨a, b, c, dd, f⟩ := hok.2 x e he
    try simp only [pm_WV, pm_WW, true_and, and_true, true_or, or_true, and_self, reduceIte, Nat.reduceEqDiff, Nat.reduceLT, Nat.reduceLeDiff, Nat.reduceMul, false_and, and_false, reduceCtorEq, false_or, or_false, not_true_eq_false, not_false_eq_true, true_implies, false_implies, implies_true, lf_10, eq_self, Int32.reduceLT, Int32.reduceLE, Int32.reduceAdd, Int32.reduceSub, Int32.reduceDiv, Int32.reduceMul, pm_same, pm_i_wI, pm_l_wL, pm_l_wM, pm_oR_rf, pm_oQ_rf, sh_k5 hS, nI_1, sw_e, LQ1, LQ2, pm_WI0, pm_WI1, pm_WI2, pm_WI3, pm_WI4, pm_WI5, pm_WV, pm_WW, pm_WX, pb_B50, pm_if, pm_QI_at, pm_QL_at, pm_QV_at, pm_QR_at, pm_QR_at0, pm_QR_at1, Nat.reduceSub, Nat.reduceAdd, List.replicate_zero, List.replicate_succ]
    refine rd50_77 hS0 hd0 (by omega) (Or.inr rfl) hj hS' (by simp; omega) (fun S2 hS2 => h1 x e S2 he (hS2.L ?_))
    show (L.1, L.2.1, (L.2.2 ++ e) ++ List.replicate j 8) = _
    rw [List.append_assoc]
  · have := hok.1 x he
    try simp only [pm_WV, pm_WW, true_and, and_true, true_or, or_true, and_self, reduceIte, Nat.reduceEqDiff, Nat.reduceLT, Nat.reduceLeDiff, Nat.reduceMul, false_and, and_false, reduceCtorEq, false_or, or_false, not_true_eq_false, not_false_eq_true, true_implies, false_implies, implies_true, lf_10, eq_self, Int32.reduceLT, Int32.reduceLE, Int32.reduceAdd, Int32.reduceSub, Int32.reduceDiv, Int32.reduceMul, pm_same, pm_i_wI, pm_l_wL, pm_l_wM, pm_oR_rf, pm_oQ_rf, sh_k5 hS, nI_1, sw_e, LQ1, LQ2, pm_WI0, pm_WI1, pm_WI2, pm_WI3, pm_WI4, pm_WI5, pm_WV, pm_WW, pm_WX, pb_B50, pm_if, pm_QI_at, pm_QL_at, pm_QV_at, pm_QR_at, pm_QR_at0, pm_QR_at1, Nat.reduceSub, Nat.reduceAdd, List.replicate_zero, List.replicate_succ]
    exact rd50_77 hS0 hd0 (by omega) (Or.inl rfl) hj hS' (by omega) (fun S2 hS2 => h0 x _ S2 he hS2 (by simp; omega))
theorem rd50_25 (hS0 : Sh S0) (hd0 : dl S0 D W) {k : Nat} (hE : cEC G S0 D W n k) {d : Nat} (hd : 9 + 2 * k ≤ d) {u u2 : Value} {j wi : Nat} (hj : wi + j + (k + 1) = 6) {q : Int32 → pm_S → Prop} {S : pm_S} {p : Nat} {L : gx_L} (hr : rs S0 D W n S p L) (hl : L.2.2.length + j ≤ p) (y33 : ¬ gx_b (pm_i S0 6) n p = 33) (h1 : ∀ x e S', gx_F (gx_b (pm_i S0 6) n) 160 (k + 1) p = (x, some e) → rs S0 D W n S' x (L.1, L.2.1, L.2.2 ++ (e ++ List.replicate j 8)) → q 1 S') (h0 : ∀ x e S', gx_F (gx_b (pm_i S0 6) n) 160 (k + 1) p = (x, none) → rs S0 D W n S' x (L.1, L.2.1, L.2.2 ++ e) → e.length + p ≤ x + j → q 0 S') : pm_W G d 50 (pm_QI q) 25 [.ref 5, .int (nI wi), .int (nI j), u, u2] [] S 0 0 := by
  have hS := hr.sh hS0
  have hdl := hr.todl hd0
  have ht := hr.text hd0
  have hr3 := hr.2.2.1
  have hn := hr3.2.2.2.1
  have hpn := hr3.2.2.1
  have hr5 : pm_r S 5 3 = some D := hdl.1
  have hkD : pm_k S D = 5 := hdl.2.1
  have rB : gx_b (pm_i S 6) n = gx_b (pm_i S0 6) n := by rw [ht]
  have hle : ¬ (6 : Int32) ≤ nI (wi + j) := nI_ge (a := wi + j) (b := 6) (by omega) (by omega)
  have hwj : nI wi + nI j = nI (wi + j) := nI_add wi j
  have hwj1 : nI (wi + j) + 1 = nI (6 - k) := by rw [nI_1]; congr 1; omega
  refine pm_wb_ok pb_c50 1 25 0 _ _ _ _ _ ?_
  try simp only [pm_WI0, pm_WI1, pm_WI2, pm_WI3, pm_WI4, pm_WI5, pm_WV, pm_WW, pm_WX, pb_B50, pm_if, pm_QI_at, pm_QL_at, pm_QV_at, pm_QR_at, pm_QR_at0, pm_QR_at1, Nat.reduceSub, Nat.reduceAdd, List.replicate_zero, List.replicate_succ, true_and, and_true, true_or, or_true, and_self, reduceIte, Nat.reduceEqDiff, Nat.reduceLT, Nat.reduceLeDiff, Nat.reduceMul, false_and, and_false, reduceCtorEq, false_or, or_false, not_true_eq_false, not_false_eq_true, true_implies, false_implies, implies_true, lf_10, eq_self, Int32.reduceLT, Int32.reduceLE, Int32.reduceAdd, Int32.reduceSub, Int32.reduceDiv, Int32.reduceMul, pm_same, pm_i_wI, pm_l_wL, pm_l_wM, pm_oR_rf, pm_oQ_rf, sh_k5 hS, nI_1, sw_e, LQ1, LQ2, hwj, hle]
  refine ⟨by omega, rd_46 (c := 40) (n := n) hS hr3 (by omega) (fun y => ?_) (fun y => ?_)⟩ <;> rw [rB] at y
  · have hlt : p < n := gx_lt gx_b_eof y (by omega)
    have ec : gx_F (gx_b (pm_i S0 6) n) 160 (k + 1) p = gx_bd (gx_EE (gx_F (gx_b (pm_i S0 6) n) 160 k) (gx_b (pm_i S0 6) n) 160 (p + 1)) (fun s q => if gx_b (pm_i S0 6) n q = 41 then (q + 1, some s) else (q, none)) := by rw [gx_F, if_neg y33, if_pos y]
    have hr2 := hr.mv hd0 (q := p + 1) (by omega)
    have hr2s := hr2.sh hS0
    refine ⟨fun z => absurd z (by decide), fun _ => ?_⟩
    rw [show wi + j + 1 = 6 - k from by omega]
    refine ⟨by omega, sh_k5 hr2s, hE (d - 1) _ (p + 1) L _ (by omega) hr2 (by omega) (fun x e S' he hS' => ?_) (fun x e S' he hS' hle2 => ?_)⟩
    · have hok := (gx_EE_ok gx_b_eof (fun p hp => gx_F_ok gx_b_eof 160 k p hp) 160 (p := p + 1) (by omega)).2 x e he
      have hS2 := hS'.sh hS0
      have hrB2 : gx_b (pm_i S' 6) n = gx_b (pm_i S0 6) n := by rw [hS'.text hd0]
      rw [gx_bd_some he] at ec
      have hk5 : pm_k S' 5 = 6 := sh_k5 hS2
      try simp only [pm_WV, pm_WW, true_and, and_true, true_or, or_true, and_self, reduceIte, Nat.reduceEqDiff, Nat.reduceLT, Nat.reduceLeDiff, Nat.reduceMul, false_and, and_false, reduceCtorEq, false_or, or_false, not_true_eq_false, not_false_eq_true, true_implies, false_implies, implies_true, lf_10, eq_self, Int32.reduceLT, Int32.reduceLE, Int32.reduceAdd, Int32.reduceSub, Int32.reduceDiv, Int32.reduceMul, pm_same, pm_i_wI, pm_l_wL, pm_l_wM, pm_oR_rf, pm_oQ_rf, sh_k5 hS, nI_1, sw_e, LQ1, LQ2, pm_WI0, pm_WI1, pm_WI2, pm_WI3, pm_WI4, pm_WI5, pm_WV, pm_WW, pm_WX, pb_B50, pm_if, pm_QI_at, pm_QL_at, pm_QV_at, pm_QR_at, pm_QR_at0, pm_QR_at1, Nat.reduceSub, Nat.reduceAdd, List.replicate_zero, List.replicate_succ, hk5]
      refine ⟨by omega, rd_46 (c := 41) (n := n) hS2 hS'.2.2.1 (by omega) (fun y2 => ?_) (fun y2 => ?_)⟩ <;> rw [hrB2] at y2
      · have hlt2 : x < n := gx_lt gx_b_eof y2 (by omega)
        rw [if_pos y2] at ec
        try simp only [pm_WV, pm_WW, true_and, and_true, true_or, or_true, and_self, reduceIte, Nat.reduceEqDiff, Nat.reduceLT, Nat.reduceLeDiff, Nat.reduceMul, false_and, and_false, reduceCtorEq, false_or, or_false, not_true_eq_false, not_false_eq_true, true_implies, false_implies, implies_true, lf_10, eq_self, Int32.reduceLT, Int32.reduceLE, Int32.reduceAdd, Int32.reduceSub, Int32.reduceDiv, Int32.reduceMul, pm_same, pm_i_wI, pm_l_wL, pm_l_wM, pm_oR_rf, pm_oQ_rf, sh_k5 hS, nI_1, sw_e, LQ1, LQ2, pm_WI0, pm_WI1, pm_WI2, pm_WI3, pm_WI4, pm_WI5, pm_WV, pm_WW, pm_WX, pb_B50, pm_if, pm_QI_at, pm_QL_at, pm_QV_at, pm_QR_at, pm_QR_at0, pm_QR_at1, Nat.reduceSub, Nat.reduceAdd, List.replicate_zero, List.replicate_succ]
        refine pm_wb_ok pb_c50 1 68 0 _ _ _ _ _ ?_
        try simp only [pm_WI0, pm_WI1, pm_WI2, pm_WI3, pm_WI4, pm_WI5, pm_WV, pm_WW, pm_WX, pb_B50, pm_if, pm_QI_at, pm_QL_at, pm_QV_at, pm_QR_at, pm_QR_at0, pm_QR_at1, Nat.reduceSub, Nat.reduceAdd, List.replicate_zero, List.replicate_succ, true_and, and_true, true_or, or_true, and_self, reduceIte, Nat.reduceEqDiff, Nat.reduceLT, Nat.reduceLeDiff, Nat.reduceMul, false_and, and_false, reduceCtorEq, false_or, or_false, not_true_eq_false, not_false_eq_true, true_implies, false_implies, implies_true, lf_10, eq_self, Int32.reduceLT, Int32.reduceLE, Int32.reduceAdd, Int32.reduceSub, Int32.reduceDiv, Int32.reduceMul, pm_same, pm_i_wI, pm_l_wL, pm_l_wM, pm_oR_rf, pm_oQ_rf, sh_k5 hS, nI_1, sw_e, LQ1, LQ2]
        refine rd50_77 hS0 hd0 (by omega) (Or.inr rfl) (by omega) (hS'.mv hd0 (q := x + 1) (by omega)) (by simp; omega) (fun S2 hS2 => h1 (x + 1) e S2 ec (hS2.L ?_))
        show (L.1, L.2.1, (L.2.2 ++ e) ++ List.replicate j 8) = _
        rw [List.append_assoc]
      · rw [if_neg y2] at ec
        try simp only [pm_WV, pm_WW, true_and, and_true, true_or, or_true, and_self, reduceIte, Nat.reduceEqDiff, Nat.reduceLT, Nat.reduceLeDiff, Nat.reduceMul, false_and, and_false, reduceCtorEq, false_or, or_false, not_true_eq_false, not_false_eq_true, true_implies, false_implies, implies_true, lf_10, eq_self, Int32.reduceLT, Int32.reduceLE, Int32.reduceAdd, Int32.reduceSub, Int32.reduceDiv, Int32.reduceMul, pm_same, pm_i_wI, pm_l_wL, pm_l_wM, pm_oR_rf, pm_oQ_rf, sh_k5 hS, nI_1, sw_e, LQ1, LQ2, pm_WI0, pm_WI1, pm_WI2, pm_WI3, pm_WI4, pm_WI5, pm_WV, pm_WW, pm_WX, pb_B50, pm_if, pm_QI_at, pm_QL_at, pm_QV_at, pm_QR_at, pm_QR_at0, pm_QR_at1, Nat.reduceSub, Nat.reduceAdd, List.replicate_zero, List.replicate_succ]
        refine pm_wb_ok pb_c50 2 67 0 _ _ _ _ _ ?_
        try simp only [pm_WI0, pm_WI1, pm_WI2, pm_WI3, pm_WI4, pm_WI5, pm_WV, pm_WW, pm_WX, pb_B50, pm_if, pm_QI_at, pm_QL_at, pm_QV_at, pm_QR_at, pm_QR_at0, pm_QR_at1, Nat.reduceSub, Nat.reduceAdd, List.replicate_zero, List.replicate_succ, true_and, and_true, true_or, or_true, and_self, reduceIte, Nat.reduceEqDiff, Nat.reduceLT, Nat.reduceLeDiff, Nat.reduceMul, false_and, and_false, reduceCtorEq, false_or, or_false, not_true_eq_false, not_false_eq_true, true_implies, false_implies, implies_true, lf_10, eq_self, Int32.reduceLT, Int32.reduceLE, Int32.reduceAdd, Int32.reduceSub, Int32.reduceDiv, Int32.reduceMul, pm_same, pm_i_wI, pm_l_wL, pm_l_wM, pm_oR_rf, pm_oQ_rf, sh_k5 hS, nI_1, sw_e, LQ1, LQ2]
        refine rd50_77 hS0 hd0 (by omega) (Or.inl rfl) (by omega) hS' (by simp; omega) (fun S2 hS2 => h0 x (e ++ List.replicate j 8) S2 ec (hS2.L ?_) (by simp; omega))
        show (L.1, L.2.1, (L.2.2 ++ e) ++ List.replicate j 8) = _
        rw [List.append_assoc]
    · have hxn := ((gx_EE_ok gx_b_eof (fun p hp => gx_F_ok gx_b_eof 160 k p hp) 160 (p := p + 1) (by omega)).1 x he).2
      rw [gx_bd_none he] at ec
      try simp only [pm_WV, pm_WW, true_and, and_true, true_or, or_true, and_self, reduceIte, Nat.reduceEqDiff, Nat.reduceLT, Nat.reduceLeDiff, Nat.reduceMul, false_and, and_false, reduceCtorEq, false_or, or_false, not_true_eq_false, not_false_eq_true, true_implies, false_implies, implies_true, lf_10, eq_self, Int32.reduceLT, Int32.reduceLE, Int32.reduceAdd, Int32.reduceSub, Int32.reduceDiv, Int32.reduceMul, pm_same, pm_i_wI, pm_l_wL, pm_l_wM, pm_oR_rf, pm_oQ_rf, sh_k5 hS, nI_1, sw_e, LQ1, LQ2, pm_WI0, pm_WI1, pm_WI2, pm_WI3, pm_WI4, pm_WI5, pm_WV, pm_WW, pm_WX, pb_B50, pm_if, pm_QI_at, pm_QL_at, pm_QV_at, pm_QR_at, pm_QR_at0, pm_QR_at1, Nat.reduceSub, Nat.reduceAdd, List.replicate_zero, List.replicate_succ]
      refine pm_wb_ok pb_c50 2 67 0 _ _ _ _ _ ?_
      try simp only [pm_WI0, pm_WI1, pm_WI2, pm_WI3, pm_WI4, pm_WI5, pm_WV, pm_WW, pm_WX, pb_B50, pm_if, pm_QI_at, pm_QL_at, pm_QV_at, pm_QR_at, pm_QR_at0, pm_QR_at1, Nat.reduceSub, Nat.reduceAdd, List.replicate_zero, List.replicate_succ, true_and, and_true, true_or, or_true, and_self, reduceIte, Nat.reduceEqDiff, Nat.reduceLT, Nat.reduceLeDiff, Nat.reduceMul, false_and, and_false, reduceCtorEq, false_or, or_false, not_true_eq_false, not_false_eq_true, true_implies, false_implies, implies_true, lf_10, eq_self, Int32.reduceLT, Int32.reduceLE, Int32.reduceAdd, Int32.reduceSub, Int32.reduceDiv, Int32.reduceMul, pm_same, pm_i_wI, pm_l_wL, pm_l_wM, pm_oR_rf, pm_oQ_rf, sh_k5 hS, nI_1, sw_e, LQ1, LQ2]
      refine rd50_77 hS0 hd0 (by omega) (Or.inl rfl) (by omega) hS' (by simp; omega) (fun S2 hS2 => h0 x (e ++ List.replicate j 8) S2 ec (hS2.L ?_) (by simp; omega))
      show (L.1, L.2.1, (L.2.2 ++ e) ++ List.replicate j 8) = _
      rw [List.append_assoc]
  · have ec : gx_F (gx_b (pm_i S0 6) n) 160 (k + 1) p = gx_test (gx_b (pm_i S0 6) n) p := by rw [gx_F, if_neg y33, if_neg y]
    rw [ec] at h1 h0
    try simp only [pm_WV, pm_WW, true_and, and_true, true_or, or_true, and_self, reduceIte, Nat.reduceEqDiff, Nat.reduceLT, Nat.reduceLeDiff, Nat.reduceMul, false_and, and_false, reduceCtorEq, false_or, or_false, not_true_eq_false, not_false_eq_true, true_implies, false_implies, implies_true, lf_10, eq_self, Int32.reduceLT, Int32.reduceLE, Int32.reduceAdd, Int32.reduceSub, Int32.reduceDiv, Int32.reduceMul, pm_same, pm_i_wI, pm_l_wL, pm_l_wM, pm_oR_rf, pm_oQ_rf, sh_k5 hS, nI_1, sw_e, LQ1, LQ2, pm_WI0, pm_WI1, pm_WI2, pm_WI3, pm_WI4, pm_WI5, pm_WV, pm_WW, pm_WX, pb_B50, pm_if, pm_QI_at, pm_QL_at, pm_QV_at, pm_QR_at, pm_QR_at0, pm_QR_at1, Nat.reduceSub, Nat.reduceAdd, List.replicate_zero, List.replicate_succ]
    exact rd50_72 hS0 hd0 (by omega) (by omega) hr hl h1 h0
theorem rd50_2 (hS0 : Sh S0) (hd0 : dl S0 D W) {wi : Nat} : ∀ (k : Nat), (∀ k', k' < k → cEC G S0 D W n k') → ∀ (d j : Nat) (S : pm_S) (p : Nat) (L : gx_L) (q : Int32 → pm_S → Prop) (u u2 : Value), 7 + 2 * k ≤ d → wi + j + k = 6 → rs S0 D W n S p L → L.2.2.length + j ≤ p → (∀ x e S', gx_F (gx_b (pm_i S0 6) n) 160 k p = (x, some e) → rs S0 D W n S' x (L.1, L.2.1, L.2.2 ++ (e ++ List.replicate j 8)) → q 1 S') → (∀ x e S', gx_F (gx_b (pm_i S0 6) n) 160 k p = (x, none) → rs S0 D W n S' x (L.1, L.2.1, L.2.2 ++ e) → e.length + p ≤ x + j → q 0 S') → pm_W G d 50 (pm_QI q) 2 [.ref 5, .int (nI wi), .int (nI j), u, u2] [] S 0 0 := by
  intro k
  induction k with
  | zero =>
    intro _ d j S p L q u u2 hd hj hr hl h1 h0
    have hS := hr.sh hS0
    have hdl := hr.todl hd0
    have ht := hr.text hd0
    have hr3 := hr.2.2.1
    have hn := hr3.2.2.2.1
    have hpn := hr3.2.2.1
    have hr5 : pm_r S 5 3 = some D := hdl.1
    have hkD : pm_k S D = 5 := hdl.2.1
    have rB : gx_b (pm_i S 6) n = gx_b (pm_i S0 6) n := by rw [ht]
    have hle : (6 : Int32) ≤ nI (wi + j) := nI_le (a := 6) (b := wi + j) (by omega) (by omega)
    have hwj : nI wi + nI j = nI (wi + j) := nI_add wi j
    refine pm_wb_ok pb_c50 1 2 0 _ _ _ _ _ ?_
    try simp only [pm_WI0, pm_WI1, pm_WI2, pm_WI3, pm_WI4, pm_WI5, pm_WV, pm_WW, pm_WX, pb_B50, pm_if, pm_QI_at, pm_QL_at, pm_QV_at, pm_QR_at, pm_QR_at0, pm_QR_at1, Nat.reduceSub, Nat.reduceAdd, List.replicate_zero, List.replicate_succ, true_and, and_true, true_or, or_true, and_self, reduceIte, Nat.reduceEqDiff, Nat.reduceLT, Nat.reduceLeDiff, Nat.reduceMul, false_and, and_false, reduceCtorEq, false_or, or_false, not_true_eq_false, not_false_eq_true, true_implies, false_implies, implies_true, lf_10, eq_self, Int32.reduceLT, Int32.reduceLE, Int32.reduceAdd, Int32.reduceSub, Int32.reduceDiv, Int32.reduceMul, pm_same, pm_i_wI, pm_l_wL, pm_l_wM, pm_oR_rf, pm_oQ_rf, sh_k5 hS, nI_1, sw_e, LQ1, LQ2, hwj, hle]
    refine pm_wb_ok pb_c50 1 25 0 _ _ _ _ _ ?_
    try simp only [pm_WI0, pm_WI1, pm_WI2, pm_WI3, pm_WI4, pm_WI5, pm_WV, pm_WW, pm_WX, pb_B50, pm_if, pm_QI_at, pm_QL_at, pm_QV_at, pm_QR_at, pm_QR_at0, pm_QR_at1, Nat.reduceSub, Nat.reduceAdd, List.replicate_zero, List.replicate_succ, true_and, and_true, true_or, or_true, and_self, reduceIte, Nat.reduceEqDiff, Nat.reduceLT, Nat.reduceLeDiff, Nat.reduceMul, false_and, and_false, reduceCtorEq, false_or, or_false, not_true_eq_false, not_false_eq_true, true_implies, false_implies, implies_true, lf_10, eq_self, Int32.reduceLT, Int32.reduceLE, Int32.reduceAdd, Int32.reduceSub, Int32.reduceDiv, Int32.reduceMul, pm_same, pm_i_wI, pm_l_wL, pm_l_wM, pm_oR_rf, pm_oQ_rf, sh_k5 hS, nI_1, sw_e, LQ1, LQ2, hwj, hle]
    exact rd50_72 hS0 hd0 (by omega) (by omega) hr hl h1 h0
  | succ k ih =>
    intro hE d j S p L q u u2 hd hj hr hl h1 h0
    have hS := hr.sh hS0
    have hdl := hr.todl hd0
    have ht := hr.text hd0
    have hr3 := hr.2.2.1
    have hn := hr3.2.2.2.1
    have hpn := hr3.2.2.1
    have hr5 : pm_r S 5 3 = some D := hdl.1
    have hkD : pm_k S D = 5 := hdl.2.1
    have rB : gx_b (pm_i S 6) n = gx_b (pm_i S0 6) n := by rw [ht]
    have hle : ¬ (6 : Int32) ≤ nI (wi + j) := nI_ge (a := wi + j) (b := 6) (by omega) (by omega)
    have hwj : nI wi + nI j = nI (wi + j) := nI_add wi j
    refine pm_wb_ok pb_c50 1 2 0 _ _ _ _ _ ?_
    try simp only [pm_WI0, pm_WI1, pm_WI2, pm_WI3, pm_WI4, pm_WI5, pm_WV, pm_WW, pm_WX, pb_B50, pm_if, pm_QI_at, pm_QL_at, pm_QV_at, pm_QR_at, pm_QR_at0, pm_QR_at1, Nat.reduceSub, Nat.reduceAdd, List.replicate_zero, List.replicate_succ, true_and, and_true, true_or, or_true, and_self, reduceIte, Nat.reduceEqDiff, Nat.reduceLT, Nat.reduceLeDiff, Nat.reduceMul, false_and, and_false, reduceCtorEq, false_or, or_false, not_true_eq_false, not_false_eq_true, true_implies, false_implies, implies_true, lf_10, eq_self, Int32.reduceLT, Int32.reduceLE, Int32.reduceAdd, Int32.reduceSub, Int32.reduceDiv, Int32.reduceMul, pm_same, pm_i_wI, pm_l_wL, pm_l_wM, pm_oR_rf, pm_oQ_rf, sh_k5 hS, nI_1, sw_e, LQ1, LQ2, hwj, hle]
    refine ⟨by omega, rd_46 (c := 33) (n := n) hS hr3 (by omega) (fun y => ?_) (fun y => ?_)⟩ <;> rw [rB] at y
    · have hlt : p < n := gx_lt gx_b_eof y (by omega)
      have ec : gx_F (gx_b (pm_i S0 6) n) 160 (k + 1) p = gx_bd (gx_F (gx_b (pm_i S0 6) n) 160 k (p + 1)) (fun s q => (q, some (s ++ [8]))) := by rw [gx_F, if_pos y]
      have hr2 := hr.mv hd0 (q := p + 1) (by omega)
      try simp only [pm_WV, pm_WW, true_and, and_true, true_or, or_true, and_self, reduceIte, Nat.reduceEqDiff, Nat.reduceLT, Nat.reduceLeDiff, Nat.reduceMul, false_and, and_false, reduceCtorEq, false_or, or_false, not_true_eq_false, not_false_eq_true, true_implies, false_implies, implies_true, lf_10, eq_self, Int32.reduceLT, Int32.reduceLE, Int32.reduceAdd, Int32.reduceSub, Int32.reduceDiv, Int32.reduceMul, pm_same, pm_i_wI, pm_l_wL, pm_l_wM, pm_oR_rf, pm_oQ_rf, sh_k5 hS, nI_1, sw_e, LQ1, LQ2, pm_WI0, pm_WI1, pm_WI2, pm_WI3, pm_WI4, pm_WI5, pm_WV, pm_WW, pm_WX, pb_B50, pm_if, pm_QI_at, pm_QL_at, pm_QV_at, pm_QR_at, pm_QR_at0, pm_QR_at1, Nat.reduceSub, Nat.reduceAdd, List.replicate_zero, List.replicate_succ]
      refine ih (fun k' hk' => hE k' (by omega)) d (j + 1) _ (p + 1) L q u u2 (by omega) (by omega) hr2 (by omega) (fun x e S' he hS' => h1 x (e ++ [8]) S' (by rw [ec, gx_bd_some he]) (hS'.L ?_)) (fun x e S' he hS' hle2 => h0 x e S' (by rw [ec, gx_bd_none he]) hS' (by omega))
      rw [List.append_assoc e]; rfl
    · try simp only [pm_WV, pm_WW, true_and, and_true, true_or, or_true, and_self, reduceIte, Nat.reduceEqDiff, Nat.reduceLT, Nat.reduceLeDiff, Nat.reduceMul, false_and, and_false, reduceCtorEq, false_or, or_false, not_true_eq_false, not_false_eq_true, true_implies, false_implies, implies_true, lf_10, eq_self, Int32.reduceLT, Int32.reduceLE, Int32.reduceAdd, Int32.reduceSub, Int32.reduceDiv, Int32.reduceMul, pm_same, pm_i_wI, pm_l_wL, pm_l_wM, pm_oR_rf, pm_oQ_rf, sh_k5 hS, nI_1, sw_e, LQ1, LQ2, pm_WI0, pm_WI1, pm_WI2, pm_WI3, pm_WI4, pm_WI5, pm_WV, pm_WW, pm_WX, pb_B50, pm_if, pm_QI_at, pm_QL_at, pm_QV_at, pm_QR_at, pm_QR_at0, pm_QR_at1, Nat.reduceSub, Nat.reduceAdd, List.replicate_zero, List.replicate_succ]
      exact rd50_25 hS0 hd0 (hE k (by omega)) (by omega) (by omega) hr hl y h1 h0
theorem rd_50 (hS0 : Sh S0) (hd0 : dl S0 D W) {k : Nat} (hk : k ≤ 6) (hE : ∀ k', k' < k → cEC G S0 D W n k') : cFC G S0 D W n k := by
  intro d S p L q hd hr hl h1 h0
  have hS := hr.sh hS0
  have hdl := hr.todl hd0
  have ht := hr.text hd0
  have hr3 := hr.2.2.1
  have hn := hr3.2.2.2.1
  have hpn := hr3.2.2.1
  have hr5 : pm_r S 5 3 = some D := hdl.1
  have hkD : pm_k S D = 5 := hdl.2.1
  have rB : gx_b (pm_i S 6) n = gx_b (pm_i S0 6) n := by rw [ht]
  refine pm_goI 50 1 pb_c50 (by decide) (Nat.le_of_ble_eq_true rfl) rfl ?_
  try simp only [show pm_mL 50 = 5 from rfl, pm_WI0, pm_WI1, pm_WI2, pm_WI3, pm_WI4, pm_WI5, pm_WV, pm_WW, pm_WX, pb_B50, pm_if, pm_QI_at, pm_QL_at, pm_QV_at, pm_QR_at, pm_QR_at0, pm_QR_at1, Nat.reduceSub, Nat.reduceAdd, List.replicate_zero, List.replicate_succ, true_and, and_true, true_or, or_true, and_self, reduceIte, Nat.reduceEqDiff, Nat.reduceLT, Nat.reduceLeDiff, Nat.reduceMul, false_and, and_false, reduceCtorEq, false_or, or_false, not_true_eq_false, not_false_eq_true, true_implies, false_implies, implies_true, lf_10, eq_self, Int32.reduceLT, Int32.reduceLE, Int32.reduceAdd, Int32.reduceSub, Int32.reduceDiv, Int32.reduceMul, pm_same, pm_i_wI, pm_l_wL, pm_l_wM, pm_oR_rf, pm_oQ_rf, sh_k5 hS, nI_1, sw_e, LQ1, LQ2]
  refine rd50_2 hS0 hd0 (wi := 6 - k) k hE d 0 S p L q _ _ hd (by omega) hr (by omega) (fun x e S' he hS' => h1 x e S' he (hS'.L ?_)) (fun x e S' he hS' hle => h0 x e S' he hS' (by omega))
  simp
def oB (o : Option (List Nat)) : Int32 := match o with
  | none => 0
  | some _ => 1
def oN (o : Option (List Nat)) : Nat := match o with
  | none => 0
  | some _ => 1
theorem rd49_7 (hS0 : Sh S0) (hd0 : dl S0 D W) {k : Nat} (hF : cFC G S0 D W n k) {d : Nat} (hd : 8 + 2 * k ≤ d) {L : gx_L} {p0 : Nat} (hl : L.2.2.length ≤ p0) {q : Int32 → pm_S → Prop} : ∀ (m i p : Nat) (a o : Option (List Nat)) (gT gE : Nat) (S : pm_S), n + 1 - p < m → 2 * i ≤ p → n ≤ p + gT → n ≤ p + gE → n ≤ p + 160 → rs S0 D W n S p (L.1, L.2.1, L.2.2 ++ (o.getD [] ++ a.getD [])) → (o.getD [] ++ a.getD []).length + oN o + oN a + p0 ≤ p →
    (∀ x e S', gx_KA (gx_F (gx_b (pm_i S0 6) n) 160 k) (gx_b (pm_i S0 6) n) 160 gT gE a o p = (x, some e) → rs S0 D W n S' x (L.1, L.2.1, L.2.2 ++ e) → q 1 S') → (∀ x e S', gx_KA (gx_F (gx_b (pm_i S0 6) n) 160 k) (gx_b (pm_i S0 6) n) 160 gT gE a o p = (x, none) → rs S0 D W n S' x (L.1, L.2.1, L.2.2 ++ e) → e.length + p0 ≤ x → q 0 S') →
    pm_W G d 49 (pm_QI q) 7 [.ref 5, .int (nI (6 - k)), .int (oB a), .int (oB o), .int (nI i)] [] S 0 0 := by
  intro m
  induction m with
  | zero => intro i p a o gT gE S hm; omega
  | succ m ih =>
    intro i p a o gT gE S hm hi hT hE h160 hr hb h1 h0
    have hS := hr.sh hS0
    have hdl := hr.todl hd0
    have ht := hr.text hd0
    have hr3 := hr.2.2.1
    have hn := hr3.2.2.2.1
    have hpn := hr3.2.2.1
    have hr5 : pm_r S 5 3 = some D := hdl.1
    have hkD : pm_k S D = 5 := hdl.2.1
    have rB : gx_b (pm_i S 6) n = gx_b (pm_i S0 6) n := by rw [ht]
    have hle : ¬ (160 : Int32) ≤ nI i := nI_ge (a := i) (b := 160) (by omega) (by omega)
    have hok := gx_F_ok (B := gx_b (pm_i S0 6) n) gx_b_eof 160 k p hpn
    refine pm_wb_ok pb_c49 1 7 0 _ _ _ _ _ ?_
    try simp only [pm_WI0, pm_WI1, pm_WI2, pm_WI3, pm_WI4, pm_WI5, pm_WV, pm_WW, pm_WX, pb_B49, pm_if, pm_QI_at, pm_QL_at, pm_QV_at, pm_QR_at, pm_QR_at0, pm_QR_at1, Nat.reduceSub, Nat.reduceAdd, List.replicate_zero, List.replicate_succ, true_and, and_true, true_or, or_true, and_self, reduceIte, Nat.reduceEqDiff, Nat.reduceLT, Nat.reduceLeDiff, Nat.reduceMul, false_and, and_false, reduceCtorEq, false_or, or_false, not_true_eq_false, not_false_eq_true, true_implies, false_implies, implies_true, lf_10, eq_self, Int32.reduceLT, Int32.reduceLE, Int32.reduceAdd, Int32.reduceSub, Int32.reduceDiv, Int32.reduceMul, pm_same, pm_i_wI, pm_l_wL, pm_l_wM, pm_oR_rf, pm_oQ_rf, sh_k5 hS, nI_1, sw_e, LQ1, LQ2, hle]
    refine ⟨by omega, hF (d - 1) S p _ _ (by omega) hr (by show (L.2.2 ++ (o.getD [] ++ a.getD [])).length ≤ p; simp only [List.length_append] at hb ⊢; omega) (fun x s S1 he hr1 => ?_) (fun x s S1 he hr1 hle1 => ?_)⟩
    · obtain ⟨f1, f2, f3, f4, f5⟩ := hok.2 x s he
      have eKA : gx_KA (gx_F (gx_b (pm_i S0 6) n) 160 k) (gx_b (pm_i S0 6) n) 160 gT gE a o p = gx_KB (gx_F (gx_b (pm_i S0 6) n) 160 k) (gx_b (pm_i S0 6) n) 160 gT gE (gx_aj a s) o x := by unfold gx_KA; rw [gx_bd_some he]
      rw [eKA] at h1 h0
      -- behind the operator &
      have mid : ∀ S2, rs S0 D W n S2 x (L.1, L.2.1, L.2.2 ++ (o.getD [] ++ gx_aj a s)) → (o.getD [] ++ gx_aj a s).length + oN o + p0 ≤ x → pm_W G d 49 (pm_QI q) 40 [.ref 5, .int (nI (6 - k)), .int (oB a), .int (oB o), .int (nI i)] [] S2 0 0 := by
        intro S2 hr2 hb2
        have hS := hr2.sh hS0
        have hr3 := hr2.2.2.1
        have hdl := hr2.todl hd0
        have hr5 : pm_r S2 5 3 = some D := hdl.1
        have hkD : pm_k S2 D = 5 := hdl.2.1
        have rB : gx_b (pm_i S2 6) n = gx_b (pm_i S0 6) n := by rw [hr2.text hd0]
        obtain ⟨gT', rfl⟩ : ∃ g, gT = g + 1 := ⟨gT - 1, by omega⟩
        obtain ⟨gE', rfl⟩ : ∃ g, gE = g + 1 := ⟨gE - 1, by omega⟩
        refine pm_wb_ok pb_c49 1 40 0 _ _ _ _ _ ?_
        try simp only [pm_WI0, pm_WI1, pm_WI2, pm_WI3, pm_WI4, pm_WI5, pm_WV, pm_WW, pm_WX, pb_B49, pm_if, pm_QI_at, pm_QL_at, pm_QV_at, pm_QR_at, pm_QR_at0, pm_QR_at1, Nat.reduceSub, Nat.reduceAdd, List.replicate_zero, List.replicate_succ, true_and, and_true, true_or, or_true, and_self, reduceIte, Nat.reduceEqDiff, Nat.reduceLT, Nat.reduceLeDiff, Nat.reduceMul, false_and, and_false, reduceCtorEq, false_or, or_false, not_true_eq_false, not_false_eq_true, true_implies, false_implies, implies_true, lf_10, eq_self, Int32.reduceLT, Int32.reduceLE, Int32.reduceAdd, Int32.reduceSub, Int32.reduceDiv, Int32.reduceMul, pm_same, pm_i_wI, pm_l_wL, pm_l_wM, pm_oR_rf, pm_oQ_rf, sh_k5 hS, nI_1, sw_e, LQ1, LQ2, hr5, hkD]
        refine ⟨by omega, rd_46 (c := 38) (n := n) hS hr3 (by omega) (fun y => ?_) (fun y => ?_)⟩ <;> rw [rB] at y
        · have hlt : x < n := gx_lt gx_b_eof y (by omega)
          rw [gx_KB_and y] at h1 h0
          have hr4 := hr2.mv hd0 (q := x + 1) (by omega)
          have nx := ih (i + 1) (x + 1) (some (gx_aj a s)) o gT' (gE' + 1) _ (by omega) (by omega) (by omega) (by omega) (by omega) hr4 (by show (o.getD [] ++ gx_aj a s).length + oN o + 1 + p0 ≤ x + 1; omega) h1 h0
          have hoB : oB (some (gx_aj a s)) = 1 := rfl
          rw [hoB] at nx
          try simp only [pm_WV, pm_WW, true_and, and_true, true_or, or_true, and_self, reduceIte, Nat.reduceEqDiff, Nat.reduceLT, Nat.reduceLeDiff, Nat.reduceMul, false_and, and_false, reduceCtorEq, false_or, or_false, not_true_eq_false, not_false_eq_true, true_implies, false_implies, implies_true, lf_10, eq_self, Int32.reduceLT, Int32.reduceLE, Int32.reduceAdd, Int32.reduceSub, Int32.reduceDiv, Int32.reduceMul, pm_same, pm_i_wI, pm_l_wL, pm_l_wM, pm_oR_rf, pm_oQ_rf, sh_k5 hS, nI_1, sw_e, LQ1, LQ2, pm_WI0, pm_WI1, pm_WI2, pm_WI3, pm_WI4, pm_WI5, pm_WV, pm_WW, pm_WX, pb_B49, pm_if, pm_QI_at, pm_QL_at, pm_QV_at, pm_QR_at, pm_QR_at0, pm_QR_at1, Nat.reduceSub, Nat.reduceAdd, List.replicate_zero, List.replicate_succ]
          first | exact nx | skip
          try refine pm_wb_ok pb_c49 1 79 0 _ _ _ _ _ ?_
          try simp only [pm_WI0, pm_WI1, pm_WI2, pm_WI3, pm_WI4, pm_WI5, pm_WV, pm_WW, pm_WX, pb_B49, pm_if, pm_QI_at, pm_QL_at, pm_QV_at, pm_QR_at, pm_QR_at0, pm_QR_at1, Nat.reduceSub, Nat.reduceAdd, List.replicate_zero, List.replicate_succ, true_and, and_true, true_or, or_true, and_self, reduceIte, Nat.reduceEqDiff, Nat.reduceLT, Nat.reduceLeDiff, Nat.reduceMul, false_and, and_false, reduceCtorEq, false_or, or_false, not_true_eq_false, not_false_eq_true, true_implies, false_implies, implies_true, lf_10, eq_self, Int32.reduceLT, Int32.reduceLE, Int32.reduceAdd, Int32.reduceSub, Int32.reduceDiv, Int32.reduceMul, pm_same, pm_i_wI, pm_l_wL, pm_l_wM, pm_oR_rf, pm_oQ_rf, sh_k5 hS, nI_1, sw_e, LQ1, LQ2]
          try exact nx
        · -- no &: the pending | first
          have oj : rs S0 D W n S2 x (L.1, L.2.1, L.2.2 ++ (o.getD [] ++ gx_aj a s)) → ∀ S3, rs S0 D W n S3 x (L.1, L.2.1, L.2.2 ++ gx_oj o (gx_aj a s)) → pm_W G d 49 (pm_QI q) 66 [.ref 5, .int (nI (6 - k)), .int 0, .int (oB o), .int (nI i)] [] S3 0 0 := by
            intro _ S3 hr3'
            have hS := hr3'.sh hS0
            have hr3 := hr3'.2.2.1
            have rB : gx_b (pm_i S3 6) n = gx_b (pm_i S0 6) n := by rw [hr3'.text hd0]
            have hoj : (gx_oj o (gx_aj a s)).length + p0 ≤ x := by
              cases o with
              | none => simp only [gx_oj, Option.getD, List.nil_append, oN] at hb2 ⊢; omega
              | some u => simp only [gx_oj, Option.getD, List.length_append, List.length_singleton, oN] at hb2 ⊢; omega
            refine pm_wb_ok pb_c49 1 66 0 _ _ _ _ _ ?_
            try simp only [pm_WI0, pm_WI1, pm_WI2, pm_WI3, pm_WI4, pm_WI5, pm_WV, pm_WW, pm_WX, pb_B49, pm_if, pm_QI_at, pm_QL_at, pm_QV_at, pm_QR_at, pm_QR_at0, pm_QR_at1, Nat.reduceSub, Nat.reduceAdd, List.replicate_zero, List.replicate_succ, true_and, and_true, true_or, or_true, and_self, reduceIte, Nat.reduceEqDiff, Nat.reduceLT, Nat.reduceLeDiff, Nat.reduceMul, false_and, and_false, reduceCtorEq, false_or, or_false, not_true_eq_false, not_false_eq_true, true_implies, false_implies, implies_true, lf_10, eq_self, Int32.reduceLT, Int32.reduceLE, Int32.reduceAdd, Int32.reduceSub, Int32.reduceDiv, Int32.reduceMul, pm_same, pm_i_wI, pm_l_wL, pm_l_wM, pm_oR_rf, pm_oQ_rf, sh_k5 hS, nI_1, sw_e, LQ1, LQ2]
            refine ⟨by omega, rd_46 (c := 124) (n := n) hS hr3 (by omega) (fun y2 => ?_) (fun y2 => ?_)⟩ <;> rw [rB] at y2
            · have hlt : x < n := gx_lt gx_b_eof y2 (by omega)
              rw [gx_KB_or y y2] at h1 h0
              have hr4 := hr3'.mv hd0 (q := x + 1) (by omega)
              have nx := ih (i + 1) (x + 1) none (some (gx_oj o (gx_aj a s))) 160 gE' _ (by omega) (by omega) (by omega) (by omega) (by omega) (hr4.L (by simp)) (by show (gx_oj o (gx_aj a s) ++ []).length + 1 + 0 + p0 ≤ x + 1; rw [List.append_nil]; omega) h1 h0
              have hoB1 : oB none = 0 := rfl
              have hoB2 : oB (some (gx_oj o (gx_aj a s))) = 1 := rfl
              rw [hoB1, hoB2] at nx
              try simp only [pm_WV, pm_WW, true_and, and_true, true_or, or_true, and_self, reduceIte, Nat.reduceEqDiff, Nat.reduceLT, Nat.reduceLeDiff, Nat.reduceMul, false_and, and_false, reduceCtorEq, false_or, or_false, not_true_eq_false, not_false_eq_true, true_implies, false_implies, implies_true, lf_10, eq_self, Int32.reduceLT, Int32.reduceLE, Int32.reduceAdd, Int32.reduceSub, Int32.reduceDiv, Int32.reduceMul, pm_same, pm_i_wI, pm_l_wL, pm_l_wM, pm_oR_rf, pm_oQ_rf, sh_k5 hS, nI_1, sw_e, LQ1, LQ2, pm_WI0, pm_WI1, pm_WI2, pm_WI3, pm_WI4, pm_WI5, pm_WV, pm_WW, pm_WX, pb_B49, pm_if, pm_QI_at, pm_QL_at, pm_QV_at, pm_QR_at, pm_QR_at0, pm_QR_at1, Nat.reduceSub, Nat.reduceAdd, List.replicate_zero, List.replicate_succ]
              first | exact nx | skip
              try refine pm_wb_ok pb_c49 1 79 0 _ _ _ _ _ ?_
              try simp only [pm_WI0, pm_WI1, pm_WI2, pm_WI3, pm_WI4, pm_WI5, pm_WV, pm_WW, pm_WX, pb_B49, pm_if, pm_QI_at, pm_QL_at, pm_QV_at, pm_QR_at, pm_QR_at0, pm_QR_at1, Nat.reduceSub, Nat.reduceAdd, List.replicate_zero, List.replicate_succ, true_and, and_true, true_or, or_true, and_self, reduceIte, Nat.reduceEqDiff, Nat.reduceLT, Nat.reduceLeDiff, Nat.reduceMul, false_and, and_false, reduceCtorEq, false_or, or_false, not_true_eq_false, not_false_eq_true, true_implies, false_implies, implies_true, lf_10, eq_self, Int32.reduceLT, Int32.reduceLE, Int32.reduceAdd, Int32.reduceSub, Int32.reduceDiv, Int32.reduceMul, pm_same, pm_i_wI, pm_l_wL, pm_l_wM, pm_oR_rf, pm_oQ_rf, sh_k5 hS, nI_1, sw_e, LQ1, LQ2]
              try exact nx
            · rw [gx_KB_end y y2] at h1
              try simp only [pm_WV, pm_WW, true_and, and_true, true_or, or_true, and_self, reduceIte, Nat.reduceEqDiff, Nat.reduceLT, Nat.reduceLeDiff, Nat.reduceMul, false_and, and_false, reduceCtorEq, false_or, or_false, not_true_eq_false, not_false_eq_true, true_implies, false_implies, implies_true, lf_10, eq_self, Int32.reduceLT, Int32.reduceLE, Int32.reduceAdd, Int32.reduceSub, Int32.reduceDiv, Int32.reduceMul, pm_same, pm_i_wI, pm_l_wL, pm_l_wM, pm_oR_rf, pm_oQ_rf, sh_k5 hS, nI_1, sw_e, LQ1, LQ2, pm_WI0, pm_WI1, pm_WI2, pm_WI3, pm_WI4, pm_WI5, pm_WV, pm_WW, pm_WX, pb_B49, pm_if, pm_QI_at, pm_QL_at, pm_QV_at, pm_QR_at, pm_QR_at0, pm_QR_at1, Nat.reduceSub, Nat.reduceAdd, List.replicate_zero, List.replicate_succ]
              exact h1 x _ S3 rfl hr3'
          cases o with
          | none =>
            have hoB : oB none = 0 := rfl
            rw [hoB] at oj ⊢
            try simp only [pm_WV, pm_WW, true_and, and_true, true_or, or_true, and_self, reduceIte, Nat.reduceEqDiff, Nat.reduceLT, Nat.reduceLeDiff, Nat.reduceMul, false_and, and_false, reduceCtorEq, false_or, or_false, not_true_eq_false, not_false_eq_true, true_implies, false_implies, implies_true, lf_10, eq_self, Int32.reduceLT, Int32.reduceLE, Int32.reduceAdd, Int32.reduceSub, Int32.reduceDiv, Int32.reduceMul, pm_same, pm_i_wI, pm_l_wL, pm_l_wM, pm_oR_rf, pm_oQ_rf, sh_k5 hS, nI_1, sw_e, LQ1, LQ2, pm_WI0, pm_WI1, pm_WI2, pm_WI3, pm_WI4, pm_WI5, pm_WV, pm_WW, pm_WX, pb_B49, pm_if, pm_QI_at, pm_QL_at, pm_QV_at, pm_QR_at, pm_QR_at0, pm_QR_at1, Nat.reduceSub, Nat.reduceAdd, List.replicate_zero, List.replicate_succ]
            exact oj hr2 S2 (hr2.L (by simp [gx_oj]))
          | some u =>
            have hoB : oB (some u) = 1 := rfl
            rw [hoB] at oj ⊢
            try simp only [pm_WV, pm_WW, true_and, and_true, true_or, or_true, and_self, reduceIte, Nat.reduceEqDiff, Nat.reduceLT, Nat.reduceLeDiff, Nat.reduceMul, false_and, and_false, reduceCtorEq, false_or, or_false, not_true_eq_false, not_false_eq_true, true_implies, false_implies, implies_true, lf_10, eq_self, Int32.reduceLT, Int32.reduceLE, Int32.reduceAdd, Int32.reduceSub, Int32.reduceDiv, Int32.reduceMul, pm_same, pm_i_wI, pm_l_wL, pm_l_wM, pm_oR_rf, pm_oQ_rf, sh_k5 hS, nI_1, sw_e, LQ1, LQ2, pm_WI0, pm_WI1, pm_WI2, pm_WI3, pm_WI4, pm_WI5, pm_WV, pm_WW, pm_WX, pb_B49, pm_if, pm_QI_at, pm_QL_at, pm_QV_at, pm_QR_at, pm_QR_at0, pm_QR_at1, Nat.reduceSub, Nat.reduceAdd, List.replicate_zero, List.replicate_succ, hr5, hkD]
            have hl3 : (L.2.2 ++ ((some u).getD [] ++ gx_aj a s)).length < 160 := by
              try simp only [List.length_append, oN] at hb2 ⊢; omega
            refine ⟨by omega, rd_38 (k := 10) (s := 0) (m := 0) hd0 hr2 hl3 (by omega) (by omega) (by omega) (fun S3 hr4 => oj hr2 S3 (hr4.L ?_))⟩
            show (L.1, L.2.1, (L.2.2 ++ (u ++ gx_aj a s)) ++ [gx_st 10 0 0]) = (L.1, L.2.1, L.2.2 ++ (u ++ (gx_aj a s ++ [10])))
            simp [gx_st]
      have hS1 := hr1.sh hS0
      have hdl1 := hr1.todl hd0
      have hr51 : pm_r S1 5 3 = some D := hdl1.1
      have hkD1 : pm_k S1 D = 5 := hdl1.2.1
      have hk51 : pm_k S1 5 = 6 := sh_k5 hS1
      cases a with
      | none =>
        have hoB : oB none = 0 := rfl
        rw [hoB] at mid ⊢
        refine ⟨fun z => absurd z (by decide), fun _ => ?_⟩
        refine pm_wb_ok pb_c49 1 25 0 _ _ _ _ _ ?_
        try simp only [pm_WI0, pm_WI1, pm_WI2, pm_WI3, pm_WI4, pm_WI5, pm_WV, pm_WW, pm_WX, pb_B49, pm_if, pm_QI_at, pm_QL_at, pm_QV_at, pm_QR_at, pm_QR_at0, pm_QR_at1, Nat.reduceSub, Nat.reduceAdd, List.replicate_zero, List.replicate_succ, true_and, and_true, true_or, or_true, and_self, reduceIte, Nat.reduceEqDiff, Nat.reduceLT, Nat.reduceLeDiff, Nat.reduceMul, false_and, and_false, reduceCtorEq, false_or, or_false, not_true_eq_false, not_false_eq_true, true_implies, false_implies, implies_true, lf_10, eq_self, Int32.reduceLT, Int32.reduceLE, Int32.reduceAdd, Int32.reduceSub, Int32.reduceDiv, Int32.reduceMul, pm_same, pm_i_wI, pm_l_wL, pm_l_wM, pm_oR_rf, pm_oQ_rf, sh_k5 hS, nI_1, sw_e, LQ1, LQ2, hr51, hkD1, hk51]
        refine mid S1 (hr1.L ?_) ?_
        · show (L.1, L.2.1, (L.2.2 ++ (o.getD [] ++ [])) ++ s) = (L.1, L.2.1, L.2.2 ++ (o.getD [] ++ s))
          simp
        · show (o.getD [] ++ s).length + oN o + p0 ≤ x
          try simp only [Option.getD, List.append_nil, List.length_append, oN] at hb ⊢; omega
      | some t =>
        have hoB : oB (some t) = 1 := rfl
        rw [hoB] at mid ⊢
        refine ⟨fun z => absurd z (by decide), fun _ => ?_⟩
        refine pm_wb_ok pb_c49 1 25 0 _ _ _ _ _ ?_
        try simp only [pm_WI0, pm_WI1, pm_WI2, pm_WI3, pm_WI4, pm_WI5, pm_WV, pm_WW, pm_WX, pb_B49, pm_if, pm_QI_at, pm_QL_at, pm_QV_at, pm_QR_at, pm_QR_at0, pm_QR_at1, Nat.reduceSub, Nat.reduceAdd, List.replicate_zero, List.replicate_succ, true_and, and_true, true_or, or_true, and_self, reduceIte, Nat.reduceEqDiff, Nat.reduceLT, Nat.reduceLeDiff, Nat.reduceMul, false_and, and_false, reduceCtorEq, false_or, or_false, not_true_eq_false, not_false_eq_true, true_implies, false_implies, implies_true, lf_10, eq_self, Int32.reduceLT, Int32.reduceLE, Int32.reduceAdd, Int32.reduceSub, Int32.reduceDiv, Int32.reduceMul, pm_same, pm_i_wI, pm_l_wL, pm_l_wM, pm_oR_rf, pm_oQ_rf, sh_k5 hS, nI_1, sw_e, LQ1, LQ2, hr51, hkD1, hk51]
        have hl3 : (L.2.2 ++ (o.getD [] ++ (some t).getD []) ++ s).length < 160 := by
          try simp only [List.length_append, oN] at hb ⊢; omega
        refine ⟨by omega, rd_38 (k := 9) (s := 0) (m := 0) hd0 hr1 hl3 (by omega) (by omega) (by omega) (fun S3 hr4 => mid S3 (hr4.L ?_) ?_)⟩
        · show (L.1, L.2.1, (L.2.2 ++ (o.getD [] ++ t) ++ s) ++ [gx_st 9 0 0]) = (L.1, L.2.1, L.2.2 ++ (o.getD [] ++ (t ++ (s ++ [9]))))
          simp [gx_st]
        · show (o.getD [] ++ (t ++ (s ++ [9]))).length + oN o + p0 ≤ x
          try simp only [Option.getD, List.length_append, List.length_singleton, oN] at hb ⊢; omega
    · have eKA : gx_KA (gx_F (gx_b (pm_i S0 6) n) 160 k) (gx_b (pm_i S0 6) n) 160 gT gE a o p = (x, none) := by unfold gx_KA; rw [gx_bd_none he]
      try simp only [pm_WV, pm_WW, true_and, and_true, true_or, or_true, and_self, reduceIte, Nat.reduceEqDiff, Nat.reduceLT, Nat.reduceLeDiff, Nat.reduceMul, false_and, and_false, reduceCtorEq, false_or, or_false, not_true_eq_false, not_false_eq_true, true_implies, false_implies, implies_true, lf_10, eq_self, Int32.reduceLT, Int32.reduceLE, Int32.reduceAdd, Int32.reduceSub, Int32.reduceDiv, Int32.reduceMul, pm_same, pm_i_wI, pm_l_wL, pm_l_wM, pm_oR_rf, pm_oQ_rf, sh_k5 hS, nI_1, sw_e, LQ1, LQ2, pm_WI0, pm_WI1, pm_WI2, pm_WI3, pm_WI4, pm_WI5, pm_WV, pm_WW, pm_WX, pb_B49, pm_if, pm_QI_at, pm_QL_at, pm_QV_at, pm_QR_at, pm_QR_at0, pm_QR_at1, Nat.reduceSub, Nat.reduceAdd, List.replicate_zero, List.replicate_succ]
      refine h0 x ((o.getD [] ++ a.getD []) ++ s) S1 eKA (hr1.L ?_) ?_
      · show (L.1, L.2.1, (L.2.2 ++ (o.getD [] ++ a.getD [])) ++ s) = _
        rw [List.append_assoc]
      · rw [List.length_append]; omega
theorem rd_49 (hS0 : Sh S0) (hd0 : dl S0 D W) {k : Nat} (hF : cFC G S0 D W n k) : cEC G S0 D W n k := by
  intro d S p L q hd hr hl h1 h0
  have hS := hr.sh hS0
  have hdl := hr.todl hd0
  have ht := hr.text hd0
  have hr3 := hr.2.2.1
  have hn := hr3.2.2.2.1
  have hpn := hr3.2.2.1
  have hr5 : pm_r S 5 3 = some D := hdl.1
  have hkD : pm_k S D = 5 := hdl.2.1
  have rB : gx_b (pm_i S 6) n = gx_b (pm_i S0 6) n := by rw [ht]
  refine pm_goI 49 1 pb_c49 (by decide) (Nat.le_of_ble_eq_true rfl) rfl ?_
  try simp only [show pm_mL 49 = 5 from rfl, pm_WI0, pm_WI1, pm_WI2, pm_WI3, pm_WI4, pm_WI5, pm_WV, pm_WW, pm_WX, pb_B49, pm_if, pm_QI_at, pm_QL_at, pm_QV_at, pm_QR_at, pm_QR_at0, pm_QR_at1, Nat.reduceSub, Nat.reduceAdd, List.replicate_zero, List.replicate_succ, true_and, and_true, true_or, or_true, and_self, reduceIte, Nat.reduceEqDiff, Nat.reduceLT, Nat.reduceLeDiff, Nat.reduceMul, false_and, and_false, reduceCtorEq, false_or, or_false, not_true_eq_false, not_false_eq_true, true_implies, false_implies, implies_true, lf_10, eq_self, Int32.reduceLT, Int32.reduceLE, Int32.reduceAdd, Int32.reduceSub, Int32.reduceDiv, Int32.reduceMul, pm_same, pm_i_wI, pm_l_wL, pm_l_wM, pm_oR_rf, pm_oQ_rf, sh_k5 hS, nI_1, sw_e, LQ1, LQ2]
  refine rd49_7 hS0 hd0 hF hd (L := L) (p0 := p) hl (n + 2 - p) 0 p none none 160 160 S (by omega) (by omega) (by omega) (by omega) (by omega) (hr.L (by simp)) (by simp [oN]) (fun x e S' he hS' => h1 x e S' (by show gx_EE _ _ 160 p = _; rw [gx_KA_0]; exact he) hS') (fun x e S' he hS' hle => h0 x e S' (by show gx_EE _ _ 160 p = _; rw [gx_KA_0]; exact he) hS' hle)
theorem rd_allE (hS0 : Sh S0) (hd0 : dl S0 D W) : ∀ k, k ≤ 6 → cEC G S0 D W n k := by
  intro k
  induction k using Nat.strongRecOn with
  | ind k ih => intro hk; exact rd_49 hS0 hd0 (rd_50 hS0 hd0 hk (fun k' hk' => ih k' hk' (by omega)))
/-- the class reads an E -/
theorem rd_e (hS0 : Sh S0) (hd0 : dl S0 D W) {d : Nat} (hd : 20 ≤ d) {S : pm_S} {p : Nat} {L : gx_L} {q : Int32 → pm_S → Prop} (hr : rs S0 D W n S p L) (hl : L.2.2.length ≤ p) (h1 : ∀ x e S', gx_e (gx_b (pm_i S0 6) n) p = (x, some e) → rs S0 D W n S' x (L.1, L.2.1, L.2.2 ++ e) → q 1 S') (h0 : ∀ x e S', gx_e (gx_b (pm_i S0 6) n) p = (x, none) → rs S0 D W n S' x (L.1, L.2.1, L.2.2 ++ e) → e.length + p ≤ x → q 0 S') : pm_CI G d 49 [.ref 5, .int 0] S q :=
  rd_allE hS0 hd0 6 (by omega) d S p L q (by omega) hr hl h1 h0
end CRD
/-! the model reads a LAW -/
def lfr (S T : pm_S) : Prop := sc S T ∧ pm_i T 59 45 = pm_i S 59 45 ∧ pm_i T 59 47 = pm_i S 59 47 ∧ pm_i T 59 50 = pm_i S 59 50 ∧ pm_i T 59 51 = pm_i S 59 51
theorem lfr.rf {S : pm_S} : lfr S S := ⟨sc.rf, rfl, rfl, rfl, rfl⟩
theorem lfr.tr {S T U : pm_S} (h : lfr S T) (h' : lfr T U) : lfr S U := ⟨h.1.tr h'.1, h'.2.1.trans h.2.1, h'.2.2.1.trans h.2.2.1, h'.2.2.2.1.trans h.2.2.2.1, h'.2.2.2.2.trans h.2.2.2.2⟩
theorem lfr.w {S T : pm_S} {j : Nat} {v : Int32} (h : lfr S T) (h1 : 52 ≤ j) (h2 : j ≤ 63) : lfr S (pm_wI T 59 j v) := by
  refine ⟨h.1.wI (by unfold sc_q; omega), ?_, ?_, ?_, ?_⟩ <;> rw [pm_i_wI, if_neg (by omega)]
  · exact h.2.1
  · exact h.2.2.1
  · exact h.2.2.2.1
  · exact h.2.2.2.2
theorem lfr.wr {S T : pm_S} {p j : Nat} {v : Int32} (h : lfr S T) (h1 : 95 ≤ p) (h2 : p ≤ 97) : lfr S (pm_wI T p j v) := by
  refine ⟨h.1.wI (by unfold sc_q; omega), ?_, ?_, ?_, ?_⟩ <;> rw [pm_i_wI, if_neg (by omega)]
  · exact h.2.1
  · exact h.2.2.1
  · exact h.2.2.2.1
  · exact h.2.2.2.2
/-- all that reading an E asks of a state -/
def cx (S : pm_S) (f : Nat → Int32) (n : Nat) (t : Nat → Bool) : Prop := Sh S ∧ mrc S f n ∧ iv_c S 18 ≤ 40 ∧ pm_i S 59 24 = nI (iv_c S 24) ∧ iv_c S 24 ≤ 150 ∧ tq S t
theorem cx.fr {S T : pm_S} {f : Nat → Int32} {n : Nat} {t : Nat → Bool} (h : cx S f n t) (hf : lfr S T) : cx T f n t := by
  obtain ⟨h1, ⟨m1, m2, m3, m4⟩, h3, h4, h5, h6⟩ := h
  obtain ⟨s, f1, f2, f3, f4⟩ := hf
  refine ⟨s.sh h1, ⟨by rw [f2]; exact m1, m2, m3, ?_⟩, by rw [s.c (by omega)]; exact h3, by rw [s.m24, s.c (by omega)]; exact h4, by rw [s.c (by omega)]; exact h5, ?_⟩
  · rcases m4 with ⟨a, b⟩ | ⟨l, a, b, c⟩
    · exact Or.inl ⟨by rw [f1]; exact a, by rw [s.r80]; exact b⟩
    · refine Or.inr ⟨l, a, by rw [f1]; exact b, ?_⟩
      rw [c]; unfold iv_txt; rw [s.r81]
  · rcases h6 with ⟨a, b⟩ | ⟨m, a, b, c⟩
    · exact Or.inl ⟨by rw [f3]; exact a, b⟩
    · exact Or.inr ⟨m, by rw [s.c (by omega)]; exact a, by rw [f3]; exact b, by rw [f4, tv_me s.me]; exact c⟩
theorem ms_wf {S : pm_S} {o j : Nat} {r : gx_R Unit} {v : Int32} (h : j ≠ 46 ∧ j ≠ 48 ∧ j ≠ 49) : pm_wI (ms S o r) 59 j v = ms (pm_wI S 59 j v) o r := by
  unfold ms mst
  rw [pm_wI_comm (q := 59) (k := j) (by omega), pm_wI_comm (q := 59) (k := j) (by omega), pm_wI_comm (q := 59) (k := j) (by omega)]
theorem ms_wr {S : pm_S} {o p j : Nat} {r : gx_R Unit} {v : Int32} (h : p ≠ 59) : pm_wI (ms S o r) p j v = ms (pm_wI S p j v) o r := by
  unfold ms mst
  rw [pm_wI_comm (q := p) (k := j) (by omega), pm_wI_comm (q := p) (k := j) (by omega), pm_wI_comm (q := p) (k := j) (by omega)]
/-- the model's rows say L under t -/
def mlr (T : pm_S) (t : Nat → Bool) (L : gx_L) : Prop := pm_i T 59 63 = nI L.1.length ∧ (∀ k, k < L.1.length → pm_i T 95 k = nI (L.1.getD k gx_o0).1 ∧ pm_i T 96 k = nI (L.1.getD k gx_o0).2.1 ∧ pm_i T 97 k = bI (lo_h t L.2.2 (L.1.getD k gx_o0))) ∧ pm_i T 59 52 = bI (ld_reach t L) ∧ ∀ f, 10 ≤ f → f ≤ 16 → pm_i T 59 (43 + f) = nI (L.2.1 f)
theorem mlr.cg {T U : pm_S} {t : Nat → Bool} {L : gx_L} (h : mlr T t L) (h1 : ∀ j, 52 ≤ j → j ≤ 63 → pm_i U 59 j = pm_i T 59 j) (h2 : ∀ p, 95 ≤ p → p ≤ 97 → pm_i U p = pm_i T p) : mlr U t L := by
  obtain ⟨a, b, c, d⟩ := h
  refine ⟨by rw [h1 63 (by omega) (by omega)]; exact a, fun k hk => ?_, by rw [h1 52 (by omega) (by omega)]; exact c, fun f f1 f2 => by rw [h1 (43 + f) (by omega) (by omega)]; exact d f f1 f2⟩
  rw [h2 95 (by omega) (by omega), h2 96 (by omega) (by omega), h2 97 (by omega) (by omega)]; exact b k hk
theorem mlr.num {T : pm_S} {t : Nat → Bool} {L : gx_L} {f v j : Nat} (h : mlr T t L) (hf : 10 ≤ f) (hf2 : f ≤ 16) (hj : j = 43 + f) : mlr (pm_wI T 59 j (nI v)) t (L.1, va_up L.2.1 f v, L.2.2) := by
  subst hj
  obtain ⟨a, b, c, d⟩ := h
  have e8 : va_up L.2.1 f v 8 = L.2.1 8 := by unfold va_up; rw [if_neg (by omega)]
  have e9 : va_up L.2.1 f v 9 = L.2.1 9 := by unfold va_up; rw [if_neg (by omega)]
  refine ⟨by rw [pm_i_wI, if_neg (by omega)]; exact a, fun k hk => ?_, ?_, fun f' f1 f2 => ?_⟩
  · rw [pm_i_wI_ne (by decide), pm_i_wI_ne (by decide), pm_i_wI_ne (by decide)]; exact b k hk
  · rw [pm_i_wI, if_neg (by omega), c]
    unfold ld_reach
    try simp only [e8, e9]
  · rw [pm_i_wI]
    by_cases e : f' = f
    · subst e; rw [if_pos ⟨rfl, rfl⟩]; simp [va_up]
    · rw [if_neg (by omega), d f' f1 f2]; simp [va_up, e]
theorem mlr.reach {T : pm_S} {t : Nat → Bool} {L : gx_L} {e : List Nat} {c p : Nat} (h : mlr T t L) (hw : gx_wf t L c p) : mlr (pm_wI T 59 52 (bI (gx_hv t e))) t (L.1, va_up (va_up L.2.1 8 L.2.2.length) 9 (L.2.2.length + e.length), L.2.2 ++ e) := by
  obtain ⟨a, b, c', d⟩ := h
  refine ⟨by rw [pm_i_wI, if_neg (by omega)]; exact a, fun k hk => ?_, ?_, fun f' f1 f2 => ?_⟩
  · rw [pm_i_wI_ne (by decide), pm_i_wI_ne (by decide), pm_i_wI_ne (by decide)]
    have hm : L.1.getD k gx_o0 ∈ L.1 := by
      have hk' : k < L.1.length := hk
      rw [List.getD_eq_getElem?_getD, List.getElem?_eq_getElem hk']; exact List.getElem_mem hk'
    have := b k hk
    rw [← lo_h_app (e := e) (hw.2.1 _ hm)] at this
    exact this
  · rw [pm_i_wI, if_pos ⟨rfl, rfl⟩]
    have e8 : va_up (va_up L.2.1 8 L.2.2.length) 9 (L.2.2.length + e.length) 8 = L.2.2.length := by simp [va_up]
    have e9 : va_up (va_up L.2.1 8 L.2.2.length) 9 (L.2.2.length + e.length) 9 = L.2.2.length + e.length := by simp [va_up]
    unfold ld_reach
    try simp only [e8, e9]
    rw [gx_sub_new]
  · rw [pm_i_wI, if_neg (by omega), d f' f1 f2]
    show _ = nI (va_up (va_up L.2.1 8 L.2.2.length) 9 (L.2.2.length + e.length) f')
    unfold va_up; rw [if_neg (by omega), if_neg (by omega)]
theorem mlr.owe {T : pm_S} {t : Nat → Bool} {L : gx_L} {e : List Nat} {c p s n wn : Nat} (h : mlr T t L) (hw : gx_wf t L c p) {hb : Int32} (hh : hb = bI (lo_h t (L.2.2 ++ e) (s, n, wn, L.2.2.length, L.2.2.length + e.length))) : mlr (pm_wI (pm_wI (pm_wI (pm_wI T 95 L.1.length (nI s)) 96 L.1.length (nI n)) 97 L.1.length hb) 59 63 (nI (L.1.length + 1))) t (L.1 ++ [(s, n, wn, L.2.2.length, L.2.2.length + e.length)], L.2.1, L.2.2 ++ e) := by
  obtain ⟨a, b, c', d⟩ := h
  refine ⟨by rw [pm_i_wI, if_pos ⟨rfl, rfl⟩]; simp, fun k hk => ?_, ?_, fun f' f1 f2 => ?_⟩
  · rw [pm_i_wI_ne (p' := 95) (by decide), pm_i_wI_ne (p' := 96) (by decide), pm_i_wI_ne (p' := 97) (by decide), pm_i_wI_ne (p' := 95) (by decide), pm_i_wI_ne (p' := 96) (by decide), pm_i_wI_ne (p' := 95) (by decide), pm_i_wI, pm_i_wI (p := 96), pm_i_wI (p := 97), pm_i_wI_ne (p' := 96) (by decide), pm_i_wI_ne (p' := 97) (by decide), pm_i_wI_ne (p' := 97) (by decide)]
    by_cases hkl : k = L.1.length
    · subst hkl
      rw [if_pos ⟨rfl, rfl⟩, if_pos ⟨rfl, rfl⟩, if_pos ⟨rfl, rfl⟩]
      have : (L.1 ++ [(s, n, wn, L.2.2.length, L.2.2.length + e.length)]).getD L.1.length gx_o0 = (s, n, wn, L.2.2.length, L.2.2.length + e.length) := by
        rw [List.getD_eq_getElem?_getD, List.getElem?_append_right (Nat.le_refl _)]; simp
      try simp only [this]
      exact ⟨trivial, trivial, hh⟩
    · have hk2 : k < L.1.length := by simp at hk; omega
      rw [if_neg (fun z => hkl z.2), if_neg (fun z => hkl z.2), if_neg (fun z => hkl z.2)]
      have : (L.1 ++ [(s, n, wn, L.2.2.length, L.2.2.length + e.length)]).getD k gx_o0 = L.1.getD k gx_o0 := by
        rw [List.getD_eq_getElem?_getD, List.getElem?_append_left hk2, List.getD_eq_getElem?_getD]
      try simp only [this]
      have hm : L.1.getD k gx_o0 ∈ L.1 := by
        rw [List.getD_eq_getElem?_getD, List.getElem?_eq_getElem hk2]; exact List.getElem_mem hk2
      rw [lo_h_app (hw.2.1 _ hm)]
      exact b k hk2
  · rw [pm_i_wI, if_neg (by omega), pm_i_wI_ne (by decide), pm_i_wI_ne (by decide), pm_i_wI_ne (by decide), c', ld_reach_app hw]
  · rw [pm_i_wI, if_neg (by omega), pm_i_wI_ne (by decide), pm_i_wI_ne (by decide), pm_i_wI_ne (by decide)]; exact d f' f1 f2
theorem gx_bd_w_le {f : Nat → Int32} {n : Nat} {r : gx_R Unit} {l : List Nat} (hr : r.1 ≤ n) (hl : ∀ c, c ∈ l → c < 256) : (gx_bd r (fun _ p => gx_w (gx_b f n) l p)).1 ≤ n := gx_bd_le hr (fun _ p hp => (gx_w_le gx_b_eof l p hp hl).1)
theorem gx_num_le {f : Nat → Int32} {n least most p : Nat} (hm : 1 ≤ most) (hp : p ≤ n) : (gx_num (gx_b f n) least most p).1 ≤ n := by
  rcases gx_two (gx_num (gx_b f n) least most p) with ⟨x, ex⟩ | ⟨x, v, ex⟩
  · have := gx_num_no ex; rw [ex]; show x ≤ n; omega
  · have := gx_num_ok gx_b_eof hm ex; rw [ex]; exact this.2.1
theorem gx_bd_num_le {f : Nat → Int32} {n least most : Nat} {r : gx_R Unit} (hm : 1 ≤ most) (hr : r.1 ≤ n) : (un (gx_bd r (fun _ p => gx_num (gx_b f n) least most p))).1 ≤ n := by
  rw [un_le]; exact gx_bd_le hr (fun _ p hp => gx_num_le hm hp)
theorem mr_199 {G : pm_G} {d : Nat} {S : pm_S} {f : Nat → Int32} {n : Nat} {o : Nat} {r : gx_R Unit} {L : Int64} {cs : List Nat} {q : Int32 → pm_S → Prop} (hd : 5 ≤ d) (hS : Sh S) (hm : mrc S f n) (hr : r.1 ≤ n) (hl : cs.length = 12) (hk : wk L cs) (hz : ∀ c, c ∈ wz cs → c < 256) (h : q (vo (gx_bd (gx_bd (gx_bd r (fun _ p => gx_w (gx_b f n) (wz cs) p)) (fun _ p => gx_w (gx_b f n) [32] p)) (fun _ p => gx_num (gx_b f n) 0 4 p))) (ms S o (un (gx_bd (gx_bd (gx_bd r (fun _ p => gx_w (gx_b f n) (wz cs) p)) (fun _ p => gx_w (gx_b f n) [32] p)) (fun _ p => gx_num (gx_b f n) 0 4 p))))) : pm_CI G d 199 [.ref 59, .long L] (ms S o r) q := by
  refine pm_goI 199 2 pb_c199 (by decide) (Nat.le_of_ble_eq_true rfl) rfl ?_
  try simp only [show pm_mL 199 = 3 from rfl, pm_WI0, pm_WI1, pm_WI2, pm_WI3, pm_WI4, pm_WI5, pm_WV, pm_WW, pm_WX, pb_B199, pm_if, pm_QI_at, pm_QL_at, pm_QV_at, pm_QR_at, pm_QR_at0, pm_QR_at1, Nat.reduceSub, Nat.reduceAdd, List.replicate_zero, List.replicate_succ, true_and, and_true, true_or, or_true, and_self, reduceIte, Nat.reduceEqDiff, Nat.reduceLT, Nat.reduceLeDiff, Nat.reduceMul, false_and, and_false, reduceCtorEq, false_or, or_false, not_true_eq_false, not_false_eq_true, true_implies, false_implies, implies_true, lf_10, eq_self, Int32.reduceLT, Int32.reduceLE, Int32.reduceAdd, Int32.reduceSub, pm_same, pm_i_wI, pm_l_wL, pm_l_wM, pm_oR_rf, pm_oQ_rf, sh_k59 hS, sh_r59_25 hS, sh_k80 hS, sh_z80 hS, sh_r59_27 hS, sh_k81 hS, sh_z81 hS, mst_w46, mst_w48, mst_w49, mst_46, mst_48, mst_49, mst_k, mst_z, mst_r, mst_n, mst_l, mst_R62, mst_R64, mst_R65, mst_R66, mst_R67, mst_R78, mst_R80, mst_R81, mst_F18, mst_F24, mst_F45, mst_F47, mst_F50, mst_F51, nI_1, LQ1, LQ2, LQ4, LQ1, LQ2, ms_k, ms_z, ms_r, ms_49, ms_w49, ms_R62, ms_R64, ms_R65, ms_R66, ms_R67, ms_R75, ms_R76, ms_R77, ms_R78, ms_R79, ms_R80, ms_R81, ms_R95, ms_R96, ms_R97, ms_F0, ms_F2, ms_F18, ms_F24, ms_F31, ms_F26, ms_F45, ms_F47, ms_F50, ms_F51, ms_F52, ms_F53, ms_F54, ms_F55, ms_F56, ms_F57, ms_F58, ms_F59, ms_F60, ms_F61, ms_F62, ms_F63]
  have h1 := gx_bd_w_le (f := f) hr hz
  have h2 := gx_bd_w_le (f := f) (l := [32]) h1 (by decide)
  refine ⟨by omega, mr_184 (by omega) hS hm hr hl hk ?_⟩
  try simp only [pm_WV, pm_WW, true_and, and_true, true_or, or_true, and_self, reduceIte, Nat.reduceEqDiff, Nat.reduceLT, Nat.reduceLeDiff, Nat.reduceMul, false_and, and_false, reduceCtorEq, false_or, or_false, not_true_eq_false, not_false_eq_true, true_implies, false_implies, implies_true, lf_10, eq_self, Int32.reduceLT, Int32.reduceLE, Int32.reduceAdd, Int32.reduceSub, pm_same, pm_i_wI, pm_l_wL, pm_l_wM, pm_oR_rf, pm_oQ_rf, sh_k59 hS, sh_r59_25 hS, sh_k80 hS, sh_z80 hS, sh_r59_27 hS, sh_k81 hS, sh_z81 hS, mst_w46, mst_w48, mst_w49, mst_46, mst_48, mst_49, mst_k, mst_z, mst_r, mst_n, mst_l, mst_R62, mst_R64, mst_R65, mst_R66, mst_R67, mst_R78, mst_R80, mst_R81, mst_F18, mst_F24, mst_F45, mst_F47, mst_F50, mst_F51, nI_1, LQ1, LQ2, LQ4, LQ1, LQ2, ms_k, ms_z, ms_r, ms_49, ms_w49, ms_R62, ms_R64, ms_R65, ms_R66, ms_R67, ms_R75, ms_R76, ms_R77, ms_R78, ms_R79, ms_R80, ms_R81, ms_R95, ms_R96, ms_R97, ms_F0, ms_F2, ms_F18, ms_F24, ms_F31, ms_F26, ms_F45, ms_F47, ms_F50, ms_F51, ms_F52, ms_F53, ms_F54, ms_F55, ms_F56, ms_F57, ms_F58, ms_F59, ms_F60, ms_F61, ms_F62, ms_F63, pm_WI0, pm_WI1, pm_WI2, pm_WI3, pm_WI4, pm_WI5, pm_WV, pm_WW, pm_WX, pb_B199, pm_if, pm_QI_at, pm_QL_at, pm_QV_at, pm_QR_at, pm_QR_at0, pm_QR_at1, Nat.reduceSub, Nat.reduceAdd, List.replicate_zero, List.replicate_succ]
  refine ⟨by omega, mr_185 (c := 32) (by omega) hS hm h1 (by omega) ?_⟩
  try simp only [pm_WV, pm_WW, true_and, and_true, true_or, or_true, and_self, reduceIte, Nat.reduceEqDiff, Nat.reduceLT, Nat.reduceLeDiff, Nat.reduceMul, false_and, and_false, reduceCtorEq, false_or, or_false, not_true_eq_false, not_false_eq_true, true_implies, false_implies, implies_true, lf_10, eq_self, Int32.reduceLT, Int32.reduceLE, Int32.reduceAdd, Int32.reduceSub, pm_same, pm_i_wI, pm_l_wL, pm_l_wM, pm_oR_rf, pm_oQ_rf, sh_k59 hS, sh_r59_25 hS, sh_k80 hS, sh_z80 hS, sh_r59_27 hS, sh_k81 hS, sh_z81 hS, mst_w46, mst_w48, mst_w49, mst_46, mst_48, mst_49, mst_k, mst_z, mst_r, mst_n, mst_l, mst_R62, mst_R64, mst_R65, mst_R66, mst_R67, mst_R78, mst_R80, mst_R81, mst_F18, mst_F24, mst_F45, mst_F47, mst_F50, mst_F51, nI_1, LQ1, LQ2, LQ4, LQ1, LQ2, ms_k, ms_z, ms_r, ms_49, ms_w49, ms_R62, ms_R64, ms_R65, ms_R66, ms_R67, ms_R75, ms_R76, ms_R77, ms_R78, ms_R79, ms_R80, ms_R81, ms_R95, ms_R96, ms_R97, ms_F0, ms_F2, ms_F18, ms_F24, ms_F31, ms_F26, ms_F45, ms_F47, ms_F50, ms_F51, ms_F52, ms_F53, ms_F54, ms_F55, ms_F56, ms_F57, ms_F58, ms_F59, ms_F60, ms_F61, ms_F62, ms_F63, pm_WI0, pm_WI1, pm_WI2, pm_WI3, pm_WI4, pm_WI5, pm_WV, pm_WW, pm_WX, pb_B199, pm_if, pm_QI_at, pm_QL_at, pm_QV_at, pm_QR_at, pm_QR_at0, pm_QR_at1, Nat.reduceSub, Nat.reduceAdd, List.replicate_zero, List.replicate_succ]
  exact ⟨by omega, mr_189 (most := 4) (by omega) hS hm h2 (by omega) (by omega) h⟩
def go_1 (B : Nat → Nat) (r : gx_R Unit) : gx_R Nat := gx_bd (gx_bd (gx_bd r (fun _ p => gx_w B [111, 119, 101] p)) (fun _ p => gx_w B [32] p)) (fun _ p => gx_num B 1 1 p)
def go_2 (B : Nat → Nat) (r : gx_R Unit) : gx_R Nat := gx_bd (gx_bd (un (go_1 B r)) (fun _ p => gx_w B [32] p)) (fun _ p => gx_num B 0 4 p)
def go_w (B : Nat → Nat) (q : Nat) : gx_R Unit := if B (q + 1) = 105 then gx_w B [105, 102, 32] (q + 1) else gx_w B [117, 110, 108, 101, 115, 115, 32] (q + 1)
def go_k (B : Nat → Nat) (L : gx_L) (s n q : Nat) : gx_R gx_L := if B q = 32 then gx_bd (go_w B q) (fun _ r => gx_bd (gx_e B r) (fun e r => (r, some (L.1 ++ [(s, n, if B (q + 1) = 105 then 1 else 2, L.2.2.length, L.2.2.length + e.length)], L.2.1, L.2.2 ++ e)))) else (q, some (L.1 ++ [(s, n, 0, L.2.2.length, L.2.2.length)], L.2.1, L.2.2))
theorem gx_bd_s {α β : Type} {p : Nat} {a : α} {f : α → Nat → gx_R β} : gx_bd (p, some a) f = f a p := rfl
theorem go_case {f : Nat → Int32} {n : Nat} {L : gx_L} {p : Nat} (hp : p ≤ n) : (∃ x, x ≤ n ∧ go_2 (gx_b f n) (p, some ()) = (x, none) ∧ gx_owe (gx_b f n) L p = (x, none)) ∨ ∃ s m x, vo (go_1 (gx_b f n) (p, some ())) = nI s ∧ go_2 (gx_b f n) (p, some ()) = (x, some m) ∧ gx_owe (gx_b f n) L p = go_k (gx_b f n) L s m x ∧ (1 ≤ s ∧ s ≤ 9) ∧ m < 10000 ∧ x ≤ n := by
  have eo : gx_owe (gx_b f n) L p = gx_bd (gx_w (gx_b f n) [111, 119, 101] p) (fun _ q => gx_bd (gx_w (gx_b f n) [32] q) (fun _ q => gx_bd (gx_num (gx_b f n) 1 1 q) (fun s q => gx_bd (gx_w (gx_b f n) [32] q) (fun _ q => gx_bd (gx_num (gx_b f n) 0 4 q) (fun m q => go_k (gx_b f n) L s m q))))) := by
    unfold gx_owe
    rw [show ([111, 119, 101, 32] : List Nat) = [111, 119, 101] ++ [32] from rfl, gx_w_app, gx_bd_assoc]
    rfl
  unfold go_2 go_1
  rw [eo]
  show (∃ x, x ≤ n ∧ gx_bd (gx_bd (un (gx_bd (gx_bd (gx_w (gx_b f n) [111, 119, 101] p) (fun _ p => gx_w (gx_b f n) [32] p)) (fun _ p => gx_num (gx_b f n) 1 1 p))) (fun _ p => gx_w (gx_b f n) [32] p)) (fun _ p => gx_num (gx_b f n) 0 4 p) = (x, none) ∧ _) ∨ ∃ s m x, vo (gx_bd (gx_bd (gx_w (gx_b f n) [111, 119, 101] p) (fun _ p => gx_w (gx_b f n) [32] p)) (fun _ p => gx_num (gx_b f n) 1 1 p)) = nI s ∧ gx_bd (gx_bd (un (gx_bd (gx_bd (gx_w (gx_b f n) [111, 119, 101] p) (fun _ p => gx_w (gx_b f n) [32] p)) (fun _ p => gx_num (gx_b f n) 1 1 p))) (fun _ p => gx_w (gx_b f n) [32] p)) (fun _ p => gx_num (gx_b f n) 0 4 p) = (x, some m) ∧ _
  rcases gx_two (gx_w (gx_b f n) [111, 119, 101] p) with ⟨x, ex⟩ | ⟨x, u, ex⟩
  · left; rw [ex]; exact ⟨x, (gx_w_ok gx_b_eof hp (by decide) ex).2, rfl, rfl⟩
  have hx := gx_w_ok gx_b_eof hp (by decide) ex
  rw [ex]
  try simp only [gx_bd_s]
  rcases gx_two (gx_w (gx_b f n) [32] x) with ⟨x2, ex2⟩ | ⟨x2, u2, ex2⟩
  · left; rw [ex2]; exact ⟨x2, (gx_w_ok gx_b_eof hx.2 (by decide) ex2).2, rfl, rfl⟩
  have hx2 := gx_w_ok gx_b_eof hx.2 (by decide) ex2
  rw [ex2]
  try simp only [gx_bd_s]
  rcases gx_two (gx_num (gx_b f n) 1 1 x2) with ⟨x3, ex3⟩ | ⟨x3, s, ex3⟩
  · left; rw [ex3]; exact ⟨x3, by have := gx_num_no ex3; omega, rfl, rfl⟩
  obtain ⟨a1, a2, a3⟩ := gx_num_ok gx_b_eof (by omega) ex3
  have a4 := gx_num_ge' ex3
  rw [ex3]
  try simp only [gx_bd_s, un_some]
  rcases gx_two (gx_w (gx_b f n) [32] x3) with ⟨x4, ex4⟩ | ⟨x4, u4, ex4⟩
  · left; rw [ex4]; exact ⟨x4, (gx_w_ok gx_b_eof a2 (by decide) ex4).2, rfl, rfl⟩
  have hx4 := gx_w_ok gx_b_eof a2 (by decide) ex4
  rw [ex4]
  try simp only [gx_bd_s]
  rcases gx_two (gx_num (gx_b f n) 0 4 x4) with ⟨x5, ex5⟩ | ⟨x5, m, ex5⟩
  · left; rw [ex5]; exact ⟨x5, by have := gx_num_no ex5; omega, rfl, rfl⟩
  obtain ⟨b1, b2, b3⟩ := gx_num_ok gx_b_eof (by omega) ex5
  right; rw [ex5]
  exact ⟨s, m, x5, rfl, rfl, rfl, ⟨a4, by omega⟩, by omega, b2⟩
theorem mr_182f {G : pm_G} {d : Nat} {S : pm_S} {x : Nat} {q : pm_S → Prop} {a b e g i : Value} (hS : Sh S) (hx : x < 2 ^ 31) (h : q (ms S 0 (x, none))) : pm_W G d 182 (pm_QV q) 136 [.ref 59, a, b, e, g, i] [] (ms S 0 (x, none)) 0 0 := by
  have hx0 : 0 ≤ nI x := nI_pos' hx
  have hms : ms S 0 (x, none) = mst S (nI x) (nI x) 0 := rfl
  rw [hms] at h ⊢
  refine pm_wb_ok pb_c182 3 136 0 _ _ _ _ _ ?_
  try simp only [pm_WI0, pm_WI1, pm_WI2, pm_WI3, pm_WI4, pm_WI5, pm_WV, pm_WW, pm_WX, pb_B182, pm_if, pm_QI_at, pm_QL_at, pm_QV_at, pm_QR_at, pm_QR_at0, pm_QR_at1, Nat.reduceSub, Nat.reduceAdd, List.replicate_zero, List.replicate_succ, true_and, and_true, true_or, or_true, and_self, reduceIte, Nat.reduceEqDiff, Nat.reduceLT, Nat.reduceLeDiff, Nat.reduceMul, false_and, and_false, reduceCtorEq, false_or, or_false, not_true_eq_false, not_false_eq_true, true_implies, false_implies, implies_true, lf_10, eq_self, Int32.reduceLT, Int32.reduceLE, Int32.reduceAdd, Int32.reduceSub, pm_same, pm_i_wI, pm_l_wL, pm_l_wM, pm_oR_rf, pm_oQ_rf, sh_k59 hS, sh_r59_25 hS, sh_k80 hS, sh_z80 hS, sh_r59_27 hS, sh_k81 hS, sh_z81 hS, mst_w46, mst_w48, mst_w49, mst_46, mst_48, mst_49, mst_k, mst_z, mst_r, mst_n, mst_l, mst_R62, mst_R64, mst_R65, mst_R66, mst_R67, mst_R78, mst_R80, mst_R81, mst_F18, mst_F24, mst_F45, mst_F47, mst_F50, mst_F51, nI_1, LQ1, LQ2, LQ4, LQ1, LQ2, ms_k, ms_z, ms_r, ms_49, ms_w49, ms_R62, ms_R64, ms_R65, ms_R66, ms_R67, ms_R75, ms_R76, ms_R77, ms_R78, ms_R79, ms_R80, ms_R81, ms_R95, ms_R96, ms_R97, ms_F0, ms_F2, ms_F18, ms_F24, ms_F31, ms_F26, ms_F45, ms_F47, ms_F50, ms_F51, ms_F52, ms_F53, ms_F54, ms_F55, ms_F56, ms_F57, ms_F58, ms_F59, ms_F60, ms_F61, ms_F62, ms_F63, sh_r59_60 hS, sh_k95 hS, sh_z95 hS, sh_r59_61 hS, sh_k96 hS, sh_z96 hS, sh_r59_62 hS, sh_k97 hS, sh_z97 hS, hx0]
  exact h
theorem mr_182s {G : pm_G} {d : Nat} {S : pm_S} {x s m k : Nat} {hb : Int32} {q : pm_S → Prop} {g i : Value} (hS : Sh S) (hk : pm_i S 59 63 = nI k) (hk2 : k < 10) (hhb : hb = 0 ∨ hb = 1) (h : q (ms (pm_wI (pm_wI (pm_wI (pm_wI S 95 k (nI s)) 96 k (nI m)) 97 k hb) 59 63 (nI (k + 1))) 0 (x, some ()))) : pm_W G d 182 (pm_QV q) 136 [.ref 59, .int (nI s), .int (nI m), .int hb, g, i] [] (ms S 0 (x, some ())) 0 0 := by
  have hms : ms S 0 (x, some ()) = mst S (nI x) (-1) 0 := rfl
  rw [← ms_wf (by decide), ← ms_wr (by decide), ← ms_wr (by decide), ← ms_wr (by decide), hms] at h
  rw [hms]
  have hcl := nI_clamp (n := k) (by omega)
  have hv := vp_in_nI (n := k) (N := 10) hk2 (by decide)
  refine pm_wb_ok pb_c182 3 136 0 _ _ _ _ _ ?_
  try simp only [pm_WI0, pm_WI1, pm_WI2, pm_WI3, pm_WI4, pm_WI5, pm_WV, pm_WW, pm_WX, pb_B182, pm_if, pm_QI_at, pm_QL_at, pm_QV_at, pm_QR_at, pm_QR_at0, pm_QR_at1, Nat.reduceSub, Nat.reduceAdd, List.replicate_zero, List.replicate_succ, true_and, and_true, true_or, or_true, and_self, reduceIte, Nat.reduceEqDiff, Nat.reduceLT, Nat.reduceLeDiff, Nat.reduceMul, false_and, and_false, reduceCtorEq, false_or, or_false, not_true_eq_false, not_false_eq_true, true_implies, false_implies, implies_true, lf_10, eq_self, Int32.reduceLT, Int32.reduceLE, Int32.reduceAdd, Int32.reduceSub, pm_same, pm_i_wI, pm_l_wL, pm_l_wM, pm_oR_rf, pm_oQ_rf, sh_k59 hS, sh_r59_25 hS, sh_k80 hS, sh_z80 hS, sh_r59_27 hS, sh_k81 hS, sh_z81 hS, mst_w46, mst_w48, mst_w49, mst_46, mst_48, mst_49, mst_k, mst_z, mst_r, mst_n, mst_l, mst_R62, mst_R64, mst_R65, mst_R66, mst_R67, mst_R78, mst_R80, mst_R81, mst_F18, mst_F24, mst_F45, mst_F47, mst_F50, mst_F51, nI_1, LQ1, LQ2, LQ4, LQ1, LQ2, ms_k, ms_z, ms_r, ms_49, ms_w49, ms_R62, ms_R64, ms_R65, ms_R66, ms_R67, ms_R75, ms_R76, ms_R77, ms_R78, ms_R79, ms_R80, ms_R81, ms_R95, ms_R96, ms_R97, ms_F0, ms_F2, ms_F18, ms_F24, ms_F31, ms_F26, ms_F45, ms_F47, ms_F50, ms_F51, ms_F52, ms_F53, ms_F54, ms_F55, ms_F56, ms_F57, ms_F58, ms_F59, ms_F60, ms_F61, ms_F62, ms_F63, sh_r59_60 hS, sh_k95 hS, sh_z95 hS, sh_r59_61 hS, sh_k96 hS, sh_z96 hS, sh_r59_62 hS, sh_k97 hS, sh_z97 hS, mst_R95, mst_R96, mst_R97, mst_F63, hk, hcl]
  exact ⟨hv, hv, hv, hhb, h⟩
theorem mr_182 {G : pm_G} {d : Nat} {S : pm_S} {f : Nat → Int32} {n : Nat} {t : Nat → Bool} {L : gx_L} {c p0 p : Nat} {q : pm_S → Prop} (hd : 28 ≤ d) (hcx : cx S f n t) (hw : gx_wf t L c p0) (hmlr : mlr S t L) (hc : c < 10) (hpp : p0 ≤ p) (hp : p ≤ n) (h1 : ∀ x L' T, gx_owe (gx_b f n) L p = (x, some L') → lfr S T → mlr T t L' → q (ms T 0 (x, some ()))) (h0 : ∀ x T, gx_owe (gx_b f n) L p = (x, none) → lfr S T → q (ms T 0 (x, none))) : pm_CV G d 182 [.ref 59] (ms S 0 (p, some ())) q := by
  obtain ⟨hS, hm, h18, h24, h24b, ht⟩ := id hcx
  have hn := hm.2.1
  have hr : ((p, some ()) : gx_R Unit).1 ≤ n := hp
  have r1 := gx_bd_w_le (f := f) (l := [111, 119, 101]) hr (by decide)
  have r2 := gx_bd_w_le (f := f) (l := [32]) r1 (by decide)
  have r3 := gx_bd_num_le (f := f) (least := 1) (most := 1) (by omega) r2
  have r4 := gx_bd_w_le (f := f) (l := [32]) r3 (by decide)
  refine pm_goV 182 1 pb_c182 (by decide) (Nat.le_of_ble_eq_true rfl) rfl ?_
  try simp only [show pm_mL 182 = 6 from rfl, pm_WI0, pm_WI1, pm_WI2, pm_WI3, pm_WI4, pm_WI5, pm_WV, pm_WW, pm_WX, pb_B182, pm_if, pm_QI_at, pm_QL_at, pm_QV_at, pm_QR_at, pm_QR_at0, pm_QR_at1, Nat.reduceSub, Nat.reduceAdd, List.replicate_zero, List.replicate_succ, true_and, and_true, true_or, or_true, and_self, reduceIte, Nat.reduceEqDiff, Nat.reduceLT, Nat.reduceLeDiff, Nat.reduceMul, false_and, and_false, reduceCtorEq, false_or, or_false, not_true_eq_false, not_false_eq_true, true_implies, false_implies, implies_true, lf_10, eq_self, Int32.reduceLT, Int32.reduceLE, Int32.reduceAdd, Int32.reduceSub, pm_same, pm_i_wI, pm_l_wL, pm_l_wM, pm_oR_rf, pm_oQ_rf, sh_k59 hS, sh_r59_25 hS, sh_k80 hS, sh_z80 hS, sh_r59_27 hS, sh_k81 hS, sh_z81 hS, mst_w46, mst_w48, mst_w49, mst_46, mst_48, mst_49, mst_k, mst_z, mst_r, mst_n, mst_l, mst_R62, mst_R64, mst_R65, mst_R66, mst_R67, mst_R78, mst_R80, mst_R81, mst_F18, mst_F24, mst_F45, mst_F47, mst_F50, mst_F51, nI_1, LQ1, LQ2, LQ4, LQ1, LQ2, ms_k, ms_z, ms_r, ms_49, ms_w49, ms_R62, ms_R64, ms_R65, ms_R66, ms_R67, ms_R75, ms_R76, ms_R77, ms_R78, ms_R79, ms_R80, ms_R81, ms_R95, ms_R96, ms_R97, ms_F0, ms_F2, ms_F18, ms_F24, ms_F31, ms_F26, ms_F45, ms_F47, ms_F50, ms_F51, ms_F52, ms_F53, ms_F54, ms_F55, ms_F56, ms_F57, ms_F58, ms_F59, ms_F60, ms_F61, ms_F62, ms_F63, sh_r59_60 hS, sh_k95 hS, sh_z95 hS, sh_r59_61 hS, sh_k96 hS, sh_z96 hS, sh_r59_62 hS, sh_k97 hS, sh_z97 hS]
  refine ⟨by omega, mr_183_owe ?_⟩
  try simp only [pm_WV, pm_WW, true_and, and_true, true_or, or_true, and_self, reduceIte, Nat.reduceEqDiff, Nat.reduceLT, Nat.reduceLeDiff, Nat.reduceMul, false_and, and_false, reduceCtorEq, false_or, or_false, not_true_eq_false, not_false_eq_true, true_implies, false_implies, implies_true, lf_10, eq_self, Int32.reduceLT, Int32.reduceLE, Int32.reduceAdd, Int32.reduceSub, pm_same, pm_i_wI, pm_l_wL, pm_l_wM, pm_oR_rf, pm_oQ_rf, sh_k59 hS, sh_r59_25 hS, sh_k80 hS, sh_z80 hS, sh_r59_27 hS, sh_k81 hS, sh_z81 hS, mst_w46, mst_w48, mst_w49, mst_46, mst_48, mst_49, mst_k, mst_z, mst_r, mst_n, mst_l, mst_R62, mst_R64, mst_R65, mst_R66, mst_R67, mst_R78, mst_R80, mst_R81, mst_F18, mst_F24, mst_F45, mst_F47, mst_F50, mst_F51, nI_1, LQ1, LQ2, LQ4, LQ1, LQ2, ms_k, ms_z, ms_r, ms_49, ms_w49, ms_R62, ms_R64, ms_R65, ms_R66, ms_R67, ms_R75, ms_R76, ms_R77, ms_R78, ms_R79, ms_R80, ms_R81, ms_R95, ms_R96, ms_R97, ms_F0, ms_F2, ms_F18, ms_F24, ms_F31, ms_F26, ms_F45, ms_F47, ms_F50, ms_F51, ms_F52, ms_F53, ms_F54, ms_F55, ms_F56, ms_F57, ms_F58, ms_F59, ms_F60, ms_F61, ms_F62, ms_F63, sh_r59_60 hS, sh_k95 hS, sh_z95 hS, sh_r59_61 hS, sh_k96 hS, sh_z96 hS, sh_r59_62 hS, sh_k97 hS, sh_z97 hS, pm_WI0, pm_WI1, pm_WI2, pm_WI3, pm_WI4, pm_WI5, pm_WV, pm_WW, pm_WX, pb_B182, pm_if, pm_QI_at, pm_QL_at, pm_QV_at, pm_QR_at, pm_QR_at0, pm_QR_at1, Nat.reduceSub, Nat.reduceAdd, List.replicate_zero, List.replicate_succ]
  refine ⟨by omega, mr_184 (by omega) hS hm hr rfl wk_owe ?_⟩
  rw [wz_owe]
  try simp only [pm_WV, pm_WW, true_and, and_true, true_or, or_true, and_self, reduceIte, Nat.reduceEqDiff, Nat.reduceLT, Nat.reduceLeDiff, Nat.reduceMul, false_and, and_false, reduceCtorEq, false_or, or_false, not_true_eq_false, not_false_eq_true, true_implies, false_implies, implies_true, lf_10, eq_self, Int32.reduceLT, Int32.reduceLE, Int32.reduceAdd, Int32.reduceSub, pm_same, pm_i_wI, pm_l_wL, pm_l_wM, pm_oR_rf, pm_oQ_rf, sh_k59 hS, sh_r59_25 hS, sh_k80 hS, sh_z80 hS, sh_r59_27 hS, sh_k81 hS, sh_z81 hS, mst_w46, mst_w48, mst_w49, mst_46, mst_48, mst_49, mst_k, mst_z, mst_r, mst_n, mst_l, mst_R62, mst_R64, mst_R65, mst_R66, mst_R67, mst_R78, mst_R80, mst_R81, mst_F18, mst_F24, mst_F45, mst_F47, mst_F50, mst_F51, nI_1, LQ1, LQ2, LQ4, LQ1, LQ2, ms_k, ms_z, ms_r, ms_49, ms_w49, ms_R62, ms_R64, ms_R65, ms_R66, ms_R67, ms_R75, ms_R76, ms_R77, ms_R78, ms_R79, ms_R80, ms_R81, ms_R95, ms_R96, ms_R97, ms_F0, ms_F2, ms_F18, ms_F24, ms_F31, ms_F26, ms_F45, ms_F47, ms_F50, ms_F51, ms_F52, ms_F53, ms_F54, ms_F55, ms_F56, ms_F57, ms_F58, ms_F59, ms_F60, ms_F61, ms_F62, ms_F63, sh_r59_60 hS, sh_k95 hS, sh_z95 hS, sh_r59_61 hS, sh_k96 hS, sh_z96 hS, sh_r59_62 hS, sh_k97 hS, sh_z97 hS, pm_WI0, pm_WI1, pm_WI2, pm_WI3, pm_WI4, pm_WI5, pm_WV, pm_WW, pm_WX, pb_B182, pm_if, pm_QI_at, pm_QL_at, pm_QV_at, pm_QR_at, pm_QR_at0, pm_QR_at1, Nat.reduceSub, Nat.reduceAdd, List.replicate_zero, List.replicate_succ]
  refine ⟨by omega, mr_185 (c := 32) (by omega) hS hm r1 (by omega) ?_⟩
  try simp only [pm_WV, pm_WW, true_and, and_true, true_or, or_true, and_self, reduceIte, Nat.reduceEqDiff, Nat.reduceLT, Nat.reduceLeDiff, Nat.reduceMul, false_and, and_false, reduceCtorEq, false_or, or_false, not_true_eq_false, not_false_eq_true, true_implies, false_implies, implies_true, lf_10, eq_self, Int32.reduceLT, Int32.reduceLE, Int32.reduceAdd, Int32.reduceSub, pm_same, pm_i_wI, pm_l_wL, pm_l_wM, pm_oR_rf, pm_oQ_rf, sh_k59 hS, sh_r59_25 hS, sh_k80 hS, sh_z80 hS, sh_r59_27 hS, sh_k81 hS, sh_z81 hS, mst_w46, mst_w48, mst_w49, mst_46, mst_48, mst_49, mst_k, mst_z, mst_r, mst_n, mst_l, mst_R62, mst_R64, mst_R65, mst_R66, mst_R67, mst_R78, mst_R80, mst_R81, mst_F18, mst_F24, mst_F45, mst_F47, mst_F50, mst_F51, nI_1, LQ1, LQ2, LQ4, LQ1, LQ2, ms_k, ms_z, ms_r, ms_49, ms_w49, ms_R62, ms_R64, ms_R65, ms_R66, ms_R67, ms_R75, ms_R76, ms_R77, ms_R78, ms_R79, ms_R80, ms_R81, ms_R95, ms_R96, ms_R97, ms_F0, ms_F2, ms_F18, ms_F24, ms_F31, ms_F26, ms_F45, ms_F47, ms_F50, ms_F51, ms_F52, ms_F53, ms_F54, ms_F55, ms_F56, ms_F57, ms_F58, ms_F59, ms_F60, ms_F61, ms_F62, ms_F63, sh_r59_60 hS, sh_k95 hS, sh_z95 hS, sh_r59_61 hS, sh_k96 hS, sh_z96 hS, sh_r59_62 hS, sh_k97 hS, sh_z97 hS, pm_WI0, pm_WI1, pm_WI2, pm_WI3, pm_WI4, pm_WI5, pm_WV, pm_WW, pm_WX, pb_B182, pm_if, pm_QI_at, pm_QL_at, pm_QV_at, pm_QR_at, pm_QR_at0, pm_QR_at1, Nat.reduceSub, Nat.reduceAdd, List.replicate_zero, List.replicate_succ]
  refine ⟨by omega, mr_188 (by omega) hS hm r2 ?_⟩
  try simp only [pm_WV, pm_WW, true_and, and_true, true_or, or_true, and_self, reduceIte, Nat.reduceEqDiff, Nat.reduceLT, Nat.reduceLeDiff, Nat.reduceMul, false_and, and_false, reduceCtorEq, false_or, or_false, not_true_eq_false, not_false_eq_true, true_implies, false_implies, implies_true, lf_10, eq_self, Int32.reduceLT, Int32.reduceLE, Int32.reduceAdd, Int32.reduceSub, pm_same, pm_i_wI, pm_l_wL, pm_l_wM, pm_oR_rf, pm_oQ_rf, sh_k59 hS, sh_r59_25 hS, sh_k80 hS, sh_z80 hS, sh_r59_27 hS, sh_k81 hS, sh_z81 hS, mst_w46, mst_w48, mst_w49, mst_46, mst_48, mst_49, mst_k, mst_z, mst_r, mst_n, mst_l, mst_R62, mst_R64, mst_R65, mst_R66, mst_R67, mst_R78, mst_R80, mst_R81, mst_F18, mst_F24, mst_F45, mst_F47, mst_F50, mst_F51, nI_1, LQ1, LQ2, LQ4, LQ1, LQ2, ms_k, ms_z, ms_r, ms_49, ms_w49, ms_R62, ms_R64, ms_R65, ms_R66, ms_R67, ms_R75, ms_R76, ms_R77, ms_R78, ms_R79, ms_R80, ms_R81, ms_R95, ms_R96, ms_R97, ms_F0, ms_F2, ms_F18, ms_F24, ms_F31, ms_F26, ms_F45, ms_F47, ms_F50, ms_F51, ms_F52, ms_F53, ms_F54, ms_F55, ms_F56, ms_F57, ms_F58, ms_F59, ms_F60, ms_F61, ms_F62, ms_F63, sh_r59_60 hS, sh_k95 hS, sh_z95 hS, sh_r59_61 hS, sh_k96 hS, sh_z96 hS, sh_r59_62 hS, sh_k97 hS, sh_z97 hS, pm_WI0, pm_WI1, pm_WI2, pm_WI3, pm_WI4, pm_WI5, pm_WV, pm_WW, pm_WX, pb_B182, pm_if, pm_QI_at, pm_QL_at, pm_QV_at, pm_QR_at, pm_QR_at0, pm_QR_at1, Nat.reduceSub, Nat.reduceAdd, List.replicate_zero, List.replicate_succ]
  refine ⟨by omega, mr_185 (c := 32) (by omega) hS hm r3 (by omega) ?_⟩
  try simp only [pm_WV, pm_WW, true_and, and_true, true_or, or_true, and_self, reduceIte, Nat.reduceEqDiff, Nat.reduceLT, Nat.reduceLeDiff, Nat.reduceMul, false_and, and_false, reduceCtorEq, false_or, or_false, not_true_eq_false, not_false_eq_true, true_implies, false_implies, implies_true, lf_10, eq_self, Int32.reduceLT, Int32.reduceLE, Int32.reduceAdd, Int32.reduceSub, pm_same, pm_i_wI, pm_l_wL, pm_l_wM, pm_oR_rf, pm_oQ_rf, sh_k59 hS, sh_r59_25 hS, sh_k80 hS, sh_z80 hS, sh_r59_27 hS, sh_k81 hS, sh_z81 hS, mst_w46, mst_w48, mst_w49, mst_46, mst_48, mst_49, mst_k, mst_z, mst_r, mst_n, mst_l, mst_R62, mst_R64, mst_R65, mst_R66, mst_R67, mst_R78, mst_R80, mst_R81, mst_F18, mst_F24, mst_F45, mst_F47, mst_F50, mst_F51, nI_1, LQ1, LQ2, LQ4, LQ1, LQ2, ms_k, ms_z, ms_r, ms_49, ms_w49, ms_R62, ms_R64, ms_R65, ms_R66, ms_R67, ms_R75, ms_R76, ms_R77, ms_R78, ms_R79, ms_R80, ms_R81, ms_R95, ms_R96, ms_R97, ms_F0, ms_F2, ms_F18, ms_F24, ms_F31, ms_F26, ms_F45, ms_F47, ms_F50, ms_F51, ms_F52, ms_F53, ms_F54, ms_F55, ms_F56, ms_F57, ms_F58, ms_F59, ms_F60, ms_F61, ms_F62, ms_F63, sh_r59_60 hS, sh_k95 hS, sh_z95 hS, sh_r59_61 hS, sh_k96 hS, sh_z96 hS, sh_r59_62 hS, sh_k97 hS, sh_z97 hS, pm_WI0, pm_WI1, pm_WI2, pm_WI3, pm_WI4, pm_WI5, pm_WV, pm_WW, pm_WX, pb_B182, pm_if, pm_QI_at, pm_QL_at, pm_QV_at, pm_QR_at, pm_QR_at0, pm_QR_at1, Nat.reduceSub, Nat.reduceAdd, List.replicate_zero, List.replicate_succ]
  refine ⟨by omega, mr_189 (most := 4) (by omega) hS hm r4 (by omega) (by omega) ?_⟩
  try simp only [pm_WV, pm_WW, true_and, and_true, true_or, or_true, and_self, reduceIte, Nat.reduceEqDiff, Nat.reduceLT, Nat.reduceLeDiff, Nat.reduceMul, false_and, and_false, reduceCtorEq, false_or, or_false, not_true_eq_false, not_false_eq_true, true_implies, false_implies, implies_true, lf_10, eq_self, Int32.reduceLT, Int32.reduceLE, Int32.reduceAdd, Int32.reduceSub, pm_same, pm_i_wI, pm_l_wL, pm_l_wM, pm_oR_rf, pm_oQ_rf, sh_k59 hS, sh_r59_25 hS, sh_k80 hS, sh_z80 hS, sh_r59_27 hS, sh_k81 hS, sh_z81 hS, mst_w46, mst_w48, mst_w49, mst_46, mst_48, mst_49, mst_k, mst_z, mst_r, mst_n, mst_l, mst_R62, mst_R64, mst_R65, mst_R66, mst_R67, mst_R78, mst_R80, mst_R81, mst_F18, mst_F24, mst_F45, mst_F47, mst_F50, mst_F51, nI_1, LQ1, LQ2, LQ4, LQ1, LQ2, ms_k, ms_z, ms_r, ms_49, ms_w49, ms_R62, ms_R64, ms_R65, ms_R66, ms_R67, ms_R75, ms_R76, ms_R77, ms_R78, ms_R79, ms_R80, ms_R81, ms_R95, ms_R96, ms_R97, ms_F0, ms_F2, ms_F18, ms_F24, ms_F31, ms_F26, ms_F45, ms_F47, ms_F50, ms_F51, ms_F52, ms_F53, ms_F54, ms_F55, ms_F56, ms_F57, ms_F58, ms_F59, ms_F60, ms_F61, ms_F62, ms_F63, sh_r59_60 hS, sh_k95 hS, sh_z95 hS, sh_r59_61 hS, sh_k96 hS, sh_z96 hS, sh_r59_62 hS, sh_k97 hS, sh_z97 hS, pm_WI0, pm_WI1, pm_WI2, pm_WI3, pm_WI4, pm_WI5, pm_WV, pm_WW, pm_WX, pb_B182, pm_if, pm_QI_at, pm_QL_at, pm_QV_at, pm_QR_at, pm_QR_at0, pm_QR_at1, Nat.reduceSub, Nat.reduceAdd, List.replicate_zero, List.replicate_succ]
  change 0 < d ∧ pm_CI G (d - 1) 186 [.ref 59, .int 32] (ms S 0 (un (go_2 (gx_b f n) (p, some ())))) _
  rcases go_case (f := f) (L := L) hp with ⟨x, hx, e2, eo⟩ | ⟨s, m, x, e1, e2, eo, hs, hm4, hx⟩
  · have hv1 : ∃ v, vo (go_1 (gx_b f n) (p, some ())) = v := ⟨_, rfl⟩
    rw [e2, un_none]
    refine ⟨by omega, mr_186f (c := 32) hS (p := 0) (by omega) ?_⟩
    try simp only [pm_WV, pm_WW, true_and, and_true, true_or, or_true, and_self, reduceIte, Nat.reduceEqDiff, Nat.reduceLT, Nat.reduceLeDiff, Nat.reduceMul, false_and, and_false, reduceCtorEq, false_or, or_false, not_true_eq_false, not_false_eq_true, true_implies, false_implies, implies_true, lf_10, eq_self, Int32.reduceLT, Int32.reduceLE, Int32.reduceAdd, Int32.reduceSub, pm_same, pm_i_wI, pm_l_wL, pm_l_wM, pm_oR_rf, pm_oQ_rf, sh_k59 hS, sh_r59_25 hS, sh_k80 hS, sh_z80 hS, sh_r59_27 hS, sh_k81 hS, sh_z81 hS, mst_w46, mst_w48, mst_w49, mst_46, mst_48, mst_49, mst_k, mst_z, mst_r, mst_n, mst_l, mst_R62, mst_R64, mst_R65, mst_R66, mst_R67, mst_R78, mst_R80, mst_R81, mst_F18, mst_F24, mst_F45, mst_F47, mst_F50, mst_F51, nI_1, LQ1, LQ2, LQ4, LQ1, LQ2, ms_k, ms_z, ms_r, ms_49, ms_w49, ms_R62, ms_R64, ms_R65, ms_R66, ms_R67, ms_R75, ms_R76, ms_R77, ms_R78, ms_R79, ms_R80, ms_R81, ms_R95, ms_R96, ms_R97, ms_F0, ms_F2, ms_F18, ms_F24, ms_F31, ms_F26, ms_F45, ms_F47, ms_F50, ms_F51, ms_F52, ms_F53, ms_F54, ms_F55, ms_F56, ms_F57, ms_F58, ms_F59, ms_F60, ms_F61, ms_F62, ms_F63, sh_r59_60 hS, sh_k95 hS, sh_z95 hS, sh_r59_61 hS, sh_k96 hS, sh_z96 hS, sh_r59_62 hS, sh_k97 hS, sh_z97 hS, pm_WI0, pm_WI1, pm_WI2, pm_WI3, pm_WI4, pm_WI5, pm_WV, pm_WW, pm_WX, pb_B182, pm_if, pm_QI_at, pm_QL_at, pm_QV_at, pm_QR_at, pm_QR_at0, pm_QR_at1, Nat.reduceSub, Nat.reduceAdd, List.replicate_zero, List.replicate_succ]
    first | exact mr_182f hS (by omega) (h0 x S eo lfr.rf) | exact ⟨fun _ => mr_182f hS (by omega) (h0 x S eo lfr.rf), fun z => absurd rfl z⟩
  · have e1' : vo (gx_bd (gx_bd (gx_bd ((p, some ()) : gx_R Unit) (fun _ p => gx_w (gx_b f n) [111, 119, 101] p)) (fun _ p => gx_w (gx_b f n) [32] p)) (fun _ p => gx_num (gx_b f n) 1 1 p)) = nI s := e1
    have e2' : vo (gx_bd (gx_bd (un (gx_bd (gx_bd (gx_bd ((p, some ()) : gx_R Unit) (fun _ p => gx_w (gx_b f n) [111, 119, 101] p)) (fun _ p => gx_w (gx_b f n) [32] p)) (fun _ p => gx_num (gx_b f n) 1 1 p))) (fun _ p => gx_w (gx_b f n) [32] p)) (fun _ p => gx_num (gx_b f n) 0 4 p)) = nI m := by
      have : vo (go_2 (gx_b f n) (p, some ())) = nI m := by rw [e2]; rfl
      exact this
    rw [e1', e2', e2, un_some]
    have hk : pm_i S 59 63 = nI L.1.length := hmlr.1
    have hk2 : L.1.length < 10 := by have := hw.1.1; omega
    have hfr : ∀ {k : Nat} {a b cc dd : Int32}, lfr S (pm_wI (pm_wI (pm_wI (pm_wI S 95 k a) 96 k b) 97 k cc) 59 63 dd) := (((lfr.rf.wr (by omega) (by omega)).wr (by omega) (by omega)).wr (by omega) (by omega)).w (by omega) (by omega)
    have hms : ms S 0 (x, some ()) = mst S (nI x) (-1) (nI 0) := rfl
    rw [hms]
    refine ⟨by omega, mr_186l (c := 32) (by omega) hS hm hx (by omega) (fun y => ?_) (fun y => ?_)⟩
    · have hxn : x < n := gx_lt gx_b_eof y (by omega)
      refine ⟨fun z => absurd z (by decide), fun _ => ⟨by omega, sh_k59 hS, mr_181 hS hm (by omega) ?_⟩⟩
      have hms1 : mst S (nI (x + 1)) (-1) (nI 0) = ms S 0 (x + 1, some ()) := rfl
      -- behind the word
      have tail : ∀ (r : gx_R Unit) (un' : Int32) (wn : Nat) (X : Value), r.1 ≤ n → r = go_w (gx_b f n) x → (un' = 1 ∧ wn = 2 ∨ un' = 0 ∧ wn = 1) → (∀ u, r.2 = some u → wn = if gx_b f n (x + 1) = 105 then 1 else 2) → ∀ b : Int32, (b = 0 ∨ b = 1) → (∀ e, (gx_bd r (fun _ p => gx_e (gx_b f n) p)).2 = some e → b = bI (gx_hv t e)) → ∀ hb, hb = (if un' = b then 0 else 1) → pm_W G d 182 (pm_QV q) 136 [.ref 59, .int (nI s), .int (nI m), .int hb, .int un', .int b] [] (ms S 0 (un (gx_bd r (fun _ p => gx_e (gx_b f n) p)))) 0 0 := by
        intro r un' wn X hr er hun hwn b hb he hb' ehb
        have ek : go_k (gx_b f n) L s m x = gx_bd r (fun _ r => gx_bd (gx_e (gx_b f n) r) (fun e r => (r, some (L.1 ++ [(s, m, if gx_b f n (x + 1) = 105 then 1 else 2, L.2.2.length, L.2.2.length + e.length)], L.2.1, L.2.2 ++ e)))) := by unfold go_k; rw [if_pos y, er]
        obtain ⟨x1, _ | u1⟩ := r
        · have e0 : un (gx_bd ((x1, none) : gx_R Unit) (fun _ p => gx_e (gx_b f n) p)) = (x1, none) := rfl
          rw [e0]
          exact mr_182f hS (by have : x1 ≤ n := hr; omega) (h0 x1 S (by rw [eo, ek]; rfl) lfr.rf)
        · have hok := gx_e_ok (B := gx_b f n) gx_b_eof (p := x1) hr
          have hw2 := hwn u1 rfl
          rw [← hw2] at ek
          change pm_W G d 182 (pm_QV q) 136 _ [] (ms S 0 (un (gx_e (gx_b f n) x1))) 0 0
          change ∀ e, (gx_e (gx_b f n) x1).2 = some e → _ at he
          rcases gx_two (gx_e (gx_b f n) x1) with ⟨x2, ex2⟩ | ⟨x2, E, ex2⟩
          · rw [ex2, un_none]
            exact mr_182f hS (by have := (hok.1 x2 ex2).2; omega) (h0 x2 S (by rw [eo, ek]; show gx_bd (gx_e (gx_b f n) x1) _ = _; rw [gx_bd_none ex2]) lfr.rf)
          · have hok2 := hok.2 x2 E ex2
            rw [ex2, un_some]
            have hbE := he E (by rw [ex2])
            refine mr_182s hS hk hk2 (by rw [ehb]; split <;> simp) (h1 x2 _ _ (by rw [eo, ek]; show gx_bd (gx_e (gx_b f n) x1) _ = _; rw [gx_bd_some ex2]) hfr (hmlr.owe hw ?_))
            have elo : lo_h t (L.2.2 ++ E) (s, m, wn, L.2.2.length, L.2.2.length + E.length) = (gx_hv t E == decide (wn = 1)) := by
              unfold lo_h
              try simp only [gx_sub_new]
              rw [if_neg (by omega)]
            rw [elo, ehb, hbE]
            rcases hun with ⟨rfl, rfl⟩ | ⟨rfl, rfl⟩ <;> cases gx_hv t E <;> simp [bI]
      by_cases yu : gx_b f n (x + 1) = 117
      · have es : sg (gx_b f n (x + 1)) = 117 := by rw [yu]; rfl
        rw [es, hms1]
        try simp only [pm_WV, pm_WW, true_and, and_true, true_or, or_true, and_self, reduceIte, Nat.reduceEqDiff, Nat.reduceLT, Nat.reduceLeDiff, Nat.reduceMul, false_and, and_false, reduceCtorEq, false_or, or_false, not_true_eq_false, not_false_eq_true, true_implies, false_implies, implies_true, lf_10, eq_self, Int32.reduceLT, Int32.reduceLE, Int32.reduceAdd, Int32.reduceSub, pm_same, pm_i_wI, pm_l_wL, pm_l_wM, pm_oR_rf, pm_oQ_rf, sh_k59 hS, sh_r59_25 hS, sh_k80 hS, sh_z80 hS, sh_r59_27 hS, sh_k81 hS, sh_z81 hS, mst_w46, mst_w48, mst_w49, mst_46, mst_48, mst_49, mst_k, mst_z, mst_r, mst_n, mst_l, mst_R62, mst_R64, mst_R65, mst_R66, mst_R67, mst_R78, mst_R80, mst_R81, mst_F18, mst_F24, mst_F45, mst_F47, mst_F50, mst_F51, nI_1, LQ1, LQ2, LQ4, LQ1, LQ2, ms_k, ms_z, ms_r, ms_49, ms_w49, ms_R62, ms_R64, ms_R65, ms_R66, ms_R67, ms_R75, ms_R76, ms_R77, ms_R78, ms_R79, ms_R80, ms_R81, ms_R95, ms_R96, ms_R97, ms_F0, ms_F2, ms_F18, ms_F24, ms_F31, ms_F26, ms_F45, ms_F47, ms_F50, ms_F51, ms_F52, ms_F53, ms_F54, ms_F55, ms_F56, ms_F57, ms_F58, ms_F59, ms_F60, ms_F61, ms_F62, ms_F63, sh_r59_60 hS, sh_k95 hS, sh_z95 hS, sh_r59_61 hS, sh_k96 hS, sh_z96 hS, sh_r59_62 hS, sh_k97 hS, sh_z97 hS, pm_WI0, pm_WI1, pm_WI2, pm_WI3, pm_WI4, pm_WI5, pm_WV, pm_WW, pm_WX, pb_B182, pm_if, pm_QI_at, pm_QL_at, pm_QV_at, pm_QR_at, pm_QR_at0, pm_QR_at1, Nat.reduceSub, Nat.reduceAdd, List.replicate_zero, List.replicate_succ]
        refine pm_wb_ok pb_c182 1 63 0 _ _ _ _ _ ?_
        try simp only [pm_WI0, pm_WI1, pm_WI2, pm_WI3, pm_WI4, pm_WI5, pm_WV, pm_WW, pm_WX, pb_B182, pm_if, pm_QI_at, pm_QL_at, pm_QV_at, pm_QR_at, pm_QR_at0, pm_QR_at1, Nat.reduceSub, Nat.reduceAdd, List.replicate_zero, List.replicate_succ, true_and, and_true, true_or, or_true, and_self, reduceIte, Nat.reduceEqDiff, Nat.reduceLT, Nat.reduceLeDiff, Nat.reduceMul, false_and, and_false, reduceCtorEq, false_or, or_false, not_true_eq_false, not_false_eq_true, true_implies, false_implies, implies_true, lf_10, eq_self, Int32.reduceLT, Int32.reduceLE, Int32.reduceAdd, Int32.reduceSub, pm_same, pm_i_wI, pm_l_wL, pm_l_wM, pm_oR_rf, pm_oQ_rf, sh_k59 hS, sh_r59_25 hS, sh_k80 hS, sh_z80 hS, sh_r59_27 hS, sh_k81 hS, sh_z81 hS, mst_w46, mst_w48, mst_w49, mst_46, mst_48, mst_49, mst_k, mst_z, mst_r, mst_n, mst_l, mst_R62, mst_R64, mst_R65, mst_R66, mst_R67, mst_R78, mst_R80, mst_R81, mst_F18, mst_F24, mst_F45, mst_F47, mst_F50, mst_F51, nI_1, LQ1, LQ2, LQ4, LQ1, LQ2, ms_k, ms_z, ms_r, ms_49, ms_w49, ms_R62, ms_R64, ms_R65, ms_R66, ms_R67, ms_R75, ms_R76, ms_R77, ms_R78, ms_R79, ms_R80, ms_R81, ms_R95, ms_R96, ms_R97, ms_F0, ms_F2, ms_F18, ms_F24, ms_F31, ms_F26, ms_F45, ms_F47, ms_F50, ms_F51, ms_F52, ms_F53, ms_F54, ms_F55, ms_F56, ms_F57, ms_F58, ms_F59, ms_F60, ms_F61, ms_F62, ms_F63, sh_r59_60 hS, sh_k95 hS, sh_z95 hS, sh_r59_61 hS, sh_k96 hS, sh_z96 hS, sh_r59_62 hS, sh_k97 hS, sh_z97 hS]
        refine ⟨by omega, mr_183_unles ?_⟩
        try simp only [pm_WV, pm_WW, true_and, and_true, true_or, or_true, and_self, reduceIte, Nat.reduceEqDiff, Nat.reduceLT, Nat.reduceLeDiff, Nat.reduceMul, false_and, and_false, reduceCtorEq, false_or, or_false, not_true_eq_false, not_false_eq_true, true_implies, false_implies, implies_true, lf_10, eq_self, Int32.reduceLT, Int32.reduceLE, Int32.reduceAdd, Int32.reduceSub, pm_same, pm_i_wI, pm_l_wL, pm_l_wM, pm_oR_rf, pm_oQ_rf, sh_k59 hS, sh_r59_25 hS, sh_k80 hS, sh_z80 hS, sh_r59_27 hS, sh_k81 hS, sh_z81 hS, mst_w46, mst_w48, mst_w49, mst_46, mst_48, mst_49, mst_k, mst_z, mst_r, mst_n, mst_l, mst_R62, mst_R64, mst_R65, mst_R66, mst_R67, mst_R78, mst_R80, mst_R81, mst_F18, mst_F24, mst_F45, mst_F47, mst_F50, mst_F51, nI_1, LQ1, LQ2, LQ4, LQ1, LQ2, ms_k, ms_z, ms_r, ms_49, ms_w49, ms_R62, ms_R64, ms_R65, ms_R66, ms_R67, ms_R75, ms_R76, ms_R77, ms_R78, ms_R79, ms_R80, ms_R81, ms_R95, ms_R96, ms_R97, ms_F0, ms_F2, ms_F18, ms_F24, ms_F31, ms_F26, ms_F45, ms_F47, ms_F50, ms_F51, ms_F52, ms_F53, ms_F54, ms_F55, ms_F56, ms_F57, ms_F58, ms_F59, ms_F60, ms_F61, ms_F62, ms_F63, sh_r59_60 hS, sh_k95 hS, sh_z95 hS, sh_r59_61 hS, sh_k96 hS, sh_z96 hS, sh_r59_62 hS, sh_k97 hS, sh_z97 hS, pm_WI0, pm_WI1, pm_WI2, pm_WI3, pm_WI4, pm_WI5, pm_WV, pm_WW, pm_WX, pb_B182, pm_if, pm_QI_at, pm_QL_at, pm_QV_at, pm_QR_at, pm_QR_at0, pm_QR_at1, Nat.reduceSub, Nat.reduceAdd, List.replicate_zero, List.replicate_succ]
        refine pm_wb_ok pb_c182 1 97 0 _ _ _ _ _ ?_
        try simp only [pm_WI0, pm_WI1, pm_WI2, pm_WI3, pm_WI4, pm_WI5, pm_WV, pm_WW, pm_WX, pb_B182, pm_if, pm_QI_at, pm_QL_at, pm_QV_at, pm_QR_at, pm_QR_at0, pm_QR_at1, Nat.reduceSub, Nat.reduceAdd, List.replicate_zero, List.replicate_succ, true_and, and_true, true_or, or_true, and_self, reduceIte, Nat.reduceEqDiff, Nat.reduceLT, Nat.reduceLeDiff, Nat.reduceMul, false_and, and_false, reduceCtorEq, false_or, or_false, not_true_eq_false, not_false_eq_true, true_implies, false_implies, implies_true, lf_10, eq_self, Int32.reduceLT, Int32.reduceLE, Int32.reduceAdd, Int32.reduceSub, pm_same, pm_i_wI, pm_l_wL, pm_l_wM, pm_oR_rf, pm_oQ_rf, sh_k59 hS, sh_r59_25 hS, sh_k80 hS, sh_z80 hS, sh_r59_27 hS, sh_k81 hS, sh_z81 hS, mst_w46, mst_w48, mst_w49, mst_46, mst_48, mst_49, mst_k, mst_z, mst_r, mst_n, mst_l, mst_R62, mst_R64, mst_R65, mst_R66, mst_R67, mst_R78, mst_R80, mst_R81, mst_F18, mst_F24, mst_F45, mst_F47, mst_F50, mst_F51, nI_1, LQ1, LQ2, LQ4, LQ1, LQ2, ms_k, ms_z, ms_r, ms_49, ms_w49, ms_R62, ms_R64, ms_R65, ms_R66, ms_R67, ms_R75, ms_R76, ms_R77, ms_R78, ms_R79, ms_R80, ms_R81, ms_R95, ms_R96, ms_R97, ms_F0, ms_F2, ms_F18, ms_F24, ms_F31, ms_F26, ms_F45, ms_F47, ms_F50, ms_F51, ms_F52, ms_F53, ms_F54, ms_F55, ms_F56, ms_F57, ms_F58, ms_F59, ms_F60, ms_F61, ms_F62, ms_F63, sh_r59_60 hS, sh_k95 hS, sh_z95 hS, sh_r59_61 hS, sh_k96 hS, sh_z96 hS, sh_r59_62 hS, sh_k97 hS, sh_z97 hS]
        have q1 := gx_bd_w_le (f := f) (n := n) (r := (x + 1, some ())) (l := [117, 110, 108, 101, 115]) (by show x + 1 ≤ n; omega) (by decide)
        have q2 := gx_bd_w_le (f := f) (l := [115]) q1 (by decide)
        have q3 := gx_bd_w_le (f := f) (l := [32]) q2 (by decide)
        refine ⟨by omega, mr_184 (by omega) hS hm (by show x + 1 ≤ n; omega) rfl wk_unles ?_⟩
        rw [wz_unles]
        try simp only [pm_WV, pm_WW, true_and, and_true, true_or, or_true, and_self, reduceIte, Nat.reduceEqDiff, Nat.reduceLT, Nat.reduceLeDiff, Nat.reduceMul, false_and, and_false, reduceCtorEq, false_or, or_false, not_true_eq_false, not_false_eq_true, true_implies, false_implies, implies_true, lf_10, eq_self, Int32.reduceLT, Int32.reduceLE, Int32.reduceAdd, Int32.reduceSub, pm_same, pm_i_wI, pm_l_wL, pm_l_wM, pm_oR_rf, pm_oQ_rf, sh_k59 hS, sh_r59_25 hS, sh_k80 hS, sh_z80 hS, sh_r59_27 hS, sh_k81 hS, sh_z81 hS, mst_w46, mst_w48, mst_w49, mst_46, mst_48, mst_49, mst_k, mst_z, mst_r, mst_n, mst_l, mst_R62, mst_R64, mst_R65, mst_R66, mst_R67, mst_R78, mst_R80, mst_R81, mst_F18, mst_F24, mst_F45, mst_F47, mst_F50, mst_F51, nI_1, LQ1, LQ2, LQ4, LQ1, LQ2, ms_k, ms_z, ms_r, ms_49, ms_w49, ms_R62, ms_R64, ms_R65, ms_R66, ms_R67, ms_R75, ms_R76, ms_R77, ms_R78, ms_R79, ms_R80, ms_R81, ms_R95, ms_R96, ms_R97, ms_F0, ms_F2, ms_F18, ms_F24, ms_F31, ms_F26, ms_F45, ms_F47, ms_F50, ms_F51, ms_F52, ms_F53, ms_F54, ms_F55, ms_F56, ms_F57, ms_F58, ms_F59, ms_F60, ms_F61, ms_F62, ms_F63, sh_r59_60 hS, sh_k95 hS, sh_z95 hS, sh_r59_61 hS, sh_k96 hS, sh_z96 hS, sh_r59_62 hS, sh_k97 hS, sh_z97 hS, pm_WI0, pm_WI1, pm_WI2, pm_WI3, pm_WI4, pm_WI5, pm_WV, pm_WW, pm_WX, pb_B182, pm_if, pm_QI_at, pm_QL_at, pm_QV_at, pm_QR_at, pm_QR_at0, pm_QR_at1, Nat.reduceSub, Nat.reduceAdd, List.replicate_zero, List.replicate_succ]
        refine ⟨by omega, mr_185 (c := 115) (by omega) hS hm q1 (by omega) ?_⟩
        try simp only [pm_WV, pm_WW, true_and, and_true, true_or, or_true, and_self, reduceIte, Nat.reduceEqDiff, Nat.reduceLT, Nat.reduceLeDiff, Nat.reduceMul, false_and, and_false, reduceCtorEq, false_or, or_false, not_true_eq_false, not_false_eq_true, true_implies, false_implies, implies_true, lf_10, eq_self, Int32.reduceLT, Int32.reduceLE, Int32.reduceAdd, Int32.reduceSub, pm_same, pm_i_wI, pm_l_wL, pm_l_wM, pm_oR_rf, pm_oQ_rf, sh_k59 hS, sh_r59_25 hS, sh_k80 hS, sh_z80 hS, sh_r59_27 hS, sh_k81 hS, sh_z81 hS, mst_w46, mst_w48, mst_w49, mst_46, mst_48, mst_49, mst_k, mst_z, mst_r, mst_n, mst_l, mst_R62, mst_R64, mst_R65, mst_R66, mst_R67, mst_R78, mst_R80, mst_R81, mst_F18, mst_F24, mst_F45, mst_F47, mst_F50, mst_F51, nI_1, LQ1, LQ2, LQ4, LQ1, LQ2, ms_k, ms_z, ms_r, ms_49, ms_w49, ms_R62, ms_R64, ms_R65, ms_R66, ms_R67, ms_R75, ms_R76, ms_R77, ms_R78, ms_R79, ms_R80, ms_R81, ms_R95, ms_R96, ms_R97, ms_F0, ms_F2, ms_F18, ms_F24, ms_F31, ms_F26, ms_F45, ms_F47, ms_F50, ms_F51, ms_F52, ms_F53, ms_F54, ms_F55, ms_F56, ms_F57, ms_F58, ms_F59, ms_F60, ms_F61, ms_F62, ms_F63, sh_r59_60 hS, sh_k95 hS, sh_z95 hS, sh_r59_61 hS, sh_k96 hS, sh_z96 hS, sh_r59_62 hS, sh_k97 hS, sh_z97 hS, pm_WI0, pm_WI1, pm_WI2, pm_WI3, pm_WI4, pm_WI5, pm_WV, pm_WW, pm_WX, pb_B182, pm_if, pm_QI_at, pm_QL_at, pm_QV_at, pm_QR_at, pm_QR_at0, pm_QR_at1, Nat.reduceSub, Nat.reduceAdd, List.replicate_zero, List.replicate_succ]
        refine pm_wb_ok pb_c182 1 111 0 _ _ _ _ _ ?_
        try simp only [pm_WI0, pm_WI1, pm_WI2, pm_WI3, pm_WI4, pm_WI5, pm_WV, pm_WW, pm_WX, pb_B182, pm_if, pm_QI_at, pm_QL_at, pm_QV_at, pm_QR_at, pm_QR_at0, pm_QR_at1, Nat.reduceSub, Nat.reduceAdd, List.replicate_zero, List.replicate_succ, true_and, and_true, true_or, or_true, and_self, reduceIte, Nat.reduceEqDiff, Nat.reduceLT, Nat.reduceLeDiff, Nat.reduceMul, false_and, and_false, reduceCtorEq, false_or, or_false, not_true_eq_false, not_false_eq_true, true_implies, false_implies, implies_true, lf_10, eq_self, Int32.reduceLT, Int32.reduceLE, Int32.reduceAdd, Int32.reduceSub, pm_same, pm_i_wI, pm_l_wL, pm_l_wM, pm_oR_rf, pm_oQ_rf, sh_k59 hS, sh_r59_25 hS, sh_k80 hS, sh_z80 hS, sh_r59_27 hS, sh_k81 hS, sh_z81 hS, mst_w46, mst_w48, mst_w49, mst_46, mst_48, mst_49, mst_k, mst_z, mst_r, mst_n, mst_l, mst_R62, mst_R64, mst_R65, mst_R66, mst_R67, mst_R78, mst_R80, mst_R81, mst_F18, mst_F24, mst_F45, mst_F47, mst_F50, mst_F51, nI_1, LQ1, LQ2, LQ4, LQ1, LQ2, ms_k, ms_z, ms_r, ms_49, ms_w49, ms_R62, ms_R64, ms_R65, ms_R66, ms_R67, ms_R75, ms_R76, ms_R77, ms_R78, ms_R79, ms_R80, ms_R81, ms_R95, ms_R96, ms_R97, ms_F0, ms_F2, ms_F18, ms_F24, ms_F31, ms_F26, ms_F45, ms_F47, ms_F50, ms_F51, ms_F52, ms_F53, ms_F54, ms_F55, ms_F56, ms_F57, ms_F58, ms_F59, ms_F60, ms_F61, ms_F62, ms_F63, sh_r59_60 hS, sh_k95 hS, sh_z95 hS, sh_r59_61 hS, sh_k96 hS, sh_z96 hS, sh_r59_62 hS, sh_k97 hS, sh_z97 hS]
        refine ⟨by omega, mr_185 (c := 32) (by omega) hS hm q2 (by omega) ?_⟩
        try simp only [pm_WV, pm_WW, true_and, and_true, true_or, or_true, and_self, reduceIte, Nat.reduceEqDiff, Nat.reduceLT, Nat.reduceLeDiff, Nat.reduceMul, false_and, and_false, reduceCtorEq, false_or, or_false, not_true_eq_false, not_false_eq_true, true_implies, false_implies, implies_true, lf_10, eq_self, Int32.reduceLT, Int32.reduceLE, Int32.reduceAdd, Int32.reduceSub, pm_same, pm_i_wI, pm_l_wL, pm_l_wM, pm_oR_rf, pm_oQ_rf, sh_k59 hS, sh_r59_25 hS, sh_k80 hS, sh_z80 hS, sh_r59_27 hS, sh_k81 hS, sh_z81 hS, mst_w46, mst_w48, mst_w49, mst_46, mst_48, mst_49, mst_k, mst_z, mst_r, mst_n, mst_l, mst_R62, mst_R64, mst_R65, mst_R66, mst_R67, mst_R78, mst_R80, mst_R81, mst_F18, mst_F24, mst_F45, mst_F47, mst_F50, mst_F51, nI_1, LQ1, LQ2, LQ4, LQ1, LQ2, ms_k, ms_z, ms_r, ms_49, ms_w49, ms_R62, ms_R64, ms_R65, ms_R66, ms_R67, ms_R75, ms_R76, ms_R77, ms_R78, ms_R79, ms_R80, ms_R81, ms_R95, ms_R96, ms_R97, ms_F0, ms_F2, ms_F18, ms_F24, ms_F31, ms_F26, ms_F45, ms_F47, ms_F50, ms_F51, ms_F52, ms_F53, ms_F54, ms_F55, ms_F56, ms_F57, ms_F58, ms_F59, ms_F60, ms_F61, ms_F62, ms_F63, sh_r59_60 hS, sh_k95 hS, sh_z95 hS, sh_r59_61 hS, sh_k96 hS, sh_z96 hS, sh_r59_62 hS, sh_k97 hS, sh_z97 hS, pm_WI0, pm_WI1, pm_WI2, pm_WI3, pm_WI4, pm_WI5, pm_WV, pm_WW, pm_WX, pb_B182, pm_if, pm_QI_at, pm_QL_at, pm_QV_at, pm_QR_at, pm_QR_at0, pm_QR_at1, Nat.reduceSub, Nat.reduceAdd, List.replicate_zero, List.replicate_succ]
        refine ⟨by omega, mr_e hS hm h18 h24 h24b ht (by omega) q3 (fun b hb he => ?_)⟩
        try simp only [pm_WV, pm_WW, true_and, and_true, true_or, or_true, and_self, reduceIte, Nat.reduceEqDiff, Nat.reduceLT, Nat.reduceLeDiff, Nat.reduceMul, false_and, and_false, reduceCtorEq, false_or, or_false, not_true_eq_false, not_false_eq_true, true_implies, false_implies, implies_true, lf_10, eq_self, Int32.reduceLT, Int32.reduceLE, Int32.reduceAdd, Int32.reduceSub, pm_same, pm_i_wI, pm_l_wL, pm_l_wM, pm_oR_rf, pm_oQ_rf, sh_k59 hS, sh_r59_25 hS, sh_k80 hS, sh_z80 hS, sh_r59_27 hS, sh_k81 hS, sh_z81 hS, mst_w46, mst_w48, mst_w49, mst_46, mst_48, mst_49, mst_k, mst_z, mst_r, mst_n, mst_l, mst_R62, mst_R64, mst_R65, mst_R66, mst_R67, mst_R78, mst_R80, mst_R81, mst_F18, mst_F24, mst_F45, mst_F47, mst_F50, mst_F51, nI_1, LQ1, LQ2, LQ4, LQ1, LQ2, ms_k, ms_z, ms_r, ms_49, ms_w49, ms_R62, ms_R64, ms_R65, ms_R66, ms_R67, ms_R75, ms_R76, ms_R77, ms_R78, ms_R79, ms_R80, ms_R81, ms_R95, ms_R96, ms_R97, ms_F0, ms_F2, ms_F18, ms_F24, ms_F31, ms_F26, ms_F45, ms_F47, ms_F50, ms_F51, ms_F52, ms_F53, ms_F54, ms_F55, ms_F56, ms_F57, ms_F58, ms_F59, ms_F60, ms_F61, ms_F62, ms_F63, sh_r59_60 hS, sh_k95 hS, sh_z95 hS, sh_r59_61 hS, sh_k96 hS, sh_z96 hS, sh_r59_62 hS, sh_k97 hS, sh_z97 hS, pm_WI0, pm_WI1, pm_WI2, pm_WI3, pm_WI4, pm_WI5, pm_WV, pm_WW, pm_WX, pb_B182, pm_if, pm_QI_at, pm_QL_at, pm_QV_at, pm_QR_at, pm_QR_at0, pm_QR_at1, Nat.reduceSub, Nat.reduceAdd, List.replicate_zero, List.replicate_succ]
        have tl := tail _ 1 2 .null q3 (by
          unfold go_w
          rw [if_neg (by omega), show ([117, 110, 108, 101, 115, 115, 32] : List Nat) = ([117, 110, 108, 101, 115] ++ [115]) ++ [32] from rfl, gx_w_app, gx_w_app]
          rfl) (Or.inl ⟨rfl, rfl⟩) (fun u _ => by rw [if_neg (by omega)]) b hb he
        rcases hb with rfl | rfl
        · have := tl _ rfl
          try simp only [pm_WV, pm_WW, true_and, and_true, true_or, or_true, and_self, reduceIte, Nat.reduceEqDiff, Nat.reduceLT, Nat.reduceLeDiff, Nat.reduceMul, false_and, and_false, reduceCtorEq, false_or, or_false, not_true_eq_false, not_false_eq_true, true_implies, false_implies, implies_true, lf_10, eq_self, Int32.reduceLT, Int32.reduceLE, Int32.reduceAdd, Int32.reduceSub, pm_same, pm_i_wI, pm_l_wL, pm_l_wM, pm_oR_rf, pm_oQ_rf, sh_k59 hS, sh_r59_25 hS, sh_k80 hS, sh_z80 hS, sh_r59_27 hS, sh_k81 hS, sh_z81 hS, mst_w46, mst_w48, mst_w49, mst_46, mst_48, mst_49, mst_k, mst_z, mst_r, mst_n, mst_l, mst_R62, mst_R64, mst_R65, mst_R66, mst_R67, mst_R78, mst_R80, mst_R81, mst_F18, mst_F24, mst_F45, mst_F47, mst_F50, mst_F51, nI_1, LQ1, LQ2, LQ4, LQ1, LQ2, ms_k, ms_z, ms_r, ms_49, ms_w49, ms_R62, ms_R64, ms_R65, ms_R66, ms_R67, ms_R75, ms_R76, ms_R77, ms_R78, ms_R79, ms_R80, ms_R81, ms_R95, ms_R96, ms_R97, ms_F0, ms_F2, ms_F18, ms_F24, ms_F31, ms_F26, ms_F45, ms_F47, ms_F50, ms_F51, ms_F52, ms_F53, ms_F54, ms_F55, ms_F56, ms_F57, ms_F58, ms_F59, ms_F60, ms_F61, ms_F62, ms_F63, sh_r59_60 hS, sh_k95 hS, sh_z95 hS, sh_r59_61 hS, sh_k96 hS, sh_z96 hS, sh_r59_62 hS, sh_k97 hS, sh_z97 hS, pm_WI0, pm_WI1, pm_WI2, pm_WI3, pm_WI4, pm_WI5, pm_WV, pm_WW, pm_WX, pb_B182, pm_if, pm_QI_at, pm_QL_at, pm_QV_at, pm_QR_at, pm_QR_at0, pm_QR_at1, Nat.reduceSub, Nat.reduceAdd, List.replicate_zero, List.replicate_succ] at this ⊢
          first | exact this | skip
          try refine pm_wb_ok pb_c182 2 134 0 _ _ _ _ _ ?_
          try refine pm_wb_ok pb_c182 1 135 0 _ _ _ _ _ ?_
          try simp only [pm_WI0, pm_WI1, pm_WI2, pm_WI3, pm_WI4, pm_WI5, pm_WV, pm_WW, pm_WX, pb_B182, pm_if, pm_QI_at, pm_QL_at, pm_QV_at, pm_QR_at, pm_QR_at0, pm_QR_at1, Nat.reduceSub, Nat.reduceAdd, List.replicate_zero, List.replicate_succ, true_and, and_true, true_or, or_true, and_self, reduceIte, Nat.reduceEqDiff, Nat.reduceLT, Nat.reduceLeDiff, Nat.reduceMul, false_and, and_false, reduceCtorEq, false_or, or_false, not_true_eq_false, not_false_eq_true, true_implies, false_implies, implies_true, lf_10, eq_self, Int32.reduceLT, Int32.reduceLE, Int32.reduceAdd, Int32.reduceSub, pm_same, pm_i_wI, pm_l_wL, pm_l_wM, pm_oR_rf, pm_oQ_rf, sh_k59 hS, sh_r59_25 hS, sh_k80 hS, sh_z80 hS, sh_r59_27 hS, sh_k81 hS, sh_z81 hS, mst_w46, mst_w48, mst_w49, mst_46, mst_48, mst_49, mst_k, mst_z, mst_r, mst_n, mst_l, mst_R62, mst_R64, mst_R65, mst_R66, mst_R67, mst_R78, mst_R80, mst_R81, mst_F18, mst_F24, mst_F45, mst_F47, mst_F50, mst_F51, nI_1, LQ1, LQ2, LQ4, LQ1, LQ2, ms_k, ms_z, ms_r, ms_49, ms_w49, ms_R62, ms_R64, ms_R65, ms_R66, ms_R67, ms_R75, ms_R76, ms_R77, ms_R78, ms_R79, ms_R80, ms_R81, ms_R95, ms_R96, ms_R97, ms_F0, ms_F2, ms_F18, ms_F24, ms_F31, ms_F26, ms_F45, ms_F47, ms_F50, ms_F51, ms_F52, ms_F53, ms_F54, ms_F55, ms_F56, ms_F57, ms_F58, ms_F59, ms_F60, ms_F61, ms_F62, ms_F63, sh_r59_60 hS, sh_k95 hS, sh_z95 hS, sh_r59_61 hS, sh_k96 hS, sh_z96 hS, sh_r59_62 hS, sh_k97 hS, sh_z97 hS]
          try exact this
        · have := tl _ rfl
          try simp only [pm_WV, pm_WW, true_and, and_true, true_or, or_true, and_self, reduceIte, Nat.reduceEqDiff, Nat.reduceLT, Nat.reduceLeDiff, Nat.reduceMul, false_and, and_false, reduceCtorEq, false_or, or_false, not_true_eq_false, not_false_eq_true, true_implies, false_implies, implies_true, lf_10, eq_self, Int32.reduceLT, Int32.reduceLE, Int32.reduceAdd, Int32.reduceSub, pm_same, pm_i_wI, pm_l_wL, pm_l_wM, pm_oR_rf, pm_oQ_rf, sh_k59 hS, sh_r59_25 hS, sh_k80 hS, sh_z80 hS, sh_r59_27 hS, sh_k81 hS, sh_z81 hS, mst_w46, mst_w48, mst_w49, mst_46, mst_48, mst_49, mst_k, mst_z, mst_r, mst_n, mst_l, mst_R62, mst_R64, mst_R65, mst_R66, mst_R67, mst_R78, mst_R80, mst_R81, mst_F18, mst_F24, mst_F45, mst_F47, mst_F50, mst_F51, nI_1, LQ1, LQ2, LQ4, LQ1, LQ2, ms_k, ms_z, ms_r, ms_49, ms_w49, ms_R62, ms_R64, ms_R65, ms_R66, ms_R67, ms_R75, ms_R76, ms_R77, ms_R78, ms_R79, ms_R80, ms_R81, ms_R95, ms_R96, ms_R97, ms_F0, ms_F2, ms_F18, ms_F24, ms_F31, ms_F26, ms_F45, ms_F47, ms_F50, ms_F51, ms_F52, ms_F53, ms_F54, ms_F55, ms_F56, ms_F57, ms_F58, ms_F59, ms_F60, ms_F61, ms_F62, ms_F63, sh_r59_60 hS, sh_k95 hS, sh_z95 hS, sh_r59_61 hS, sh_k96 hS, sh_z96 hS, sh_r59_62 hS, sh_k97 hS, sh_z97 hS, pm_WI0, pm_WI1, pm_WI2, pm_WI3, pm_WI4, pm_WI5, pm_WV, pm_WW, pm_WX, pb_B182, pm_if, pm_QI_at, pm_QL_at, pm_QV_at, pm_QR_at, pm_QR_at0, pm_QR_at1, Nat.reduceSub, Nat.reduceAdd, List.replicate_zero, List.replicate_succ] at this ⊢
          first | exact this | skip
          try refine pm_wb_ok pb_c182 2 134 0 _ _ _ _ _ ?_
          try refine pm_wb_ok pb_c182 1 135 0 _ _ _ _ _ ?_
          try simp only [pm_WI0, pm_WI1, pm_WI2, pm_WI3, pm_WI4, pm_WI5, pm_WV, pm_WW, pm_WX, pb_B182, pm_if, pm_QI_at, pm_QL_at, pm_QV_at, pm_QR_at, pm_QR_at0, pm_QR_at1, Nat.reduceSub, Nat.reduceAdd, List.replicate_zero, List.replicate_succ, true_and, and_true, true_or, or_true, and_self, reduceIte, Nat.reduceEqDiff, Nat.reduceLT, Nat.reduceLeDiff, Nat.reduceMul, false_and, and_false, reduceCtorEq, false_or, or_false, not_true_eq_false, not_false_eq_true, true_implies, false_implies, implies_true, lf_10, eq_self, Int32.reduceLT, Int32.reduceLE, Int32.reduceAdd, Int32.reduceSub, pm_same, pm_i_wI, pm_l_wL, pm_l_wM, pm_oR_rf, pm_oQ_rf, sh_k59 hS, sh_r59_25 hS, sh_k80 hS, sh_z80 hS, sh_r59_27 hS, sh_k81 hS, sh_z81 hS, mst_w46, mst_w48, mst_w49, mst_46, mst_48, mst_49, mst_k, mst_z, mst_r, mst_n, mst_l, mst_R62, mst_R64, mst_R65, mst_R66, mst_R67, mst_R78, mst_R80, mst_R81, mst_F18, mst_F24, mst_F45, mst_F47, mst_F50, mst_F51, nI_1, LQ1, LQ2, LQ4, LQ1, LQ2, ms_k, ms_z, ms_r, ms_49, ms_w49, ms_R62, ms_R64, ms_R65, ms_R66, ms_R67, ms_R75, ms_R76, ms_R77, ms_R78, ms_R79, ms_R80, ms_R81, ms_R95, ms_R96, ms_R97, ms_F0, ms_F2, ms_F18, ms_F24, ms_F31, ms_F26, ms_F45, ms_F47, ms_F50, ms_F51, ms_F52, ms_F53, ms_F54, ms_F55, ms_F56, ms_F57, ms_F58, ms_F59, ms_F60, ms_F61, ms_F62, ms_F63, sh_r59_60 hS, sh_k95 hS, sh_z95 hS, sh_r59_61 hS, sh_k96 hS, sh_z96 hS, sh_r59_62 hS, sh_k97 hS, sh_z97 hS]
          try exact this
      · have es : ¬ sg (gx_b f n (x + 1)) = 117 := fun z => yu ((sg_nc hm (c := 117) (by omega)).mp z)
        rw [hms1]
        try simp only [pm_WV, pm_WW, true_and, and_true, true_or, or_true, and_self, reduceIte, Nat.reduceEqDiff, Nat.reduceLT, Nat.reduceLeDiff, Nat.reduceMul, false_and, and_false, reduceCtorEq, false_or, or_false, not_true_eq_false, not_false_eq_true, true_implies, false_implies, implies_true, lf_10, eq_self, Int32.reduceLT, Int32.reduceLE, Int32.reduceAdd, Int32.reduceSub, pm_same, pm_i_wI, pm_l_wL, pm_l_wM, pm_oR_rf, pm_oQ_rf, sh_k59 hS, sh_r59_25 hS, sh_k80 hS, sh_z80 hS, sh_r59_27 hS, sh_k81 hS, sh_z81 hS, mst_w46, mst_w48, mst_w49, mst_46, mst_48, mst_49, mst_k, mst_z, mst_r, mst_n, mst_l, mst_R62, mst_R64, mst_R65, mst_R66, mst_R67, mst_R78, mst_R80, mst_R81, mst_F18, mst_F24, mst_F45, mst_F47, mst_F50, mst_F51, nI_1, LQ1, LQ2, LQ4, LQ1, LQ2, ms_k, ms_z, ms_r, ms_49, ms_w49, ms_R62, ms_R64, ms_R65, ms_R66, ms_R67, ms_R75, ms_R76, ms_R77, ms_R78, ms_R79, ms_R80, ms_R81, ms_R95, ms_R96, ms_R97, ms_F0, ms_F2, ms_F18, ms_F24, ms_F31, ms_F26, ms_F45, ms_F47, ms_F50, ms_F51, ms_F52, ms_F53, ms_F54, ms_F55, ms_F56, ms_F57, ms_F58, ms_F59, ms_F60, ms_F61, ms_F62, ms_F63, sh_r59_60 hS, sh_k95 hS, sh_z95 hS, sh_r59_61 hS, sh_k96 hS, sh_z96 hS, sh_r59_62 hS, sh_k97 hS, sh_z97 hS, pm_WI0, pm_WI1, pm_WI2, pm_WI3, pm_WI4, pm_WI5, pm_WV, pm_WW, pm_WX, pb_B182, pm_if, pm_QI_at, pm_QL_at, pm_QV_at, pm_QR_at, pm_QR_at0, pm_QR_at1, Nat.reduceSub, Nat.reduceAdd, List.replicate_zero, List.replicate_succ, es]
        refine pm_wb_ok pb_c182 2 62 0 _ _ _ _ _ ?_
        try simp only [pm_WI0, pm_WI1, pm_WI2, pm_WI3, pm_WI4, pm_WI5, pm_WV, pm_WW, pm_WX, pb_B182, pm_if, pm_QI_at, pm_QL_at, pm_QV_at, pm_QR_at, pm_QR_at0, pm_QR_at1, Nat.reduceSub, Nat.reduceAdd, List.replicate_zero, List.replicate_succ, true_and, and_true, true_or, or_true, and_self, reduceIte, Nat.reduceEqDiff, Nat.reduceLT, Nat.reduceLeDiff, Nat.reduceMul, false_and, and_false, reduceCtorEq, false_or, or_false, not_true_eq_false, not_false_eq_true, true_implies, false_implies, implies_true, lf_10, eq_self, Int32.reduceLT, Int32.reduceLE, Int32.reduceAdd, Int32.reduceSub, pm_same, pm_i_wI, pm_l_wL, pm_l_wM, pm_oR_rf, pm_oQ_rf, sh_k59 hS, sh_r59_25 hS, sh_k80 hS, sh_z80 hS, sh_r59_27 hS, sh_k81 hS, sh_z81 hS, mst_w46, mst_w48, mst_w49, mst_46, mst_48, mst_49, mst_k, mst_z, mst_r, mst_n, mst_l, mst_R62, mst_R64, mst_R65, mst_R66, mst_R67, mst_R78, mst_R80, mst_R81, mst_F18, mst_F24, mst_F45, mst_F47, mst_F50, mst_F51, nI_1, LQ1, LQ2, LQ4, LQ1, LQ2, ms_k, ms_z, ms_r, ms_49, ms_w49, ms_R62, ms_R64, ms_R65, ms_R66, ms_R67, ms_R75, ms_R76, ms_R77, ms_R78, ms_R79, ms_R80, ms_R81, ms_R95, ms_R96, ms_R97, ms_F0, ms_F2, ms_F18, ms_F24, ms_F31, ms_F26, ms_F45, ms_F47, ms_F50, ms_F51, ms_F52, ms_F53, ms_F54, ms_F55, ms_F56, ms_F57, ms_F58, ms_F59, ms_F60, ms_F61, ms_F62, ms_F63, sh_r59_60 hS, sh_k95 hS, sh_z95 hS, sh_r59_61 hS, sh_k96 hS, sh_z96 hS, sh_r59_62 hS, sh_k97 hS, sh_z97 hS]
        refine pm_wb_ok pb_c182 1 87 0 _ _ _ _ _ ?_
        try simp only [pm_WI0, pm_WI1, pm_WI2, pm_WI3, pm_WI4, pm_WI5, pm_WV, pm_WW, pm_WX, pb_B182, pm_if, pm_QI_at, pm_QL_at, pm_QV_at, pm_QR_at, pm_QR_at0, pm_QR_at1, Nat.reduceSub, Nat.reduceAdd, List.replicate_zero, List.replicate_succ, true_and, and_true, true_or, or_true, and_self, reduceIte, Nat.reduceEqDiff, Nat.reduceLT, Nat.reduceLeDiff, Nat.reduceMul, false_and, and_false, reduceCtorEq, false_or, or_false, not_true_eq_false, not_false_eq_true, true_implies, false_implies, implies_true, lf_10, eq_self, Int32.reduceLT, Int32.reduceLE, Int32.reduceAdd, Int32.reduceSub, pm_same, pm_i_wI, pm_l_wL, pm_l_wM, pm_oR_rf, pm_oQ_rf, sh_k59 hS, sh_r59_25 hS, sh_k80 hS, sh_z80 hS, sh_r59_27 hS, sh_k81 hS, sh_z81 hS, mst_w46, mst_w48, mst_w49, mst_46, mst_48, mst_49, mst_k, mst_z, mst_r, mst_n, mst_l, mst_R62, mst_R64, mst_R65, mst_R66, mst_R67, mst_R78, mst_R80, mst_R81, mst_F18, mst_F24, mst_F45, mst_F47, mst_F50, mst_F51, nI_1, LQ1, LQ2, LQ4, LQ1, LQ2, ms_k, ms_z, ms_r, ms_49, ms_w49, ms_R62, ms_R64, ms_R65, ms_R66, ms_R67, ms_R75, ms_R76, ms_R77, ms_R78, ms_R79, ms_R80, ms_R81, ms_R95, ms_R96, ms_R97, ms_F0, ms_F2, ms_F18, ms_F24, ms_F31, ms_F26, ms_F45, ms_F47, ms_F50, ms_F51, ms_F52, ms_F53, ms_F54, ms_F55, ms_F56, ms_F57, ms_F58, ms_F59, ms_F60, ms_F61, ms_F62, ms_F63, sh_r59_60 hS, sh_k95 hS, sh_z95 hS, sh_r59_61 hS, sh_k96 hS, sh_z96 hS, sh_r59_62 hS, sh_k97 hS, sh_z97 hS]
        refine ⟨by omega, mr_183_if ?_⟩
        try simp only [pm_WV, pm_WW, true_and, and_true, true_or, or_true, and_self, reduceIte, Nat.reduceEqDiff, Nat.reduceLT, Nat.reduceLeDiff, Nat.reduceMul, false_and, and_false, reduceCtorEq, false_or, or_false, not_true_eq_false, not_false_eq_true, true_implies, false_implies, implies_true, lf_10, eq_self, Int32.reduceLT, Int32.reduceLE, Int32.reduceAdd, Int32.reduceSub, pm_same, pm_i_wI, pm_l_wL, pm_l_wM, pm_oR_rf, pm_oQ_rf, sh_k59 hS, sh_r59_25 hS, sh_k80 hS, sh_z80 hS, sh_r59_27 hS, sh_k81 hS, sh_z81 hS, mst_w46, mst_w48, mst_w49, mst_46, mst_48, mst_49, mst_k, mst_z, mst_r, mst_n, mst_l, mst_R62, mst_R64, mst_R65, mst_R66, mst_R67, mst_R78, mst_R80, mst_R81, mst_F18, mst_F24, mst_F45, mst_F47, mst_F50, mst_F51, nI_1, LQ1, LQ2, LQ4, LQ1, LQ2, ms_k, ms_z, ms_r, ms_49, ms_w49, ms_R62, ms_R64, ms_R65, ms_R66, ms_R67, ms_R75, ms_R76, ms_R77, ms_R78, ms_R79, ms_R80, ms_R81, ms_R95, ms_R96, ms_R97, ms_F0, ms_F2, ms_F18, ms_F24, ms_F31, ms_F26, ms_F45, ms_F47, ms_F50, ms_F51, ms_F52, ms_F53, ms_F54, ms_F55, ms_F56, ms_F57, ms_F58, ms_F59, ms_F60, ms_F61, ms_F62, ms_F63, sh_r59_60 hS, sh_k95 hS, sh_z95 hS, sh_r59_61 hS, sh_k96 hS, sh_z96 hS, sh_r59_62 hS, sh_k97 hS, sh_z97 hS, pm_WI0, pm_WI1, pm_WI2, pm_WI3, pm_WI4, pm_WI5, pm_WV, pm_WW, pm_WX, pb_B182, pm_if, pm_QI_at, pm_QL_at, pm_QV_at, pm_QR_at, pm_QR_at0, pm_QR_at1, Nat.reduceSub, Nat.reduceAdd, List.replicate_zero, List.replicate_succ]
        refine pm_wb_ok pb_c182 1 97 0 _ _ _ _ _ ?_
        try simp only [pm_WI0, pm_WI1, pm_WI2, pm_WI3, pm_WI4, pm_WI5, pm_WV, pm_WW, pm_WX, pb_B182, pm_if, pm_QI_at, pm_QL_at, pm_QV_at, pm_QR_at, pm_QR_at0, pm_QR_at1, Nat.reduceSub, Nat.reduceAdd, List.replicate_zero, List.replicate_succ, true_and, and_true, true_or, or_true, and_self, reduceIte, Nat.reduceEqDiff, Nat.reduceLT, Nat.reduceLeDiff, Nat.reduceMul, false_and, and_false, reduceCtorEq, false_or, or_false, not_true_eq_false, not_false_eq_true, true_implies, false_implies, implies_true, lf_10, eq_self, Int32.reduceLT, Int32.reduceLE, Int32.reduceAdd, Int32.reduceSub, pm_same, pm_i_wI, pm_l_wL, pm_l_wM, pm_oR_rf, pm_oQ_rf, sh_k59 hS, sh_r59_25 hS, sh_k80 hS, sh_z80 hS, sh_r59_27 hS, sh_k81 hS, sh_z81 hS, mst_w46, mst_w48, mst_w49, mst_46, mst_48, mst_49, mst_k, mst_z, mst_r, mst_n, mst_l, mst_R62, mst_R64, mst_R65, mst_R66, mst_R67, mst_R78, mst_R80, mst_R81, mst_F18, mst_F24, mst_F45, mst_F47, mst_F50, mst_F51, nI_1, LQ1, LQ2, LQ4, LQ1, LQ2, ms_k, ms_z, ms_r, ms_49, ms_w49, ms_R62, ms_R64, ms_R65, ms_R66, ms_R67, ms_R75, ms_R76, ms_R77, ms_R78, ms_R79, ms_R80, ms_R81, ms_R95, ms_R96, ms_R97, ms_F0, ms_F2, ms_F18, ms_F24, ms_F31, ms_F26, ms_F45, ms_F47, ms_F50, ms_F51, ms_F52, ms_F53, ms_F54, ms_F55, ms_F56, ms_F57, ms_F58, ms_F59, ms_F60, ms_F61, ms_F62, ms_F63, sh_r59_60 hS, sh_k95 hS, sh_z95 hS, sh_r59_61 hS, sh_k96 hS, sh_z96 hS, sh_r59_62 hS, sh_k97 hS, sh_z97 hS]
        have q1 := gx_bd_w_le (f := f) (n := n) (r := (x + 1, some ())) (l := [105, 102]) (by show x + 1 ≤ n; omega) (by decide)
        have q3 := gx_bd_w_le (f := f) (l := [32]) q1 (by decide)
        refine ⟨by omega, mr_184 (by omega) hS hm (by show x + 1 ≤ n; omega) rfl wk_if ?_⟩
        rw [wz_if]
        try simp only [pm_WV, pm_WW, true_and, and_true, true_or, or_true, and_self, reduceIte, Nat.reduceEqDiff, Nat.reduceLT, Nat.reduceLeDiff, Nat.reduceMul, false_and, and_false, reduceCtorEq, false_or, or_false, not_true_eq_false, not_false_eq_true, true_implies, false_implies, implies_true, lf_10, eq_self, Int32.reduceLT, Int32.reduceLE, Int32.reduceAdd, Int32.reduceSub, pm_same, pm_i_wI, pm_l_wL, pm_l_wM, pm_oR_rf, pm_oQ_rf, sh_k59 hS, sh_r59_25 hS, sh_k80 hS, sh_z80 hS, sh_r59_27 hS, sh_k81 hS, sh_z81 hS, mst_w46, mst_w48, mst_w49, mst_46, mst_48, mst_49, mst_k, mst_z, mst_r, mst_n, mst_l, mst_R62, mst_R64, mst_R65, mst_R66, mst_R67, mst_R78, mst_R80, mst_R81, mst_F18, mst_F24, mst_F45, mst_F47, mst_F50, mst_F51, nI_1, LQ1, LQ2, LQ4, LQ1, LQ2, ms_k, ms_z, ms_r, ms_49, ms_w49, ms_R62, ms_R64, ms_R65, ms_R66, ms_R67, ms_R75, ms_R76, ms_R77, ms_R78, ms_R79, ms_R80, ms_R81, ms_R95, ms_R96, ms_R97, ms_F0, ms_F2, ms_F18, ms_F24, ms_F31, ms_F26, ms_F45, ms_F47, ms_F50, ms_F51, ms_F52, ms_F53, ms_F54, ms_F55, ms_F56, ms_F57, ms_F58, ms_F59, ms_F60, ms_F61, ms_F62, ms_F63, sh_r59_60 hS, sh_k95 hS, sh_z95 hS, sh_r59_61 hS, sh_k96 hS, sh_z96 hS, sh_r59_62 hS, sh_k97 hS, sh_z97 hS, pm_WI0, pm_WI1, pm_WI2, pm_WI3, pm_WI4, pm_WI5, pm_WV, pm_WW, pm_WX, pb_B182, pm_if, pm_QI_at, pm_QL_at, pm_QV_at, pm_QR_at, pm_QR_at0, pm_QR_at1, Nat.reduceSub, Nat.reduceAdd, List.replicate_zero, List.replicate_succ]
        refine pm_wb_ok pb_c182 1 111 0 _ _ _ _ _ ?_
        try simp only [pm_WI0, pm_WI1, pm_WI2, pm_WI3, pm_WI4, pm_WI5, pm_WV, pm_WW, pm_WX, pb_B182, pm_if, pm_QI_at, pm_QL_at, pm_QV_at, pm_QR_at, pm_QR_at0, pm_QR_at1, Nat.reduceSub, Nat.reduceAdd, List.replicate_zero, List.replicate_succ, true_and, and_true, true_or, or_true, and_self, reduceIte, Nat.reduceEqDiff, Nat.reduceLT, Nat.reduceLeDiff, Nat.reduceMul, false_and, and_false, reduceCtorEq, false_or, or_false, not_true_eq_false, not_false_eq_true, true_implies, false_implies, implies_true, lf_10, eq_self, Int32.reduceLT, Int32.reduceLE, Int32.reduceAdd, Int32.reduceSub, pm_same, pm_i_wI, pm_l_wL, pm_l_wM, pm_oR_rf, pm_oQ_rf, sh_k59 hS, sh_r59_25 hS, sh_k80 hS, sh_z80 hS, sh_r59_27 hS, sh_k81 hS, sh_z81 hS, mst_w46, mst_w48, mst_w49, mst_46, mst_48, mst_49, mst_k, mst_z, mst_r, mst_n, mst_l, mst_R62, mst_R64, mst_R65, mst_R66, mst_R67, mst_R78, mst_R80, mst_R81, mst_F18, mst_F24, mst_F45, mst_F47, mst_F50, mst_F51, nI_1, LQ1, LQ2, LQ4, LQ1, LQ2, ms_k, ms_z, ms_r, ms_49, ms_w49, ms_R62, ms_R64, ms_R65, ms_R66, ms_R67, ms_R75, ms_R76, ms_R77, ms_R78, ms_R79, ms_R80, ms_R81, ms_R95, ms_R96, ms_R97, ms_F0, ms_F2, ms_F18, ms_F24, ms_F31, ms_F26, ms_F45, ms_F47, ms_F50, ms_F51, ms_F52, ms_F53, ms_F54, ms_F55, ms_F56, ms_F57, ms_F58, ms_F59, ms_F60, ms_F61, ms_F62, ms_F63, sh_r59_60 hS, sh_k95 hS, sh_z95 hS, sh_r59_61 hS, sh_k96 hS, sh_z96 hS, sh_r59_62 hS, sh_k97 hS, sh_z97 hS]
        refine ⟨by omega, mr_185 (c := 32) (by omega) hS hm q1 (by omega) ?_⟩
        try simp only [pm_WV, pm_WW, true_and, and_true, true_or, or_true, and_self, reduceIte, Nat.reduceEqDiff, Nat.reduceLT, Nat.reduceLeDiff, Nat.reduceMul, false_and, and_false, reduceCtorEq, false_or, or_false, not_true_eq_false, not_false_eq_true, true_implies, false_implies, implies_true, lf_10, eq_self, Int32.reduceLT, Int32.reduceLE, Int32.reduceAdd, Int32.reduceSub, pm_same, pm_i_wI, pm_l_wL, pm_l_wM, pm_oR_rf, pm_oQ_rf, sh_k59 hS, sh_r59_25 hS, sh_k80 hS, sh_z80 hS, sh_r59_27 hS, sh_k81 hS, sh_z81 hS, mst_w46, mst_w48, mst_w49, mst_46, mst_48, mst_49, mst_k, mst_z, mst_r, mst_n, mst_l, mst_R62, mst_R64, mst_R65, mst_R66, mst_R67, mst_R78, mst_R80, mst_R81, mst_F18, mst_F24, mst_F45, mst_F47, mst_F50, mst_F51, nI_1, LQ1, LQ2, LQ4, LQ1, LQ2, ms_k, ms_z, ms_r, ms_49, ms_w49, ms_R62, ms_R64, ms_R65, ms_R66, ms_R67, ms_R75, ms_R76, ms_R77, ms_R78, ms_R79, ms_R80, ms_R81, ms_R95, ms_R96, ms_R97, ms_F0, ms_F2, ms_F18, ms_F24, ms_F31, ms_F26, ms_F45, ms_F47, ms_F50, ms_F51, ms_F52, ms_F53, ms_F54, ms_F55, ms_F56, ms_F57, ms_F58, ms_F59, ms_F60, ms_F61, ms_F62, ms_F63, sh_r59_60 hS, sh_k95 hS, sh_z95 hS, sh_r59_61 hS, sh_k96 hS, sh_z96 hS, sh_r59_62 hS, sh_k97 hS, sh_z97 hS, pm_WI0, pm_WI1, pm_WI2, pm_WI3, pm_WI4, pm_WI5, pm_WV, pm_WW, pm_WX, pb_B182, pm_if, pm_QI_at, pm_QL_at, pm_QV_at, pm_QR_at, pm_QR_at0, pm_QR_at1, Nat.reduceSub, Nat.reduceAdd, List.replicate_zero, List.replicate_succ]
        refine ⟨by omega, mr_e hS hm h18 h24 h24b ht (by omega) q3 (fun b hb he => ?_)⟩
        try simp only [pm_WV, pm_WW, true_and, and_true, true_or, or_true, and_self, reduceIte, Nat.reduceEqDiff, Nat.reduceLT, Nat.reduceLeDiff, Nat.reduceMul, false_and, and_false, reduceCtorEq, false_or, or_false, not_true_eq_false, not_false_eq_true, true_implies, false_implies, implies_true, lf_10, eq_self, Int32.reduceLT, Int32.reduceLE, Int32.reduceAdd, Int32.reduceSub, pm_same, pm_i_wI, pm_l_wL, pm_l_wM, pm_oR_rf, pm_oQ_rf, sh_k59 hS, sh_r59_25 hS, sh_k80 hS, sh_z80 hS, sh_r59_27 hS, sh_k81 hS, sh_z81 hS, mst_w46, mst_w48, mst_w49, mst_46, mst_48, mst_49, mst_k, mst_z, mst_r, mst_n, mst_l, mst_R62, mst_R64, mst_R65, mst_R66, mst_R67, mst_R78, mst_R80, mst_R81, mst_F18, mst_F24, mst_F45, mst_F47, mst_F50, mst_F51, nI_1, LQ1, LQ2, LQ4, LQ1, LQ2, ms_k, ms_z, ms_r, ms_49, ms_w49, ms_R62, ms_R64, ms_R65, ms_R66, ms_R67, ms_R75, ms_R76, ms_R77, ms_R78, ms_R79, ms_R80, ms_R81, ms_R95, ms_R96, ms_R97, ms_F0, ms_F2, ms_F18, ms_F24, ms_F31, ms_F26, ms_F45, ms_F47, ms_F50, ms_F51, ms_F52, ms_F53, ms_F54, ms_F55, ms_F56, ms_F57, ms_F58, ms_F59, ms_F60, ms_F61, ms_F62, ms_F63, sh_r59_60 hS, sh_k95 hS, sh_z95 hS, sh_r59_61 hS, sh_k96 hS, sh_z96 hS, sh_r59_62 hS, sh_k97 hS, sh_z97 hS, pm_WI0, pm_WI1, pm_WI2, pm_WI3, pm_WI4, pm_WI5, pm_WV, pm_WW, pm_WX, pb_B182, pm_if, pm_QI_at, pm_QL_at, pm_QV_at, pm_QR_at, pm_QR_at0, pm_QR_at1, Nat.reduceSub, Nat.reduceAdd, List.replicate_zero, List.replicate_succ]
        have eg : gx_bd (gx_bd ((x + 1, some ()) : gx_R Unit) (fun _ p => gx_w (gx_b f n) [105, 102] p)) (fun _ p => gx_w (gx_b f n) [32] p) = gx_w (gx_b f n) [105, 102, 32] (x + 1) := by
          rw [show ([105, 102, 32] : List Nat) = [105, 102] ++ [32] from rfl, gx_w_app]; rfl
        have tl := tail _ 0 1 .null q3 (by
          rw [eg]
          unfold go_w
          by_cases yi : gx_b f n (x + 1) = 105
          · rw [if_pos yi]
          · rw [if_neg yi]
            try simp only [gx_w]
            rw [if_neg yi, if_neg yu]) (Or.inr ⟨rfl, rfl⟩) (fun u hu => by
          by_cases yi : gx_b f n (x + 1) = 105
          · rw [if_pos yi]
          · rw [eg] at hu
            try simp only [gx_w] at hu
            rw [if_neg yi] at hu
            cases hu) b hb he
        rcases hb with rfl | rfl
        · have := tl _ rfl
          try simp only [pm_WV, pm_WW, true_and, and_true, true_or, or_true, and_self, reduceIte, Nat.reduceEqDiff, Nat.reduceLT, Nat.reduceLeDiff, Nat.reduceMul, false_and, and_false, reduceCtorEq, false_or, or_false, not_true_eq_false, not_false_eq_true, true_implies, false_implies, implies_true, lf_10, eq_self, Int32.reduceLT, Int32.reduceLE, Int32.reduceAdd, Int32.reduceSub, pm_same, pm_i_wI, pm_l_wL, pm_l_wM, pm_oR_rf, pm_oQ_rf, sh_k59 hS, sh_r59_25 hS, sh_k80 hS, sh_z80 hS, sh_r59_27 hS, sh_k81 hS, sh_z81 hS, mst_w46, mst_w48, mst_w49, mst_46, mst_48, mst_49, mst_k, mst_z, mst_r, mst_n, mst_l, mst_R62, mst_R64, mst_R65, mst_R66, mst_R67, mst_R78, mst_R80, mst_R81, mst_F18, mst_F24, mst_F45, mst_F47, mst_F50, mst_F51, nI_1, LQ1, LQ2, LQ4, LQ1, LQ2, ms_k, ms_z, ms_r, ms_49, ms_w49, ms_R62, ms_R64, ms_R65, ms_R66, ms_R67, ms_R75, ms_R76, ms_R77, ms_R78, ms_R79, ms_R80, ms_R81, ms_R95, ms_R96, ms_R97, ms_F0, ms_F2, ms_F18, ms_F24, ms_F31, ms_F26, ms_F45, ms_F47, ms_F50, ms_F51, ms_F52, ms_F53, ms_F54, ms_F55, ms_F56, ms_F57, ms_F58, ms_F59, ms_F60, ms_F61, ms_F62, ms_F63, sh_r59_60 hS, sh_k95 hS, sh_z95 hS, sh_r59_61 hS, sh_k96 hS, sh_z96 hS, sh_r59_62 hS, sh_k97 hS, sh_z97 hS, pm_WI0, pm_WI1, pm_WI2, pm_WI3, pm_WI4, pm_WI5, pm_WV, pm_WW, pm_WX, pb_B182, pm_if, pm_QI_at, pm_QL_at, pm_QV_at, pm_QR_at, pm_QR_at0, pm_QR_at1, Nat.reduceSub, Nat.reduceAdd, List.replicate_zero, List.replicate_succ] at this ⊢
          first | exact this | skip
          try refine pm_wb_ok pb_c182 2 134 0 _ _ _ _ _ ?_
          try refine pm_wb_ok pb_c182 1 135 0 _ _ _ _ _ ?_
          try simp only [pm_WI0, pm_WI1, pm_WI2, pm_WI3, pm_WI4, pm_WI5, pm_WV, pm_WW, pm_WX, pb_B182, pm_if, pm_QI_at, pm_QL_at, pm_QV_at, pm_QR_at, pm_QR_at0, pm_QR_at1, Nat.reduceSub, Nat.reduceAdd, List.replicate_zero, List.replicate_succ, true_and, and_true, true_or, or_true, and_self, reduceIte, Nat.reduceEqDiff, Nat.reduceLT, Nat.reduceLeDiff, Nat.reduceMul, false_and, and_false, reduceCtorEq, false_or, or_false, not_true_eq_false, not_false_eq_true, true_implies, false_implies, implies_true, lf_10, eq_self, Int32.reduceLT, Int32.reduceLE, Int32.reduceAdd, Int32.reduceSub, pm_same, pm_i_wI, pm_l_wL, pm_l_wM, pm_oR_rf, pm_oQ_rf, sh_k59 hS, sh_r59_25 hS, sh_k80 hS, sh_z80 hS, sh_r59_27 hS, sh_k81 hS, sh_z81 hS, mst_w46, mst_w48, mst_w49, mst_46, mst_48, mst_49, mst_k, mst_z, mst_r, mst_n, mst_l, mst_R62, mst_R64, mst_R65, mst_R66, mst_R67, mst_R78, mst_R80, mst_R81, mst_F18, mst_F24, mst_F45, mst_F47, mst_F50, mst_F51, nI_1, LQ1, LQ2, LQ4, LQ1, LQ2, ms_k, ms_z, ms_r, ms_49, ms_w49, ms_R62, ms_R64, ms_R65, ms_R66, ms_R67, ms_R75, ms_R76, ms_R77, ms_R78, ms_R79, ms_R80, ms_R81, ms_R95, ms_R96, ms_R97, ms_F0, ms_F2, ms_F18, ms_F24, ms_F31, ms_F26, ms_F45, ms_F47, ms_F50, ms_F51, ms_F52, ms_F53, ms_F54, ms_F55, ms_F56, ms_F57, ms_F58, ms_F59, ms_F60, ms_F61, ms_F62, ms_F63, sh_r59_60 hS, sh_k95 hS, sh_z95 hS, sh_r59_61 hS, sh_k96 hS, sh_z96 hS, sh_r59_62 hS, sh_k97 hS, sh_z97 hS]
          try exact this
        · have := tl _ rfl
          try simp only [pm_WV, pm_WW, true_and, and_true, true_or, or_true, and_self, reduceIte, Nat.reduceEqDiff, Nat.reduceLT, Nat.reduceLeDiff, Nat.reduceMul, false_and, and_false, reduceCtorEq, false_or, or_false, not_true_eq_false, not_false_eq_true, true_implies, false_implies, implies_true, lf_10, eq_self, Int32.reduceLT, Int32.reduceLE, Int32.reduceAdd, Int32.reduceSub, pm_same, pm_i_wI, pm_l_wL, pm_l_wM, pm_oR_rf, pm_oQ_rf, sh_k59 hS, sh_r59_25 hS, sh_k80 hS, sh_z80 hS, sh_r59_27 hS, sh_k81 hS, sh_z81 hS, mst_w46, mst_w48, mst_w49, mst_46, mst_48, mst_49, mst_k, mst_z, mst_r, mst_n, mst_l, mst_R62, mst_R64, mst_R65, mst_R66, mst_R67, mst_R78, mst_R80, mst_R81, mst_F18, mst_F24, mst_F45, mst_F47, mst_F50, mst_F51, nI_1, LQ1, LQ2, LQ4, LQ1, LQ2, ms_k, ms_z, ms_r, ms_49, ms_w49, ms_R62, ms_R64, ms_R65, ms_R66, ms_R67, ms_R75, ms_R76, ms_R77, ms_R78, ms_R79, ms_R80, ms_R81, ms_R95, ms_R96, ms_R97, ms_F0, ms_F2, ms_F18, ms_F24, ms_F31, ms_F26, ms_F45, ms_F47, ms_F50, ms_F51, ms_F52, ms_F53, ms_F54, ms_F55, ms_F56, ms_F57, ms_F58, ms_F59, ms_F60, ms_F61, ms_F62, ms_F63, sh_r59_60 hS, sh_k95 hS, sh_z95 hS, sh_r59_61 hS, sh_k96 hS, sh_z96 hS, sh_r59_62 hS, sh_k97 hS, sh_z97 hS, pm_WI0, pm_WI1, pm_WI2, pm_WI3, pm_WI4, pm_WI5, pm_WV, pm_WW, pm_WX, pb_B182, pm_if, pm_QI_at, pm_QL_at, pm_QV_at, pm_QR_at, pm_QR_at0, pm_QR_at1, Nat.reduceSub, Nat.reduceAdd, List.replicate_zero, List.replicate_succ] at this ⊢
          first | exact this | skip
          try refine pm_wb_ok pb_c182 2 134 0 _ _ _ _ _ ?_
          try refine pm_wb_ok pb_c182 1 135 0 _ _ _ _ _ ?_
          try simp only [pm_WI0, pm_WI1, pm_WI2, pm_WI3, pm_WI4, pm_WI5, pm_WV, pm_WW, pm_WX, pb_B182, pm_if, pm_QI_at, pm_QL_at, pm_QV_at, pm_QR_at, pm_QR_at0, pm_QR_at1, Nat.reduceSub, Nat.reduceAdd, List.replicate_zero, List.replicate_succ, true_and, and_true, true_or, or_true, and_self, reduceIte, Nat.reduceEqDiff, Nat.reduceLT, Nat.reduceLeDiff, Nat.reduceMul, false_and, and_false, reduceCtorEq, false_or, or_false, not_true_eq_false, not_false_eq_true, true_implies, false_implies, implies_true, lf_10, eq_self, Int32.reduceLT, Int32.reduceLE, Int32.reduceAdd, Int32.reduceSub, pm_same, pm_i_wI, pm_l_wL, pm_l_wM, pm_oR_rf, pm_oQ_rf, sh_k59 hS, sh_r59_25 hS, sh_k80 hS, sh_z80 hS, sh_r59_27 hS, sh_k81 hS, sh_z81 hS, mst_w46, mst_w48, mst_w49, mst_46, mst_48, mst_49, mst_k, mst_z, mst_r, mst_n, mst_l, mst_R62, mst_R64, mst_R65, mst_R66, mst_R67, mst_R78, mst_R80, mst_R81, mst_F18, mst_F24, mst_F45, mst_F47, mst_F50, mst_F51, nI_1, LQ1, LQ2, LQ4, LQ1, LQ2, ms_k, ms_z, ms_r, ms_49, ms_w49, ms_R62, ms_R64, ms_R65, ms_R66, ms_R67, ms_R75, ms_R76, ms_R77, ms_R78, ms_R79, ms_R80, ms_R81, ms_R95, ms_R96, ms_R97, ms_F0, ms_F2, ms_F18, ms_F24, ms_F31, ms_F26, ms_F45, ms_F47, ms_F50, ms_F51, ms_F52, ms_F53, ms_F54, ms_F55, ms_F56, ms_F57, ms_F58, ms_F59, ms_F60, ms_F61, ms_F62, ms_F63, sh_r59_60 hS, sh_k95 hS, sh_z95 hS, sh_r59_61 hS, sh_k96 hS, sh_z96 hS, sh_r59_62 hS, sh_k97 hS, sh_z97 hS]
          try exact this
    · refine ⟨fun _ => ?_, fun z => absurd rfl z⟩
      have ek : go_k (gx_b f n) L s m x = (x, some (L.1 ++ [(s, m, 0, L.2.2.length, L.2.2.length)], L.2.1, L.2.2)) := by unfold go_k; rw [if_neg y]
      refine mr_182s hS hk hk2 (Or.inr rfl) (h1 x _ _ (by rw [eo, ek]) hfr ?_)
      have := hmlr.owe (e := []) (s := s) (n := m) (wn := 0) hw (hb := 1) rfl
      rw [List.append_nil] at this
      exact this
theorem one_case {f : Nat → Int32} {n fl p : Nat} {L : gx_L} {ws : List Nat} (hp : p ≤ n) (hl : ∀ c, c ∈ ws → c < 256) : (∃ x, x ≤ n ∧ gx_bd (gx_bd (gx_bd ((p, some ()) : gx_R Unit) (fun _ p => gx_w (gx_b f n) ws p)) (fun _ p => gx_w (gx_b f n) [32] p)) (fun _ p => gx_num (gx_b f n) 0 4 p) = (x, none) ∧ gx_one (gx_b f n) L fl (ws ++ [32]) p = (x, none)) ∨ ∃ v x, gx_bd (gx_bd (gx_bd ((p, some ()) : gx_R Unit) (fun _ p => gx_w (gx_b f n) ws p)) (fun _ p => gx_w (gx_b f n) [32] p)) (fun _ p => gx_num (gx_b f n) 0 4 p) = (x, some v) ∧ gx_one (gx_b f n) L fl (ws ++ [32]) p = (x, some (L.1, va_up L.2.1 fl v, L.2.2)) := by
  unfold gx_one
  rw [gx_w_app]
  show (∃ x, x ≤ n ∧ gx_bd (gx_bd (gx_w (gx_b f n) ws p) (fun _ p => gx_w (gx_b f n) [32] p)) (fun _ p => gx_num (gx_b f n) 0 4 p) = (x, none) ∧ _) ∨ ∃ v x, gx_bd (gx_bd (gx_w (gx_b f n) ws p) (fun _ p => gx_w (gx_b f n) [32] p)) (fun _ p => gx_num (gx_b f n) 0 4 p) = (x, some v) ∧ _
  rcases gx_two (gx_w (gx_b f n) ws p) with ⟨x, ex⟩ | ⟨x, u, ex⟩
  · left; rw [ex]; exact ⟨x, (gx_w_ok gx_b_eof hp hl ex).2, rfl, rfl⟩
  have hx := gx_w_ok gx_b_eof hp hl ex
  rw [ex]
  try simp only [gx_bd_s]
  rcases gx_two (gx_w (gx_b f n) [32] x) with ⟨x2, ex2⟩ | ⟨x2, u2, ex2⟩
  · left; rw [ex2]; exact ⟨x2, (gx_w_ok gx_b_eof hx.2 (by decide) ex2).2, rfl, rfl⟩
  have hx2 := gx_w_ok gx_b_eof hx.2 (by decide) ex2
  rw [ex2]
  try simp only [gx_bd_s]
  rcases gx_two (gx_num (gx_b f n) 0 4 x2) with ⟨x3, ex3⟩ | ⟨x3, v, ex3⟩
  · left; rw [ex3]; exact ⟨x3, by have := gx_num_no ex3; omega, rfl, rfl⟩
  right; rw [ex3]; exact ⟨v, x3, rfl, rfl⟩
/-! limit -/
theorem mr_180_limit {G : pm_G} {d : Nat} {S : pm_S} {f : Nat → Int32} {n : Nat} {t : Nat → Bool} {L : gx_L} {c p0 p : Nat} {q : pm_S → Prop} (hd : 29 ≤ d) (hcx : cx S f n t) (hw : gx_wf t L c p0) (hmlr : mlr S t L) (hc : c < 10) (hpp : p0 ≤ p) (hp : p ≤ n) (y : gx_b f n p = 108) (h1 : ∀ x L' T, gx_clause (gx_b f n) L p = (x, some L') → lfr S T → mlr T t L' → q (ms T 0 (x, some ()))) (h0 : ∀ x T, gx_clause (gx_b f n) L p = (x, none) → lfr S T → q (ms T 0 (x, none))) : pm_CV G d 180 [.ref 59] (ms S 0 (p, some ())) q := by
  obtain ⟨hS, hm, h18, h24, h24b, ht⟩ := id hcx
  have hn := hm.2.1
  have hpn : p < n := gx_lt gx_b_eof y (by omega)
  have es : sg (gx_b f n p) = 108 := by rw [y]; rfl
  have hms : ms S 0 (p, some ()) = mst S (nI p) (-1) (nI 0) := rfl
  rw [hms]
  refine pm_goV 180 1 pb_c180 (by decide) (Nat.le_of_ble_eq_true rfl) rfl ?_
  try simp only [show pm_mL 180 = 3 from rfl, pm_WI0, pm_WI1, pm_WI2, pm_WI3, pm_WI4, pm_WI5, pm_WV, pm_WW, pm_WX, pb_B180, pm_if, pm_QI_at, pm_QL_at, pm_QV_at, pm_QR_at, pm_QR_at0, pm_QR_at1, Nat.reduceSub, Nat.reduceAdd, List.replicate_zero, List.replicate_succ, true_and, and_true, true_or, or_true, and_self, reduceIte, Nat.reduceEqDiff, Nat.reduceLT, Nat.reduceLeDiff, Nat.reduceMul, false_and, and_false, reduceCtorEq, false_or, or_false, not_true_eq_false, not_false_eq_true, true_implies, false_implies, implies_true, lf_10, eq_self, Int32.reduceLT, Int32.reduceLE, Int32.reduceAdd, Int32.reduceSub, pm_same, pm_i_wI, pm_l_wL, pm_l_wM, pm_oR_rf, pm_oQ_rf, sh_k59 hS, sh_r59_25 hS, sh_k80 hS, sh_z80 hS, sh_r59_27 hS, sh_k81 hS, sh_z81 hS, mst_w46, mst_w48, mst_w49, mst_46, mst_48, mst_49, mst_k, mst_z, mst_r, mst_n, mst_l, mst_R62, mst_R64, mst_R65, mst_R66, mst_R67, mst_R78, mst_R80, mst_R81, mst_F18, mst_F24, mst_F45, mst_F47, mst_F50, mst_F51, nI_1, LQ1, LQ2, LQ4, LQ1, LQ2, ms_k, ms_z, ms_r, ms_49, ms_w49, ms_R62, ms_R64, ms_R65, ms_R66, ms_R67, ms_R75, ms_R76, ms_R77, ms_R78, ms_R79, ms_R80, ms_R81, ms_R95, ms_R96, ms_R97, ms_F0, ms_F2, ms_F18, ms_F24, ms_F31, ms_F26, ms_F45, ms_F47, ms_F50, ms_F51, ms_F52, ms_F53, ms_F54, ms_F55, ms_F56, ms_F57, ms_F58, ms_F59, ms_F60, ms_F61, ms_F62, ms_F63, sh_r59_60 hS, sh_k95 hS, sh_z95 hS, sh_r59_61 hS, sh_k96 hS, sh_z96 hS, sh_r59_62 hS, sh_k97 hS, sh_z97 hS]
  refine ⟨by omega, mr_181 hS hm hp ?_⟩
  rw [← hms]
  try simp only [pm_WV, pm_WW, true_and, and_true, true_or, or_true, and_self, reduceIte, Nat.reduceEqDiff, Nat.reduceLT, Nat.reduceLeDiff, Nat.reduceMul, false_and, and_false, reduceCtorEq, false_or, or_false, not_true_eq_false, not_false_eq_true, true_implies, false_implies, implies_true, lf_10, eq_self, Int32.reduceLT, Int32.reduceLE, Int32.reduceAdd, Int32.reduceSub, pm_same, pm_i_wI, pm_l_wL, pm_l_wM, pm_oR_rf, pm_oQ_rf, sh_k59 hS, sh_r59_25 hS, sh_k80 hS, sh_z80 hS, sh_r59_27 hS, sh_k81 hS, sh_z81 hS, mst_w46, mst_w48, mst_w49, mst_46, mst_48, mst_49, mst_k, mst_z, mst_r, mst_n, mst_l, mst_R62, mst_R64, mst_R65, mst_R66, mst_R67, mst_R78, mst_R80, mst_R81, mst_F18, mst_F24, mst_F45, mst_F47, mst_F50, mst_F51, nI_1, LQ1, LQ2, LQ4, LQ1, LQ2, ms_k, ms_z, ms_r, ms_49, ms_w49, ms_R62, ms_R64, ms_R65, ms_R66, ms_R67, ms_R75, ms_R76, ms_R77, ms_R78, ms_R79, ms_R80, ms_R81, ms_R95, ms_R96, ms_R97, ms_F0, ms_F2, ms_F18, ms_F24, ms_F31, ms_F26, ms_F45, ms_F47, ms_F50, ms_F51, ms_F52, ms_F53, ms_F54, ms_F55, ms_F56, ms_F57, ms_F58, ms_F59, ms_F60, ms_F61, ms_F62, ms_F63, sh_r59_60 hS, sh_k95 hS, sh_z95 hS, sh_r59_61 hS, sh_k96 hS, sh_z96 hS, sh_r59_62 hS, sh_k97 hS, sh_z97 hS, pm_WI0, pm_WI1, pm_WI2, pm_WI3, pm_WI4, pm_WI5, pm_WV, pm_WW, pm_WX, pb_B180, pm_if, pm_QI_at, pm_QL_at, pm_QV_at, pm_QR_at, pm_QR_at0, pm_QR_at1, Nat.reduceSub, Nat.reduceAdd, List.replicate_zero, List.replicate_succ, es]
  refine pm_wb_ok pb_c180 2 18 0 _ _ _ _ _ ?_
  try simp only [pm_WI0, pm_WI1, pm_WI2, pm_WI3, pm_WI4, pm_WI5, pm_WV, pm_WW, pm_WX, pb_B180, pm_if, pm_QI_at, pm_QL_at, pm_QV_at, pm_QR_at, pm_QR_at0, pm_QR_at1, Nat.reduceSub, Nat.reduceAdd, List.replicate_zero, List.replicate_succ, true_and, and_true, true_or, or_true, and_self, reduceIte, Nat.reduceEqDiff, Nat.reduceLT, Nat.reduceLeDiff, Nat.reduceMul, false_and, and_false, reduceCtorEq, false_or, or_false, not_true_eq_false, not_false_eq_true, true_implies, false_implies, implies_true, lf_10, eq_self, Int32.reduceLT, Int32.reduceLE, Int32.reduceAdd, Int32.reduceSub, pm_same, pm_i_wI, pm_l_wL, pm_l_wM, pm_oR_rf, pm_oQ_rf, sh_k59 hS, sh_r59_25 hS, sh_k80 hS, sh_z80 hS, sh_r59_27 hS, sh_k81 hS, sh_z81 hS, mst_w46, mst_w48, mst_w49, mst_46, mst_48, mst_49, mst_k, mst_z, mst_r, mst_n, mst_l, mst_R62, mst_R64, mst_R65, mst_R66, mst_R67, mst_R78, mst_R80, mst_R81, mst_F18, mst_F24, mst_F45, mst_F47, mst_F50, mst_F51, nI_1, LQ1, LQ2, LQ4, LQ1, LQ2, ms_k, ms_z, ms_r, ms_49, ms_w49, ms_R62, ms_R64, ms_R65, ms_R66, ms_R67, ms_R75, ms_R76, ms_R77, ms_R78, ms_R79, ms_R80, ms_R81, ms_R95, ms_R96, ms_R97, ms_F0, ms_F2, ms_F18, ms_F24, ms_F31, ms_F26, ms_F45, ms_F47, ms_F50, ms_F51, ms_F52, ms_F53, ms_F54, ms_F55, ms_F56, ms_F57, ms_F58, ms_F59, ms_F60, ms_F61, ms_F62, ms_F63, sh_r59_60 hS, sh_k95 hS, sh_z95 hS, sh_r59_61 hS, sh_k96 hS, sh_z96 hS, sh_r59_62 hS, sh_k97 hS, sh_z97 hS]
  have ec : gx_clause (gx_b f n) L p = gx_one (gx_b f n) L 10 [108, 105, 109, 105, 116, 32] p := by
    unfold gx_clause; rw [if_neg (by omega), if_neg (by omega), if_neg (by omega), if_pos y]
  refine ⟨by omega, mr_183_limit ?_⟩
  try simp only [pm_WV, pm_WW, true_and, and_true, true_or, or_true, and_self, reduceIte, Nat.reduceEqDiff, Nat.reduceLT, Nat.reduceLeDiff, Nat.reduceMul, false_and, and_false, reduceCtorEq, false_or, or_false, not_true_eq_false, not_false_eq_true, true_implies, false_implies, implies_true, lf_10, eq_self, Int32.reduceLT, Int32.reduceLE, Int32.reduceAdd, Int32.reduceSub, pm_same, pm_i_wI, pm_l_wL, pm_l_wM, pm_oR_rf, pm_oQ_rf, sh_k59 hS, sh_r59_25 hS, sh_k80 hS, sh_z80 hS, sh_r59_27 hS, sh_k81 hS, sh_z81 hS, mst_w46, mst_w48, mst_w49, mst_46, mst_48, mst_49, mst_k, mst_z, mst_r, mst_n, mst_l, mst_R62, mst_R64, mst_R65, mst_R66, mst_R67, mst_R78, mst_R80, mst_R81, mst_F18, mst_F24, mst_F45, mst_F47, mst_F50, mst_F51, nI_1, LQ1, LQ2, LQ4, LQ1, LQ2, ms_k, ms_z, ms_r, ms_49, ms_w49, ms_R62, ms_R64, ms_R65, ms_R66, ms_R67, ms_R75, ms_R76, ms_R77, ms_R78, ms_R79, ms_R80, ms_R81, ms_R95, ms_R96, ms_R97, ms_F0, ms_F2, ms_F18, ms_F24, ms_F31, ms_F26, ms_F45, ms_F47, ms_F50, ms_F51, ms_F52, ms_F53, ms_F54, ms_F55, ms_F56, ms_F57, ms_F58, ms_F59, ms_F60, ms_F61, ms_F62, ms_F63, sh_r59_60 hS, sh_k95 hS, sh_z95 hS, sh_r59_61 hS, sh_k96 hS, sh_z96 hS, sh_r59_62 hS, sh_k97 hS, sh_z97 hS, pm_WI0, pm_WI1, pm_WI2, pm_WI3, pm_WI4, pm_WI5, pm_WV, pm_WW, pm_WX, pb_B180, pm_if, pm_QI_at, pm_QL_at, pm_QV_at, pm_QR_at, pm_QR_at0, pm_QR_at1, Nat.reduceSub, Nat.reduceAdd, List.replicate_zero, List.replicate_succ]
  refine ⟨by omega, mr_199 (by omega) hS hm (by show p ≤ n; exact hp) rfl wk_limit (by rw [wz_limit]; decide) ?_⟩
  rw [wz_limit]
  try simp only [pm_WV, pm_WW, true_and, and_true, true_or, or_true, and_self, reduceIte, Nat.reduceEqDiff, Nat.reduceLT, Nat.reduceLeDiff, Nat.reduceMul, false_and, and_false, reduceCtorEq, false_or, or_false, not_true_eq_false, not_false_eq_true, true_implies, false_implies, implies_true, lf_10, eq_self, Int32.reduceLT, Int32.reduceLE, Int32.reduceAdd, Int32.reduceSub, pm_same, pm_i_wI, pm_l_wL, pm_l_wM, pm_oR_rf, pm_oQ_rf, sh_k59 hS, sh_r59_25 hS, sh_k80 hS, sh_z80 hS, sh_r59_27 hS, sh_k81 hS, sh_z81 hS, mst_w46, mst_w48, mst_w49, mst_46, mst_48, mst_49, mst_k, mst_z, mst_r, mst_n, mst_l, mst_R62, mst_R64, mst_R65, mst_R66, mst_R67, mst_R78, mst_R80, mst_R81, mst_F18, mst_F24, mst_F45, mst_F47, mst_F50, mst_F51, nI_1, LQ1, LQ2, LQ4, LQ1, LQ2, ms_k, ms_z, ms_r, ms_49, ms_w49, ms_R62, ms_R64, ms_R65, ms_R66, ms_R67, ms_R75, ms_R76, ms_R77, ms_R78, ms_R79, ms_R80, ms_R81, ms_R95, ms_R96, ms_R97, ms_F0, ms_F2, ms_F18, ms_F24, ms_F31, ms_F26, ms_F45, ms_F47, ms_F50, ms_F51, ms_F52, ms_F53, ms_F54, ms_F55, ms_F56, ms_F57, ms_F58, ms_F59, ms_F60, ms_F61, ms_F62, ms_F63, sh_r59_60 hS, sh_k95 hS, sh_z95 hS, sh_r59_61 hS, sh_k96 hS, sh_z96 hS, sh_r59_62 hS, sh_k97 hS, sh_z97 hS, pm_WI0, pm_WI1, pm_WI2, pm_WI3, pm_WI4, pm_WI5, pm_WV, pm_WW, pm_WX, pb_B180, pm_if, pm_QI_at, pm_QL_at, pm_QV_at, pm_QR_at, pm_QR_at0, pm_QR_at1, Nat.reduceSub, Nat.reduceAdd, List.replicate_zero, List.replicate_succ]
  rcases one_case (f := f) (fl := 10) (L := L) hp (ws := [108, 105, 109, 105, 116]) (by decide) with ⟨x, hx, e1, e2⟩ | ⟨v, x, e1, e2⟩
  · rw [e1, un_none, ms_wf (by decide)]
    exact h0 x _ (by rw [ec]; exact e2) (lfr.rf.w (by omega) (by omega))
  · rw [e1, un_some, vo_some, ms_wf (by decide)]
    exact h1 x _ _ (by rw [ec]; exact e2) (lfr.rf.w (by omega) (by omega)) (hmlr.num (by omega) (by omega) (by omega))
/-! cap -/
theorem mr_180_cap {G : pm_G} {d : Nat} {S : pm_S} {f : Nat → Int32} {n : Nat} {t : Nat → Bool} {L : gx_L} {c p0 p : Nat} {q : pm_S → Prop} (hd : 29 ≤ d) (hcx : cx S f n t) (hw : gx_wf t L c p0) (hmlr : mlr S t L) (hc : c < 10) (hpp : p0 ≤ p) (hp : p ≤ n) (y : gx_b f n p = 99) (h1 : ∀ x L' T, gx_clause (gx_b f n) L p = (x, some L') → lfr S T → mlr T t L' → q (ms T 0 (x, some ()))) (h0 : ∀ x T, gx_clause (gx_b f n) L p = (x, none) → lfr S T → q (ms T 0 (x, none))) : pm_CV G d 180 [.ref 59] (ms S 0 (p, some ())) q := by
  obtain ⟨hS, hm, h18, h24, h24b, ht⟩ := id hcx
  have hn := hm.2.1
  have hpn : p < n := gx_lt gx_b_eof y (by omega)
  have es : sg (gx_b f n p) = 99 := by rw [y]; rfl
  have hms : ms S 0 (p, some ()) = mst S (nI p) (-1) (nI 0) := rfl
  rw [hms]
  refine pm_goV 180 1 pb_c180 (by decide) (Nat.le_of_ble_eq_true rfl) rfl ?_
  try simp only [show pm_mL 180 = 3 from rfl, pm_WI0, pm_WI1, pm_WI2, pm_WI3, pm_WI4, pm_WI5, pm_WV, pm_WW, pm_WX, pb_B180, pm_if, pm_QI_at, pm_QL_at, pm_QV_at, pm_QR_at, pm_QR_at0, pm_QR_at1, Nat.reduceSub, Nat.reduceAdd, List.replicate_zero, List.replicate_succ, true_and, and_true, true_or, or_true, and_self, reduceIte, Nat.reduceEqDiff, Nat.reduceLT, Nat.reduceLeDiff, Nat.reduceMul, false_and, and_false, reduceCtorEq, false_or, or_false, not_true_eq_false, not_false_eq_true, true_implies, false_implies, implies_true, lf_10, eq_self, Int32.reduceLT, Int32.reduceLE, Int32.reduceAdd, Int32.reduceSub, pm_same, pm_i_wI, pm_l_wL, pm_l_wM, pm_oR_rf, pm_oQ_rf, sh_k59 hS, sh_r59_25 hS, sh_k80 hS, sh_z80 hS, sh_r59_27 hS, sh_k81 hS, sh_z81 hS, mst_w46, mst_w48, mst_w49, mst_46, mst_48, mst_49, mst_k, mst_z, mst_r, mst_n, mst_l, mst_R62, mst_R64, mst_R65, mst_R66, mst_R67, mst_R78, mst_R80, mst_R81, mst_F18, mst_F24, mst_F45, mst_F47, mst_F50, mst_F51, nI_1, LQ1, LQ2, LQ4, LQ1, LQ2, ms_k, ms_z, ms_r, ms_49, ms_w49, ms_R62, ms_R64, ms_R65, ms_R66, ms_R67, ms_R75, ms_R76, ms_R77, ms_R78, ms_R79, ms_R80, ms_R81, ms_R95, ms_R96, ms_R97, ms_F0, ms_F2, ms_F18, ms_F24, ms_F31, ms_F26, ms_F45, ms_F47, ms_F50, ms_F51, ms_F52, ms_F53, ms_F54, ms_F55, ms_F56, ms_F57, ms_F58, ms_F59, ms_F60, ms_F61, ms_F62, ms_F63, sh_r59_60 hS, sh_k95 hS, sh_z95 hS, sh_r59_61 hS, sh_k96 hS, sh_z96 hS, sh_r59_62 hS, sh_k97 hS, sh_z97 hS]
  refine ⟨by omega, mr_181 hS hm hp ?_⟩
  rw [← hms]
  try simp only [pm_WV, pm_WW, true_and, and_true, true_or, or_true, and_self, reduceIte, Nat.reduceEqDiff, Nat.reduceLT, Nat.reduceLeDiff, Nat.reduceMul, false_and, and_false, reduceCtorEq, false_or, or_false, not_true_eq_false, not_false_eq_true, true_implies, false_implies, implies_true, lf_10, eq_self, Int32.reduceLT, Int32.reduceLE, Int32.reduceAdd, Int32.reduceSub, pm_same, pm_i_wI, pm_l_wL, pm_l_wM, pm_oR_rf, pm_oQ_rf, sh_k59 hS, sh_r59_25 hS, sh_k80 hS, sh_z80 hS, sh_r59_27 hS, sh_k81 hS, sh_z81 hS, mst_w46, mst_w48, mst_w49, mst_46, mst_48, mst_49, mst_k, mst_z, mst_r, mst_n, mst_l, mst_R62, mst_R64, mst_R65, mst_R66, mst_R67, mst_R78, mst_R80, mst_R81, mst_F18, mst_F24, mst_F45, mst_F47, mst_F50, mst_F51, nI_1, LQ1, LQ2, LQ4, LQ1, LQ2, ms_k, ms_z, ms_r, ms_49, ms_w49, ms_R62, ms_R64, ms_R65, ms_R66, ms_R67, ms_R75, ms_R76, ms_R77, ms_R78, ms_R79, ms_R80, ms_R81, ms_R95, ms_R96, ms_R97, ms_F0, ms_F2, ms_F18, ms_F24, ms_F31, ms_F26, ms_F45, ms_F47, ms_F50, ms_F51, ms_F52, ms_F53, ms_F54, ms_F55, ms_F56, ms_F57, ms_F58, ms_F59, ms_F60, ms_F61, ms_F62, ms_F63, sh_r59_60 hS, sh_k95 hS, sh_z95 hS, sh_r59_61 hS, sh_k96 hS, sh_z96 hS, sh_r59_62 hS, sh_k97 hS, sh_z97 hS, pm_WI0, pm_WI1, pm_WI2, pm_WI3, pm_WI4, pm_WI5, pm_WV, pm_WW, pm_WX, pb_B180, pm_if, pm_QI_at, pm_QL_at, pm_QV_at, pm_QR_at, pm_QR_at0, pm_QR_at1, Nat.reduceSub, Nat.reduceAdd, List.replicate_zero, List.replicate_succ, es]
  refine pm_wb_ok pb_c180 4 18 0 _ _ _ _ _ ?_
  try simp only [pm_WI0, pm_WI1, pm_WI2, pm_WI3, pm_WI4, pm_WI5, pm_WV, pm_WW, pm_WX, pb_B180, pm_if, pm_QI_at, pm_QL_at, pm_QV_at, pm_QR_at, pm_QR_at0, pm_QR_at1, Nat.reduceSub, Nat.reduceAdd, List.replicate_zero, List.replicate_succ, true_and, and_true, true_or, or_true, and_self, reduceIte, Nat.reduceEqDiff, Nat.reduceLT, Nat.reduceLeDiff, Nat.reduceMul, false_and, and_false, reduceCtorEq, false_or, or_false, not_true_eq_false, not_false_eq_true, true_implies, false_implies, implies_true, lf_10, eq_self, Int32.reduceLT, Int32.reduceLE, Int32.reduceAdd, Int32.reduceSub, pm_same, pm_i_wI, pm_l_wL, pm_l_wM, pm_oR_rf, pm_oQ_rf, sh_k59 hS, sh_r59_25 hS, sh_k80 hS, sh_z80 hS, sh_r59_27 hS, sh_k81 hS, sh_z81 hS, mst_w46, mst_w48, mst_w49, mst_46, mst_48, mst_49, mst_k, mst_z, mst_r, mst_n, mst_l, mst_R62, mst_R64, mst_R65, mst_R66, mst_R67, mst_R78, mst_R80, mst_R81, mst_F18, mst_F24, mst_F45, mst_F47, mst_F50, mst_F51, nI_1, LQ1, LQ2, LQ4, LQ1, LQ2, ms_k, ms_z, ms_r, ms_49, ms_w49, ms_R62, ms_R64, ms_R65, ms_R66, ms_R67, ms_R75, ms_R76, ms_R77, ms_R78, ms_R79, ms_R80, ms_R81, ms_R95, ms_R96, ms_R97, ms_F0, ms_F2, ms_F18, ms_F24, ms_F31, ms_F26, ms_F45, ms_F47, ms_F50, ms_F51, ms_F52, ms_F53, ms_F54, ms_F55, ms_F56, ms_F57, ms_F58, ms_F59, ms_F60, ms_F61, ms_F62, ms_F63, sh_r59_60 hS, sh_k95 hS, sh_z95 hS, sh_r59_61 hS, sh_k96 hS, sh_z96 hS, sh_r59_62 hS, sh_k97 hS, sh_z97 hS]
  have ec : gx_clause (gx_b f n) L p = gx_one (gx_b f n) L 14 [99, 97, 112, 32] p := by
    unfold gx_clause; rw [if_neg (by omega), if_neg (by omega), if_neg (by omega), if_neg (by omega), if_neg (by omega), if_pos y]
  refine ⟨by omega, mr_183_cap ?_⟩
  try simp only [pm_WV, pm_WW, true_and, and_true, true_or, or_true, and_self, reduceIte, Nat.reduceEqDiff, Nat.reduceLT, Nat.reduceLeDiff, Nat.reduceMul, false_and, and_false, reduceCtorEq, false_or, or_false, not_true_eq_false, not_false_eq_true, true_implies, false_implies, implies_true, lf_10, eq_self, Int32.reduceLT, Int32.reduceLE, Int32.reduceAdd, Int32.reduceSub, pm_same, pm_i_wI, pm_l_wL, pm_l_wM, pm_oR_rf, pm_oQ_rf, sh_k59 hS, sh_r59_25 hS, sh_k80 hS, sh_z80 hS, sh_r59_27 hS, sh_k81 hS, sh_z81 hS, mst_w46, mst_w48, mst_w49, mst_46, mst_48, mst_49, mst_k, mst_z, mst_r, mst_n, mst_l, mst_R62, mst_R64, mst_R65, mst_R66, mst_R67, mst_R78, mst_R80, mst_R81, mst_F18, mst_F24, mst_F45, mst_F47, mst_F50, mst_F51, nI_1, LQ1, LQ2, LQ4, LQ1, LQ2, ms_k, ms_z, ms_r, ms_49, ms_w49, ms_R62, ms_R64, ms_R65, ms_R66, ms_R67, ms_R75, ms_R76, ms_R77, ms_R78, ms_R79, ms_R80, ms_R81, ms_R95, ms_R96, ms_R97, ms_F0, ms_F2, ms_F18, ms_F24, ms_F31, ms_F26, ms_F45, ms_F47, ms_F50, ms_F51, ms_F52, ms_F53, ms_F54, ms_F55, ms_F56, ms_F57, ms_F58, ms_F59, ms_F60, ms_F61, ms_F62, ms_F63, sh_r59_60 hS, sh_k95 hS, sh_z95 hS, sh_r59_61 hS, sh_k96 hS, sh_z96 hS, sh_r59_62 hS, sh_k97 hS, sh_z97 hS, pm_WI0, pm_WI1, pm_WI2, pm_WI3, pm_WI4, pm_WI5, pm_WV, pm_WW, pm_WX, pb_B180, pm_if, pm_QI_at, pm_QL_at, pm_QV_at, pm_QR_at, pm_QR_at0, pm_QR_at1, Nat.reduceSub, Nat.reduceAdd, List.replicate_zero, List.replicate_succ]
  refine ⟨by omega, mr_199 (by omega) hS hm (by show p ≤ n; exact hp) rfl wk_cap (by rw [wz_cap]; decide) ?_⟩
  rw [wz_cap]
  try simp only [pm_WV, pm_WW, true_and, and_true, true_or, or_true, and_self, reduceIte, Nat.reduceEqDiff, Nat.reduceLT, Nat.reduceLeDiff, Nat.reduceMul, false_and, and_false, reduceCtorEq, false_or, or_false, not_true_eq_false, not_false_eq_true, true_implies, false_implies, implies_true, lf_10, eq_self, Int32.reduceLT, Int32.reduceLE, Int32.reduceAdd, Int32.reduceSub, pm_same, pm_i_wI, pm_l_wL, pm_l_wM, pm_oR_rf, pm_oQ_rf, sh_k59 hS, sh_r59_25 hS, sh_k80 hS, sh_z80 hS, sh_r59_27 hS, sh_k81 hS, sh_z81 hS, mst_w46, mst_w48, mst_w49, mst_46, mst_48, mst_49, mst_k, mst_z, mst_r, mst_n, mst_l, mst_R62, mst_R64, mst_R65, mst_R66, mst_R67, mst_R78, mst_R80, mst_R81, mst_F18, mst_F24, mst_F45, mst_F47, mst_F50, mst_F51, nI_1, LQ1, LQ2, LQ4, LQ1, LQ2, ms_k, ms_z, ms_r, ms_49, ms_w49, ms_R62, ms_R64, ms_R65, ms_R66, ms_R67, ms_R75, ms_R76, ms_R77, ms_R78, ms_R79, ms_R80, ms_R81, ms_R95, ms_R96, ms_R97, ms_F0, ms_F2, ms_F18, ms_F24, ms_F31, ms_F26, ms_F45, ms_F47, ms_F50, ms_F51, ms_F52, ms_F53, ms_F54, ms_F55, ms_F56, ms_F57, ms_F58, ms_F59, ms_F60, ms_F61, ms_F62, ms_F63, sh_r59_60 hS, sh_k95 hS, sh_z95 hS, sh_r59_61 hS, sh_k96 hS, sh_z96 hS, sh_r59_62 hS, sh_k97 hS, sh_z97 hS, pm_WI0, pm_WI1, pm_WI2, pm_WI3, pm_WI4, pm_WI5, pm_WV, pm_WW, pm_WX, pb_B180, pm_if, pm_QI_at, pm_QL_at, pm_QV_at, pm_QR_at, pm_QR_at0, pm_QR_at1, Nat.reduceSub, Nat.reduceAdd, List.replicate_zero, List.replicate_succ]
  rcases one_case (f := f) (fl := 14) (L := L) hp (ws := [99, 97, 112]) (by decide) with ⟨x, hx, e1, e2⟩ | ⟨v, x, e1, e2⟩
  · rw [e1, un_none, ms_wf (by decide)]
    exact h0 x _ (by rw [ec]; exact e2) (lfr.rf.w (by omega) (by omega))
  · rw [e1, un_some, vo_some, ms_wf (by decide)]
    exact h1 x _ _ (by rw [ec]; exact e2) (lfr.rf.w (by omega) (by omega)) (hmlr.num (by omega) (by omega) (by omega))
/-! few -/
theorem mr_180_few {G : pm_G} {d : Nat} {S : pm_S} {f : Nat → Int32} {n : Nat} {t : Nat → Bool} {L : gx_L} {c p0 p : Nat} {q : pm_S → Prop} (hd : 29 ≤ d) (hcx : cx S f n t) (hw : gx_wf t L c p0) (hmlr : mlr S t L) (hc : c < 10) (hpp : p0 ≤ p) (hp : p ≤ n) (y : gx_b f n p = 102) (h1 : ∀ x L' T, gx_clause (gx_b f n) L p = (x, some L') → lfr S T → mlr T t L' → q (ms T 0 (x, some ()))) (h0 : ∀ x T, gx_clause (gx_b f n) L p = (x, none) → lfr S T → q (ms T 0 (x, none))) : pm_CV G d 180 [.ref 59] (ms S 0 (p, some ())) q := by
  obtain ⟨hS, hm, h18, h24, h24b, ht⟩ := id hcx
  have hn := hm.2.1
  have hpn : p < n := gx_lt gx_b_eof y (by omega)
  have es : sg (gx_b f n p) = 102 := by rw [y]; rfl
  have hms : ms S 0 (p, some ()) = mst S (nI p) (-1) (nI 0) := rfl
  rw [hms]
  refine pm_goV 180 1 pb_c180 (by decide) (Nat.le_of_ble_eq_true rfl) rfl ?_
  try simp only [show pm_mL 180 = 3 from rfl, pm_WI0, pm_WI1, pm_WI2, pm_WI3, pm_WI4, pm_WI5, pm_WV, pm_WW, pm_WX, pb_B180, pm_if, pm_QI_at, pm_QL_at, pm_QV_at, pm_QR_at, pm_QR_at0, pm_QR_at1, Nat.reduceSub, Nat.reduceAdd, List.replicate_zero, List.replicate_succ, true_and, and_true, true_or, or_true, and_self, reduceIte, Nat.reduceEqDiff, Nat.reduceLT, Nat.reduceLeDiff, Nat.reduceMul, false_and, and_false, reduceCtorEq, false_or, or_false, not_true_eq_false, not_false_eq_true, true_implies, false_implies, implies_true, lf_10, eq_self, Int32.reduceLT, Int32.reduceLE, Int32.reduceAdd, Int32.reduceSub, pm_same, pm_i_wI, pm_l_wL, pm_l_wM, pm_oR_rf, pm_oQ_rf, sh_k59 hS, sh_r59_25 hS, sh_k80 hS, sh_z80 hS, sh_r59_27 hS, sh_k81 hS, sh_z81 hS, mst_w46, mst_w48, mst_w49, mst_46, mst_48, mst_49, mst_k, mst_z, mst_r, mst_n, mst_l, mst_R62, mst_R64, mst_R65, mst_R66, mst_R67, mst_R78, mst_R80, mst_R81, mst_F18, mst_F24, mst_F45, mst_F47, mst_F50, mst_F51, nI_1, LQ1, LQ2, LQ4, LQ1, LQ2, ms_k, ms_z, ms_r, ms_49, ms_w49, ms_R62, ms_R64, ms_R65, ms_R66, ms_R67, ms_R75, ms_R76, ms_R77, ms_R78, ms_R79, ms_R80, ms_R81, ms_R95, ms_R96, ms_R97, ms_F0, ms_F2, ms_F18, ms_F24, ms_F31, ms_F26, ms_F45, ms_F47, ms_F50, ms_F51, ms_F52, ms_F53, ms_F54, ms_F55, ms_F56, ms_F57, ms_F58, ms_F59, ms_F60, ms_F61, ms_F62, ms_F63, sh_r59_60 hS, sh_k95 hS, sh_z95 hS, sh_r59_61 hS, sh_k96 hS, sh_z96 hS, sh_r59_62 hS, sh_k97 hS, sh_z97 hS]
  refine ⟨by omega, mr_181 hS hm hp ?_⟩
  rw [← hms]
  try simp only [pm_WV, pm_WW, true_and, and_true, true_or, or_true, and_self, reduceIte, Nat.reduceEqDiff, Nat.reduceLT, Nat.reduceLeDiff, Nat.reduceMul, false_and, and_false, reduceCtorEq, false_or, or_false, not_true_eq_false, not_false_eq_true, true_implies, false_implies, implies_true, lf_10, eq_self, Int32.reduceLT, Int32.reduceLE, Int32.reduceAdd, Int32.reduceSub, pm_same, pm_i_wI, pm_l_wL, pm_l_wM, pm_oR_rf, pm_oQ_rf, sh_k59 hS, sh_r59_25 hS, sh_k80 hS, sh_z80 hS, sh_r59_27 hS, sh_k81 hS, sh_z81 hS, mst_w46, mst_w48, mst_w49, mst_46, mst_48, mst_49, mst_k, mst_z, mst_r, mst_n, mst_l, mst_R62, mst_R64, mst_R65, mst_R66, mst_R67, mst_R78, mst_R80, mst_R81, mst_F18, mst_F24, mst_F45, mst_F47, mst_F50, mst_F51, nI_1, LQ1, LQ2, LQ4, LQ1, LQ2, ms_k, ms_z, ms_r, ms_49, ms_w49, ms_R62, ms_R64, ms_R65, ms_R66, ms_R67, ms_R75, ms_R76, ms_R77, ms_R78, ms_R79, ms_R80, ms_R81, ms_R95, ms_R96, ms_R97, ms_F0, ms_F2, ms_F18, ms_F24, ms_F31, ms_F26, ms_F45, ms_F47, ms_F50, ms_F51, ms_F52, ms_F53, ms_F54, ms_F55, ms_F56, ms_F57, ms_F58, ms_F59, ms_F60, ms_F61, ms_F62, ms_F63, sh_r59_60 hS, sh_k95 hS, sh_z95 hS, sh_r59_61 hS, sh_k96 hS, sh_z96 hS, sh_r59_62 hS, sh_k97 hS, sh_z97 hS, pm_WI0, pm_WI1, pm_WI2, pm_WI3, pm_WI4, pm_WI5, pm_WV, pm_WW, pm_WX, pb_B180, pm_if, pm_QI_at, pm_QL_at, pm_QV_at, pm_QR_at, pm_QR_at0, pm_QR_at1, Nat.reduceSub, Nat.reduceAdd, List.replicate_zero, List.replicate_succ, es]
  refine pm_wb_ok pb_c180 5 18 0 _ _ _ _ _ ?_
  try simp only [pm_WI0, pm_WI1, pm_WI2, pm_WI3, pm_WI4, pm_WI5, pm_WV, pm_WW, pm_WX, pb_B180, pm_if, pm_QI_at, pm_QL_at, pm_QV_at, pm_QR_at, pm_QR_at0, pm_QR_at1, Nat.reduceSub, Nat.reduceAdd, List.replicate_zero, List.replicate_succ, true_and, and_true, true_or, or_true, and_self, reduceIte, Nat.reduceEqDiff, Nat.reduceLT, Nat.reduceLeDiff, Nat.reduceMul, false_and, and_false, reduceCtorEq, false_or, or_false, not_true_eq_false, not_false_eq_true, true_implies, false_implies, implies_true, lf_10, eq_self, Int32.reduceLT, Int32.reduceLE, Int32.reduceAdd, Int32.reduceSub, pm_same, pm_i_wI, pm_l_wL, pm_l_wM, pm_oR_rf, pm_oQ_rf, sh_k59 hS, sh_r59_25 hS, sh_k80 hS, sh_z80 hS, sh_r59_27 hS, sh_k81 hS, sh_z81 hS, mst_w46, mst_w48, mst_w49, mst_46, mst_48, mst_49, mst_k, mst_z, mst_r, mst_n, mst_l, mst_R62, mst_R64, mst_R65, mst_R66, mst_R67, mst_R78, mst_R80, mst_R81, mst_F18, mst_F24, mst_F45, mst_F47, mst_F50, mst_F51, nI_1, LQ1, LQ2, LQ4, LQ1, LQ2, ms_k, ms_z, ms_r, ms_49, ms_w49, ms_R62, ms_R64, ms_R65, ms_R66, ms_R67, ms_R75, ms_R76, ms_R77, ms_R78, ms_R79, ms_R80, ms_R81, ms_R95, ms_R96, ms_R97, ms_F0, ms_F2, ms_F18, ms_F24, ms_F31, ms_F26, ms_F45, ms_F47, ms_F50, ms_F51, ms_F52, ms_F53, ms_F54, ms_F55, ms_F56, ms_F57, ms_F58, ms_F59, ms_F60, ms_F61, ms_F62, ms_F63, sh_r59_60 hS, sh_k95 hS, sh_z95 hS, sh_r59_61 hS, sh_k96 hS, sh_z96 hS, sh_r59_62 hS, sh_k97 hS, sh_z97 hS]
  have ec : gx_clause (gx_b f n) L p = gx_one (gx_b f n) L 16 [102, 101, 119, 32] p := by
    unfold gx_clause; rw [if_neg (by omega), if_neg (by omega), if_neg (by omega), if_neg (by omega), if_neg (by omega), if_neg (by omega), if_pos y]
  refine ⟨by omega, mr_183_few ?_⟩
  try simp only [pm_WV, pm_WW, true_and, and_true, true_or, or_true, and_self, reduceIte, Nat.reduceEqDiff, Nat.reduceLT, Nat.reduceLeDiff, Nat.reduceMul, false_and, and_false, reduceCtorEq, false_or, or_false, not_true_eq_false, not_false_eq_true, true_implies, false_implies, implies_true, lf_10, eq_self, Int32.reduceLT, Int32.reduceLE, Int32.reduceAdd, Int32.reduceSub, pm_same, pm_i_wI, pm_l_wL, pm_l_wM, pm_oR_rf, pm_oQ_rf, sh_k59 hS, sh_r59_25 hS, sh_k80 hS, sh_z80 hS, sh_r59_27 hS, sh_k81 hS, sh_z81 hS, mst_w46, mst_w48, mst_w49, mst_46, mst_48, mst_49, mst_k, mst_z, mst_r, mst_n, mst_l, mst_R62, mst_R64, mst_R65, mst_R66, mst_R67, mst_R78, mst_R80, mst_R81, mst_F18, mst_F24, mst_F45, mst_F47, mst_F50, mst_F51, nI_1, LQ1, LQ2, LQ4, LQ1, LQ2, ms_k, ms_z, ms_r, ms_49, ms_w49, ms_R62, ms_R64, ms_R65, ms_R66, ms_R67, ms_R75, ms_R76, ms_R77, ms_R78, ms_R79, ms_R80, ms_R81, ms_R95, ms_R96, ms_R97, ms_F0, ms_F2, ms_F18, ms_F24, ms_F31, ms_F26, ms_F45, ms_F47, ms_F50, ms_F51, ms_F52, ms_F53, ms_F54, ms_F55, ms_F56, ms_F57, ms_F58, ms_F59, ms_F60, ms_F61, ms_F62, ms_F63, sh_r59_60 hS, sh_k95 hS, sh_z95 hS, sh_r59_61 hS, sh_k96 hS, sh_z96 hS, sh_r59_62 hS, sh_k97 hS, sh_z97 hS, pm_WI0, pm_WI1, pm_WI2, pm_WI3, pm_WI4, pm_WI5, pm_WV, pm_WW, pm_WX, pb_B180, pm_if, pm_QI_at, pm_QL_at, pm_QV_at, pm_QR_at, pm_QR_at0, pm_QR_at1, Nat.reduceSub, Nat.reduceAdd, List.replicate_zero, List.replicate_succ]
  refine ⟨by omega, mr_199 (by omega) hS hm (by show p ≤ n; exact hp) rfl wk_few (by rw [wz_few]; decide) ?_⟩
  rw [wz_few]
  try simp only [pm_WV, pm_WW, true_and, and_true, true_or, or_true, and_self, reduceIte, Nat.reduceEqDiff, Nat.reduceLT, Nat.reduceLeDiff, Nat.reduceMul, false_and, and_false, reduceCtorEq, false_or, or_false, not_true_eq_false, not_false_eq_true, true_implies, false_implies, implies_true, lf_10, eq_self, Int32.reduceLT, Int32.reduceLE, Int32.reduceAdd, Int32.reduceSub, pm_same, pm_i_wI, pm_l_wL, pm_l_wM, pm_oR_rf, pm_oQ_rf, sh_k59 hS, sh_r59_25 hS, sh_k80 hS, sh_z80 hS, sh_r59_27 hS, sh_k81 hS, sh_z81 hS, mst_w46, mst_w48, mst_w49, mst_46, mst_48, mst_49, mst_k, mst_z, mst_r, mst_n, mst_l, mst_R62, mst_R64, mst_R65, mst_R66, mst_R67, mst_R78, mst_R80, mst_R81, mst_F18, mst_F24, mst_F45, mst_F47, mst_F50, mst_F51, nI_1, LQ1, LQ2, LQ4, LQ1, LQ2, ms_k, ms_z, ms_r, ms_49, ms_w49, ms_R62, ms_R64, ms_R65, ms_R66, ms_R67, ms_R75, ms_R76, ms_R77, ms_R78, ms_R79, ms_R80, ms_R81, ms_R95, ms_R96, ms_R97, ms_F0, ms_F2, ms_F18, ms_F24, ms_F31, ms_F26, ms_F45, ms_F47, ms_F50, ms_F51, ms_F52, ms_F53, ms_F54, ms_F55, ms_F56, ms_F57, ms_F58, ms_F59, ms_F60, ms_F61, ms_F62, ms_F63, sh_r59_60 hS, sh_k95 hS, sh_z95 hS, sh_r59_61 hS, sh_k96 hS, sh_z96 hS, sh_r59_62 hS, sh_k97 hS, sh_z97 hS, pm_WI0, pm_WI1, pm_WI2, pm_WI3, pm_WI4, pm_WI5, pm_WV, pm_WW, pm_WX, pb_B180, pm_if, pm_QI_at, pm_QL_at, pm_QV_at, pm_QR_at, pm_QR_at0, pm_QR_at1, Nat.reduceSub, Nat.reduceAdd, List.replicate_zero, List.replicate_succ]
  rcases one_case (f := f) (fl := 16) (L := L) hp (ws := [102, 101, 119]) (by decide) with ⟨x, hx, e1, e2⟩ | ⟨v, x, e1, e2⟩
  · rw [e1, un_none, ms_wf (by decide)]
    exact h0 x _ (by rw [ec]; exact e2) (lfr.rf.w (by omega) (by omega))
  · rw [e1, un_some, vo_some, ms_wf (by decide)]
    exact h1 x _ _ (by rw [ec]; exact e2) (lfr.rf.w (by omega) (by omega)) (hmlr.num (by omega) (by omega) (by omega))
theorem mr_180_answer {G : pm_G} {d : Nat} {S : pm_S} {f : Nat → Int32} {n : Nat} {t : Nat → Bool} {L : gx_L} {c p0 p : Nat} {q : pm_S → Prop} (hd : 29 ≤ d) (hcx : cx S f n t) (hw : gx_wf t L c p0) (hmlr : mlr S t L) (hc : c < 10) (hpp : p0 ≤ p) (hp : p ≤ n) (y : gx_b f n p = 97) (h1 : ∀ x L' T, gx_clause (gx_b f n) L p = (x, some L') → lfr S T → mlr T t L' → q (ms T 0 (x, some ()))) (h0 : ∀ x T, gx_clause (gx_b f n) L p = (x, none) → lfr S T → q (ms T 0 (x, none))) : pm_CV G d 180 [.ref 59] (ms S 0 (p, some ())) q := by
  obtain ⟨hS, hm, h18, h24, h24b, ht⟩ := id hcx
  have hn := hm.2.1
  have hpn : p < n := gx_lt gx_b_eof y (by omega)
  have es : sg (gx_b f n p) = 97 := by rw [y]; rfl
  have hms : ms S 0 (p, some ()) = mst S (nI p) (-1) (nI 0) := rfl
  rw [hms]
  refine pm_goV 180 1 pb_c180 (by decide) (Nat.le_of_ble_eq_true rfl) rfl ?_
  try simp only [show pm_mL 180 = 3 from rfl, pm_WI0, pm_WI1, pm_WI2, pm_WI3, pm_WI4, pm_WI5, pm_WV, pm_WW, pm_WX, pb_B180, pm_if, pm_QI_at, pm_QL_at, pm_QV_at, pm_QR_at, pm_QR_at0, pm_QR_at1, Nat.reduceSub, Nat.reduceAdd, List.replicate_zero, List.replicate_succ, true_and, and_true, true_or, or_true, and_self, reduceIte, Nat.reduceEqDiff, Nat.reduceLT, Nat.reduceLeDiff, Nat.reduceMul, false_and, and_false, reduceCtorEq, false_or, or_false, not_true_eq_false, not_false_eq_true, true_implies, false_implies, implies_true, lf_10, eq_self, Int32.reduceLT, Int32.reduceLE, Int32.reduceAdd, Int32.reduceSub, pm_same, pm_i_wI, pm_l_wL, pm_l_wM, pm_oR_rf, pm_oQ_rf, sh_k59 hS, sh_r59_25 hS, sh_k80 hS, sh_z80 hS, sh_r59_27 hS, sh_k81 hS, sh_z81 hS, mst_w46, mst_w48, mst_w49, mst_46, mst_48, mst_49, mst_k, mst_z, mst_r, mst_n, mst_l, mst_R62, mst_R64, mst_R65, mst_R66, mst_R67, mst_R78, mst_R80, mst_R81, mst_F18, mst_F24, mst_F45, mst_F47, mst_F50, mst_F51, nI_1, LQ1, LQ2, LQ4, LQ1, LQ2, ms_k, ms_z, ms_r, ms_49, ms_w49, ms_R62, ms_R64, ms_R65, ms_R66, ms_R67, ms_R75, ms_R76, ms_R77, ms_R78, ms_R79, ms_R80, ms_R81, ms_R95, ms_R96, ms_R97, ms_F0, ms_F2, ms_F18, ms_F24, ms_F31, ms_F26, ms_F45, ms_F47, ms_F50, ms_F51, ms_F52, ms_F53, ms_F54, ms_F55, ms_F56, ms_F57, ms_F58, ms_F59, ms_F60, ms_F61, ms_F62, ms_F63, sh_r59_60 hS, sh_k95 hS, sh_z95 hS, sh_r59_61 hS, sh_k96 hS, sh_z96 hS, sh_r59_62 hS, sh_k97 hS, sh_z97 hS]
  refine ⟨by omega, mr_181 hS hm hp ?_⟩
  rw [← hms]
  try simp only [pm_WV, pm_WW, true_and, and_true, true_or, or_true, and_self, reduceIte, Nat.reduceEqDiff, Nat.reduceLT, Nat.reduceLeDiff, Nat.reduceMul, false_and, and_false, reduceCtorEq, false_or, or_false, not_true_eq_false, not_false_eq_true, true_implies, false_implies, implies_true, lf_10, eq_self, Int32.reduceLT, Int32.reduceLE, Int32.reduceAdd, Int32.reduceSub, pm_same, pm_i_wI, pm_l_wL, pm_l_wM, pm_oR_rf, pm_oQ_rf, sh_k59 hS, sh_r59_25 hS, sh_k80 hS, sh_z80 hS, sh_r59_27 hS, sh_k81 hS, sh_z81 hS, mst_w46, mst_w48, mst_w49, mst_46, mst_48, mst_49, mst_k, mst_z, mst_r, mst_n, mst_l, mst_R62, mst_R64, mst_R65, mst_R66, mst_R67, mst_R78, mst_R80, mst_R81, mst_F18, mst_F24, mst_F45, mst_F47, mst_F50, mst_F51, nI_1, LQ1, LQ2, LQ4, LQ1, LQ2, ms_k, ms_z, ms_r, ms_49, ms_w49, ms_R62, ms_R64, ms_R65, ms_R66, ms_R67, ms_R75, ms_R76, ms_R77, ms_R78, ms_R79, ms_R80, ms_R81, ms_R95, ms_R96, ms_R97, ms_F0, ms_F2, ms_F18, ms_F24, ms_F31, ms_F26, ms_F45, ms_F47, ms_F50, ms_F51, ms_F52, ms_F53, ms_F54, ms_F55, ms_F56, ms_F57, ms_F58, ms_F59, ms_F60, ms_F61, ms_F62, ms_F63, sh_r59_60 hS, sh_k95 hS, sh_z95 hS, sh_r59_61 hS, sh_k96 hS, sh_z96 hS, sh_r59_62 hS, sh_k97 hS, sh_z97 hS, pm_WI0, pm_WI1, pm_WI2, pm_WI3, pm_WI4, pm_WI5, pm_WV, pm_WW, pm_WX, pb_B180, pm_if, pm_QI_at, pm_QL_at, pm_QV_at, pm_QR_at, pm_QR_at0, pm_QR_at1, Nat.reduceSub, Nat.reduceAdd, List.replicate_zero, List.replicate_succ, es]
  refine pm_wb_ok pb_c180 3 18 0 _ _ _ _ _ ?_
  try simp only [pm_WI0, pm_WI1, pm_WI2, pm_WI3, pm_WI4, pm_WI5, pm_WV, pm_WW, pm_WX, pb_B180, pm_if, pm_QI_at, pm_QL_at, pm_QV_at, pm_QR_at, pm_QR_at0, pm_QR_at1, Nat.reduceSub, Nat.reduceAdd, List.replicate_zero, List.replicate_succ, true_and, and_true, true_or, or_true, and_self, reduceIte, Nat.reduceEqDiff, Nat.reduceLT, Nat.reduceLeDiff, Nat.reduceMul, false_and, and_false, reduceCtorEq, false_or, or_false, not_true_eq_false, not_false_eq_true, true_implies, false_implies, implies_true, lf_10, eq_self, Int32.reduceLT, Int32.reduceLE, Int32.reduceAdd, Int32.reduceSub, pm_same, pm_i_wI, pm_l_wL, pm_l_wM, pm_oR_rf, pm_oQ_rf, sh_k59 hS, sh_r59_25 hS, sh_k80 hS, sh_z80 hS, sh_r59_27 hS, sh_k81 hS, sh_z81 hS, mst_w46, mst_w48, mst_w49, mst_46, mst_48, mst_49, mst_k, mst_z, mst_r, mst_n, mst_l, mst_R62, mst_R64, mst_R65, mst_R66, mst_R67, mst_R78, mst_R80, mst_R81, mst_F18, mst_F24, mst_F45, mst_F47, mst_F50, mst_F51, nI_1, LQ1, LQ2, LQ4, LQ1, LQ2, ms_k, ms_z, ms_r, ms_49, ms_w49, ms_R62, ms_R64, ms_R65, ms_R66, ms_R67, ms_R75, ms_R76, ms_R77, ms_R78, ms_R79, ms_R80, ms_R81, ms_R95, ms_R96, ms_R97, ms_F0, ms_F2, ms_F18, ms_F24, ms_F31, ms_F26, ms_F45, ms_F47, ms_F50, ms_F51, ms_F52, ms_F53, ms_F54, ms_F55, ms_F56, ms_F57, ms_F58, ms_F59, ms_F60, ms_F61, ms_F62, ms_F63, sh_r59_60 hS, sh_k95 hS, sh_z95 hS, sh_r59_61 hS, sh_k96 hS, sh_z96 hS, sh_r59_62 hS, sh_k97 hS, sh_z97 hS]
  have ec : gx_clause (gx_b f n) L p = gx_one (gx_b f n) L 11 [97, 110, 115, 119, 101, 114, 32] p := by
    unfold gx_clause; rw [if_neg (by omega), if_neg (by omega), if_neg (by omega), if_neg (by omega), if_pos y]
  refine ⟨by omega, mr_183_answe ?_⟩
  try simp only [pm_WV, pm_WW, true_and, and_true, true_or, or_true, and_self, reduceIte, Nat.reduceEqDiff, Nat.reduceLT, Nat.reduceLeDiff, Nat.reduceMul, false_and, and_false, reduceCtorEq, false_or, or_false, not_true_eq_false, not_false_eq_true, true_implies, false_implies, implies_true, lf_10, eq_self, Int32.reduceLT, Int32.reduceLE, Int32.reduceAdd, Int32.reduceSub, pm_same, pm_i_wI, pm_l_wL, pm_l_wM, pm_oR_rf, pm_oQ_rf, sh_k59 hS, sh_r59_25 hS, sh_k80 hS, sh_z80 hS, sh_r59_27 hS, sh_k81 hS, sh_z81 hS, mst_w46, mst_w48, mst_w49, mst_46, mst_48, mst_49, mst_k, mst_z, mst_r, mst_n, mst_l, mst_R62, mst_R64, mst_R65, mst_R66, mst_R67, mst_R78, mst_R80, mst_R81, mst_F18, mst_F24, mst_F45, mst_F47, mst_F50, mst_F51, nI_1, LQ1, LQ2, LQ4, LQ1, LQ2, ms_k, ms_z, ms_r, ms_49, ms_w49, ms_R62, ms_R64, ms_R65, ms_R66, ms_R67, ms_R75, ms_R76, ms_R77, ms_R78, ms_R79, ms_R80, ms_R81, ms_R95, ms_R96, ms_R97, ms_F0, ms_F2, ms_F18, ms_F24, ms_F31, ms_F26, ms_F45, ms_F47, ms_F50, ms_F51, ms_F52, ms_F53, ms_F54, ms_F55, ms_F56, ms_F57, ms_F58, ms_F59, ms_F60, ms_F61, ms_F62, ms_F63, sh_r59_60 hS, sh_k95 hS, sh_z95 hS, sh_r59_61 hS, sh_k96 hS, sh_z96 hS, sh_r59_62 hS, sh_k97 hS, sh_z97 hS, pm_WI0, pm_WI1, pm_WI2, pm_WI3, pm_WI4, pm_WI5, pm_WV, pm_WW, pm_WX, pb_B180, pm_if, pm_QI_at, pm_QL_at, pm_QV_at, pm_QR_at, pm_QR_at0, pm_QR_at1, Nat.reduceSub, Nat.reduceAdd, List.replicate_zero, List.replicate_succ]
  have r1 := gx_bd_w_le (f := f) (n := n) (r := (p, some ())) (l := [97, 110, 115, 119, 101]) hp (by decide)
  refine ⟨by omega, mr_184 (by omega) hS hm hp rfl wk_answe ?_⟩
  rw [wz_answe]
  try simp only [pm_WV, pm_WW, true_and, and_true, true_or, or_true, and_self, reduceIte, Nat.reduceEqDiff, Nat.reduceLT, Nat.reduceLeDiff, Nat.reduceMul, false_and, and_false, reduceCtorEq, false_or, or_false, not_true_eq_false, not_false_eq_true, true_implies, false_implies, implies_true, lf_10, eq_self, Int32.reduceLT, Int32.reduceLE, Int32.reduceAdd, Int32.reduceSub, pm_same, pm_i_wI, pm_l_wL, pm_l_wM, pm_oR_rf, pm_oQ_rf, sh_k59 hS, sh_r59_25 hS, sh_k80 hS, sh_z80 hS, sh_r59_27 hS, sh_k81 hS, sh_z81 hS, mst_w46, mst_w48, mst_w49, mst_46, mst_48, mst_49, mst_k, mst_z, mst_r, mst_n, mst_l, mst_R62, mst_R64, mst_R65, mst_R66, mst_R67, mst_R78, mst_R80, mst_R81, mst_F18, mst_F24, mst_F45, mst_F47, mst_F50, mst_F51, nI_1, LQ1, LQ2, LQ4, LQ1, LQ2, ms_k, ms_z, ms_r, ms_49, ms_w49, ms_R62, ms_R64, ms_R65, ms_R66, ms_R67, ms_R75, ms_R76, ms_R77, ms_R78, ms_R79, ms_R80, ms_R81, ms_R95, ms_R96, ms_R97, ms_F0, ms_F2, ms_F18, ms_F24, ms_F31, ms_F26, ms_F45, ms_F47, ms_F50, ms_F51, ms_F52, ms_F53, ms_F54, ms_F55, ms_F56, ms_F57, ms_F58, ms_F59, ms_F60, ms_F61, ms_F62, ms_F63, sh_r59_60 hS, sh_k95 hS, sh_z95 hS, sh_r59_61 hS, sh_k96 hS, sh_z96 hS, sh_r59_62 hS, sh_k97 hS, sh_z97 hS, pm_WI0, pm_WI1, pm_WI2, pm_WI3, pm_WI4, pm_WI5, pm_WV, pm_WW, pm_WX, pb_B180, pm_if, pm_QI_at, pm_QL_at, pm_QV_at, pm_QR_at, pm_QR_at0, pm_QR_at1, Nat.reduceSub, Nat.reduceAdd, List.replicate_zero, List.replicate_succ]
  refine ⟨by omega, mr_183_r ?_⟩
  try simp only [pm_WV, pm_WW, true_and, and_true, true_or, or_true, and_self, reduceIte, Nat.reduceEqDiff, Nat.reduceLT, Nat.reduceLeDiff, Nat.reduceMul, false_and, and_false, reduceCtorEq, false_or, or_false, not_true_eq_false, not_false_eq_true, true_implies, false_implies, implies_true, lf_10, eq_self, Int32.reduceLT, Int32.reduceLE, Int32.reduceAdd, Int32.reduceSub, pm_same, pm_i_wI, pm_l_wL, pm_l_wM, pm_oR_rf, pm_oQ_rf, sh_k59 hS, sh_r59_25 hS, sh_k80 hS, sh_z80 hS, sh_r59_27 hS, sh_k81 hS, sh_z81 hS, mst_w46, mst_w48, mst_w49, mst_46, mst_48, mst_49, mst_k, mst_z, mst_r, mst_n, mst_l, mst_R62, mst_R64, mst_R65, mst_R66, mst_R67, mst_R78, mst_R80, mst_R81, mst_F18, mst_F24, mst_F45, mst_F47, mst_F50, mst_F51, nI_1, LQ1, LQ2, LQ4, LQ1, LQ2, ms_k, ms_z, ms_r, ms_49, ms_w49, ms_R62, ms_R64, ms_R65, ms_R66, ms_R67, ms_R75, ms_R76, ms_R77, ms_R78, ms_R79, ms_R80, ms_R81, ms_R95, ms_R96, ms_R97, ms_F0, ms_F2, ms_F18, ms_F24, ms_F31, ms_F26, ms_F45, ms_F47, ms_F50, ms_F51, ms_F52, ms_F53, ms_F54, ms_F55, ms_F56, ms_F57, ms_F58, ms_F59, ms_F60, ms_F61, ms_F62, ms_F63, sh_r59_60 hS, sh_k95 hS, sh_z95 hS, sh_r59_61 hS, sh_k96 hS, sh_z96 hS, sh_r59_62 hS, sh_k97 hS, sh_z97 hS, pm_WI0, pm_WI1, pm_WI2, pm_WI3, pm_WI4, pm_WI5, pm_WV, pm_WW, pm_WX, pb_B180, pm_if, pm_QI_at, pm_QL_at, pm_QV_at, pm_QR_at, pm_QR_at0, pm_QR_at1, Nat.reduceSub, Nat.reduceAdd, List.replicate_zero, List.replicate_succ]
  refine ⟨by omega, mr_199 (by omega) hS hm r1 rfl wk_r (by rw [wz_r]; decide) ?_⟩
  rw [wz_r]
  have e6 : gx_bd (gx_bd ((p, some ()) : gx_R Unit) (fun _ p => gx_w (gx_b f n) [97, 110, 115, 119, 101] p)) (fun _ p => gx_w (gx_b f n) [114] p) = gx_bd ((p, some ()) : gx_R Unit) (fun _ p => gx_w (gx_b f n) [97, 110, 115, 119, 101, 114] p) := by
    show gx_bd (gx_w (gx_b f n) [97, 110, 115, 119, 101] p) (fun _ p => gx_w (gx_b f n) [114] p) = gx_w (gx_b f n) [97, 110, 115, 119, 101, 114] p
    rw [← gx_w_app]; rfl
  rw [e6]
  try simp only [pm_WV, pm_WW, true_and, and_true, true_or, or_true, and_self, reduceIte, Nat.reduceEqDiff, Nat.reduceLT, Nat.reduceLeDiff, Nat.reduceMul, false_and, and_false, reduceCtorEq, false_or, or_false, not_true_eq_false, not_false_eq_true, true_implies, false_implies, implies_true, lf_10, eq_self, Int32.reduceLT, Int32.reduceLE, Int32.reduceAdd, Int32.reduceSub, pm_same, pm_i_wI, pm_l_wL, pm_l_wM, pm_oR_rf, pm_oQ_rf, sh_k59 hS, sh_r59_25 hS, sh_k80 hS, sh_z80 hS, sh_r59_27 hS, sh_k81 hS, sh_z81 hS, mst_w46, mst_w48, mst_w49, mst_46, mst_48, mst_49, mst_k, mst_z, mst_r, mst_n, mst_l, mst_R62, mst_R64, mst_R65, mst_R66, mst_R67, mst_R78, mst_R80, mst_R81, mst_F18, mst_F24, mst_F45, mst_F47, mst_F50, mst_F51, nI_1, LQ1, LQ2, LQ4, LQ1, LQ2, ms_k, ms_z, ms_r, ms_49, ms_w49, ms_R62, ms_R64, ms_R65, ms_R66, ms_R67, ms_R75, ms_R76, ms_R77, ms_R78, ms_R79, ms_R80, ms_R81, ms_R95, ms_R96, ms_R97, ms_F0, ms_F2, ms_F18, ms_F24, ms_F31, ms_F26, ms_F45, ms_F47, ms_F50, ms_F51, ms_F52, ms_F53, ms_F54, ms_F55, ms_F56, ms_F57, ms_F58, ms_F59, ms_F60, ms_F61, ms_F62, ms_F63, sh_r59_60 hS, sh_k95 hS, sh_z95 hS, sh_r59_61 hS, sh_k96 hS, sh_z96 hS, sh_r59_62 hS, sh_k97 hS, sh_z97 hS, pm_WI0, pm_WI1, pm_WI2, pm_WI3, pm_WI4, pm_WI5, pm_WV, pm_WW, pm_WX, pb_B180, pm_if, pm_QI_at, pm_QL_at, pm_QV_at, pm_QR_at, pm_QR_at0, pm_QR_at1, Nat.reduceSub, Nat.reduceAdd, List.replicate_zero, List.replicate_succ]
  rcases one_case (f := f) (fl := 11) (L := L) hp (ws := [97, 110, 115, 119, 101, 114]) (by decide) with ⟨x, hx, e1, e2⟩ | ⟨v, x, e1, e2⟩
  · rw [e1, un_none, ms_wf (by decide)]
    exact h0 x _ (by rw [ec]; exact e2) (lfr.rf.w (by omega) (by omega))
  · rw [e1, un_some, vo_some, ms_wf (by decide)]
    exact h1 x _ _ (by rw [ec]; exact e2) (lfr.rf.w (by omega) (by omega)) (hmlr.num (by omega) (by omega) (by omega))
theorem mr_180_owe {G : pm_G} {d : Nat} {S : pm_S} {f : Nat → Int32} {n : Nat} {t : Nat → Bool} {L : gx_L} {c p0 p : Nat} {q : pm_S → Prop} (hd : 29 ≤ d) (hcx : cx S f n t) (hw : gx_wf t L c p0) (hmlr : mlr S t L) (hc : c < 10) (hpp : p0 ≤ p) (hp : p ≤ n) (y : gx_b f n p = 111) (h1 : ∀ x L' T, gx_clause (gx_b f n) L p = (x, some L') → lfr S T → mlr T t L' → q (ms T 0 (x, some ()))) (h0 : ∀ x T, gx_clause (gx_b f n) L p = (x, none) → lfr S T → q (ms T 0 (x, none))) : pm_CV G d 180 [.ref 59] (ms S 0 (p, some ())) q := by
  obtain ⟨hS, hm, h18, h24, h24b, ht⟩ := id hcx
  have hn := hm.2.1
  have hpn : p < n := gx_lt gx_b_eof y (by omega)
  have es : sg (gx_b f n p) = 111 := by rw [y]; rfl
  have hms : ms S 0 (p, some ()) = mst S (nI p) (-1) (nI 0) := rfl
  rw [hms]
  refine pm_goV 180 1 pb_c180 (by decide) (Nat.le_of_ble_eq_true rfl) rfl ?_
  try simp only [show pm_mL 180 = 3 from rfl, pm_WI0, pm_WI1, pm_WI2, pm_WI3, pm_WI4, pm_WI5, pm_WV, pm_WW, pm_WX, pb_B180, pm_if, pm_QI_at, pm_QL_at, pm_QV_at, pm_QR_at, pm_QR_at0, pm_QR_at1, Nat.reduceSub, Nat.reduceAdd, List.replicate_zero, List.replicate_succ, true_and, and_true, true_or, or_true, and_self, reduceIte, Nat.reduceEqDiff, Nat.reduceLT, Nat.reduceLeDiff, Nat.reduceMul, false_and, and_false, reduceCtorEq, false_or, or_false, not_true_eq_false, not_false_eq_true, true_implies, false_implies, implies_true, lf_10, eq_self, Int32.reduceLT, Int32.reduceLE, Int32.reduceAdd, Int32.reduceSub, pm_same, pm_i_wI, pm_l_wL, pm_l_wM, pm_oR_rf, pm_oQ_rf, sh_k59 hS, sh_r59_25 hS, sh_k80 hS, sh_z80 hS, sh_r59_27 hS, sh_k81 hS, sh_z81 hS, mst_w46, mst_w48, mst_w49, mst_46, mst_48, mst_49, mst_k, mst_z, mst_r, mst_n, mst_l, mst_R62, mst_R64, mst_R65, mst_R66, mst_R67, mst_R78, mst_R80, mst_R81, mst_F18, mst_F24, mst_F45, mst_F47, mst_F50, mst_F51, nI_1, LQ1, LQ2, LQ4, LQ1, LQ2, ms_k, ms_z, ms_r, ms_49, ms_w49, ms_R62, ms_R64, ms_R65, ms_R66, ms_R67, ms_R75, ms_R76, ms_R77, ms_R78, ms_R79, ms_R80, ms_R81, ms_R95, ms_R96, ms_R97, ms_F0, ms_F2, ms_F18, ms_F24, ms_F31, ms_F26, ms_F45, ms_F47, ms_F50, ms_F51, ms_F52, ms_F53, ms_F54, ms_F55, ms_F56, ms_F57, ms_F58, ms_F59, ms_F60, ms_F61, ms_F62, ms_F63, sh_r59_60 hS, sh_k95 hS, sh_z95 hS, sh_r59_61 hS, sh_k96 hS, sh_z96 hS, sh_r59_62 hS, sh_k97 hS, sh_z97 hS]
  refine ⟨by omega, mr_181 hS hm hp ?_⟩
  rw [← hms]
  try simp only [pm_WV, pm_WW, true_and, and_true, true_or, or_true, and_self, reduceIte, Nat.reduceEqDiff, Nat.reduceLT, Nat.reduceLeDiff, Nat.reduceMul, false_and, and_false, reduceCtorEq, false_or, or_false, not_true_eq_false, not_false_eq_true, true_implies, false_implies, implies_true, lf_10, eq_self, Int32.reduceLT, Int32.reduceLE, Int32.reduceAdd, Int32.reduceSub, pm_same, pm_i_wI, pm_l_wL, pm_l_wM, pm_oR_rf, pm_oQ_rf, sh_k59 hS, sh_r59_25 hS, sh_k80 hS, sh_z80 hS, sh_r59_27 hS, sh_k81 hS, sh_z81 hS, mst_w46, mst_w48, mst_w49, mst_46, mst_48, mst_49, mst_k, mst_z, mst_r, mst_n, mst_l, mst_R62, mst_R64, mst_R65, mst_R66, mst_R67, mst_R78, mst_R80, mst_R81, mst_F18, mst_F24, mst_F45, mst_F47, mst_F50, mst_F51, nI_1, LQ1, LQ2, LQ4, LQ1, LQ2, ms_k, ms_z, ms_r, ms_49, ms_w49, ms_R62, ms_R64, ms_R65, ms_R66, ms_R67, ms_R75, ms_R76, ms_R77, ms_R78, ms_R79, ms_R80, ms_R81, ms_R95, ms_R96, ms_R97, ms_F0, ms_F2, ms_F18, ms_F24, ms_F31, ms_F26, ms_F45, ms_F47, ms_F50, ms_F51, ms_F52, ms_F53, ms_F54, ms_F55, ms_F56, ms_F57, ms_F58, ms_F59, ms_F60, ms_F61, ms_F62, ms_F63, sh_r59_60 hS, sh_k95 hS, sh_z95 hS, sh_r59_61 hS, sh_k96 hS, sh_z96 hS, sh_r59_62 hS, sh_k97 hS, sh_z97 hS, pm_WI0, pm_WI1, pm_WI2, pm_WI3, pm_WI4, pm_WI5, pm_WV, pm_WW, pm_WX, pb_B180, pm_if, pm_QI_at, pm_QL_at, pm_QV_at, pm_QR_at, pm_QR_at0, pm_QR_at1, Nat.reduceSub, Nat.reduceAdd, List.replicate_zero, List.replicate_succ, es]
  have ec : gx_clause (gx_b f n) L p = gx_owe (gx_b f n) L p := by
    unfold gx_clause; rw [if_pos y]
  have fin : ∀ U, q U → pm_W G d 180 (pm_QV q) 291 [.ref 59, .int 111, .float 0] [] U 0 0 := by
    intro U hU
    refine pm_wb_ok pb_c180 1 291 0 _ _ _ _ _ ?_
    try simp only [pm_WI0, pm_WI1, pm_WI2, pm_WI3, pm_WI4, pm_WI5, pm_WV, pm_WW, pm_WX, pb_B180, pm_if, pm_QI_at, pm_QL_at, pm_QV_at, pm_QR_at, pm_QR_at0, pm_QR_at1, Nat.reduceSub, Nat.reduceAdd, List.replicate_zero, List.replicate_succ, true_and, and_true, true_or, or_true, and_self, reduceIte, Nat.reduceEqDiff, Nat.reduceLT, Nat.reduceLeDiff, Nat.reduceMul, false_and, and_false, reduceCtorEq, false_or, or_false, not_true_eq_false, not_false_eq_true, true_implies, false_implies, implies_true, lf_10, eq_self, Int32.reduceLT, Int32.reduceLE, Int32.reduceAdd, Int32.reduceSub, pm_same, pm_i_wI, pm_l_wL, pm_l_wM, pm_oR_rf, pm_oQ_rf, sh_k59 hS, sh_r59_25 hS, sh_k80 hS, sh_z80 hS, sh_r59_27 hS, sh_k81 hS, sh_z81 hS, mst_w46, mst_w48, mst_w49, mst_46, mst_48, mst_49, mst_k, mst_z, mst_r, mst_n, mst_l, mst_R62, mst_R64, mst_R65, mst_R66, mst_R67, mst_R78, mst_R80, mst_R81, mst_F18, mst_F24, mst_F45, mst_F47, mst_F50, mst_F51, nI_1, LQ1, LQ2, LQ4, LQ1, LQ2, ms_k, ms_z, ms_r, ms_49, ms_w49, ms_R62, ms_R64, ms_R65, ms_R66, ms_R67, ms_R75, ms_R76, ms_R77, ms_R78, ms_R79, ms_R80, ms_R81, ms_R95, ms_R96, ms_R97, ms_F0, ms_F2, ms_F18, ms_F24, ms_F31, ms_F26, ms_F45, ms_F47, ms_F50, ms_F51, ms_F52, ms_F53, ms_F54, ms_F55, ms_F56, ms_F57, ms_F58, ms_F59, ms_F60, ms_F61, ms_F62, ms_F63, sh_r59_60 hS, sh_k95 hS, sh_z95 hS, sh_r59_61 hS, sh_k96 hS, sh_z96 hS, sh_r59_62 hS, sh_k97 hS, sh_z97 hS]
    exact hU
  exact ⟨by omega, mr_182 (by omega) hcx hw hmlr hc hpp hp (fun x L' T e hf hl => fin _ (h1 x L' T (by rw [ec]; exact e) hf hl)) (fun x T e hf => fin _ (h0 x T (by rw [ec]; exact e) hf))⟩
theorem mr_180_scale {G : pm_G} {d : Nat} {S : pm_S} {f : Nat → Int32} {n : Nat} {t : Nat → Bool} {L : gx_L} {c p0 p : Nat} {q : pm_S → Prop} (hd : 29 ≤ d) (hcx : cx S f n t) (hw : gx_wf t L c p0) (hmlr : mlr S t L) (hc : c < 10) (hpp : p0 ≤ p) (hp : p ≤ n) (y : gx_b f n p = 115) (h1 : ∀ x L' T, gx_clause (gx_b f n) L p = (x, some L') → lfr S T → mlr T t L' → q (ms T 0 (x, some ()))) (h0 : ∀ x T, gx_clause (gx_b f n) L p = (x, none) → lfr S T → q (ms T 0 (x, none))) : pm_CV G d 180 [.ref 59] (ms S 0 (p, some ())) q := by
  obtain ⟨hS, hm, h18, h24, h24b, ht⟩ := id hcx
  have hn := hm.2.1
  have hpn : p < n := gx_lt gx_b_eof y (by omega)
  have es : sg (gx_b f n p) = 115 := by rw [y]; rfl
  have hms : ms S 0 (p, some ()) = mst S (nI p) (-1) (nI 0) := rfl
  rw [hms]
  refine pm_goV 180 1 pb_c180 (by decide) (Nat.le_of_ble_eq_true rfl) rfl ?_
  try simp only [show pm_mL 180 = 3 from rfl, pm_WI0, pm_WI1, pm_WI2, pm_WI3, pm_WI4, pm_WI5, pm_WV, pm_WW, pm_WX, pb_B180, pm_if, pm_QI_at, pm_QL_at, pm_QV_at, pm_QR_at, pm_QR_at0, pm_QR_at1, Nat.reduceSub, Nat.reduceAdd, List.replicate_zero, List.replicate_succ, true_and, and_true, true_or, or_true, and_self, reduceIte, Nat.reduceEqDiff, Nat.reduceLT, Nat.reduceLeDiff, Nat.reduceMul, false_and, and_false, reduceCtorEq, false_or, or_false, not_true_eq_false, not_false_eq_true, true_implies, false_implies, implies_true, lf_10, eq_self, Int32.reduceLT, Int32.reduceLE, Int32.reduceAdd, Int32.reduceSub, pm_same, pm_i_wI, pm_l_wL, pm_l_wM, pm_oR_rf, pm_oQ_rf, sh_k59 hS, sh_r59_25 hS, sh_k80 hS, sh_z80 hS, sh_r59_27 hS, sh_k81 hS, sh_z81 hS, mst_w46, mst_w48, mst_w49, mst_46, mst_48, mst_49, mst_k, mst_z, mst_r, mst_n, mst_l, mst_R62, mst_R64, mst_R65, mst_R66, mst_R67, mst_R78, mst_R80, mst_R81, mst_F18, mst_F24, mst_F45, mst_F47, mst_F50, mst_F51, nI_1, LQ1, LQ2, LQ4, LQ1, LQ2, ms_k, ms_z, ms_r, ms_49, ms_w49, ms_R62, ms_R64, ms_R65, ms_R66, ms_R67, ms_R75, ms_R76, ms_R77, ms_R78, ms_R79, ms_R80, ms_R81, ms_R95, ms_R96, ms_R97, ms_F0, ms_F2, ms_F18, ms_F24, ms_F31, ms_F26, ms_F45, ms_F47, ms_F50, ms_F51, ms_F52, ms_F53, ms_F54, ms_F55, ms_F56, ms_F57, ms_F58, ms_F59, ms_F60, ms_F61, ms_F62, ms_F63, sh_r59_60 hS, sh_k95 hS, sh_z95 hS, sh_r59_61 hS, sh_k96 hS, sh_z96 hS, sh_r59_62 hS, sh_k97 hS, sh_z97 hS]
  refine ⟨by omega, mr_181 hS hm hp ?_⟩
  rw [← hms]
  try simp only [pm_WV, pm_WW, true_and, and_true, true_or, or_true, and_self, reduceIte, Nat.reduceEqDiff, Nat.reduceLT, Nat.reduceLeDiff, Nat.reduceMul, false_and, and_false, reduceCtorEq, false_or, or_false, not_true_eq_false, not_false_eq_true, true_implies, false_implies, implies_true, lf_10, eq_self, Int32.reduceLT, Int32.reduceLE, Int32.reduceAdd, Int32.reduceSub, pm_same, pm_i_wI, pm_l_wL, pm_l_wM, pm_oR_rf, pm_oQ_rf, sh_k59 hS, sh_r59_25 hS, sh_k80 hS, sh_z80 hS, sh_r59_27 hS, sh_k81 hS, sh_z81 hS, mst_w46, mst_w48, mst_w49, mst_46, mst_48, mst_49, mst_k, mst_z, mst_r, mst_n, mst_l, mst_R62, mst_R64, mst_R65, mst_R66, mst_R67, mst_R78, mst_R80, mst_R81, mst_F18, mst_F24, mst_F45, mst_F47, mst_F50, mst_F51, nI_1, LQ1, LQ2, LQ4, LQ1, LQ2, ms_k, ms_z, ms_r, ms_49, ms_w49, ms_R62, ms_R64, ms_R65, ms_R66, ms_R67, ms_R75, ms_R76, ms_R77, ms_R78, ms_R79, ms_R80, ms_R81, ms_R95, ms_R96, ms_R97, ms_F0, ms_F2, ms_F18, ms_F24, ms_F31, ms_F26, ms_F45, ms_F47, ms_F50, ms_F51, ms_F52, ms_F53, ms_F54, ms_F55, ms_F56, ms_F57, ms_F58, ms_F59, ms_F60, ms_F61, ms_F62, ms_F63, sh_r59_60 hS, sh_k95 hS, sh_z95 hS, sh_r59_61 hS, sh_k96 hS, sh_z96 hS, sh_r59_62 hS, sh_k97 hS, sh_z97 hS, pm_WI0, pm_WI1, pm_WI2, pm_WI3, pm_WI4, pm_WI5, pm_WV, pm_WW, pm_WX, pb_B180, pm_if, pm_QI_at, pm_QL_at, pm_QV_at, pm_QR_at, pm_QR_at0, pm_QR_at1, Nat.reduceSub, Nat.reduceAdd, List.replicate_zero, List.replicate_succ, es]
  refine pm_wb_ok pb_c180 5 18 0 _ _ _ _ _ ?_
  try simp only [pm_WI0, pm_WI1, pm_WI2, pm_WI3, pm_WI4, pm_WI5, pm_WV, pm_WW, pm_WX, pb_B180, pm_if, pm_QI_at, pm_QL_at, pm_QV_at, pm_QR_at, pm_QR_at0, pm_QR_at1, Nat.reduceSub, Nat.reduceAdd, List.replicate_zero, List.replicate_succ, true_and, and_true, true_or, or_true, and_self, reduceIte, Nat.reduceEqDiff, Nat.reduceLT, Nat.reduceLeDiff, Nat.reduceMul, false_and, and_false, reduceCtorEq, false_or, or_false, not_true_eq_false, not_false_eq_true, true_implies, false_implies, implies_true, lf_10, eq_self, Int32.reduceLT, Int32.reduceLE, Int32.reduceAdd, Int32.reduceSub, pm_same, pm_i_wI, pm_l_wL, pm_l_wM, pm_oR_rf, pm_oQ_rf, sh_k59 hS, sh_r59_25 hS, sh_k80 hS, sh_z80 hS, sh_r59_27 hS, sh_k81 hS, sh_z81 hS, mst_w46, mst_w48, mst_w49, mst_46, mst_48, mst_49, mst_k, mst_z, mst_r, mst_n, mst_l, mst_R62, mst_R64, mst_R65, mst_R66, mst_R67, mst_R78, mst_R80, mst_R81, mst_F18, mst_F24, mst_F45, mst_F47, mst_F50, mst_F51, nI_1, LQ1, LQ2, LQ4, LQ1, LQ2, ms_k, ms_z, ms_r, ms_49, ms_w49, ms_R62, ms_R64, ms_R65, ms_R66, ms_R67, ms_R75, ms_R76, ms_R77, ms_R78, ms_R79, ms_R80, ms_R81, ms_R95, ms_R96, ms_R97, ms_F0, ms_F2, ms_F18, ms_F24, ms_F31, ms_F26, ms_F45, ms_F47, ms_F50, ms_F51, ms_F52, ms_F53, ms_F54, ms_F55, ms_F56, ms_F57, ms_F58, ms_F59, ms_F60, ms_F61, ms_F62, ms_F63, sh_r59_60 hS, sh_k95 hS, sh_z95 hS, sh_r59_61 hS, sh_k96 hS, sh_z96 hS, sh_r59_62 hS, sh_k97 hS, sh_z97 hS]
  have ec : gx_clause (gx_b f n) L p = gx_scale (gx_b f n) L p := by
    unfold gx_clause; rw [if_neg (by omega), if_neg (by omega), if_pos y]
  refine ⟨by omega, mr_183_scale ?_⟩
  try simp only [pm_WV, pm_WW, true_and, and_true, true_or, or_true, and_self, reduceIte, Nat.reduceEqDiff, Nat.reduceLT, Nat.reduceLeDiff, Nat.reduceMul, false_and, and_false, reduceCtorEq, false_or, or_false, not_true_eq_false, not_false_eq_true, true_implies, false_implies, implies_true, lf_10, eq_self, Int32.reduceLT, Int32.reduceLE, Int32.reduceAdd, Int32.reduceSub, pm_same, pm_i_wI, pm_l_wL, pm_l_wM, pm_oR_rf, pm_oQ_rf, sh_k59 hS, sh_r59_25 hS, sh_k80 hS, sh_z80 hS, sh_r59_27 hS, sh_k81 hS, sh_z81 hS, mst_w46, mst_w48, mst_w49, mst_46, mst_48, mst_49, mst_k, mst_z, mst_r, mst_n, mst_l, mst_R62, mst_R64, mst_R65, mst_R66, mst_R67, mst_R78, mst_R80, mst_R81, mst_F18, mst_F24, mst_F45, mst_F47, mst_F50, mst_F51, nI_1, LQ1, LQ2, LQ4, LQ1, LQ2, ms_k, ms_z, ms_r, ms_49, ms_w49, ms_R62, ms_R64, ms_R65, ms_R66, ms_R67, ms_R75, ms_R76, ms_R77, ms_R78, ms_R79, ms_R80, ms_R81, ms_R95, ms_R96, ms_R97, ms_F0, ms_F2, ms_F18, ms_F24, ms_F31, ms_F26, ms_F45, ms_F47, ms_F50, ms_F51, ms_F52, ms_F53, ms_F54, ms_F55, ms_F56, ms_F57, ms_F58, ms_F59, ms_F60, ms_F61, ms_F62, ms_F63, sh_r59_60 hS, sh_k95 hS, sh_z95 hS, sh_r59_61 hS, sh_k96 hS, sh_z96 hS, sh_r59_62 hS, sh_k97 hS, sh_z97 hS, pm_WI0, pm_WI1, pm_WI2, pm_WI3, pm_WI4, pm_WI5, pm_WV, pm_WW, pm_WX, pb_B180, pm_if, pm_QI_at, pm_QL_at, pm_QV_at, pm_QR_at, pm_QR_at0, pm_QR_at1, Nat.reduceSub, Nat.reduceAdd, List.replicate_zero, List.replicate_succ]
  refine ⟨by omega, mr_199 (by omega) hS hm (by show p ≤ n; exact hp) rfl wk_scale (by rw [wz_scale]; decide) ?_⟩
  rw [wz_scale]
  have hsc : gx_scale (gx_b f n) L p = gx_bd (gx_bd (gx_bd (gx_w (gx_b f n) [115, 99, 97, 108, 101] p) (fun _ p => gx_w (gx_b f n) [32] p)) (fun _ p => gx_num (gx_b f n) 0 4 p)) (fun v q => gx_bd (gx_w (gx_b f n) [32] q) (fun _ q => gx_bd (gx_num (gx_b f n) 1 4 q) (fun m q => (q, some (L.1, va_up (va_up L.2.1 12 v) 13 m, L.2.2))))) := by
    unfold gx_scale
    rw [show ([115, 99, 97, 108, 101, 32] : List Nat) = [115, 99, 97, 108, 101] ++ [32] from rfl, gx_w_app, gx_bd_assoc, gx_bd_assoc, gx_bd_assoc]
  rcases one_case (f := f) (fl := 12) (L := L) hp (ws := [115, 99, 97, 108, 101]) (by decide) with ⟨x, hx, e1, e2⟩ | ⟨v, x, e1, e2⟩
  · rw [e1, un_none, vo_none, ms_wf (by decide)]
    have e1' : gx_bd (gx_bd (gx_w (gx_b f n) [115, 99, 97, 108, 101] p) (fun _ p => gx_w (gx_b f n) [32] p)) (fun _ p => gx_num (gx_b f n) 0 4 p) = (x, none) := e1
    have hS2 : Sh (pm_wI S 59 55 0) := hS
    have hm2 := (hcx.fr (lfr.rf.w (S := S) (j := 55) (v := 0) (by omega) (by omega))).2.1
    try simp only [pm_WV, pm_WW, true_and, and_true, true_or, or_true, and_self, reduceIte, Nat.reduceEqDiff, Nat.reduceLT, Nat.reduceLeDiff, Nat.reduceMul, false_and, and_false, reduceCtorEq, false_or, or_false, not_true_eq_false, not_false_eq_true, true_implies, false_implies, implies_true, lf_10, eq_self, Int32.reduceLT, Int32.reduceLE, Int32.reduceAdd, Int32.reduceSub, pm_same, pm_i_wI, pm_l_wL, pm_l_wM, pm_oR_rf, pm_oQ_rf, sh_k59 hS, sh_r59_25 hS, sh_k80 hS, sh_z80 hS, sh_r59_27 hS, sh_k81 hS, sh_z81 hS, mst_w46, mst_w48, mst_w49, mst_46, mst_48, mst_49, mst_k, mst_z, mst_r, mst_n, mst_l, mst_R62, mst_R64, mst_R65, mst_R66, mst_R67, mst_R78, mst_R80, mst_R81, mst_F18, mst_F24, mst_F45, mst_F47, mst_F50, mst_F51, nI_1, LQ1, LQ2, LQ4, LQ1, LQ2, ms_k, ms_z, ms_r, ms_49, ms_w49, ms_R62, ms_R64, ms_R65, ms_R66, ms_R67, ms_R75, ms_R76, ms_R77, ms_R78, ms_R79, ms_R80, ms_R81, ms_R95, ms_R96, ms_R97, ms_F0, ms_F2, ms_F18, ms_F24, ms_F31, ms_F26, ms_F45, ms_F47, ms_F50, ms_F51, ms_F52, ms_F53, ms_F54, ms_F55, ms_F56, ms_F57, ms_F58, ms_F59, ms_F60, ms_F61, ms_F62, ms_F63, sh_r59_60 hS, sh_k95 hS, sh_z95 hS, sh_r59_61 hS, sh_k96 hS, sh_z96 hS, sh_r59_62 hS, sh_k97 hS, sh_z97 hS, pm_WI0, pm_WI1, pm_WI2, pm_WI3, pm_WI4, pm_WI5, pm_WV, pm_WW, pm_WX, pb_B180, pm_if, pm_QI_at, pm_QL_at, pm_QV_at, pm_QR_at, pm_QR_at0, pm_QR_at1, Nat.reduceSub, Nat.reduceAdd, List.replicate_zero, List.replicate_succ]
    refine ⟨by omega, mr_185 (c := 32) (by omega) hS2 hm2 hx (by omega) ?_⟩
    have er : gx_bd ((x, none) : gx_R Unit) (fun _ p => gx_w (gx_b f n) [32] p) = (x, none) := rfl
    rw [er]
    have hmx : ms (pm_wI S 59 55 0) 0 (x, none) = mst (pm_wI S 59 55 0) (nI x) (nI x) (nI 0) := rfl
    have fin : pm_W G d 180 (pm_QV q) 194 [.ref 59, .int 115, .float 0] [] (ms (pm_wI S 59 55 0) 0 (x, none)) 0 0 := by
      refine pm_wb_ok pb_c180 3 194 0 _ _ _ _ _ ?_
      try simp only [pm_WI0, pm_WI1, pm_WI2, pm_WI3, pm_WI4, pm_WI5, pm_WV, pm_WW, pm_WX, pb_B180, pm_if, pm_QI_at, pm_QL_at, pm_QV_at, pm_QR_at, pm_QR_at0, pm_QR_at1, Nat.reduceSub, Nat.reduceAdd, List.replicate_zero, List.replicate_succ, true_and, and_true, true_or, or_true, and_self, reduceIte, Nat.reduceEqDiff, Nat.reduceLT, Nat.reduceLeDiff, Nat.reduceMul, false_and, and_false, reduceCtorEq, false_or, or_false, not_true_eq_false, not_false_eq_true, true_implies, false_implies, implies_true, lf_10, eq_self, Int32.reduceLT, Int32.reduceLE, Int32.reduceAdd, Int32.reduceSub, pm_same, pm_i_wI, pm_l_wL, pm_l_wM, pm_oR_rf, pm_oQ_rf, sh_k59 hS, sh_r59_25 hS, sh_k80 hS, sh_z80 hS, sh_r59_27 hS, sh_k81 hS, sh_z81 hS, mst_w46, mst_w48, mst_w49, mst_46, mst_48, mst_49, mst_k, mst_z, mst_r, mst_n, mst_l, mst_R62, mst_R64, mst_R65, mst_R66, mst_R67, mst_R78, mst_R80, mst_R81, mst_F18, mst_F24, mst_F45, mst_F47, mst_F50, mst_F51, nI_1, LQ1, LQ2, LQ4, LQ1, LQ2, ms_k, ms_z, ms_r, ms_49, ms_w49, ms_R62, ms_R64, ms_R65, ms_R66, ms_R67, ms_R75, ms_R76, ms_R77, ms_R78, ms_R79, ms_R80, ms_R81, ms_R95, ms_R96, ms_R97, ms_F0, ms_F2, ms_F18, ms_F24, ms_F31, ms_F26, ms_F45, ms_F47, ms_F50, ms_F51, ms_F52, ms_F53, ms_F54, ms_F55, ms_F56, ms_F57, ms_F58, ms_F59, ms_F60, ms_F61, ms_F62, ms_F63, sh_r59_60 hS, sh_k95 hS, sh_z95 hS, sh_r59_61 hS, sh_k96 hS, sh_z96 hS, sh_r59_62 hS, sh_k97 hS, sh_z97 hS]
      refine ⟨by omega, mr_189 (r := (x, none)) (most := 4) (by omega) hS2 hm2 hx (by omega) (by omega) ?_⟩
      have er2 : gx_bd ((x, none) : gx_R Unit) (fun _ p => gx_num (gx_b f n) 0 4 p) = (x, none) := rfl
      rw [er2, un_none, vo_none]
      try simp only [pm_WV, pm_WW, true_and, and_true, true_or, or_true, and_self, reduceIte, Nat.reduceEqDiff, Nat.reduceLT, Nat.reduceLeDiff, Nat.reduceMul, false_and, and_false, reduceCtorEq, false_or, or_false, not_true_eq_false, not_false_eq_true, true_implies, false_implies, implies_true, lf_10, eq_self, Int32.reduceLT, Int32.reduceLE, Int32.reduceAdd, Int32.reduceSub, pm_same, pm_i_wI, pm_l_wL, pm_l_wM, pm_oR_rf, pm_oQ_rf, sh_k59 hS, sh_r59_25 hS, sh_k80 hS, sh_z80 hS, sh_r59_27 hS, sh_k81 hS, sh_z81 hS, mst_w46, mst_w48, mst_w49, mst_46, mst_48, mst_49, mst_k, mst_z, mst_r, mst_n, mst_l, mst_R62, mst_R64, mst_R65, mst_R66, mst_R67, mst_R78, mst_R80, mst_R81, mst_F18, mst_F24, mst_F45, mst_F47, mst_F50, mst_F51, nI_1, LQ1, LQ2, LQ4, LQ1, LQ2, ms_k, ms_z, ms_r, ms_49, ms_w49, ms_R62, ms_R64, ms_R65, ms_R66, ms_R67, ms_R75, ms_R76, ms_R77, ms_R78, ms_R79, ms_R80, ms_R81, ms_R95, ms_R96, ms_R97, ms_F0, ms_F2, ms_F18, ms_F24, ms_F31, ms_F26, ms_F45, ms_F47, ms_F50, ms_F51, ms_F52, ms_F53, ms_F54, ms_F55, ms_F56, ms_F57, ms_F58, ms_F59, ms_F60, ms_F61, ms_F62, ms_F63, sh_r59_60 hS, sh_k95 hS, sh_z95 hS, sh_r59_61 hS, sh_k96 hS, sh_z96 hS, sh_r59_62 hS, sh_k97 hS, sh_z97 hS, pm_WI0, pm_WI1, pm_WI2, pm_WI3, pm_WI4, pm_WI5, pm_WV, pm_WW, pm_WX, pb_B180, pm_if, pm_QI_at, pm_QL_at, pm_QV_at, pm_QR_at, pm_QR_at0, pm_QR_at1, Nat.reduceSub, Nat.reduceAdd, List.replicate_zero, List.replicate_succ]
      rw [ms_wf (by decide)]
      exact h0 x _ (by rw [ec, hsc, e1']; rfl) ((lfr.rf.w (by omega) (by omega)).w (by omega) (by omega))
    rw [hmx]
    try simp only [pm_WV, pm_WW, true_and, and_true, true_or, or_true, and_self, reduceIte, Nat.reduceEqDiff, Nat.reduceLT, Nat.reduceLeDiff, Nat.reduceMul, false_and, and_false, reduceCtorEq, false_or, or_false, not_true_eq_false, not_false_eq_true, true_implies, false_implies, implies_true, lf_10, eq_self, Int32.reduceLT, Int32.reduceLE, Int32.reduceAdd, Int32.reduceSub, pm_same, pm_i_wI, pm_l_wL, pm_l_wM, pm_oR_rf, pm_oQ_rf, sh_k59 hS, sh_r59_25 hS, sh_k80 hS, sh_z80 hS, sh_r59_27 hS, sh_k81 hS, sh_z81 hS, mst_w46, mst_w48, mst_w49, mst_46, mst_48, mst_49, mst_k, mst_z, mst_r, mst_n, mst_l, mst_R62, mst_R64, mst_R65, mst_R66, mst_R67, mst_R78, mst_R80, mst_R81, mst_F18, mst_F24, mst_F45, mst_F47, mst_F50, mst_F51, nI_1, LQ1, LQ2, LQ4, LQ1, LQ2, ms_k, ms_z, ms_r, ms_49, ms_w49, ms_R62, ms_R64, ms_R65, ms_R66, ms_R67, ms_R75, ms_R76, ms_R77, ms_R78, ms_R79, ms_R80, ms_R81, ms_R95, ms_R96, ms_R97, ms_F0, ms_F2, ms_F18, ms_F24, ms_F31, ms_F26, ms_F45, ms_F47, ms_F50, ms_F51, ms_F52, ms_F53, ms_F54, ms_F55, ms_F56, ms_F57, ms_F58, ms_F59, ms_F60, ms_F61, ms_F62, ms_F63, sh_r59_60 hS, sh_k95 hS, sh_z95 hS, sh_r59_61 hS, sh_k96 hS, sh_z96 hS, sh_r59_62 hS, sh_k97 hS, sh_z97 hS, pm_WI0, pm_WI1, pm_WI2, pm_WI3, pm_WI4, pm_WI5, pm_WV, pm_WW, pm_WX, pb_B180, pm_if, pm_QI_at, pm_QL_at, pm_QV_at, pm_QR_at, pm_QR_at0, pm_QR_at1, Nat.reduceSub, Nat.reduceAdd, List.replicate_zero, List.replicate_succ]
    refine ⟨by omega, mr_181 hS2 hm2 hx ⟨fun _ => ⟨by omega, sh_k59 hS2, mr_187f hS2 (by omega) ?_⟩, fun _ => ?_⟩⟩
    · exact pv_W fin (by simp [pv_le, pm_unk])
    · exact pv_W fin (by simp [pv_le, pm_unk])
  · have hv4 : gx_num (gx_b f n) 0 4 p = gx_num (gx_b f n) 0 4 p := rfl
    rw [e1, un_some, vo_some, ms_wf (by decide)]
    have e1' : gx_bd (gx_bd (gx_w (gx_b f n) [115, 99, 97, 108, 101] p) (fun _ p => gx_w (gx_b f n) [32] p)) (fun _ p => gx_num (gx_b f n) 0 4 p) = (x, some v) := e1
    have hx : x ≤ n := by
      have r1 := gx_bd_w_le (f := f) (n := n) (r := (p, some ())) (l := [115, 99, 97, 108, 101]) hp (by decide)
      have r2 := gx_bd_w_le (f := f) (l := [32]) r1 (by decide)
      have r3 := gx_bd_num_le (f := f) (least := 0) (most := 4) (by omega) r2
      rw [e1] at r3; exact r3
    have hS2 : Sh (pm_wI S 59 55 (nI v)) := hS
    have hm2 := (hcx.fr (lfr.rf.w (S := S) (j := 55) (v := nI v) (by omega) (by omega))).2.1
    have hl2 : mlr (pm_wI S 59 55 (nI v)) t (L.1, va_up L.2.1 12 v, L.2.2) := hmlr.num (by omega) (by omega) (by omega)
    have eall : gx_clause (gx_b f n) L p = gx_bd (gx_w (gx_b f n) [32] x) (fun _ q => gx_bd (gx_num (gx_b f n) 1 4 q) (fun m q => (q, some (L.1, va_up (va_up L.2.1 12 v) 13 m, L.2.2)))) := by rw [ec, hsc, e1']; rfl
    try simp only [pm_WV, pm_WW, true_and, and_true, true_or, or_true, and_self, reduceIte, Nat.reduceEqDiff, Nat.reduceLT, Nat.reduceLeDiff, Nat.reduceMul, false_and, and_false, reduceCtorEq, false_or, or_false, not_true_eq_false, not_false_eq_true, true_implies, false_implies, implies_true, lf_10, eq_self, Int32.reduceLT, Int32.reduceLE, Int32.reduceAdd, Int32.reduceSub, pm_same, pm_i_wI, pm_l_wL, pm_l_wM, pm_oR_rf, pm_oQ_rf, sh_k59 hS, sh_r59_25 hS, sh_k80 hS, sh_z80 hS, sh_r59_27 hS, sh_k81 hS, sh_z81 hS, mst_w46, mst_w48, mst_w49, mst_46, mst_48, mst_49, mst_k, mst_z, mst_r, mst_n, mst_l, mst_R62, mst_R64, mst_R65, mst_R66, mst_R67, mst_R78, mst_R80, mst_R81, mst_F18, mst_F24, mst_F45, mst_F47, mst_F50, mst_F51, nI_1, LQ1, LQ2, LQ4, LQ1, LQ2, ms_k, ms_z, ms_r, ms_49, ms_w49, ms_R62, ms_R64, ms_R65, ms_R66, ms_R67, ms_R75, ms_R76, ms_R77, ms_R78, ms_R79, ms_R80, ms_R81, ms_R95, ms_R96, ms_R97, ms_F0, ms_F2, ms_F18, ms_F24, ms_F31, ms_F26, ms_F45, ms_F47, ms_F50, ms_F51, ms_F52, ms_F53, ms_F54, ms_F55, ms_F56, ms_F57, ms_F58, ms_F59, ms_F60, ms_F61, ms_F62, ms_F63, sh_r59_60 hS, sh_k95 hS, sh_z95 hS, sh_r59_61 hS, sh_k96 hS, sh_z96 hS, sh_r59_62 hS, sh_k97 hS, sh_z97 hS, pm_WI0, pm_WI1, pm_WI2, pm_WI3, pm_WI4, pm_WI5, pm_WV, pm_WW, pm_WX, pb_B180, pm_if, pm_QI_at, pm_QL_at, pm_QV_at, pm_QR_at, pm_QR_at0, pm_QR_at1, Nat.reduceSub, Nat.reduceAdd, List.replicate_zero, List.replicate_succ]
    refine ⟨by omega, mr_185 (c := 32) (by omega) hS2 hm2 hx (by omega) ?_⟩
    have er : gx_bd ((x, some ()) : gx_R Unit) (fun _ p => gx_w (gx_b f n) [32] p) = gx_w (gx_b f n) [32] x := rfl
    rw [er]
    have ff : ∀ z, z ≤ n → gx_clause (gx_b f n) L p = (z, none) → pm_W G d 180 (pm_QV q) 194 [.ref 59, .int 115, .float 0] [] (ms (pm_wI S 59 55 (nI v)) 0 (z, none)) 0 0 := by
      intro z hz ez
      refine pm_wb_ok pb_c180 3 194 0 _ _ _ _ _ ?_
      try simp only [pm_WI0, pm_WI1, pm_WI2, pm_WI3, pm_WI4, pm_WI5, pm_WV, pm_WW, pm_WX, pb_B180, pm_if, pm_QI_at, pm_QL_at, pm_QV_at, pm_QR_at, pm_QR_at0, pm_QR_at1, Nat.reduceSub, Nat.reduceAdd, List.replicate_zero, List.replicate_succ, true_and, and_true, true_or, or_true, and_self, reduceIte, Nat.reduceEqDiff, Nat.reduceLT, Nat.reduceLeDiff, Nat.reduceMul, false_and, and_false, reduceCtorEq, false_or, or_false, not_true_eq_false, not_false_eq_true, true_implies, false_implies, implies_true, lf_10, eq_self, Int32.reduceLT, Int32.reduceLE, Int32.reduceAdd, Int32.reduceSub, pm_same, pm_i_wI, pm_l_wL, pm_l_wM, pm_oR_rf, pm_oQ_rf, sh_k59 hS, sh_r59_25 hS, sh_k80 hS, sh_z80 hS, sh_r59_27 hS, sh_k81 hS, sh_z81 hS, mst_w46, mst_w48, mst_w49, mst_46, mst_48, mst_49, mst_k, mst_z, mst_r, mst_n, mst_l, mst_R62, mst_R64, mst_R65, mst_R66, mst_R67, mst_R78, mst_R80, mst_R81, mst_F18, mst_F24, mst_F45, mst_F47, mst_F50, mst_F51, nI_1, LQ1, LQ2, LQ4, LQ1, LQ2, ms_k, ms_z, ms_r, ms_49, ms_w49, ms_R62, ms_R64, ms_R65, ms_R66, ms_R67, ms_R75, ms_R76, ms_R77, ms_R78, ms_R79, ms_R80, ms_R81, ms_R95, ms_R96, ms_R97, ms_F0, ms_F2, ms_F18, ms_F24, ms_F31, ms_F26, ms_F45, ms_F47, ms_F50, ms_F51, ms_F52, ms_F53, ms_F54, ms_F55, ms_F56, ms_F57, ms_F58, ms_F59, ms_F60, ms_F61, ms_F62, ms_F63, sh_r59_60 hS, sh_k95 hS, sh_z95 hS, sh_r59_61 hS, sh_k96 hS, sh_z96 hS, sh_r59_62 hS, sh_k97 hS, sh_z97 hS]
      refine ⟨by omega, mr_189 (r := (z, none)) (most := 4) (by omega) hS2 hm2 hz (by omega) (by omega) ?_⟩
      have er2 : gx_bd ((z, none) : gx_R Unit) (fun _ p => gx_num (gx_b f n) 0 4 p) = (z, none) := rfl
      rw [er2, un_none, vo_none]
      try simp only [pm_WV, pm_WW, true_and, and_true, true_or, or_true, and_self, reduceIte, Nat.reduceEqDiff, Nat.reduceLT, Nat.reduceLeDiff, Nat.reduceMul, false_and, and_false, reduceCtorEq, false_or, or_false, not_true_eq_false, not_false_eq_true, true_implies, false_implies, implies_true, lf_10, eq_self, Int32.reduceLT, Int32.reduceLE, Int32.reduceAdd, Int32.reduceSub, pm_same, pm_i_wI, pm_l_wL, pm_l_wM, pm_oR_rf, pm_oQ_rf, sh_k59 hS, sh_r59_25 hS, sh_k80 hS, sh_z80 hS, sh_r59_27 hS, sh_k81 hS, sh_z81 hS, mst_w46, mst_w48, mst_w49, mst_46, mst_48, mst_49, mst_k, mst_z, mst_r, mst_n, mst_l, mst_R62, mst_R64, mst_R65, mst_R66, mst_R67, mst_R78, mst_R80, mst_R81, mst_F18, mst_F24, mst_F45, mst_F47, mst_F50, mst_F51, nI_1, LQ1, LQ2, LQ4, LQ1, LQ2, ms_k, ms_z, ms_r, ms_49, ms_w49, ms_R62, ms_R64, ms_R65, ms_R66, ms_R67, ms_R75, ms_R76, ms_R77, ms_R78, ms_R79, ms_R80, ms_R81, ms_R95, ms_R96, ms_R97, ms_F0, ms_F2, ms_F18, ms_F24, ms_F31, ms_F26, ms_F45, ms_F47, ms_F50, ms_F51, ms_F52, ms_F53, ms_F54, ms_F55, ms_F56, ms_F57, ms_F58, ms_F59, ms_F60, ms_F61, ms_F62, ms_F63, sh_r59_60 hS, sh_k95 hS, sh_z95 hS, sh_r59_61 hS, sh_k96 hS, sh_z96 hS, sh_r59_62 hS, sh_k97 hS, sh_z97 hS, pm_WI0, pm_WI1, pm_WI2, pm_WI3, pm_WI4, pm_WI5, pm_WV, pm_WW, pm_WX, pb_B180, pm_if, pm_QI_at, pm_QL_at, pm_QV_at, pm_QR_at, pm_QR_at0, pm_QR_at1, Nat.reduceSub, Nat.reduceAdd, List.replicate_zero, List.replicate_succ]
      rw [ms_wf (by decide)]
      exact h0 z _ ez ((lfr.rf.w (by omega) (by omega)).w (by omega) (by omega))
    rcases gx_two (gx_w (gx_b f n) [32] x) with ⟨z, ez⟩ | ⟨z, u, ez⟩
    · have hz := (gx_w_ok gx_b_eof hx (by decide) ez).2
      rw [gx_bd_none ez] at eall
      rw [ez]
      have hmx : ms (pm_wI S 59 55 (nI v)) 0 (z, none) = mst (pm_wI S 59 55 (nI v)) (nI z) (nI z) (nI 0) := rfl
      have fin := ff z hz eall
      rw [hmx] at fin ⊢
      try simp only [pm_WV, pm_WW, true_and, and_true, true_or, or_true, and_self, reduceIte, Nat.reduceEqDiff, Nat.reduceLT, Nat.reduceLeDiff, Nat.reduceMul, false_and, and_false, reduceCtorEq, false_or, or_false, not_true_eq_false, not_false_eq_true, true_implies, false_implies, implies_true, lf_10, eq_self, Int32.reduceLT, Int32.reduceLE, Int32.reduceAdd, Int32.reduceSub, pm_same, pm_i_wI, pm_l_wL, pm_l_wM, pm_oR_rf, pm_oQ_rf, sh_k59 hS, sh_r59_25 hS, sh_k80 hS, sh_z80 hS, sh_r59_27 hS, sh_k81 hS, sh_z81 hS, mst_w46, mst_w48, mst_w49, mst_46, mst_48, mst_49, mst_k, mst_z, mst_r, mst_n, mst_l, mst_R62, mst_R64, mst_R65, mst_R66, mst_R67, mst_R78, mst_R80, mst_R81, mst_F18, mst_F24, mst_F45, mst_F47, mst_F50, mst_F51, nI_1, LQ1, LQ2, LQ4, LQ1, LQ2, ms_k, ms_z, ms_r, ms_49, ms_w49, ms_R62, ms_R64, ms_R65, ms_R66, ms_R67, ms_R75, ms_R76, ms_R77, ms_R78, ms_R79, ms_R80, ms_R81, ms_R95, ms_R96, ms_R97, ms_F0, ms_F2, ms_F18, ms_F24, ms_F31, ms_F26, ms_F45, ms_F47, ms_F50, ms_F51, ms_F52, ms_F53, ms_F54, ms_F55, ms_F56, ms_F57, ms_F58, ms_F59, ms_F60, ms_F61, ms_F62, ms_F63, sh_r59_60 hS, sh_k95 hS, sh_z95 hS, sh_r59_61 hS, sh_k96 hS, sh_z96 hS, sh_r59_62 hS, sh_k97 hS, sh_z97 hS, pm_WI0, pm_WI1, pm_WI2, pm_WI3, pm_WI4, pm_WI5, pm_WV, pm_WW, pm_WX, pb_B180, pm_if, pm_QI_at, pm_QL_at, pm_QV_at, pm_QR_at, pm_QR_at0, pm_QR_at1, Nat.reduceSub, Nat.reduceAdd, List.replicate_zero, List.replicate_succ]
      refine ⟨by omega, mr_181 hS2 hm2 hz ⟨fun _ => ⟨by omega, sh_k59 hS2, mr_187f hS2 (by omega) ?_⟩, fun _ => ?_⟩⟩
      · exact pv_W fin (by simp [pv_le, pm_unk])
      · exact pv_W fin (by simp [pv_le, pm_unk])
    · have hz := (gx_w_ok gx_b_eof hx (by decide) ez).2
      rw [gx_bd_some ez] at eall
      rw [ez]
      have hmx : ms (pm_wI S 59 55 (nI v)) 0 (z, some u) = mst (pm_wI S 59 55 (nI v)) (nI z) (-1) (nI 0) := rfl
      rw [hmx]
      try simp only [pm_WV, pm_WW, true_and, and_true, true_or, or_true, and_self, reduceIte, Nat.reduceEqDiff, Nat.reduceLT, Nat.reduceLeDiff, Nat.reduceMul, false_and, and_false, reduceCtorEq, false_or, or_false, not_true_eq_false, not_false_eq_true, true_implies, false_implies, implies_true, lf_10, eq_self, Int32.reduceLT, Int32.reduceLE, Int32.reduceAdd, Int32.reduceSub, pm_same, pm_i_wI, pm_l_wL, pm_l_wM, pm_oR_rf, pm_oQ_rf, sh_k59 hS, sh_r59_25 hS, sh_k80 hS, sh_z80 hS, sh_r59_27 hS, sh_k81 hS, sh_z81 hS, mst_w46, mst_w48, mst_w49, mst_46, mst_48, mst_49, mst_k, mst_z, mst_r, mst_n, mst_l, mst_R62, mst_R64, mst_R65, mst_R66, mst_R67, mst_R78, mst_R80, mst_R81, mst_F18, mst_F24, mst_F45, mst_F47, mst_F50, mst_F51, nI_1, LQ1, LQ2, LQ4, LQ1, LQ2, ms_k, ms_z, ms_r, ms_49, ms_w49, ms_R62, ms_R64, ms_R65, ms_R66, ms_R67, ms_R75, ms_R76, ms_R77, ms_R78, ms_R79, ms_R80, ms_R81, ms_R95, ms_R96, ms_R97, ms_F0, ms_F2, ms_F18, ms_F24, ms_F31, ms_F26, ms_F45, ms_F47, ms_F50, ms_F51, ms_F52, ms_F53, ms_F54, ms_F55, ms_F56, ms_F57, ms_F58, ms_F59, ms_F60, ms_F61, ms_F62, ms_F63, sh_r59_60 hS, sh_k95 hS, sh_z95 hS, sh_r59_61 hS, sh_k96 hS, sh_z96 hS, sh_r59_62 hS, sh_k97 hS, sh_z97 hS, pm_WI0, pm_WI1, pm_WI2, pm_WI3, pm_WI4, pm_WI5, pm_WV, pm_WW, pm_WX, pb_B180, pm_if, pm_QI_at, pm_QL_at, pm_QV_at, pm_QR_at, pm_QR_at0, pm_QR_at1, Nat.reduceSub, Nat.reduceAdd, List.replicate_zero, List.replicate_succ]
      refine ⟨by omega, mr_181 hS2 hm2 hz ⟨fun y0 => ⟨by omega, sh_k59 hS2, mr_187l hS2 ?_⟩, fun y0 => ?_⟩⟩
      · have y0' := (sg_nc hm (c := 48) (by omega)).mp y0
        have eall2 : gx_clause (gx_b f n) L p = (z, none) := by rw [eall, gx_bd_none (gx_num_none (by omega))]
        exact pv_W (ff z hz eall2) (by simp [pv_le, pm_unk])
      · have y0' : ¬ gx_b f n z = 48 := fun e => y0 ((sg_nc hm (c := 48) (by omega)).mpr e)
        have en : ∀ (g : Nat → Nat → gx_R gx_L), gx_bd (gx_num (gx_b f n) 1 4 z) g = gx_bd (gx_num (gx_b f n) 0 4 z) g := fun g => by
          by_cases hb : 48 + 1 ≤ gx_b f n z ∧ gx_b f n z ≤ 57
          · rw [gx_num_some hb, gx_num_some (least := 0) (by omega)]
          · rw [gx_num_none hb, gx_num_none (least := 0) (by omega)]
        rw [en] at eall
        refine pm_wb_ok pb_c180 3 194 0 _ _ _ _ _ ?_
        try simp only [pm_WI0, pm_WI1, pm_WI2, pm_WI3, pm_WI4, pm_WI5, pm_WV, pm_WW, pm_WX, pb_B180, pm_if, pm_QI_at, pm_QL_at, pm_QV_at, pm_QR_at, pm_QR_at0, pm_QR_at1, Nat.reduceSub, Nat.reduceAdd, List.replicate_zero, List.replicate_succ, true_and, and_true, true_or, or_true, and_self, reduceIte, Nat.reduceEqDiff, Nat.reduceLT, Nat.reduceLeDiff, Nat.reduceMul, false_and, and_false, reduceCtorEq, false_or, or_false, not_true_eq_false, not_false_eq_true, true_implies, false_implies, implies_true, lf_10, eq_self, Int32.reduceLT, Int32.reduceLE, Int32.reduceAdd, Int32.reduceSub, pm_same, pm_i_wI, pm_l_wL, pm_l_wM, pm_oR_rf, pm_oQ_rf, sh_k59 hS, sh_r59_25 hS, sh_k80 hS, sh_z80 hS, sh_r59_27 hS, sh_k81 hS, sh_z81 hS, mst_w46, mst_w48, mst_w49, mst_46, mst_48, mst_49, mst_k, mst_z, mst_r, mst_n, mst_l, mst_R62, mst_R64, mst_R65, mst_R66, mst_R67, mst_R78, mst_R80, mst_R81, mst_F18, mst_F24, mst_F45, mst_F47, mst_F50, mst_F51, nI_1, LQ1, LQ2, LQ4, LQ1, LQ2, ms_k, ms_z, ms_r, ms_49, ms_w49, ms_R62, ms_R64, ms_R65, ms_R66, ms_R67, ms_R75, ms_R76, ms_R77, ms_R78, ms_R79, ms_R80, ms_R81, ms_R95, ms_R96, ms_R97, ms_F0, ms_F2, ms_F18, ms_F24, ms_F31, ms_F26, ms_F45, ms_F47, ms_F50, ms_F51, ms_F52, ms_F53, ms_F54, ms_F55, ms_F56, ms_F57, ms_F58, ms_F59, ms_F60, ms_F61, ms_F62, ms_F63, sh_r59_60 hS, sh_k95 hS, sh_z95 hS, sh_r59_61 hS, sh_k96 hS, sh_z96 hS, sh_r59_62 hS, sh_k97 hS, sh_z97 hS]
        refine ⟨by omega, mr_189 (S := pm_wI S 59 55 (nI v)) (o := 0) (r := (z, some ())) (most := 4) (by omega) hS2 hm2 hz (by omega) (by omega) ?_⟩
        have er2 : gx_bd ((z, some ()) : gx_R Unit) (fun _ p => gx_num (gx_b f n) 0 4 p) = gx_num (gx_b f n) 0 4 z := rfl
        rw [er2]
        try simp only [pm_WV, pm_WW, true_and, and_true, true_or, or_true, and_self, reduceIte, Nat.reduceEqDiff, Nat.reduceLT, Nat.reduceLeDiff, Nat.reduceMul, false_and, and_false, reduceCtorEq, false_or, or_false, not_true_eq_false, not_false_eq_true, true_implies, false_implies, implies_true, lf_10, eq_self, Int32.reduceLT, Int32.reduceLE, Int32.reduceAdd, Int32.reduceSub, pm_same, pm_i_wI, pm_l_wL, pm_l_wM, pm_oR_rf, pm_oQ_rf, sh_k59 hS, sh_r59_25 hS, sh_k80 hS, sh_z80 hS, sh_r59_27 hS, sh_k81 hS, sh_z81 hS, mst_w46, mst_w48, mst_w49, mst_46, mst_48, mst_49, mst_k, mst_z, mst_r, mst_n, mst_l, mst_R62, mst_R64, mst_R65, mst_R66, mst_R67, mst_R78, mst_R80, mst_R81, mst_F18, mst_F24, mst_F45, mst_F47, mst_F50, mst_F51, nI_1, LQ1, LQ2, LQ4, LQ1, LQ2, ms_k, ms_z, ms_r, ms_49, ms_w49, ms_R62, ms_R64, ms_R65, ms_R66, ms_R67, ms_R75, ms_R76, ms_R77, ms_R78, ms_R79, ms_R80, ms_R81, ms_R95, ms_R96, ms_R97, ms_F0, ms_F2, ms_F18, ms_F24, ms_F31, ms_F26, ms_F45, ms_F47, ms_F50, ms_F51, ms_F52, ms_F53, ms_F54, ms_F55, ms_F56, ms_F57, ms_F58, ms_F59, ms_F60, ms_F61, ms_F62, ms_F63, sh_r59_60 hS, sh_k95 hS, sh_z95 hS, sh_r59_61 hS, sh_k96 hS, sh_z96 hS, sh_r59_62 hS, sh_k97 hS, sh_z97 hS, pm_WI0, pm_WI1, pm_WI2, pm_WI3, pm_WI4, pm_WI5, pm_WV, pm_WW, pm_WX, pb_B180, pm_if, pm_QI_at, pm_QL_at, pm_QV_at, pm_QR_at, pm_QR_at0, pm_QR_at1, Nat.reduceSub, Nat.reduceAdd, List.replicate_zero, List.replicate_succ]
        rcases gx_two (gx_num (gx_b f n) 0 4 z) with ⟨z2, ez2⟩ | ⟨z2, m, ez2⟩
        · rw [gx_bd_none ez2] at eall
          rw [ez2, un_none, vo_none, ms_wf (by decide)]
          exact h0 z2 _ eall ((lfr.rf.w (by omega) (by omega)).w (by omega) (by omega))
        · rw [gx_bd_some ez2] at eall
          rw [ez2, un_some, vo_some, ms_wf (by decide)]
          exact h1 z2 _ _ eall ((lfr.rf.w (by omega) (by omega)).w (by omega) (by omega)) (hl2.num (by omega) (by omega) (by omega))
theorem mr_180_r {G : pm_G} {d : Nat} {S : pm_S} {f : Nat → Int32} {n : Nat} {t : Nat → Bool} {L : gx_L} {c p0 p : Nat} {q : pm_S → Prop} (hd : 29 ≤ d) (hcx : cx S f n t) (hw : gx_wf t L c p0) (hmlr : mlr S t L) (hc : c < 10) (hpp : p0 ≤ p) (hp : p ≤ n) (y : gx_b f n p = 114) (h1 : ∀ x L' T, gx_clause (gx_b f n) L p = (x, some L') → lfr S T → mlr T t L' → q (ms T 0 (x, some ()))) (h0 : ∀ x T, gx_clause (gx_b f n) L p = (x, none) → lfr S T → q (ms T 0 (x, none))) : pm_CV G d 180 [.ref 59] (ms S 0 (p, some ())) q := by
  obtain ⟨hS, hm, h18, h24, h24b, ht⟩ := id hcx
  have hn := hm.2.1
  have hpn : p < n := gx_lt gx_b_eof y (by omega)
  have hp1 : p + 1 ≤ n := hpn
  have es : sg (gx_b f n p) = 114 := by rw [y]; rfl
  have hms : ms S 0 (p, some ()) = mst S (nI p) (-1) (nI 0) := rfl
  rw [hms]
  refine pm_goV 180 1 pb_c180 (by decide) (Nat.le_of_ble_eq_true rfl) rfl ?_
  try simp only [show pm_mL 180 = 3 from rfl, pm_WI0, pm_WI1, pm_WI2, pm_WI3, pm_WI4, pm_WI5, pm_WV, pm_WW, pm_WX, pb_B180, pm_if, pm_QI_at, pm_QL_at, pm_QV_at, pm_QR_at, pm_QR_at0, pm_QR_at1, Nat.reduceSub, Nat.reduceAdd, List.replicate_zero, List.replicate_succ, true_and, and_true, true_or, or_true, and_self, reduceIte, Nat.reduceEqDiff, Nat.reduceLT, Nat.reduceLeDiff, Nat.reduceMul, false_and, and_false, reduceCtorEq, false_or, or_false, not_true_eq_false, not_false_eq_true, true_implies, false_implies, implies_true, lf_10, eq_self, Int32.reduceLT, Int32.reduceLE, Int32.reduceAdd, Int32.reduceSub, pm_same, pm_i_wI, pm_l_wL, pm_l_wM, pm_oR_rf, pm_oQ_rf, sh_k59 hS, sh_r59_25 hS, sh_k80 hS, sh_z80 hS, sh_r59_27 hS, sh_k81 hS, sh_z81 hS, mst_w46, mst_w48, mst_w49, mst_46, mst_48, mst_49, mst_k, mst_z, mst_r, mst_n, mst_l, mst_R62, mst_R64, mst_R65, mst_R66, mst_R67, mst_R78, mst_R80, mst_R81, mst_F18, mst_F24, mst_F45, mst_F47, mst_F50, mst_F51, nI_1, LQ1, LQ2, LQ4, LQ1, LQ2, ms_k, ms_z, ms_r, ms_49, ms_w49, ms_R62, ms_R64, ms_R65, ms_R66, ms_R67, ms_R75, ms_R76, ms_R77, ms_R78, ms_R79, ms_R80, ms_R81, ms_R95, ms_R96, ms_R97, ms_F0, ms_F2, ms_F18, ms_F24, ms_F31, ms_F26, ms_F45, ms_F47, ms_F50, ms_F51, ms_F52, ms_F53, ms_F54, ms_F55, ms_F56, ms_F57, ms_F58, ms_F59, ms_F60, ms_F61, ms_F62, ms_F63, sh_r59_60 hS, sh_k95 hS, sh_z95 hS, sh_r59_61 hS, sh_k96 hS, sh_z96 hS, sh_r59_62 hS, sh_k97 hS, sh_z97 hS]
  refine ⟨by omega, mr_181 hS hm hp ?_⟩
  try simp only [pm_WV, pm_WW, true_and, and_true, true_or, or_true, and_self, reduceIte, Nat.reduceEqDiff, Nat.reduceLT, Nat.reduceLeDiff, Nat.reduceMul, false_and, and_false, reduceCtorEq, false_or, or_false, not_true_eq_false, not_false_eq_true, true_implies, false_implies, implies_true, lf_10, eq_self, Int32.reduceLT, Int32.reduceLE, Int32.reduceAdd, Int32.reduceSub, pm_same, pm_i_wI, pm_l_wL, pm_l_wM, pm_oR_rf, pm_oQ_rf, sh_k59 hS, sh_r59_25 hS, sh_k80 hS, sh_z80 hS, sh_r59_27 hS, sh_k81 hS, sh_z81 hS, mst_w46, mst_w48, mst_w49, mst_46, mst_48, mst_49, mst_k, mst_z, mst_r, mst_n, mst_l, mst_R62, mst_R64, mst_R65, mst_R66, mst_R67, mst_R78, mst_R80, mst_R81, mst_F18, mst_F24, mst_F45, mst_F47, mst_F50, mst_F51, nI_1, LQ1, LQ2, LQ4, LQ1, LQ2, ms_k, ms_z, ms_r, ms_49, ms_w49, ms_R62, ms_R64, ms_R65, ms_R66, ms_R67, ms_R75, ms_R76, ms_R77, ms_R78, ms_R79, ms_R80, ms_R81, ms_R95, ms_R96, ms_R97, ms_F0, ms_F2, ms_F18, ms_F24, ms_F31, ms_F26, ms_F45, ms_F47, ms_F50, ms_F51, ms_F52, ms_F53, ms_F54, ms_F55, ms_F56, ms_F57, ms_F58, ms_F59, ms_F60, ms_F61, ms_F62, ms_F63, sh_r59_60 hS, sh_k95 hS, sh_z95 hS, sh_r59_61 hS, sh_k96 hS, sh_z96 hS, sh_r59_62 hS, sh_k97 hS, sh_z97 hS, pm_WI0, pm_WI1, pm_WI2, pm_WI3, pm_WI4, pm_WI5, pm_WV, pm_WW, pm_WX, pb_B180, pm_if, pm_QI_at, pm_QL_at, pm_QV_at, pm_QR_at, pm_QR_at0, pm_QR_at1, Nat.reduceSub, Nat.reduceAdd, List.replicate_zero, List.replicate_succ, es]
  refine pm_wb_ok pb_c180 6 18 0 _ _ _ _ _ ?_
  try simp only [pm_WI0, pm_WI1, pm_WI2, pm_WI3, pm_WI4, pm_WI5, pm_WV, pm_WW, pm_WX, pb_B180, pm_if, pm_QI_at, pm_QL_at, pm_QV_at, pm_QR_at, pm_QR_at0, pm_QR_at1, Nat.reduceSub, Nat.reduceAdd, List.replicate_zero, List.replicate_succ, true_and, and_true, true_or, or_true, and_self, reduceIte, Nat.reduceEqDiff, Nat.reduceLT, Nat.reduceLeDiff, Nat.reduceMul, false_and, and_false, reduceCtorEq, false_or, or_false, not_true_eq_false, not_false_eq_true, true_implies, false_implies, implies_true, lf_10, eq_self, Int32.reduceLT, Int32.reduceLE, Int32.reduceAdd, Int32.reduceSub, pm_same, pm_i_wI, pm_l_wL, pm_l_wM, pm_oR_rf, pm_oQ_rf, sh_k59 hS, sh_r59_25 hS, sh_k80 hS, sh_z80 hS, sh_r59_27 hS, sh_k81 hS, sh_z81 hS, mst_w46, mst_w48, mst_w49, mst_46, mst_48, mst_49, mst_k, mst_z, mst_r, mst_n, mst_l, mst_R62, mst_R64, mst_R65, mst_R66, mst_R67, mst_R78, mst_R80, mst_R81, mst_F18, mst_F24, mst_F45, mst_F47, mst_F50, mst_F51, nI_1, LQ1, LQ2, LQ4, LQ1, LQ2, ms_k, ms_z, ms_r, ms_49, ms_w49, ms_R62, ms_R64, ms_R65, ms_R66, ms_R67, ms_R75, ms_R76, ms_R77, ms_R78, ms_R79, ms_R80, ms_R81, ms_R95, ms_R96, ms_R97, ms_F0, ms_F2, ms_F18, ms_F24, ms_F31, ms_F26, ms_F45, ms_F47, ms_F50, ms_F51, ms_F52, ms_F53, ms_F54, ms_F55, ms_F56, ms_F57, ms_F58, ms_F59, ms_F60, ms_F61, ms_F62, ms_F63, sh_r59_60 hS, sh_k95 hS, sh_z95 hS, sh_r59_61 hS, sh_k96 hS, sh_z96 hS, sh_r59_62 hS, sh_k97 hS, sh_z97 hS]
  refine ⟨by omega, mr_181 hS hm hp1 ?_⟩
  have hms1 : mst S (nI (p + 1)) (-1) (nI 0) = ms S 0 (p + 1, some ()) := rfl
  by_cases ya : gx_b f n (p + 1) = 97
  · have es2 : sg (gx_b f n (p + 1)) = 97 := by rw [ya]; rfl
    have ec : gx_clause (gx_b f n) L p = gx_one (gx_b f n) L 15 [97, 116, 101, 32] (p + 1) := by
      unfold gx_clause; rw [if_neg (by omega), if_pos y, if_pos ya]
    rw [es2, hms1]
    try simp only [pm_WV, pm_WW, true_and, and_true, true_or, or_true, and_self, reduceIte, Nat.reduceEqDiff, Nat.reduceLT, Nat.reduceLeDiff, Nat.reduceMul, false_and, and_false, reduceCtorEq, false_or, or_false, not_true_eq_false, not_false_eq_true, true_implies, false_implies, implies_true, lf_10, eq_self, Int32.reduceLT, Int32.reduceLE, Int32.reduceAdd, Int32.reduceSub, pm_same, pm_i_wI, pm_l_wL, pm_l_wM, pm_oR_rf, pm_oQ_rf, sh_k59 hS, sh_r59_25 hS, sh_k80 hS, sh_z80 hS, sh_r59_27 hS, sh_k81 hS, sh_z81 hS, mst_w46, mst_w48, mst_w49, mst_46, mst_48, mst_49, mst_k, mst_z, mst_r, mst_n, mst_l, mst_R62, mst_R64, mst_R65, mst_R66, mst_R67, mst_R78, mst_R80, mst_R81, mst_F18, mst_F24, mst_F45, mst_F47, mst_F50, mst_F51, nI_1, LQ1, LQ2, LQ4, LQ1, LQ2, ms_k, ms_z, ms_r, ms_49, ms_w49, ms_R62, ms_R64, ms_R65, ms_R66, ms_R67, ms_R75, ms_R76, ms_R77, ms_R78, ms_R79, ms_R80, ms_R81, ms_R95, ms_R96, ms_R97, ms_F0, ms_F2, ms_F18, ms_F24, ms_F31, ms_F26, ms_F45, ms_F47, ms_F50, ms_F51, ms_F52, ms_F53, ms_F54, ms_F55, ms_F56, ms_F57, ms_F58, ms_F59, ms_F60, ms_F61, ms_F62, ms_F63, sh_r59_60 hS, sh_k95 hS, sh_z95 hS, sh_r59_61 hS, sh_k96 hS, sh_z96 hS, sh_r59_62 hS, sh_k97 hS, sh_z97 hS, pm_WI0, pm_WI1, pm_WI2, pm_WI3, pm_WI4, pm_WI5, pm_WV, pm_WW, pm_WX, pb_B180, pm_if, pm_QI_at, pm_QL_at, pm_QV_at, pm_QR_at, pm_QR_at0, pm_QR_at1, Nat.reduceSub, Nat.reduceAdd, List.replicate_zero, List.replicate_succ]
    refine ⟨by omega, mr_183_ate ?_⟩
    try simp only [pm_WV, pm_WW, true_and, and_true, true_or, or_true, and_self, reduceIte, Nat.reduceEqDiff, Nat.reduceLT, Nat.reduceLeDiff, Nat.reduceMul, false_and, and_false, reduceCtorEq, false_or, or_false, not_true_eq_false, not_false_eq_true, true_implies, false_implies, implies_true, lf_10, eq_self, Int32.reduceLT, Int32.reduceLE, Int32.reduceAdd, Int32.reduceSub, pm_same, pm_i_wI, pm_l_wL, pm_l_wM, pm_oR_rf, pm_oQ_rf, sh_k59 hS, sh_r59_25 hS, sh_k80 hS, sh_z80 hS, sh_r59_27 hS, sh_k81 hS, sh_z81 hS, mst_w46, mst_w48, mst_w49, mst_46, mst_48, mst_49, mst_k, mst_z, mst_r, mst_n, mst_l, mst_R62, mst_R64, mst_R65, mst_R66, mst_R67, mst_R78, mst_R80, mst_R81, mst_F18, mst_F24, mst_F45, mst_F47, mst_F50, mst_F51, nI_1, LQ1, LQ2, LQ4, LQ1, LQ2, ms_k, ms_z, ms_r, ms_49, ms_w49, ms_R62, ms_R64, ms_R65, ms_R66, ms_R67, ms_R75, ms_R76, ms_R77, ms_R78, ms_R79, ms_R80, ms_R81, ms_R95, ms_R96, ms_R97, ms_F0, ms_F2, ms_F18, ms_F24, ms_F31, ms_F26, ms_F45, ms_F47, ms_F50, ms_F51, ms_F52, ms_F53, ms_F54, ms_F55, ms_F56, ms_F57, ms_F58, ms_F59, ms_F60, ms_F61, ms_F62, ms_F63, sh_r59_60 hS, sh_k95 hS, sh_z95 hS, sh_r59_61 hS, sh_k96 hS, sh_z96 hS, sh_r59_62 hS, sh_k97 hS, sh_z97 hS, pm_WI0, pm_WI1, pm_WI2, pm_WI3, pm_WI4, pm_WI5, pm_WV, pm_WW, pm_WX, pb_B180, pm_if, pm_QI_at, pm_QL_at, pm_QV_at, pm_QR_at, pm_QR_at0, pm_QR_at1, Nat.reduceSub, Nat.reduceAdd, List.replicate_zero, List.replicate_succ]
    refine ⟨by omega, mr_199 (by omega) hS hm (by show p + 1 ≤ n; exact hp1) rfl wk_ate (by rw [wz_ate]; decide) ?_⟩
    rw [wz_ate]
    try simp only [pm_WV, pm_WW, true_and, and_true, true_or, or_true, and_self, reduceIte, Nat.reduceEqDiff, Nat.reduceLT, Nat.reduceLeDiff, Nat.reduceMul, false_and, and_false, reduceCtorEq, false_or, or_false, not_true_eq_false, not_false_eq_true, true_implies, false_implies, implies_true, lf_10, eq_self, Int32.reduceLT, Int32.reduceLE, Int32.reduceAdd, Int32.reduceSub, pm_same, pm_i_wI, pm_l_wL, pm_l_wM, pm_oR_rf, pm_oQ_rf, sh_k59 hS, sh_r59_25 hS, sh_k80 hS, sh_z80 hS, sh_r59_27 hS, sh_k81 hS, sh_z81 hS, mst_w46, mst_w48, mst_w49, mst_46, mst_48, mst_49, mst_k, mst_z, mst_r, mst_n, mst_l, mst_R62, mst_R64, mst_R65, mst_R66, mst_R67, mst_R78, mst_R80, mst_R81, mst_F18, mst_F24, mst_F45, mst_F47, mst_F50, mst_F51, nI_1, LQ1, LQ2, LQ4, LQ1, LQ2, ms_k, ms_z, ms_r, ms_49, ms_w49, ms_R62, ms_R64, ms_R65, ms_R66, ms_R67, ms_R75, ms_R76, ms_R77, ms_R78, ms_R79, ms_R80, ms_R81, ms_R95, ms_R96, ms_R97, ms_F0, ms_F2, ms_F18, ms_F24, ms_F31, ms_F26, ms_F45, ms_F47, ms_F50, ms_F51, ms_F52, ms_F53, ms_F54, ms_F55, ms_F56, ms_F57, ms_F58, ms_F59, ms_F60, ms_F61, ms_F62, ms_F63, sh_r59_60 hS, sh_k95 hS, sh_z95 hS, sh_r59_61 hS, sh_k96 hS, sh_z96 hS, sh_r59_62 hS, sh_k97 hS, sh_z97 hS, pm_WI0, pm_WI1, pm_WI2, pm_WI3, pm_WI4, pm_WI5, pm_WV, pm_WW, pm_WX, pb_B180, pm_if, pm_QI_at, pm_QL_at, pm_QV_at, pm_QR_at, pm_QR_at0, pm_QR_at1, Nat.reduceSub, Nat.reduceAdd, List.replicate_zero, List.replicate_succ]
    try refine pm_wb_ok pb_c180 1 291 0 _ _ _ _ _ ?_
    try simp only [pm_WI0, pm_WI1, pm_WI2, pm_WI3, pm_WI4, pm_WI5, pm_WV, pm_WW, pm_WX, pb_B180, pm_if, pm_QI_at, pm_QL_at, pm_QV_at, pm_QR_at, pm_QR_at0, pm_QR_at1, Nat.reduceSub, Nat.reduceAdd, List.replicate_zero, List.replicate_succ, true_and, and_true, true_or, or_true, and_self, reduceIte, Nat.reduceEqDiff, Nat.reduceLT, Nat.reduceLeDiff, Nat.reduceMul, false_and, and_false, reduceCtorEq, false_or, or_false, not_true_eq_false, not_false_eq_true, true_implies, false_implies, implies_true, lf_10, eq_self, Int32.reduceLT, Int32.reduceLE, Int32.reduceAdd, Int32.reduceSub, pm_same, pm_i_wI, pm_l_wL, pm_l_wM, pm_oR_rf, pm_oQ_rf, sh_k59 hS, sh_r59_25 hS, sh_k80 hS, sh_z80 hS, sh_r59_27 hS, sh_k81 hS, sh_z81 hS, mst_w46, mst_w48, mst_w49, mst_46, mst_48, mst_49, mst_k, mst_z, mst_r, mst_n, mst_l, mst_R62, mst_R64, mst_R65, mst_R66, mst_R67, mst_R78, mst_R80, mst_R81, mst_F18, mst_F24, mst_F45, mst_F47, mst_F50, mst_F51, nI_1, LQ1, LQ2, LQ4, LQ1, LQ2, ms_k, ms_z, ms_r, ms_49, ms_w49, ms_R62, ms_R64, ms_R65, ms_R66, ms_R67, ms_R75, ms_R76, ms_R77, ms_R78, ms_R79, ms_R80, ms_R81, ms_R95, ms_R96, ms_R97, ms_F0, ms_F2, ms_F18, ms_F24, ms_F31, ms_F26, ms_F45, ms_F47, ms_F50, ms_F51, ms_F52, ms_F53, ms_F54, ms_F55, ms_F56, ms_F57, ms_F58, ms_F59, ms_F60, ms_F61, ms_F62, ms_F63, sh_r59_60 hS, sh_k95 hS, sh_z95 hS, sh_r59_61 hS, sh_k96 hS, sh_z96 hS, sh_r59_62 hS, sh_k97 hS, sh_z97 hS]
    rcases one_case (f := f) (fl := 15) (L := L) hp1 (ws := [97, 116, 101]) (by decide) with ⟨x, hx, e1, e2⟩ | ⟨v, x, e1, e2⟩
    · rw [e1, un_none, ms_wf (by decide)]
      exact h0 x _ (by rw [ec]; exact e2) (lfr.rf.w (by omega) (by omega))
    · rw [e1, un_some, vo_some, ms_wf (by decide)]
      exact h1 x _ _ (by rw [ec]; exact e2) (lfr.rf.w (by omega) (by omega)) (hmlr.num (by omega) (by omega) (by omega))
  · have es2 : ¬ sg (gx_b f n (p + 1)) = 97 := fun z => ya ((sg_nc hm (c := 97) (by omega)).mp z)
    have ec : gx_clause (gx_b f n) L p = gx_reach (gx_b f n) L (p + 1) := by
      unfold gx_clause; rw [if_neg (by omega), if_pos y, if_neg ya]
    rw [hms1]
    try simp only [pm_WV, pm_WW, true_and, and_true, true_or, or_true, and_self, reduceIte, Nat.reduceEqDiff, Nat.reduceLT, Nat.reduceLeDiff, Nat.reduceMul, false_and, and_false, reduceCtorEq, false_or, or_false, not_true_eq_false, not_false_eq_true, true_implies, false_implies, implies_true, lf_10, eq_self, Int32.reduceLT, Int32.reduceLE, Int32.reduceAdd, Int32.reduceSub, pm_same, pm_i_wI, pm_l_wL, pm_l_wM, pm_oR_rf, pm_oQ_rf, sh_k59 hS, sh_r59_25 hS, sh_k80 hS, sh_z80 hS, sh_r59_27 hS, sh_k81 hS, sh_z81 hS, mst_w46, mst_w48, mst_w49, mst_46, mst_48, mst_49, mst_k, mst_z, mst_r, mst_n, mst_l, mst_R62, mst_R64, mst_R65, mst_R66, mst_R67, mst_R78, mst_R80, mst_R81, mst_F18, mst_F24, mst_F45, mst_F47, mst_F50, mst_F51, nI_1, LQ1, LQ2, LQ4, LQ1, LQ2, ms_k, ms_z, ms_r, ms_49, ms_w49, ms_R62, ms_R64, ms_R65, ms_R66, ms_R67, ms_R75, ms_R76, ms_R77, ms_R78, ms_R79, ms_R80, ms_R81, ms_R95, ms_R96, ms_R97, ms_F0, ms_F2, ms_F18, ms_F24, ms_F31, ms_F26, ms_F45, ms_F47, ms_F50, ms_F51, ms_F52, ms_F53, ms_F54, ms_F55, ms_F56, ms_F57, ms_F58, ms_F59, ms_F60, ms_F61, ms_F62, ms_F63, sh_r59_60 hS, sh_k95 hS, sh_z95 hS, sh_r59_61 hS, sh_k96 hS, sh_z96 hS, sh_r59_62 hS, sh_k97 hS, sh_z97 hS, pm_WI0, pm_WI1, pm_WI2, pm_WI3, pm_WI4, pm_WI5, pm_WV, pm_WW, pm_WX, pb_B180, pm_if, pm_QI_at, pm_QL_at, pm_QV_at, pm_QR_at, pm_QR_at0, pm_QR_at1, Nat.reduceSub, Nat.reduceAdd, List.replicate_zero, List.replicate_succ, es2]
    try refine pm_wb_ok pb_c180 2 253 0 _ _ _ _ _ ?_
    try simp only [pm_WI0, pm_WI1, pm_WI2, pm_WI3, pm_WI4, pm_WI5, pm_WV, pm_WW, pm_WX, pb_B180, pm_if, pm_QI_at, pm_QL_at, pm_QV_at, pm_QR_at, pm_QR_at0, pm_QR_at1, Nat.reduceSub, Nat.reduceAdd, List.replicate_zero, List.replicate_succ, true_and, and_true, true_or, or_true, and_self, reduceIte, Nat.reduceEqDiff, Nat.reduceLT, Nat.reduceLeDiff, Nat.reduceMul, false_and, and_false, reduceCtorEq, false_or, or_false, not_true_eq_false, not_false_eq_true, true_implies, false_implies, implies_true, lf_10, eq_self, Int32.reduceLT, Int32.reduceLE, Int32.reduceAdd, Int32.reduceSub, pm_same, pm_i_wI, pm_l_wL, pm_l_wM, pm_oR_rf, pm_oQ_rf, sh_k59 hS, sh_r59_25 hS, sh_k80 hS, sh_z80 hS, sh_r59_27 hS, sh_k81 hS, sh_z81 hS, mst_w46, mst_w48, mst_w49, mst_46, mst_48, mst_49, mst_k, mst_z, mst_r, mst_n, mst_l, mst_R62, mst_R64, mst_R65, mst_R66, mst_R67, mst_R78, mst_R80, mst_R81, mst_F18, mst_F24, mst_F45, mst_F47, mst_F50, mst_F51, nI_1, LQ1, LQ2, LQ4, LQ1, LQ2, ms_k, ms_z, ms_r, ms_49, ms_w49, ms_R62, ms_R64, ms_R65, ms_R66, ms_R67, ms_R75, ms_R76, ms_R77, ms_R78, ms_R79, ms_R80, ms_R81, ms_R95, ms_R96, ms_R97, ms_F0, ms_F2, ms_F18, ms_F24, ms_F31, ms_F26, ms_F45, ms_F47, ms_F50, ms_F51, ms_F52, ms_F53, ms_F54, ms_F55, ms_F56, ms_F57, ms_F58, ms_F59, ms_F60, ms_F61, ms_F62, ms_F63, sh_r59_60 hS, sh_k95 hS, sh_z95 hS, sh_r59_61 hS, sh_k96 hS, sh_z96 hS, sh_r59_62 hS, sh_k97 hS, sh_z97 hS]
    refine ⟨by omega, mr_183_each ?_⟩
    try simp only [pm_WV, pm_WW, true_and, and_true, true_or, or_true, and_self, reduceIte, Nat.reduceEqDiff, Nat.reduceLT, Nat.reduceLeDiff, Nat.reduceMul, false_and, and_false, reduceCtorEq, false_or, or_false, not_true_eq_false, not_false_eq_true, true_implies, false_implies, implies_true, lf_10, eq_self, Int32.reduceLT, Int32.reduceLE, Int32.reduceAdd, Int32.reduceSub, pm_same, pm_i_wI, pm_l_wL, pm_l_wM, pm_oR_rf, pm_oQ_rf, sh_k59 hS, sh_r59_25 hS, sh_k80 hS, sh_z80 hS, sh_r59_27 hS, sh_k81 hS, sh_z81 hS, mst_w46, mst_w48, mst_w49, mst_46, mst_48, mst_49, mst_k, mst_z, mst_r, mst_n, mst_l, mst_R62, mst_R64, mst_R65, mst_R66, mst_R67, mst_R78, mst_R80, mst_R81, mst_F18, mst_F24, mst_F45, mst_F47, mst_F50, mst_F51, nI_1, LQ1, LQ2, LQ4, LQ1, LQ2, ms_k, ms_z, ms_r, ms_49, ms_w49, ms_R62, ms_R64, ms_R65, ms_R66, ms_R67, ms_R75, ms_R76, ms_R77, ms_R78, ms_R79, ms_R80, ms_R81, ms_R95, ms_R96, ms_R97, ms_F0, ms_F2, ms_F18, ms_F24, ms_F31, ms_F26, ms_F45, ms_F47, ms_F50, ms_F51, ms_F52, ms_F53, ms_F54, ms_F55, ms_F56, ms_F57, ms_F58, ms_F59, ms_F60, ms_F61, ms_F62, ms_F63, sh_r59_60 hS, sh_k95 hS, sh_z95 hS, sh_r59_61 hS, sh_k96 hS, sh_z96 hS, sh_r59_62 hS, sh_k97 hS, sh_z97 hS, pm_WI0, pm_WI1, pm_WI2, pm_WI3, pm_WI4, pm_WI5, pm_WV, pm_WW, pm_WX, pb_B180, pm_if, pm_QI_at, pm_QL_at, pm_QV_at, pm_QR_at, pm_QR_at0, pm_QR_at1, Nat.reduceSub, Nat.reduceAdd, List.replicate_zero, List.replicate_succ]
    have q1 := gx_bd_w_le (f := f) (n := n) (r := (p + 1, some ())) (l := [101, 97, 99, 104]) hp1 (by decide)
    have q3 := gx_bd_w_le (f := f) (l := [32]) q1 (by decide)
    refine ⟨by omega, mr_184 (by omega) hS hm hp1 rfl wk_each ?_⟩
    rw [wz_each]
    try simp only [pm_WV, pm_WW, true_and, and_true, true_or, or_true, and_self, reduceIte, Nat.reduceEqDiff, Nat.reduceLT, Nat.reduceLeDiff, Nat.reduceMul, false_and, and_false, reduceCtorEq, false_or, or_false, not_true_eq_false, not_false_eq_true, true_implies, false_implies, implies_true, lf_10, eq_self, Int32.reduceLT, Int32.reduceLE, Int32.reduceAdd, Int32.reduceSub, pm_same, pm_i_wI, pm_l_wL, pm_l_wM, pm_oR_rf, pm_oQ_rf, sh_k59 hS, sh_r59_25 hS, sh_k80 hS, sh_z80 hS, sh_r59_27 hS, sh_k81 hS, sh_z81 hS, mst_w46, mst_w48, mst_w49, mst_46, mst_48, mst_49, mst_k, mst_z, mst_r, mst_n, mst_l, mst_R62, mst_R64, mst_R65, mst_R66, mst_R67, mst_R78, mst_R80, mst_R81, mst_F18, mst_F24, mst_F45, mst_F47, mst_F50, mst_F51, nI_1, LQ1, LQ2, LQ4, LQ1, LQ2, ms_k, ms_z, ms_r, ms_49, ms_w49, ms_R62, ms_R64, ms_R65, ms_R66, ms_R67, ms_R75, ms_R76, ms_R77, ms_R78, ms_R79, ms_R80, ms_R81, ms_R95, ms_R96, ms_R97, ms_F0, ms_F2, ms_F18, ms_F24, ms_F31, ms_F26, ms_F45, ms_F47, ms_F50, ms_F51, ms_F52, ms_F53, ms_F54, ms_F55, ms_F56, ms_F57, ms_F58, ms_F59, ms_F60, ms_F61, ms_F62, ms_F63, sh_r59_60 hS, sh_k95 hS, sh_z95 hS, sh_r59_61 hS, sh_k96 hS, sh_z96 hS, sh_r59_62 hS, sh_k97 hS, sh_z97 hS, pm_WI0, pm_WI1, pm_WI2, pm_WI3, pm_WI4, pm_WI5, pm_WV, pm_WW, pm_WX, pb_B180, pm_if, pm_QI_at, pm_QL_at, pm_QV_at, pm_QR_at, pm_QR_at0, pm_QR_at1, Nat.reduceSub, Nat.reduceAdd, List.replicate_zero, List.replicate_succ]
    refine ⟨by omega, mr_185 (c := 32) (by omega) hS hm q1 (by omega) ?_⟩
    try simp only [pm_WV, pm_WW, true_and, and_true, true_or, or_true, and_self, reduceIte, Nat.reduceEqDiff, Nat.reduceLT, Nat.reduceLeDiff, Nat.reduceMul, false_and, and_false, reduceCtorEq, false_or, or_false, not_true_eq_false, not_false_eq_true, true_implies, false_implies, implies_true, lf_10, eq_self, Int32.reduceLT, Int32.reduceLE, Int32.reduceAdd, Int32.reduceSub, pm_same, pm_i_wI, pm_l_wL, pm_l_wM, pm_oR_rf, pm_oQ_rf, sh_k59 hS, sh_r59_25 hS, sh_k80 hS, sh_z80 hS, sh_r59_27 hS, sh_k81 hS, sh_z81 hS, mst_w46, mst_w48, mst_w49, mst_46, mst_48, mst_49, mst_k, mst_z, mst_r, mst_n, mst_l, mst_R62, mst_R64, mst_R65, mst_R66, mst_R67, mst_R78, mst_R80, mst_R81, mst_F18, mst_F24, mst_F45, mst_F47, mst_F50, mst_F51, nI_1, LQ1, LQ2, LQ4, LQ1, LQ2, ms_k, ms_z, ms_r, ms_49, ms_w49, ms_R62, ms_R64, ms_R65, ms_R66, ms_R67, ms_R75, ms_R76, ms_R77, ms_R78, ms_R79, ms_R80, ms_R81, ms_R95, ms_R96, ms_R97, ms_F0, ms_F2, ms_F18, ms_F24, ms_F31, ms_F26, ms_F45, ms_F47, ms_F50, ms_F51, ms_F52, ms_F53, ms_F54, ms_F55, ms_F56, ms_F57, ms_F58, ms_F59, ms_F60, ms_F61, ms_F62, ms_F63, sh_r59_60 hS, sh_k95 hS, sh_z95 hS, sh_r59_61 hS, sh_k96 hS, sh_z96 hS, sh_r59_62 hS, sh_k97 hS, sh_z97 hS, pm_WI0, pm_WI1, pm_WI2, pm_WI3, pm_WI4, pm_WI5, pm_WV, pm_WW, pm_WX, pb_B180, pm_if, pm_QI_at, pm_QL_at, pm_QV_at, pm_QR_at, pm_QR_at0, pm_QR_at1, Nat.reduceSub, Nat.reduceAdd, List.replicate_zero, List.replicate_succ]
    refine ⟨by omega, mr_e hS hm h18 h24 h24b ht (by omega) q3 (fun b hb he => ?_)⟩
    try simp only [pm_WV, pm_WW, true_and, and_true, true_or, or_true, and_self, reduceIte, Nat.reduceEqDiff, Nat.reduceLT, Nat.reduceLeDiff, Nat.reduceMul, false_and, and_false, reduceCtorEq, false_or, or_false, not_true_eq_false, not_false_eq_true, true_implies, false_implies, implies_true, lf_10, eq_self, Int32.reduceLT, Int32.reduceLE, Int32.reduceAdd, Int32.reduceSub, pm_same, pm_i_wI, pm_l_wL, pm_l_wM, pm_oR_rf, pm_oQ_rf, sh_k59 hS, sh_r59_25 hS, sh_k80 hS, sh_z80 hS, sh_r59_27 hS, sh_k81 hS, sh_z81 hS, mst_w46, mst_w48, mst_w49, mst_46, mst_48, mst_49, mst_k, mst_z, mst_r, mst_n, mst_l, mst_R62, mst_R64, mst_R65, mst_R66, mst_R67, mst_R78, mst_R80, mst_R81, mst_F18, mst_F24, mst_F45, mst_F47, mst_F50, mst_F51, nI_1, LQ1, LQ2, LQ4, LQ1, LQ2, ms_k, ms_z, ms_r, ms_49, ms_w49, ms_R62, ms_R64, ms_R65, ms_R66, ms_R67, ms_R75, ms_R76, ms_R77, ms_R78, ms_R79, ms_R80, ms_R81, ms_R95, ms_R96, ms_R97, ms_F0, ms_F2, ms_F18, ms_F24, ms_F31, ms_F26, ms_F45, ms_F47, ms_F50, ms_F51, ms_F52, ms_F53, ms_F54, ms_F55, ms_F56, ms_F57, ms_F58, ms_F59, ms_F60, ms_F61, ms_F62, ms_F63, sh_r59_60 hS, sh_k95 hS, sh_z95 hS, sh_r59_61 hS, sh_k96 hS, sh_z96 hS, sh_r59_62 hS, sh_k97 hS, sh_z97 hS, pm_WI0, pm_WI1, pm_WI2, pm_WI3, pm_WI4, pm_WI5, pm_WV, pm_WW, pm_WX, pb_B180, pm_if, pm_QI_at, pm_QL_at, pm_QV_at, pm_QR_at, pm_QR_at0, pm_QR_at1, Nat.reduceSub, Nat.reduceAdd, List.replicate_zero, List.replicate_succ]
    have eg : gx_bd (gx_bd ((p + 1, some ()) : gx_R Unit) (fun _ p => gx_w (gx_b f n) [101, 97, 99, 104] p)) (fun _ p => gx_w (gx_b f n) [32] p) = gx_w (gx_b f n) [101, 97, 99, 104, 32] (p + 1) := by
      rw [show ([101, 97, 99, 104, 32] : List Nat) = [101, 97, 99, 104] ++ [32] from rfl, gx_w_app]; rfl
    rw [eg] at he q3 ⊢
    refine ⟨hb, ?_⟩
    rw [ms_wf (by decide)]
    unfold gx_reach at ec
    rcases gx_two (gx_w (gx_b f n) [101, 97, 99, 104, 32] (p + 1)) with ⟨x, ex⟩ | ⟨x, u, ex⟩
    · rw [gx_bd_none ex] at ec
      rw [ex]
      exact h0 x _ ec (lfr.rf.w (by omega) (by omega))
    · rw [gx_bd_some ex] at ec
      rw [ex] at he ⊢
      change ∀ e, (gx_e (gx_b f n) x).2 = some e → _ at he
      change q (ms _ 0 (un (gx_e (gx_b f n) x)))
      rcases gx_two (gx_e (gx_b f n) x) with ⟨z, ez⟩ | ⟨z, E, ez⟩
      · rw [gx_bd_none ez] at ec
        rw [ez]
        exact h0 z _ ec (lfr.rf.w (by omega) (by omega))
      · rw [gx_bd_some ez] at ec
        rw [ez, he E (by rw [ez])]
        exact h1 z _ _ ec (lfr.rf.w (by omega) (by omega)) (hmlr.reach hw)
theorem mr_180 {G : pm_G} {d : Nat} {S : pm_S} {f : Nat → Int32} {n : Nat} {t : Nat → Bool} {L : gx_L} {c p0 p : Nat} {q : pm_S → Prop} (hd : 29 ≤ d) (hcx : cx S f n t) (hw : gx_wf t L c p0) (hmlr : mlr S t L) (hc : c < 10) (hpp : p0 ≤ p) (hp : p ≤ n) (h1 : ∀ x L' T, gx_clause (gx_b f n) L p = (x, some L') → lfr S T → mlr T t L' → q (ms T 0 (x, some ()))) (h0 : ∀ x T, gx_clause (gx_b f n) L p = (x, none) → lfr S T → q (ms T 0 (x, none))) : pm_CV G d 180 [.ref 59] (ms S 0 (p, some ())) q := by
  obtain ⟨hS, hm, h18, h24, h24b, ht⟩ := id hcx
  have hn := hm.2.1
  by_cases y111 : gx_b f n p = 111
  · exact mr_180_owe hd hcx hw hmlr hc hpp hp y111 h1 h0
  by_cases y114 : gx_b f n p = 114
  · exact mr_180_r hd hcx hw hmlr hc hpp hp y114 h1 h0
  by_cases y115 : gx_b f n p = 115
  · exact mr_180_scale hd hcx hw hmlr hc hpp hp y115 h1 h0
  by_cases y108 : gx_b f n p = 108
  · exact mr_180_limit hd hcx hw hmlr hc hpp hp y108 h1 h0
  by_cases y97 : gx_b f n p = 97
  · exact mr_180_answer hd hcx hw hmlr hc hpp hp y97 h1 h0
  by_cases y99 : gx_b f n p = 99
  · exact mr_180_cap hd hcx hw hmlr hc hpp hp y99 h1 h0
  by_cases y102 : gx_b f n p = 102
  · exact mr_180_few hd hcx hw hmlr hc hpp hp y102 h1 h0
  have ec : gx_clause (gx_b f n) L p = (p, none) := by unfold gx_clause; rw [if_neg y111, if_neg y114, if_neg y115, if_neg y108, if_neg y97, if_neg y99, if_neg y102]
  have nx : ∀ c, c < 256 → ¬ gx_b f n p = c → ¬ sg (gx_b f n p) = nI c := fun c hc y z => y ((sg_nc hm hc).mp z)
  have z111 : ¬ sg (gx_b f n p) = 111 := nx 111 (by omega) y111
  have z114 : ¬ sg (gx_b f n p) = 114 := nx 114 (by omega) y114
  have z115 : ¬ sg (gx_b f n p) = 115 := nx 115 (by omega) y115
  have z108 : ¬ sg (gx_b f n p) = 108 := nx 108 (by omega) y108
  have z97 : ¬ sg (gx_b f n p) = 97 := nx 97 (by omega) y97
  have z99 : ¬ sg (gx_b f n p) = 99 := nx 99 (by omega) y99
  have z102 : ¬ sg (gx_b f n p) = 102 := nx 102 (by omega) y102
  have hms : ms S 0 (p, some ()) = mst S (nI p) (-1) (nI 0) := rfl
  rw [hms]
  refine pm_goV 180 1 pb_c180 (by decide) (Nat.le_of_ble_eq_true rfl) rfl ?_
  try simp only [show pm_mL 180 = 3 from rfl, pm_WI0, pm_WI1, pm_WI2, pm_WI3, pm_WI4, pm_WI5, pm_WV, pm_WW, pm_WX, pb_B180, pm_if, pm_QI_at, pm_QL_at, pm_QV_at, pm_QR_at, pm_QR_at0, pm_QR_at1, Nat.reduceSub, Nat.reduceAdd, List.replicate_zero, List.replicate_succ, true_and, and_true, true_or, or_true, and_self, reduceIte, Nat.reduceEqDiff, Nat.reduceLT, Nat.reduceLeDiff, Nat.reduceMul, false_and, and_false, reduceCtorEq, false_or, or_false, not_true_eq_false, not_false_eq_true, true_implies, false_implies, implies_true, lf_10, eq_self, Int32.reduceLT, Int32.reduceLE, Int32.reduceAdd, Int32.reduceSub, pm_same, pm_i_wI, pm_l_wL, pm_l_wM, pm_oR_rf, pm_oQ_rf, sh_k59 hS, sh_r59_25 hS, sh_k80 hS, sh_z80 hS, sh_r59_27 hS, sh_k81 hS, sh_z81 hS, mst_w46, mst_w48, mst_w49, mst_46, mst_48, mst_49, mst_k, mst_z, mst_r, mst_n, mst_l, mst_R62, mst_R64, mst_R65, mst_R66, mst_R67, mst_R78, mst_R80, mst_R81, mst_F18, mst_F24, mst_F45, mst_F47, mst_F50, mst_F51, nI_1, LQ1, LQ2, LQ4, LQ1, LQ2, ms_k, ms_z, ms_r, ms_49, ms_w49, ms_R62, ms_R64, ms_R65, ms_R66, ms_R67, ms_R75, ms_R76, ms_R77, ms_R78, ms_R79, ms_R80, ms_R81, ms_R95, ms_R96, ms_R97, ms_F0, ms_F2, ms_F18, ms_F24, ms_F31, ms_F26, ms_F45, ms_F47, ms_F50, ms_F51, ms_F52, ms_F53, ms_F54, ms_F55, ms_F56, ms_F57, ms_F58, ms_F59, ms_F60, ms_F61, ms_F62, ms_F63, sh_r59_60 hS, sh_k95 hS, sh_z95 hS, sh_r59_61 hS, sh_k96 hS, sh_z96 hS, sh_r59_62 hS, sh_k97 hS, sh_z97 hS]
  refine ⟨by omega, mr_181 hS hm hp ?_⟩
  try simp only [pm_WV, pm_WW, true_and, and_true, true_or, or_true, and_self, reduceIte, Nat.reduceEqDiff, Nat.reduceLT, Nat.reduceLeDiff, Nat.reduceMul, false_and, and_false, reduceCtorEq, false_or, or_false, not_true_eq_false, not_false_eq_true, true_implies, false_implies, implies_true, lf_10, eq_self, Int32.reduceLT, Int32.reduceLE, Int32.reduceAdd, Int32.reduceSub, pm_same, pm_i_wI, pm_l_wL, pm_l_wM, pm_oR_rf, pm_oQ_rf, sh_k59 hS, sh_r59_25 hS, sh_k80 hS, sh_z80 hS, sh_r59_27 hS, sh_k81 hS, sh_z81 hS, mst_w46, mst_w48, mst_w49, mst_46, mst_48, mst_49, mst_k, mst_z, mst_r, mst_n, mst_l, mst_R62, mst_R64, mst_R65, mst_R66, mst_R67, mst_R78, mst_R80, mst_R81, mst_F18, mst_F24, mst_F45, mst_F47, mst_F50, mst_F51, nI_1, LQ1, LQ2, LQ4, LQ1, LQ2, ms_k, ms_z, ms_r, ms_49, ms_w49, ms_R62, ms_R64, ms_R65, ms_R66, ms_R67, ms_R75, ms_R76, ms_R77, ms_R78, ms_R79, ms_R80, ms_R81, ms_R95, ms_R96, ms_R97, ms_F0, ms_F2, ms_F18, ms_F24, ms_F31, ms_F26, ms_F45, ms_F47, ms_F50, ms_F51, ms_F52, ms_F53, ms_F54, ms_F55, ms_F56, ms_F57, ms_F58, ms_F59, ms_F60, ms_F61, ms_F62, ms_F63, sh_r59_60 hS, sh_k95 hS, sh_z95 hS, sh_r59_61 hS, sh_k96 hS, sh_z96 hS, sh_r59_62 hS, sh_k97 hS, sh_z97 hS, pm_WI0, pm_WI1, pm_WI2, pm_WI3, pm_WI4, pm_WI5, pm_WV, pm_WW, pm_WX, pb_B180, pm_if, pm_QI_at, pm_QL_at, pm_QV_at, pm_QR_at, pm_QR_at0, pm_QR_at1, Nat.reduceSub, Nat.reduceAdd, List.replicate_zero, List.replicate_succ, z111, z114, z115, z108, z97, z99, z102]
  refine pm_wb_ok pb_c180 9 18 0 _ _ _ _ _ ?_
  try simp only [pm_WI0, pm_WI1, pm_WI2, pm_WI3, pm_WI4, pm_WI5, pm_WV, pm_WW, pm_WX, pb_B180, pm_if, pm_QI_at, pm_QL_at, pm_QV_at, pm_QR_at, pm_QR_at0, pm_QR_at1, Nat.reduceSub, Nat.reduceAdd, List.replicate_zero, List.replicate_succ, true_and, and_true, true_or, or_true, and_self, reduceIte, Nat.reduceEqDiff, Nat.reduceLT, Nat.reduceLeDiff, Nat.reduceMul, false_and, and_false, reduceCtorEq, false_or, or_false, not_true_eq_false, not_false_eq_true, true_implies, false_implies, implies_true, lf_10, eq_self, Int32.reduceLT, Int32.reduceLE, Int32.reduceAdd, Int32.reduceSub, pm_same, pm_i_wI, pm_l_wL, pm_l_wM, pm_oR_rf, pm_oQ_rf, sh_k59 hS, sh_r59_25 hS, sh_k80 hS, sh_z80 hS, sh_r59_27 hS, sh_k81 hS, sh_z81 hS, mst_w46, mst_w48, mst_w49, mst_46, mst_48, mst_49, mst_k, mst_z, mst_r, mst_n, mst_l, mst_R62, mst_R64, mst_R65, mst_R66, mst_R67, mst_R78, mst_R80, mst_R81, mst_F18, mst_F24, mst_F45, mst_F47, mst_F50, mst_F51, nI_1, LQ1, LQ2, LQ4, LQ1, LQ2, ms_k, ms_z, ms_r, ms_49, ms_w49, ms_R62, ms_R64, ms_R65, ms_R66, ms_R67, ms_R75, ms_R76, ms_R77, ms_R78, ms_R79, ms_R80, ms_R81, ms_R95, ms_R96, ms_R97, ms_F0, ms_F2, ms_F18, ms_F24, ms_F31, ms_F26, ms_F45, ms_F47, ms_F50, ms_F51, ms_F52, ms_F53, ms_F54, ms_F55, ms_F56, ms_F57, ms_F58, ms_F59, ms_F60, ms_F61, ms_F62, ms_F63, sh_r59_60 hS, sh_k95 hS, sh_z95 hS, sh_r59_61 hS, sh_k96 hS, sh_z96 hS, sh_r59_62 hS, sh_k97 hS, sh_z97 hS, z111, z114, z115, z108, z97, z99, z102]
  exact ⟨by omega, mr_187l hS (h0 p S ec lfr.rf)⟩
theorem gx_one_le {B : Nat → Nat} {n : Nat} (hB : ∀ i, n ≤ i → B i = 256) {L : gx_L} {f p : Nat} {ws : List Nat} (hp : p ≤ n) (hl : ∀ c, c ∈ ws → c < 256) : (gx_one B L f ws p).1 ≤ n := by
  unfold gx_one
  refine gx_bd_le (gx_w_le hB ws p hp hl).1 (fun _ q hq => gx_bd_le ?_ (fun _ _ h => h))
  rcases gx_two (gx_num B 0 4 q) with ⟨x, ex⟩ | ⟨x, v, ex⟩
  · have := gx_num_no ex; rw [ex]; show x ≤ n; omega
  · rw [ex]; exact (gx_num_ok hB (by omega) ex).2.1
theorem gx_num_le' {B : Nat → Nat} {n : Nat} (hB : ∀ i, n ≤ i → B i = 256) {least most p : Nat} (hm : 1 ≤ most) (hp : p ≤ n) : (gx_num B least most p).1 ≤ n := by
  rcases gx_two (gx_num B least most p) with ⟨x, ex⟩ | ⟨x, v, ex⟩
  · have := gx_num_no ex; rw [ex]; show x ≤ n; omega
  · rw [ex]; exact (gx_num_ok hB hm ex).2.1
theorem gx_clause_le {B : Nat → Nat} {n : Nat} (hB : ∀ i, n ≤ i → B i = 256) {L : gx_L} {p x : Nat} {o : Option gx_L} (hp : p ≤ n) (e : gx_clause B L p = (x, o)) : x ≤ n := by
  have : (gx_clause B L p).1 ≤ n := by
    unfold gx_clause
    split
    · unfold gx_owe
      refine gx_bd_le (gx_w_le hB _ p hp (by decide)).1 (fun _ q hq => gx_bd_le (gx_num_le' hB (by omega) hq) (fun _ q hq => gx_bd_le (gx_w_le hB _ q hq (by decide)).1 (fun _ q hq => gx_bd_le (gx_num_le' hB (by omega) hq) (fun m q hq => ?_))))
      split
      · have hq1 : q < n := gx_lt hB (by assumption) (by omega)
        refine gx_bd_le ?_ (fun _ r hr => gx_bd_le (gx_ok_le (gx_e_ok hB hr)) (fun _ _ h => h))
        split
        · exact (gx_w_le hB _ _ (by omega) (by decide)).1
        · exact (gx_w_le hB _ _ (by omega) (by decide)).1
      · exact hq
    · split
      · have hq1 : p < n := gx_lt hB (by assumption) (by omega)
        split
        · exact gx_one_le hB (by omega) (by decide)
        · unfold gx_reach
          exact gx_bd_le (gx_w_le hB _ _ (by omega) (by decide)).1 (fun _ r hr => gx_bd_le (gx_ok_le (gx_e_ok hB hr)) (fun _ _ h => h))
      · split
        · unfold gx_scale
          exact gx_bd_le (gx_w_le hB _ p hp (by decide)).1 (fun _ q hq => gx_bd_le (gx_num_le' hB (by omega) hq) (fun _ q hq => gx_bd_le (gx_w_le hB _ q hq (by decide)).1 (fun _ q hq => gx_bd_le (gx_num_le' hB (by omega) hq) (fun _ _ h => h))))
        · split
          · exact gx_one_le hB hp (by decide)
          · split
            · exact gx_one_le hB hp (by decide)
            · split
              · exact gx_one_le hB hp (by decide)
              · split
                · exact gx_one_le hB hp (by decide)
                · exact hp
  rw [e] at this; exact this
theorem mr_178 {G : pm_G} {d : Nat} {S : pm_S} {t : Nat → Bool} {q : pm_S → Prop} (hS : Sh S) (h : ∀ T, lfr S T → mlr T t gx_0 → (∀ j, j < 52 → pm_i T 59 j = pm_i S 59 j) → q T) : pm_CV G d 178 [.ref 59] S q := by
  refine pm_goV 178 40 pb_c178 (by decide) (Nat.le_of_ble_eq_true rfl) rfl ?_
  try simp only [show pm_mL 178 = 1 from rfl, pm_WI0, pm_WI1, pm_WI2, pm_WI3, pm_WI4, pm_WI5, pm_WV, pm_WW, pm_WX, pb_B178, pm_if, pm_QI_at, pm_QL_at, pm_QV_at, pm_QR_at, pm_QR_at0, pm_QR_at1, Nat.reduceSub, Nat.reduceAdd, List.replicate_zero, List.replicate_succ, true_and, and_true, true_or, or_true, and_self, reduceIte, Nat.reduceEqDiff, Nat.reduceLT, Nat.reduceLeDiff, Nat.reduceMul, false_and, and_false, reduceCtorEq, false_or, or_false, not_true_eq_false, not_false_eq_true, true_implies, false_implies, implies_true, lf_10, eq_self, Int32.reduceLT, Int32.reduceLE, Int32.reduceAdd, Int32.reduceSub, pm_same, pm_i_wI, pm_l_wL, pm_l_wM, pm_oR_rf, pm_oQ_rf, sh_k59 hS]
  refine h _ (((((((((lfr.rf.w (by omega) (by omega)).w (by omega) (by omega)).w (by omega) (by omega)).w (by omega) (by omega)).w (by omega) (by omega)).w (by omega) (by omega)).w (by omega) (by omega)).w (by omega) (by omega)).w (by omega) (by omega)) ⟨?_, fun k hk => absurd hk (Nat.not_lt_zero k), ?_, fun f f1 f2 => ?_⟩ (fun j hj => ?_)
  · simp [pm_i_wI]; rfl
  · simp [pm_i_wI]; rfl
  · have : f = 10 ∨ f = 11 ∨ f = 12 ∨ f = 13 ∨ f = 14 ∨ f = 15 ∨ f = 16 := by omega
    rcases this with rfl | rfl | rfl | rfl | rfl | rfl | rfl <;> simp [pm_i_wI] <;> rfl
  · try simp only [pm_i_wI]
    repeat rw [if_neg (by omega)]
theorem mr_179e {G : pm_G} {f : Nat → Int32} {n : Nat} {t : Nat → Bool} {T : pm_S} {r : gx_R Unit} {a b c : Value} {q : pm_S → Prop} {d : Nat} (hd : 3 ≤ d) (hcx : cx T f n t) (hr : r.1 ≤ n) (h : q (ms T 0 (match r.2 with
  | some _ => if n ≤ r.1 then r else (r.1, none)
  | none => r))) : pm_W G d 179 (pm_QV q) 34 [.ref 59, a, b, c, .int 0, .float 0] [] (ms T 0 r) 0 0 := by
  obtain ⟨hS, hm, h18, h24, h24b, ht⟩ := id hcx
  have hn := hm.2.1
  obtain ⟨x, _ | u⟩ := r
  · simp only at h hr
    have hms : ms T 0 (x, none) = mst T (nI x) (nI x) (nI 0) := rfl
    have hx0 : 0 ≤ nI x := nI_pos' (by omega)
    rw [hms] at h ⊢
    refine pm_wb_ok pb_c179 4 34 0 _ _ _ _ _ ?_
    try simp only [pm_WI0, pm_WI1, pm_WI2, pm_WI3, pm_WI4, pm_WI5, pm_WV, pm_WW, pm_WX, pb_B179, pm_if, pm_QI_at, pm_QL_at, pm_QV_at, pm_QR_at, pm_QR_at0, pm_QR_at1, Nat.reduceSub, Nat.reduceAdd, List.replicate_zero, List.replicate_succ, true_and, and_true, true_or, or_true, and_self, reduceIte, Nat.reduceEqDiff, Nat.reduceLT, Nat.reduceLeDiff, Nat.reduceMul, false_and, and_false, reduceCtorEq, false_or, or_false, not_true_eq_false, not_false_eq_true, true_implies, false_implies, implies_true, lf_10, eq_self, Int32.reduceLT, Int32.reduceLE, Int32.reduceAdd, Int32.reduceSub, pm_same, pm_i_wI, pm_l_wL, pm_l_wM, pm_oR_rf, pm_oQ_rf, sh_k59 hS, sh_r59_25 hS, sh_k80 hS, sh_z80 hS, sh_r59_27 hS, sh_k81 hS, sh_z81 hS, mst_w46, mst_w48, mst_w49, mst_46, mst_48, mst_49, mst_k, mst_z, mst_r, mst_n, mst_l, mst_R62, mst_R64, mst_R65, mst_R66, mst_R67, mst_R78, mst_R80, mst_R81, mst_F18, mst_F24, mst_F45, mst_F47, mst_F50, mst_F51, nI_1, LQ1, LQ2, LQ4, LQ1, LQ2, ms_k, ms_z, ms_r, ms_49, ms_w49, ms_R62, ms_R64, ms_R65, ms_R66, ms_R67, ms_R75, ms_R76, ms_R77, ms_R78, ms_R79, ms_R80, ms_R81, ms_R95, ms_R96, ms_R97, ms_F0, ms_F2, ms_F18, ms_F24, ms_F31, ms_F26, ms_F45, ms_F47, ms_F50, ms_F51, ms_F52, ms_F53, ms_F54, ms_F55, ms_F56, ms_F57, ms_F58, ms_F59, ms_F60, ms_F61, ms_F62, ms_F63, sh_r59_60 hS, sh_k95 hS, sh_z95 hS, sh_r59_61 hS, sh_k96 hS, sh_z96 hS, sh_r59_62 hS, sh_k97 hS, sh_z97 hS, hx0]
    exact h
  · simp only at h hr
    have hms : ms T 0 (x, some u) = mst T (nI x) (-1) (nI 0) := rfl
    have hms2 : ms T 0 (x, none) = mst T (nI x) (nI x) (nI 0) := rfl
    rw [hms]
    refine pm_wb_ok pb_c179 4 34 0 _ _ _ _ _ ?_
    try simp only [pm_WI0, pm_WI1, pm_WI2, pm_WI3, pm_WI4, pm_WI5, pm_WV, pm_WW, pm_WX, pb_B179, pm_if, pm_QI_at, pm_QL_at, pm_QV_at, pm_QR_at, pm_QR_at0, pm_QR_at1, Nat.reduceSub, Nat.reduceAdd, List.replicate_zero, List.replicate_succ, true_and, and_true, true_or, or_true, and_self, reduceIte, Nat.reduceEqDiff, Nat.reduceLT, Nat.reduceLeDiff, Nat.reduceMul, false_and, and_false, reduceCtorEq, false_or, or_false, not_true_eq_false, not_false_eq_true, true_implies, false_implies, implies_true, lf_10, eq_self, Int32.reduceLT, Int32.reduceLE, Int32.reduceAdd, Int32.reduceSub, pm_same, pm_i_wI, pm_l_wL, pm_l_wM, pm_oR_rf, pm_oQ_rf, sh_k59 hS, sh_r59_25 hS, sh_k80 hS, sh_z80 hS, sh_r59_27 hS, sh_k81 hS, sh_z81 hS, mst_w46, mst_w48, mst_w49, mst_46, mst_48, mst_49, mst_k, mst_z, mst_r, mst_n, mst_l, mst_R62, mst_R64, mst_R65, mst_R66, mst_R67, mst_R78, mst_R80, mst_R81, mst_F18, mst_F24, mst_F45, mst_F47, mst_F50, mst_F51, nI_1, LQ1, LQ2, LQ4, LQ1, LQ2, ms_k, ms_z, ms_r, ms_49, ms_w49, ms_R62, ms_R64, ms_R65, ms_R66, ms_R67, ms_R75, ms_R76, ms_R77, ms_R78, ms_R79, ms_R80, ms_R81, ms_R95, ms_R96, ms_R97, ms_F0, ms_F2, ms_F18, ms_F24, ms_F31, ms_F26, ms_F45, ms_F47, ms_F50, ms_F51, ms_F52, ms_F53, ms_F54, ms_F55, ms_F56, ms_F57, ms_F58, ms_F59, ms_F60, ms_F61, ms_F62, ms_F63, sh_r59_60 hS, sh_k95 hS, sh_z95 hS, sh_r59_61 hS, sh_k96 hS, sh_z96 hS, sh_r59_62 hS, sh_k97 hS, sh_z97 hS, hm.1]
    refine ⟨fun z => ?_, fun z => ⟨by omega, mr_187l hS ?_⟩⟩
    · have hnx : n ≤ x := (nI_leI (by omega) (by omega)).mp z
      rw [if_pos hnx, hms] at h; exact h
    · have hnx : ¬ n ≤ x := fun y => z (nI_le y (by omega))
      rw [if_neg hnx, hms2] at h; exact h
/-- the loop over the clauses -/
theorem mr_179k {G : pm_G} {f : Nat → Int32} {n : Nat} {t : Nat → Bool} {a b : Int32} {q : pm_S → Prop} {d : Nat} (hd : 30 ≤ d) : ∀ (g : Nat) (S : pm_S) (L : gx_L) (p : Nat), cx S f n t → gx_wf t L (10 - (g + 1)) p → mlr S t L → g + 1 ≤ 10 → p ≤ n →
    (∀ x L' T, gx_law (gx_b f n) n (g + 1) L p = (x, some L') → lfr S T → mlr T t L' → q (ms T 0 (x, some ()))) → (∀ x T, gx_law (gx_b f n) n (g + 1) L p = (x, none) → lfr S T → q (ms T 0 (x, none))) →
    pm_W G d 179 (pm_QV q) 34 [.ref 59, .int a, .int b, .int (nI (10 - (g + 1))), .int 1, .float 0] [] (ms S 0 (p, some ())) 0 0 := by
  intro g
  induction g with
  | zero =>
    intro S L p hcx hw hmlr hg hp h1 h0
    obtain ⟨hS, hm, h18, h24, h24b, ht⟩ := id hcx
    have hn := hm.2.1
    have e10 : (10 : Int32) ≤ nI 10 := by decide
    refine pm_wb_ok pb_c179 3 34 0 _ _ _ _ _ ?_
    try simp only [pm_WI0, pm_WI1, pm_WI2, pm_WI3, pm_WI4, pm_WI5, pm_WV, pm_WW, pm_WX, pb_B179, pm_if, pm_QI_at, pm_QL_at, pm_QV_at, pm_QR_at, pm_QR_at0, pm_QR_at1, Nat.reduceSub, Nat.reduceAdd, List.replicate_zero, List.replicate_succ, true_and, and_true, true_or, or_true, and_self, reduceIte, Nat.reduceEqDiff, Nat.reduceLT, Nat.reduceLeDiff, Nat.reduceMul, false_and, and_false, reduceCtorEq, false_or, or_false, not_true_eq_false, not_false_eq_true, true_implies, false_implies, implies_true, lf_10, eq_self, Int32.reduceLT, Int32.reduceLE, Int32.reduceAdd, Int32.reduceSub, pm_same, pm_i_wI, pm_l_wL, pm_l_wM, pm_oR_rf, pm_oQ_rf, sh_k59 hS, sh_r59_25 hS, sh_k80 hS, sh_z80 hS, sh_r59_27 hS, sh_k81 hS, sh_z81 hS, mst_w46, mst_w48, mst_w49, mst_46, mst_48, mst_49, mst_k, mst_z, mst_r, mst_n, mst_l, mst_R62, mst_R64, mst_R65, mst_R66, mst_R67, mst_R78, mst_R80, mst_R81, mst_F18, mst_F24, mst_F45, mst_F47, mst_F50, mst_F51, nI_1, LQ1, LQ2, LQ4, LQ1, LQ2, ms_k, ms_z, ms_r, ms_49, ms_w49, ms_R62, ms_R64, ms_R65, ms_R66, ms_R67, ms_R75, ms_R76, ms_R77, ms_R78, ms_R79, ms_R80, ms_R81, ms_R95, ms_R96, ms_R97, ms_F0, ms_F2, ms_F18, ms_F24, ms_F31, ms_F26, ms_F45, ms_F47, ms_F50, ms_F51, ms_F52, ms_F53, ms_F54, ms_F55, ms_F56, ms_F57, ms_F58, ms_F59, ms_F60, ms_F61, ms_F62, ms_F63, sh_r59_60 hS, sh_k95 hS, sh_z95 hS, sh_r59_61 hS, sh_k96 hS, sh_z96 hS, sh_r59_62 hS, sh_k97 hS, sh_z97 hS, e10]
    refine ⟨by omega, mr_180 (by omega) hcx hw hmlr (by omega) (Nat.le_refl p) hp (fun x L' T e hf hl => ?_) (fun x T e hf => ?_)⟩
    · have hx := wf_clause gx_b_eof hw hp e
      refine pv_W (mr_179e (a := .int a) (b := .int b) (c := .int (nI 10)) (by omega) (hcx.fr hf) (by exact hx.2.2) ?_) (by simp [pv_le, pm_unk])
      have el : gx_law (gx_b f n) n 1 L p = if n ≤ x then (x, some L') else (x, none) := by
        rw [gx_law, gx_bd_some e]; split <;> rfl
      show q (ms T 0 (if n ≤ x then (x, some ()) else (x, none)))
      split
      · rename_i hnx; rw [if_pos hnx] at el; exact h1 x L' T el hf hl
      · rename_i hnx; rw [if_neg hnx] at el; exact h0 x T el hf
    · have hx := gx_clause_le gx_b_eof hp e
      refine pv_W (mr_179e (a := .int a) (b := .int b) (c := .int (nI 10)) (by omega) (hcx.fr hf) (by exact hx) ?_) (by simp [pv_le, pm_unk])
      exact h0 x T (by rw [gx_law, gx_bd_none e]) hf
  | succ g ih =>
    intro S L p hcx hw hmlr hg hp h1 h0
    obtain ⟨hS, hm, h18, h24, h24b, ht⟩ := id hcx
    have hn := hm.2.1
    have e1 : 10 - (g + 1 + 1) + 1 = 10 - (g + 1) := by omega
    have e10 : ¬ (10 : Int32) ≤ nI (10 - (g + 1)) := nI_ge (a := 10 - (g + 1)) (b := 10) (by omega) (by omega)
    refine pm_wb_ok pb_c179 3 34 0 _ _ _ _ _ ?_
    try simp only [pm_WI0, pm_WI1, pm_WI2, pm_WI3, pm_WI4, pm_WI5, pm_WV, pm_WW, pm_WX, pb_B179, pm_if, pm_QI_at, pm_QL_at, pm_QV_at, pm_QR_at, pm_QR_at0, pm_QR_at1, Nat.reduceSub, Nat.reduceAdd, List.replicate_zero, List.replicate_succ, true_and, and_true, true_or, or_true, and_self, reduceIte, Nat.reduceEqDiff, Nat.reduceLT, Nat.reduceLeDiff, Nat.reduceMul, false_and, and_false, reduceCtorEq, false_or, or_false, not_true_eq_false, not_false_eq_true, true_implies, false_implies, implies_true, lf_10, eq_self, Int32.reduceLT, Int32.reduceLE, Int32.reduceAdd, Int32.reduceSub, pm_same, pm_i_wI, pm_l_wL, pm_l_wM, pm_oR_rf, pm_oQ_rf, sh_k59 hS, sh_r59_25 hS, sh_k80 hS, sh_z80 hS, sh_r59_27 hS, sh_k81 hS, sh_z81 hS, mst_w46, mst_w48, mst_w49, mst_46, mst_48, mst_49, mst_k, mst_z, mst_r, mst_n, mst_l, mst_R62, mst_R64, mst_R65, mst_R66, mst_R67, mst_R78, mst_R80, mst_R81, mst_F18, mst_F24, mst_F45, mst_F47, mst_F50, mst_F51, nI_1, LQ1, LQ2, LQ4, LQ1, LQ2, ms_k, ms_z, ms_r, ms_49, ms_w49, ms_R62, ms_R64, ms_R65, ms_R66, ms_R67, ms_R75, ms_R76, ms_R77, ms_R78, ms_R79, ms_R80, ms_R81, ms_R95, ms_R96, ms_R97, ms_F0, ms_F2, ms_F18, ms_F24, ms_F31, ms_F26, ms_F45, ms_F47, ms_F50, ms_F51, ms_F52, ms_F53, ms_F54, ms_F55, ms_F56, ms_F57, ms_F58, ms_F59, ms_F60, ms_F61, ms_F62, ms_F63, sh_r59_60 hS, sh_k95 hS, sh_z95 hS, sh_r59_61 hS, sh_k96 hS, sh_z96 hS, sh_r59_62 hS, sh_k97 hS, sh_z97 hS, e1, e10]
    refine ⟨by omega, mr_180 (by omega) hcx hw hmlr (by omega) (Nat.le_refl p) hp (fun x L' T e hf hl => ?_) (fun x T e hf => ?_)⟩
    · have hx := wf_clause gx_b_eof hw hp e
      have hcT := hcx.fr hf
      have hms : ms T 0 (x, some ()) = mst T (nI x) (-1) (nI 0) := rfl
      have el : gx_law (gx_b f n) n (g + 1 + 1) L p = if n ≤ x then (x, some L') else if gx_b f n x = 59 then gx_law (gx_b f n) n (g + 1) L' (x + 1) else (x, none) := by
        rw [gx_law, gx_bd_some e]
        show (if n ≤ x then _ else if g + 1 = 0 then _ else _) = _
        rw [if_neg (show ¬ g + 1 = 0 by omega)]
      refine ⟨by omega, by rw [ms_k]; exact sh_k59 hcT.1, ?_⟩
      rw [hms]
      refine mr_186l (c := 59) (by omega) hcT.1 hcT.2.1 hx.2.2 (by omega) (fun y => ?_) (fun y => ?_)
      · have hxn : x < n := gx_lt gx_b_eof y (by omega)
        rw [if_neg (by omega), if_pos y] at el
        refine ⟨fun z => absurd z (by decide), fun _ => ?_⟩
        have hw2 : gx_wf t L' (10 - (g + 1)) (x + 1) := wf_mono hx.1 (by omega) (by omega)
        exact pv_W (ih T L' (x + 1) hcT hw2 hl (by omega) (by omega) (fun x2 L2 T2 e2 hf2 hl2 => h1 x2 L2 T2 (by rw [el]; exact e2) (hf.tr hf2) hl2) (fun x2 T2 e2 hf2 => h0 x2 T2 (by rw [el]; exact e2) (hf.tr hf2))) (by simp [pv_le, pm_unk])
      · rw [if_neg (show ¬ gx_b f n x = 59 from y)] at el
        refine ⟨fun _ => ?_, fun z => absurd rfl z⟩
        refine pv_W (mr_179e (a := .int a) (b := .int b) (c := .int (nI (10 - (g + 1)))) (r := (x, some ())) (by omega) hcT (by exact hx.2.2) ?_) (by simp [pv_le, pm_unk])
        show q (ms T 0 (if n ≤ x then (x, some ()) else (x, none)))
        split
        · rename_i hnx; rw [if_pos hnx] at el; exact h1 x L' T el hf hl
        · rename_i hnx; rw [if_neg hnx] at el; exact h0 x T el hf
    · have hx := gx_clause_le gx_b_eof hp e
      have hcT := hcx.fr hf
      have hms : ms T 0 (x, none) = mst T (nI x) (nI x) (nI 0) := rfl
      refine ⟨by omega, by rw [ms_k]; exact sh_k59 hcT.1, ?_⟩
      rw [hms]
      refine mr_186f (c := 59) hcT.1 (p := 0) (by omega) ⟨fun _ => ?_, fun z => absurd rfl z⟩
      refine pv_W (mr_179e (a := .int a) (b := .int b) (c := .int (nI (10 - (g + 1)))) (r := (x, none)) (by omega) hcT (by exact hx) ?_) (by simp [pv_le, pm_unk])
      exact h0 x T (by rw [gx_law, gx_bd_none e]) hf
theorem mr_179 {G : pm_G} {d : Nat} {S : pm_S} {f : Nat → Int32} {n : Nat} {t : Nat → Bool} {bs : Int32} {q : pm_S → Prop} (hd : 31 ≤ d) (hS : Sh S) (hn : n ≤ 160) (hf : ∀ k, k < n → iv_in (f k) 0 255) (hb : (bs = -1 ∧ f = pm_i S 80) ∨ ∃ l, l < 12 ∧ bs = nI (160 * l) ∧ f = iv_txt S l) (h18 : iv_c S 18 ≤ 40) (h24 : pm_i S 59 24 = nI (iv_c S 24)) (h24b : iv_c S 24 ≤ 150) (ht : tq S t)
    (h1 : ∀ x L T, gx_read f n = (x, some L) → sc S T → mlr T t L → pm_i T 59 48 = -1 → q T) (h0 : ∀ x T, gx_read f n = (x, none) → sc S T → pm_i T 59 48 = nI x → q T) : pm_CV G d 179 [.ref 59, .int bs, .int (nI n)] S q := by
  refine pm_goV 179 1 pb_c179 (by decide) (Nat.le_of_ble_eq_true rfl) rfl ?_
  try simp only [show pm_mL 179 = 6 from rfl, pm_WI0, pm_WI1, pm_WI2, pm_WI3, pm_WI4, pm_WI5, pm_WV, pm_WW, pm_WX, pb_B179, pm_if, pm_QI_at, pm_QL_at, pm_QV_at, pm_QR_at, pm_QR_at0, pm_QR_at1, Nat.reduceSub, Nat.reduceAdd, List.replicate_zero, List.replicate_succ, true_and, and_true, true_or, or_true, and_self, reduceIte, Nat.reduceEqDiff, Nat.reduceLT, Nat.reduceLeDiff, Nat.reduceMul, false_and, and_false, reduceCtorEq, false_or, or_false, not_true_eq_false, not_false_eq_true, true_implies, false_implies, implies_true, lf_10, eq_self, Int32.reduceLT, Int32.reduceLE, Int32.reduceAdd, Int32.reduceSub, pm_same, pm_i_wI, pm_l_wL, pm_l_wM, pm_oR_rf, pm_oQ_rf, sh_k59 hS]
  generalize hU : pm_wI (pm_wI (pm_wI (pm_wI (pm_wI S 59 45 bs) 59 46 0) 59 47 (nI n)) 59 48 (-1)) 59 49 0 = U
  have hsU : sc S U := by
    rw [← hU]
    exact ((((sc.rf.wI (by unfold sc_q; omega)).wI (by unfold sc_q; omega)).wI (by unfold sc_q; omega)).wI (by unfold sc_q; omega)).wI (by unfold sc_q; omega)
  have hSU := hsU.sh hS
  have u46 : pm_i U 59 46 = 0 := by rw [← hU]; simp [pm_i_wI]
  have u48 : pm_i U 59 48 = -1 := by rw [← hU]; simp [pm_i_wI]
  have u49 : pm_i U 59 49 = 0 := by rw [← hU]; simp [pm_i_wI]
  have u45 : pm_i U 59 45 = bs := by rw [← hU]; simp [pm_i_wI]
  have u47 : pm_i U 59 47 = nI n := by rw [← hU]; simp [pm_i_wI]
  have u50 : pm_i U 59 50 = pm_i S 59 50 := by rw [← hU]; simp [pm_i_wI]
  have u51 : pm_i U 59 51 = pm_i S 59 51 := by rw [← hU]; simp [pm_i_wI]
  refine ⟨by omega, mr_178 (t := t) hSU (fun T hf' hl hj => ?_)⟩
  have hcx : cx T f n t := by
    refine cx.fr (S := U) ⟨hSU, ⟨u47, hn, hf, ?_⟩, by rw [hsU.c (by omega)]; exact h18, by rw [hsU.m24, hsU.c (by omega)]; exact h24, by rw [hsU.c (by omega)]; exact h24b, ?_⟩ hf'
    · rw [u45]
      rcases hb with ⟨a, b⟩ | ⟨l, a, b, c⟩
      · exact Or.inl ⟨a, by rw [hsU.r80]; exact b⟩
      · exact Or.inr ⟨l, a, b, by rw [c]; unfold iv_txt; rw [hsU.r81]⟩
    · rcases ht with ⟨a, b⟩ | ⟨m, a, b, c⟩
      · exact Or.inl ⟨by rw [u50]; exact a, b⟩
      · exact Or.inr ⟨m, by rw [hsU.c (by omega)]; exact a, by rw [u50]; exact b, by rw [u51, tv_me hsU.me]; exact c⟩
  have eT : T = ms T 0 (0, some ()) := by
    unfold ms mst
    rw [pm_wI_self (S := T) (p := 59) (j := 46) (by rw [hj 46 (by omega), u46]; rfl), pm_wI_self (S := T) (p := 59) (j := 48) (by rw [hj 48 (by omega), u48]), pm_wI_self (S := T) (p := 59) (j := 49) (by rw [hj 49 (by omega), u49]; rfl)]
  have hST : sc S T := hsU.tr hf'.1
  have key := mr_179k (G := G) (d := d) (f := f) (n := n) (t := t) (a := bs) (b := nI n) (q := q) (by omega) 9 T gx_0 0 hcx wf_0 hl (by omega) (Nat.zero_le _) (fun x L' T' e hf2 hl2 => ?_) (fun x T' e hf2 => ?_)
  · rw [← eT] at key
    first | exact key | (rw [eT]; exact key) | skip
  · refine h1 x L' _ e (hST.tr (hf2.1.tr ms_sc)) (hl2.cg (fun j j1 j2 => ms_f (by omega)) (fun p p1 p2 => ms_row (by omega))) ?_
    exact mst_48
  · refine h0 x _ e (hST.tr (hf2.1.tr ms_sc)) ?_
    exact mst_48
theorem ac_s_yes {c : Nat → Bool} {bt : Nat → Nat → Bool} {acc : Option Nat} {a : Nat} (hc : c a = true) (ho : ac_ok bt acc a = true) : some a = ac_s c bt acc a := by unfold ac_s; rw [hc, ho]; rfl
theorem ac_s_keep {c : Nat → Bool} {bt : Nat → Nat → Bool} {acc : Option Nat} {a : Nat} (hc : c a = true) (ho : ac_ok bt acc a = false) : acc = ac_s c bt acc a := by unfold ac_s; rw [hc, ho]; rfl
theorem ml_176 {G : pm_G} {d : Nat} {S : pm_S} {b k : Int32} {q : Int32 → pm_S → Prop} (hS : Sh S) (hn : pm_i S 59 31 = nI (iv_c S 31)) (hn2 : iv_c S 31 ≤ 12) (h : q (oI (lwo S b k)) S) : pm_CI G d 176 [.ref 59, .int b, .int k] S q := by
  unfold lwo at h
  generalize hN : iv_c S 31 = n at *
  refine pm_goI 176 40 pb_c176 (by decide) (Nat.le_of_ble_eq_true rfl) rfl ?_
  try simp only [show pm_mL 176 = 5 from rfl, pm_WI0, pm_WI1, pm_WI2, pm_WI3, pm_WI4, pm_WI5, pm_WV, pm_WW, pm_WX, pb_B176, pm_if, pm_QI_at, pm_QL_at, pm_QV_at, pm_QR_at, pm_QR_at0, pm_QR_at1, Nat.reduceSub, Nat.reduceAdd, List.replicate_zero, List.replicate_succ, true_and, and_true, true_or, or_true, and_self, reduceIte, Nat.reduceEqDiff, Nat.reduceLT, Nat.reduceLeDiff, Nat.reduceMul, false_and, and_false, reduceCtorEq, false_or, or_false, not_true_eq_false, not_false_eq_true, true_implies, false_implies, implies_true, lf_10, eq_self, Int32.reduceLT, Int32.reduceLE, Int32.reduceAdd, Int32.reduceSub, pm_same, pm_i_wI, pm_l_wL, pm_l_wM, pm_oR_rf, pm_oQ_rf, sh_k59 hS, sh_r59_29 hS, sh_k83 hS, sh_z83 hS, sh_r59_30 hS, sh_k84 hS, sh_z84 hS]
  refine pv_loopR (fun i => [.ref 59, .int b, .int k, .int (oI (ac_f (fun l => decide (pm_i S 83 l = b ∧ ¬ k < pm_i S 84 l)) (ac_bt (pm_i S 84) true) (List.range i) none)), .int (nI i)]) n (fun i hi hk => ?_) ?_
  · have hc := nI_clamp (n := i) (by omega)
    have hle : ¬ nI n ≤ nI i := nI_ge hi (by omega)
    have hvi := vp_in_nI (n := i) (N := 12) (by omega) (by decide)
    have hb : ∀ b', ac_f (fun l => decide (pm_i S 83 l = b ∧ ¬ k < pm_i S 84 l)) (ac_bt (pm_i S 84) true) (List.range i) none = some b' → b' < i := fun b' e => ac_f_lt e
    try simp only [ac_f_succ] at hk
    revert hk hb
    generalize ac_f (fun l => decide (pm_i S 83 l = b ∧ ¬ k < pm_i S 84 l)) (ac_bt (pm_i S 84) true) (List.range i) none = acc
    intro hb hk
    have go : ∀ acc', acc' = ac_s (fun l => decide (pm_i S 83 l = b ∧ ¬ k < pm_i S 84 l)) (ac_bt (pm_i S 84) true) acc i → pm_W G d 176 (pm_QI q) 5 [.ref 59, .int b, .int k, .int (oI acc'), .int (nI (i + 1))] [] S 0 0 := fun acc' e => by rw [e]; exact hk
    have no : (fun l => decide (pm_i S 83 l = b ∧ ¬ k < pm_i S 84 l)) i = false → pm_W G d 176 (pm_QI q) 5 [.ref 59, .int b, .int k, .int (oI acc), .int (nI (i + 1))] [] S 0 0 := fun hf => go acc (ac_s_none hf).symm
    refine pm_wb_ok pb_c176 60 5 0 _ _ _ _ _ ?_
    try simp only [pm_WI0, pm_WI1, pm_WI2, pm_WI3, pm_WI4, pm_WI5, pm_WV, pm_WW, pm_WX, pb_B176, pm_if, pm_QI_at, pm_QL_at, pm_QV_at, pm_QR_at, pm_QR_at0, pm_QR_at1, Nat.reduceSub, Nat.reduceAdd, List.replicate_zero, List.replicate_succ, true_and, and_true, true_or, or_true, and_self, reduceIte, Nat.reduceEqDiff, Nat.reduceLT, Nat.reduceLeDiff, Nat.reduceMul, false_and, and_false, reduceCtorEq, false_or, or_false, not_true_eq_false, not_false_eq_true, true_implies, false_implies, implies_true, lf_10, eq_self, Int32.reduceLT, Int32.reduceLE, Int32.reduceAdd, Int32.reduceSub, pm_same, pm_i_wI, pm_l_wL, pm_l_wM, pm_oR_rf, pm_oQ_rf, sh_k59 hS, sh_r59_29 hS, sh_k83 hS, sh_z83 hS, sh_r59_30 hS, sh_k84 hS, sh_z84 hS, hn, hc, hle, nI_1]
    refine ⟨hvi, fun c1 => ⟨hvi, fun c2 => ?_, fun c2 => ?_⟩, fun c1 => ?_⟩
    · exact no (by simp [c2])
    · have hyes : decide (pm_i S 83 i = b ∧ ¬ k < pm_i S 84 i) = true := by simp [c1, c2]
      cases acc with
      | none =>
        refine ⟨fun _ => ?_, fun z => absurd (show oI none < 0 by decide) z⟩
        exact go (some i) (ac_s_yes hyes rfl)
      | some b' =>
        have hbi := hb b' rfl
        have hcb : (oI (some b')).toNatClampNeg = b' := nI_clamp (by omega)
        refine ⟨fun z => absurd z (nI_pos (by omega)), fun _ => ⟨hvi, vp_in_nI (by omega) (by decide), ?_⟩⟩
        rw [hcb]
        refine ⟨fun z => ?_, fun z => ?_⟩
        · exact go (some b') (ac_s_keep hyes (by simp [ac_ok, ac_bt, z]))
        · exact go (some i) (ac_s_yes hyes (by simp [ac_ok, ac_bt, z]))
    · exact no (by simp [c1])
  · refine pm_wb_ok pb_c176 60 5 0 _ _ _ _ _ ?_
    try simp only [pm_WI0, pm_WI1, pm_WI2, pm_WI3, pm_WI4, pm_WI5, pm_WV, pm_WW, pm_WX, pb_B176, pm_if, pm_QI_at, pm_QL_at, pm_QV_at, pm_QR_at, pm_QR_at0, pm_QR_at1, Nat.reduceSub, Nat.reduceAdd, List.replicate_zero, List.replicate_succ, true_and, and_true, true_or, or_true, and_self, reduceIte, Nat.reduceEqDiff, Nat.reduceLT, Nat.reduceLeDiff, Nat.reduceMul, false_and, and_false, reduceCtorEq, false_or, or_false, not_true_eq_false, not_false_eq_true, true_implies, false_implies, implies_true, lf_10, eq_self, Int32.reduceLT, Int32.reduceLE, Int32.reduceAdd, Int32.reduceSub, pm_same, pm_i_wI, pm_l_wL, pm_l_wM, pm_oR_rf, pm_oQ_rf, sh_k59 hS, sh_r59_29 hS, sh_k83 hS, sh_z83 hS, sh_r59_30 hS, sh_k84 hS, sh_z84 hS, hn, Int32.le_refl]
    exact h
theorem MI.c31 {S : pm_S} (h : iv_MI S) : iv_c S 31 ≤ 12 ∧ pm_i S 59 31 = nI (iv_c S 31) := ⟨iv_le (n := 12) 12 h.2.2.2.2.1.1.2 (by decide), iv_nn h.2.2.2.2.1.1.1⟩
theorem MI.c24 {S : pm_S} (h : iv_MI S) : iv_c S 24 ≤ 150 ∧ pm_i S 59 24 = nI (iv_c S 24) := ⟨iv_le (n := 150) 150 h.2.2.2.1.1.2 (by decide), iv_nn h.2.2.2.1.1.1⟩
theorem MI.c18 {S : pm_S} (h : iv_MI S) : iv_c S 18 ≤ 40 ∧ pm_i S 59 18 = nI (iv_c S 18) := ⟨iv_le (n := 40) 40 h.2.2.1.1.2 (by decide), iv_nn h.2.2.1.1.1⟩
theorem MI.c2 {S : pm_S} (h : iv_MI S) : iv_c S 2 ≤ 20 ∧ pm_i S 59 2 = nI (iv_c S 2) := ⟨iv_le (n := 20) 20 h.2.1.2.1.2 (by decide), iv_nn h.2.1.2.1.1⟩
theorem lawL_read {S : pm_S} (h : iv_MI S) {i : Nat} (hi : i < iv_c S 31) : ∃ p, gx_read (iv_txt S i) (pm_i S 82 i).toNatClampNeg = (p, some (lawL S (some i))) := by
  obtain ⟨_, _, d3, _, p, L, e⟩ := h.2.2.2.2.1.2 i hi
  exact ⟨p, by rw [e]; unfold lawL; simp only [e]; rfl⟩
theorem ml_177 {G : pm_G} {d : Nat} {S : pm_S} {l : Option Nat} {m k : Int32} {t : Nat → Bool} {q : pm_S → Prop} (hd : 32 ≤ d) (hM : iv_MI S) (hl : ∀ i, l = some i → i < iv_c S 31) (ht : (m = -1 ∧ t = fun _ => false) ∨ ∃ a, a < iv_c S 18 ∧ m = nI a ∧ t = tv S a k) (h : ∀ T, sc S T → mlr T t (lawL S l) → q T) : pm_CV G d 177 [.ref 59, .int (oI l), .int m, .int k] S q := by
  have hS := hM.1
  generalize hU : pm_wI (pm_wI S 59 50 m) 59 51 k = U
  have hsU : sc S U := by
    rw [← hU]; exact (sc.rf.wI (by unfold sc_q; omega)).wI (by unfold sc_q; omega)
  have hSU := hsU.sh hS
  have u50 : pm_i U 59 50 = m := by rw [← hU]; simp [pm_i_wI]
  have u51 : pm_i U 59 51 = k := by rw [← hU]; simp [pm_i_wI]
  have htU : tq U t := by
    rcases ht with ⟨a, b⟩ | ⟨a, b, c, e⟩
    · exact Or.inl ⟨by rw [u50]; exact a, b⟩
    · exact Or.inr ⟨a, by rw [hsU.c (by omega)]; exact b, by rw [u50]; exact c, by rw [u51, tv_me hsU.me]; exact e⟩
  cases l with
  | none =>
    have hlt : ¬ 0 ≤ oI none := by decide
    refine pm_goV 177 3 pb_c177 (by decide) (Nat.le_of_ble_eq_true rfl) rfl ?_
    try simp only [show pm_mL 177 = 4 from rfl, pm_WI0, pm_WI1, pm_WI2, pm_WI3, pm_WI4, pm_WI5, pm_WV, pm_WW, pm_WX, pb_B177, pm_if, pm_QI_at, pm_QL_at, pm_QV_at, pm_QR_at, pm_QR_at0, pm_QR_at1, Nat.reduceSub, Nat.reduceAdd, List.replicate_zero, List.replicate_succ, true_and, and_true, true_or, or_true, and_self, reduceIte, Nat.reduceEqDiff, Nat.reduceLT, Nat.reduceLeDiff, Nat.reduceMul, false_and, and_false, reduceCtorEq, false_or, or_false, not_true_eq_false, not_false_eq_true, true_implies, false_implies, implies_true, lf_10, eq_self, Int32.reduceLT, Int32.reduceLE, Int32.reduceAdd, Int32.reduceSub, pm_same, pm_i_wI, pm_l_wL, pm_l_wM, pm_oR_rf, pm_oQ_rf, sh_k59 hS, sh_r59_28 hS, sh_k82 hS, sh_z82 hS, hlt, hU]
    refine ⟨by omega, mr_178 (t := t) hSU (fun T hf' hl hj => h T (hsU.tr hf'.1) hl)⟩
  | some i =>
    have hi := hl i rfl
    have hi12 := (MI.c31 hM).1
    have hlt : 0 ≤ nI i := nI_pos' (by omega)
    obtain ⟨d1, d2, d3, d4, _⟩ := hM.2.2.2.2.1.2 i hi
    obtain ⟨p, hrd⟩ := lawL_read hM hi
    have h82 := iv_le (n := 160) 160 d3.2 (by decide)
    have hoi : oI (some i) = nI i := rfl
    have hmul : (160 : Int32) * nI i = nI (160 * i) := pk_mul 160 i
    refine pm_goV 177 3 pb_c177 (by decide) (Nat.le_of_ble_eq_true rfl) rfl ?_
    try simp only [show pm_mL 177 = 4 from rfl, pm_WI0, pm_WI1, pm_WI2, pm_WI3, pm_WI4, pm_WI5, pm_WV, pm_WW, pm_WX, pb_B177, pm_if, pm_QI_at, pm_QL_at, pm_QV_at, pm_QR_at, pm_QR_at0, pm_QR_at1, Nat.reduceSub, Nat.reduceAdd, List.replicate_zero, List.replicate_succ, true_and, and_true, true_or, or_true, and_self, reduceIte, Nat.reduceEqDiff, Nat.reduceLT, Nat.reduceLeDiff, Nat.reduceMul, false_and, and_false, reduceCtorEq, false_or, or_false, not_true_eq_false, not_false_eq_true, true_implies, false_implies, implies_true, lf_10, eq_self, Int32.reduceLT, Int32.reduceLE, Int32.reduceAdd, Int32.reduceSub, pm_same, pm_i_wI, pm_l_wL, pm_l_wM, pm_oR_rf, pm_oQ_rf, sh_k59 hS, sh_r59_28 hS, sh_k82 hS, sh_z82 hS, hlt, hU, hoi, hmul]
    rw [nI_clamp (by omega)]
    refine ⟨vp_in_nI (by omega) (by decide), by omega, ?_⟩
    have e82 : pm_i U 82 i = nI (pm_i S 82 i).toNatClampNeg := by rw [hsU.r82]; exact iv_nn d3.1
    try rw [e82]
    try rw [show pm_i S 82 i = nI (pm_i S 82 i).toNatClampNeg from iv_nn d3.1]
    try rw [nI_clamp (n := (pm_i S 82 i).toNatClampNeg) (by omega)]
    have etx : iv_txt U i = iv_txt S i := by unfold iv_txt; rw [hsU.r81]
    refine mr_179 (f := iv_txt S i) (t := t) (by omega) hSU h82 (fun k hk => d4 k (by omega)) (Or.inr ⟨i, by omega, rfl, etx.symm⟩) (by rw [hsU.c (by omega)]; exact (MI.c18 hM).1) (by rw [hsU.m24, hsU.c (by omega)]; exact (MI.c24 hM).2) (by rw [hsU.c (by omega)]; exact (MI.c24 hM).1) htU (fun x L T e hs hl _ => ?_) (fun x T e _ _ => ?_)
    · rw [hrd] at e
      have : lawL S (some i) = L := Option.some.inj (congrArg Prod.snd e)
      exact h T (hsU.tr hs) (by rw [this]; exact hl)
    · rw [hrd] at e; cases e
theorem gx_dummy : True := trivial
theorem LQ3 : (((97 : Int32) = Int32.ofNat 97) = True) ∧ (((97 : Int32) = Int32.ofNat 98) = False) ∧ (((97 : Int32) = Int32.ofNat 99) = False) ∧ (((97 : Int32) = Int32.ofNat 100) = False) ∧ (((97 : Int32) = Int32.ofNat 101) = False) ∧ (((97 : Int32) = Int32.ofNat 102) = False) ∧ (((97 : Int32) = Int32.ofNat 103) = False) ∧ (((97 : Int32) = Int32.ofNat 104) = False) ∧ (((97 : Int32) = Int32.ofNat 105) = False) ∧ (((97 : Int32) = Int32.ofNat 106) = False) ∧ (((97 : Int32) = Int32.ofNat 107) = False) ∧ (((97 : Int32) = Int32.ofNat 108) = False) ∧ (((97 : Int32) = Int32.ofNat 109) = False) ∧ (((97 : Int32) = Int32.ofNat 110) = False) ∧ (((97 : Int32) = Int32.ofNat 111) = False) ∧ (((97 : Int32) = Int32.ofNat 112) = False) ∧ (((97 : Int32) = Int32.ofNat 113) = False) ∧ (((97 : Int32) = Int32.ofNat 114) = False) ∧ (((97 : Int32) = Int32.ofNat 115) = False) ∧ (((99 : Int32) = Int32.ofNat 97) = False) ∧ (((99 : Int32) = Int32.ofNat 98) = False) ∧ (((99 : Int32) = Int32.ofNat 99) = True) ∧ (((99 : Int32) = Int32.ofNat 100) = False) ∧ (((99 : Int32) = Int32.ofNat 101) = False) ∧ (((99 : Int32) = Int32.ofNat 102) = False) ∧ (((99 : Int32) = Int32.ofNat 103) = False) ∧ (((99 : Int32) = Int32.ofNat 104) = False) ∧ (((99 : Int32) = Int32.ofNat 105) = False) ∧ (((99 : Int32) = Int32.ofNat 106) = False) ∧ (((99 : Int32) = Int32.ofNat 107) = False) ∧ (((99 : Int32) = Int32.ofNat 108) = False) ∧ (((99 : Int32) = Int32.ofNat 109) = False) ∧ (((99 : Int32) = Int32.ofNat 110) = False) ∧ (((99 : Int32) = Int32.ofNat 111) = False) ∧ (((99 : Int32) = Int32.ofNat 112) = False) ∧ (((99 : Int32) = Int32.ofNat 113) = False) ∧ (((99 : Int32) = Int32.ofNat 114) = False) ∧ (((99 : Int32) = Int32.ofNat 115) = False) ∧ (((102 : Int32) = Int32.ofNat 97) = False) ∧ (((102 : Int32) = Int32.ofNat 98) = False) ∧ (((102 : Int32) = Int32.ofNat 99) = False) ∧ (((102 : Int32) = Int32.ofNat 100) = False) ∧ (((102 : Int32) = Int32.ofNat 101) = False) ∧ (((102 : Int32) = Int32.ofNat 102) = True) ∧ (((102 : Int32) = Int32.ofNat 103) = False) ∧ (((102 : Int32) = Int32.ofNat 104) = False) ∧ (((102 : Int32) = Int32.ofNat 105) = False) ∧ (((102 : Int32) = Int32.ofNat 106) = False) ∧ (((102 : Int32) = Int32.ofNat 107) = False) ∧ (((102 : Int32) = Int32.ofNat 108) = False) ∧ (((102 : Int32) = Int32.ofNat 109) = False) ∧ (((102 : Int32) = Int32.ofNat 110) = False) ∧ (((102 : Int32) = Int32.ofNat 111) = False) ∧ (((102 : Int32) = Int32.ofNat 112) = False) ∧ (((102 : Int32) = Int32.ofNat 113) = False) ∧ (((102 : Int32) = Int32.ofNat 114) = False) ∧ (((102 : Int32) = Int32.ofNat 115) = False) ∧ (((108 : Int32) = Int32.ofNat 97) = False) ∧ (((108 : Int32) = Int32.ofNat 98) = False) ∧ (((108 : Int32) = Int32.ofNat 99) = False) ∧ (((108 : Int32) = Int32.ofNat 100) = False) ∧ (((108 : Int32) = Int32.ofNat 101) = False) ∧ (((108 : Int32) = Int32.ofNat 102) = False) ∧ (((108 : Int32) = Int32.ofNat 103) = False) ∧ (((108 : Int32) = Int32.ofNat 104) = False) ∧ (((108 : Int32) = Int32.ofNat 105) = False) ∧ (((108 : Int32) = Int32.ofNat 106) = False) ∧ (((108 : Int32) = Int32.ofNat 107) = False) ∧ (((108 : Int32) = Int32.ofNat 108) = True) ∧ (((108 : Int32) = Int32.ofNat 109) = False) ∧ (((108 : Int32) = Int32.ofNat 110) = False) ∧ (((108 : Int32) = Int32.ofNat 111) = False) ∧ (((108 : Int32) = Int32.ofNat 112) = False) ∧ (((108 : Int32) = Int32.ofNat 113) = False) ∧ (((108 : Int32) = Int32.ofNat 114) = False) ∧ (((108 : Int32) = Int32.ofNat 115) = False) ∧ (((111 : Int32) = Int32.ofNat 97) = False) ∧ (((111 : Int32) = Int32.ofNat 98) = False) ∧ (((111 : Int32) = Int32.ofNat 99) = False) ∧ (((111 : Int32) = Int32.ofNat 100) = False) ∧ (((111 : Int32) = Int32.ofNat 101) = False) ∧ (((111 : Int32) = Int32.ofNat 102) = False) ∧ (((111 : Int32) = Int32.ofNat 103) = False) ∧ (((111 : Int32) = Int32.ofNat 104) = False) ∧ (((111 : Int32) = Int32.ofNat 105) = False) ∧ (((111 : Int32) = Int32.ofNat 106) = False) ∧ (((111 : Int32) = Int32.ofNat 107) = False) ∧ (((111 : Int32) = Int32.ofNat 108) = False) ∧ (((111 : Int32) = Int32.ofNat 109) = False) ∧ (((111 : Int32) = Int32.ofNat 110) = False) ∧ (((111 : Int32) = Int32.ofNat 111) = True) ∧ (((111 : Int32) = Int32.ofNat 112) = False) ∧ (((111 : Int32) = Int32.ofNat 113) = False) ∧ (((111 : Int32) = Int32.ofNat 114) = False) ∧ (((111 : Int32) = Int32.ofNat 115) = False) ∧ (((114 : Int32) = Int32.ofNat 97) = False) ∧ (((114 : Int32) = Int32.ofNat 98) = False) ∧ (((114 : Int32) = Int32.ofNat 99) = False) ∧ (((114 : Int32) = Int32.ofNat 100) = False) ∧ (((114 : Int32) = Int32.ofNat 101) = False) ∧ (((114 : Int32) = Int32.ofNat 102) = False) ∧ (((114 : Int32) = Int32.ofNat 103) = False) ∧ (((114 : Int32) = Int32.ofNat 104) = False) ∧ (((114 : Int32) = Int32.ofNat 105) = False) ∧ (((114 : Int32) = Int32.ofNat 106) = False) ∧ (((114 : Int32) = Int32.ofNat 107) = False) ∧ (((114 : Int32) = Int32.ofNat 108) = False) ∧ (((114 : Int32) = Int32.ofNat 109) = False) ∧ (((114 : Int32) = Int32.ofNat 110) = False) ∧ (((114 : Int32) = Int32.ofNat 111) = False) ∧ (((114 : Int32) = Int32.ofNat 112) = False) ∧ (((114 : Int32) = Int32.ofNat 113) = False) ∧ (((114 : Int32) = Int32.ofNat 114) = True) ∧ (((114 : Int32) = Int32.ofNat 115) = False) ∧ (((115 : Int32) = Int32.ofNat 97) = False) ∧ (((115 : Int32) = Int32.ofNat 98) = False) ∧ (((115 : Int32) = Int32.ofNat 99) = False) ∧ (((115 : Int32) = Int32.ofNat 100) = False) ∧ (((115 : Int32) = Int32.ofNat 101) = False) ∧ (((115 : Int32) = Int32.ofNat 102) = False) ∧ (((115 : Int32) = Int32.ofNat 103) = False) ∧ (((115 : Int32) = Int32.ofNat 104) = False) ∧ (((115 : Int32) = Int32.ofNat 105) = False) ∧ (((115 : Int32) = Int32.ofNat 106) = False) ∧ (((115 : Int32) = Int32.ofNat 107) = False) ∧ (((115 : Int32) = Int32.ofNat 108) = False) ∧ (((115 : Int32) = Int32.ofNat 109) = False) ∧ (((115 : Int32) = Int32.ofNat 110) = False) ∧ (((115 : Int32) = Int32.ofNat 111) = False) ∧ (((115 : Int32) = Int32.ofNat 112) = False) ∧ (((115 : Int32) = Int32.ofNat 113) = False) ∧ (((115 : Int32) = Int32.ofNat 114) = False) ∧ (((115 : Int32) = Int32.ofNat 115) = True) := ⟨eq_true (by decide), eq_false (by decide), eq_false (by decide), eq_false (by decide), eq_false (by decide), eq_false (by decide), eq_false (by decide), eq_false (by decide), eq_false (by decide), eq_false (by decide), eq_false (by decide), eq_false (by decide), eq_false (by decide), eq_false (by decide), eq_false (by decide), eq_false (by decide), eq_false (by decide), eq_false (by decide), eq_false (by decide), eq_false (by decide), eq_false (by decide), eq_true (by decide), eq_false (by decide), eq_false (by decide), eq_false (by decide), eq_false (by decide), eq_false (by decide), eq_false (by decide), eq_false (by decide), eq_false (by decide), eq_false (by decide), eq_false (by decide), eq_false (by decide), eq_false (by decide), eq_false (by decide), eq_false (by decide), eq_false (by decide), eq_false (by decide), eq_false (by decide), eq_false (by decide), eq_false (by decide), eq_false (by decide), eq_false (by decide), eq_true (by decide), eq_false (by decide), eq_false (by decide), eq_false (by decide), eq_false (by decide), eq_false (by decide), eq_false (by decide), eq_false (by decide), eq_false (by decide), eq_false (by decide), eq_false (by decide), eq_false (by decide), eq_false (by decide), eq_false (by decide), eq_false (by decide), eq_false (by decide), eq_false (by decide), eq_false (by decide), eq_false (by decide), eq_false (by decide), eq_false (by decide), eq_false (by decide), eq_false (by decide), eq_false (by decide), eq_false (by decide), eq_true (by decide), eq_false (by decide), eq_false (by decide), eq_false (by decide), eq_false (by decide), eq_false (by decide), eq_false (by decide), eq_false (by decide), eq_false (by decide), eq_false (by decide), eq_false (by decide), eq_false (by decide), eq_false (by decide), eq_false (by decide), eq_false (by decide), eq_false (by decide), eq_false (by decide), eq_false (by decide), eq_false (by decide), eq_false (by decide), eq_false (by decide), eq_false (by decide), eq_true (by decide), eq_false (by decide), eq_false (by decide), eq_false (by decide), eq_false (by decide), eq_false (by decide), eq_false (by decide), eq_false (by decide), eq_false (by decide), eq_false (by decide), eq_false (by decide), eq_false (by decide), eq_false (by decide), eq_false (by decide), eq_false (by decide), eq_false (by decide), eq_false (by decide), eq_false (by decide), eq_false (by decide), eq_false (by decide), eq_false (by decide), eq_false (by decide), eq_true (by decide), eq_false (by decide), eq_false (by decide), eq_false (by decide), eq_false (by decide), eq_false (by decide), eq_false (by decide), eq_false (by decide), eq_false (by decide), eq_false (by decide), eq_false (by decide), eq_false (by decide), eq_false (by decide), eq_false (by decide), eq_false (by decide), eq_false (by decide), eq_false (by decide), eq_false (by decide), eq_false (by decide), eq_false (by decide), eq_true (by decide)⟩
/-! THE TEXT's LAW read by the class -/
/-- of a fault: the place alone -/
def rq (S0 : pm_S) (D : Nat) (W : Nat → Nat) (n : Nat) (S : pm_S) (p : Nat) : Prop :=
  (pm_n S = pm_n S0 ∧ pm_k S = pm_k S0 ∧ pm_z S = pm_z S0 ∧ pm_r S = pm_r S0 ∧ pm_l S = pm_l S0) ∧ (∀ x j, ¬ (x = 5 ∧ j = 2) → x ≠ D → (∀ i, i < 6 → x ≠ W i) → pm_i S x j = pm_i S0 x j) ∧ rd S p n
section CRL
variable {G : pm_G} {S0 : pm_S} {D n : Nat} {W : Nat → Nat}
theorem rs.q {S : pm_S} {p : Nat} {L : gx_L} (h : rs S0 D W n S p L) : rq S0 D W n S p := ⟨h.1, h.2.1, h.2.2.1⟩
theorem rd.wD {S : pm_S} {p n x j : Nat} {v : Int32} (h : rd S p n) (h5 : 5 ≠ x) (h6 : 6 ≠ x) : rd (pm_wI S x j v) p n := by
  obtain ⟨r1, r2, r3, r4, r5⟩ := h
  exact ⟨by rw [pm_i_wI_ne h5]; exact r1, by rw [pm_i_wI_ne h5]; exact r2, r3, r4, fun k hk => by rw [pm_i_wI_ne h6]; exact r5 k hk⟩
theorem rq.wD (hd : dl S0 D W) {S : pm_S} {p j : Nat} {v : Int32} (h : rq S0 D W n S p) : rq S0 D W n (pm_wI S D j v) p :=
  ⟨h.1, fun x j' h1 h2 h3 => by rw [pm_i_wI_ne h2]; exact h.2.1 x j' h1 h2 h3, h.2.2.wD (hd.loD (by omega) (by omega)) (hd.loD (by omega) (by omega))⟩
/-- a number of the draft -/
theorem rs.num (hd : dl S0 D W) {S : pm_S} {p f v : Nat} {L : gx_L} (h : rs S0 D W n S p L) (h8 : 8 ≤ f) (h16 : f ≤ 16) : rs S0 D W n (pm_wI S D f (nI v)) p (L.1, va_up L.2.1 f v, L.2.2) := by
  have hq := h.q.wD hd (j := f) (v := nI v)
  obtain ⟨l1, l2, l3, l4, l5, l6, l7⟩ := h.2.2.2
  refine ⟨hq.1, hq.2.1, hq.2.2, ?_, ?_, l3, l4, fun f' f1 f2 => ?_, fun k hk => ?_, fun k hk => ?_⟩
  · rw [pm_i_wI, if_neg (by omega)]; exact l1
  · rw [pm_i_wI, if_neg (by omega)]; exact l2
  · rw [pm_i_wI]
    by_cases e : f' = f
    · subst e; rw [if_pos ⟨rfl, rfl⟩]; simp [va_up]
    · rw [if_neg (by omega), l5 f' f1 f2]; simp [va_up, e]
  · have := l6 k hk
    rw [pm_i_wI_ne (hd.ne (q := 0) (by omega)).symm, pm_i_wI_ne (hd.ne (q := 1) (by omega)).symm, pm_i_wI_ne (hd.ne (q := 2) (by omega)).symm, pm_i_wI_ne (hd.ne (q := 3) (by omega)).symm, pm_i_wI_ne (hd.ne (q := 4) (by omega)).symm]
    exact this
  · rw [pm_i_wI_ne (hd.ne (q := 5) (by omega)).symm]; exact l7 k hk
/-- a clause owe more -/
theorem rs.owe (hd : dl S0 D W) {S : pm_S} {p s m wn a : Nat} {L : gx_L} (h : rs S0 D W n S p L) (hc : L.1.length < 10) : rs S0 D W n (pm_wI (pm_wI (pm_wI (pm_wI (pm_wI (pm_wI S (W 0) L.1.length (nI s)) (W 1) L.1.length (nI m)) (W 2) L.1.length (nI wn)) (W 3) L.1.length (nI a)) (W 4) L.1.length (nI L.2.2.length)) D 2 (nI (L.1.length + 1))) p (L.1 ++ [(s, m, wn, a, L.2.2.length)], L.2.1, L.2.2) := by
  have n01 : ∀ i j, i < 6 → j < 6 → i ≠ j → W i ≠ W j := fun i j hi hj hij e => hij (hd.2.2.2.2 i j hi hj e)
  have nD : ∀ i, i < 6 → D ≠ W i := fun i hi => hd.ne hi
  have n5 : ∀ i, i < 6 → 5 ≠ W i := fun i hi => hd.lo hi (by omega) (by omega)
  have n6 : ∀ i, i < 6 → 6 ≠ W i := fun i hi => hd.lo hi (by omega) (by omega)
  have d5 : 5 ≠ D := hd.loD (by omega) (by omega)
  have d6 : 6 ≠ D := hd.loD (by omega) (by omega)
  obtain ⟨l1, l2, l3, l4, l5, l6, l7⟩ := h.2.2.2
  have gD : ∀ j v, pm_i (pm_wI (pm_wI (pm_wI (pm_wI (pm_wI (pm_wI S (W 0) L.1.length (nI s)) (W 1) L.1.length (nI m)) (W 2) L.1.length (nI wn)) (W 3) L.1.length (nI a)) (W 4) L.1.length (nI L.2.2.length)) D 2 v) D j = if j = 2 then v else pm_i S D j := fun j v => by
    rw [pm_i_wI]
    by_cases hj : j = 2
    · rw [if_pos ⟨rfl, hj⟩, if_pos hj]
    · rw [if_neg (fun z => hj z.2), if_neg hj, pm_i_wI_ne (nD 4 (by omega)), pm_i_wI_ne (nD 3 (by omega)), pm_i_wI_ne (nD 2 (by omega)), pm_i_wI_ne (nD 1 (by omega)), pm_i_wI_ne (nD 0 (by omega))]
  have rest : ∀ x, x ≠ D → (∀ i, i < 6 → x ≠ W i) → ∀ v, pm_i (pm_wI (pm_wI (pm_wI (pm_wI (pm_wI (pm_wI S (W 0) L.1.length (nI s)) (W 1) L.1.length (nI m)) (W 2) L.1.length (nI wn)) (W 3) L.1.length (nI a)) (W 4) L.1.length (nI L.2.2.length)) D 2 v) x = pm_i S x := fun x hx hw v => by
    rw [pm_i_wI_ne hx, pm_i_wI_ne (hw 4 (by omega)), pm_i_wI_ne (hw 3 (by omega)), pm_i_wI_ne (hw 2 (by omega)), pm_i_wI_ne (hw 1 (by omega)), pm_i_wI_ne (hw 0 (by omega))]
  have row : ∀ i, i < 5 → ∀ v k, pm_i (pm_wI (pm_wI (pm_wI (pm_wI (pm_wI (pm_wI S (W 0) L.1.length (nI s)) (W 1) L.1.length (nI m)) (W 2) L.1.length (nI wn)) (W 3) L.1.length (nI a)) (W 4) L.1.length (nI L.2.2.length)) D 2 v) (W i) k = if k = L.1.length then (match i with | 0 => nI s | 1 => nI m | 2 => nI wn | 3 => nI a | _ => nI L.2.2.length) else pm_i S (W i) k := by
    intro i hi v k
    rw [pm_i_wI_ne (nD i (by omega)).symm]
    have : i = 0 ∨ i = 1 ∨ i = 2 ∨ i = 3 ∨ i = 4 := by omega
    rcases this with rfl | rfl | rfl | rfl | rfl
    · rw [pm_i_wI_ne (n01 0 4 (by omega) (by omega) (by omega)), pm_i_wI_ne (n01 0 3 (by omega) (by omega) (by omega)), pm_i_wI_ne (n01 0 2 (by omega) (by omega) (by omega)), pm_i_wI_ne (n01 0 1 (by omega) (by omega) (by omega)), pm_i_wI]; simp
    · rw [pm_i_wI_ne (n01 1 4 (by omega) (by omega) (by omega)), pm_i_wI_ne (n01 1 3 (by omega) (by omega) (by omega)), pm_i_wI_ne (n01 1 2 (by omega) (by omega) (by omega)), pm_i_wI, pm_i_wI_ne (n01 1 0 (by omega) (by omega) (by omega))]; simp
    · rw [pm_i_wI_ne (n01 2 4 (by omega) (by omega) (by omega)), pm_i_wI_ne (n01 2 3 (by omega) (by omega) (by omega)), pm_i_wI, pm_i_wI_ne (n01 2 1 (by omega) (by omega) (by omega)), pm_i_wI_ne (n01 2 0 (by omega) (by omega) (by omega))]; simp
    · rw [pm_i_wI_ne (n01 3 4 (by omega) (by omega) (by omega)), pm_i_wI, pm_i_wI_ne (n01 3 2 (by omega) (by omega) (by omega)), pm_i_wI_ne (n01 3 1 (by omega) (by omega) (by omega)), pm_i_wI_ne (n01 3 0 (by omega) (by omega) (by omega))]; simp
    · rw [pm_i_wI, pm_i_wI_ne (n01 4 3 (by omega) (by omega) (by omega)), pm_i_wI_ne (n01 4 2 (by omega) (by omega) (by omega)), pm_i_wI_ne (n01 4 1 (by omega) (by omega) (by omega)), pm_i_wI_ne (n01 4 0 (by omega) (by omega) (by omega))]; simp
  obtain ⟨r1, r2, r3, r4, r5⟩ := h.2.2.1
  refine ⟨h.1, fun x j h1 h2 h3 => ?_, ⟨?_, ?_, r3, r4, fun k hk => ?_⟩, ?_, ?_, ?_, l4, fun f f1 f2 => ?_, fun k hk => ?_, fun k hk => ?_⟩
  · rw [rest x h2 h3]; exact h.2.1 x j h1 h2 h3
  · rw [rest 5 d5 n5]; exact r1
  · rw [rest 5 d5 n5]; exact r2
  · rw [rest 6 d6 n6]; exact r5 k hk
  · rw [gD, if_pos rfl]; simp
  · rw [gD, if_neg (by omega)]; exact l2
  · simp; omega
  · rw [gD, if_neg (by omega)]; exact l5 f f1 f2
  · rw [row 0 (by omega), row 1 (by omega), row 2 (by omega), row 3 (by omega), row 4 (by omega)]
    by_cases hkl : k = L.1.length
    · subst hkl
      have : (L.1 ++ [(s, m, wn, a, L.2.2.length)]).getD L.1.length (0, 0, 0, 0, 0) = (s, m, wn, a, L.2.2.length) := by
        rw [List.getD_eq_getElem?_getD, List.getElem?_append_right (Nat.le_refl _)]; simp
      try simp only [this, if_pos]
      exact ⟨trivial, trivial, trivial, trivial, trivial⟩
    · have hk2 : k < L.1.length := by simp at hk; omega
      have : (L.1 ++ [(s, m, wn, a, L.2.2.length)]).getD k (0, 0, 0, 0, 0) = L.1.getD k (0, 0, 0, 0, 0) := by
        rw [List.getD_eq_getElem?_getD, List.getElem?_append_left hk2, List.getD_eq_getElem?_getD]
      try simp only [this, if_neg hkl]
      exact l6 k hk2
  · rw [pm_i_wI_ne (nD 5 (by omega)).symm, pm_i_wI_ne (n01 5 4 (by omega) (by omega) (by omega)), pm_i_wI_ne (n01 5 3 (by omega) (by omega) (by omega)), pm_i_wI_ne (n01 5 2 (by omega) (by omega) (by omega)), pm_i_wI_ne (n01 5 1 (by omega) (by omega) (by omega)), pm_i_wI_ne (n01 5 0 (by omega) (by omega) (by omega))]; exact l7 k hk
theorem rd_55 (hS0 : Sh S0) (hd0 : dl S0 D W) {d i : Nat} (hd : 7 ≤ d) (hi : i < 10) {S : pm_S} {p : Nat} {L : gx_L} {q : Int32 → pm_S → Prop} (hr : rs S0 D W n S p L) (h1 : ∀ x v S', gx_bd (gx_w (gx_b (pm_i S0 6) n) (wb i) p) (fun _ r => gx_num (gx_b (pm_i S0 6) n) 0 4 r) = (x, some v) → v < 10000 → rs S0 D W n S' x L → q (nI v) S') (h0 : ∀ x S', gx_bd (gx_w (gx_b (pm_i S0 6) n) (wb i) p) (fun _ r => gx_num (gx_b (pm_i S0 6) n) 0 4 r) = (x, none) → rs S0 D W n S' x L → q (-1) S') : pm_CI G d 55 [.ref 5, .retAddr i] S q := by
  have hS := hr.sh hS0
  have hdl := hr.todl hd0
  have ht := hr.text hd0
  have hr3 := hr.2.2.1
  have hn := hr3.2.2.2.1
  have hpn := hr3.2.2.1
  have hr5 : pm_r S 5 3 = some D := hdl.1
  have hkD : pm_k S D = 5 := hdl.2.1
  have rB : gx_b (pm_i S 6) n = gx_b (pm_i S0 6) n := by rw [ht]
  refine pm_goI 55 4 pb_c55 (by decide) (Nat.le_of_ble_eq_true rfl) rfl ?_
  try simp only [show pm_mL 55 = 2 from rfl, pm_WI0, pm_WI1, pm_WI2, pm_WI3, pm_WI4, pm_WI5, pm_WV, pm_WW, pm_WX, pb_B55, pm_if, pm_QI_at, pm_QL_at, pm_QV_at, pm_QR_at, pm_QR_at0, pm_QR_at1, Nat.reduceSub, Nat.reduceAdd, List.replicate_zero, List.replicate_succ, true_and, and_true, true_or, or_true, and_self, reduceIte, Nat.reduceEqDiff, Nat.reduceLT, Nat.reduceLeDiff, Nat.reduceMul, false_and, and_false, reduceCtorEq, false_or, or_false, not_true_eq_false, not_false_eq_true, true_implies, false_implies, implies_true, lf_10, eq_self, Int32.reduceLT, Int32.reduceLE, Int32.reduceAdd, Int32.reduceSub, Int32.reduceDiv, Int32.reduceMul, pm_same, pm_i_wI, pm_l_wL, pm_l_wM, pm_oR_rf, pm_oQ_rf, sh_k5 hS, nI_1, sw_e, LQ1, LQ2, LQ3]
  refine ⟨by omega, rd_45 (n := n) (p := p) (by omega) hS hr3 hi (fun x ex hx => ?_) (fun x ex hx => ?_)⟩ <;> rw [rB] at ex
  · have hr2 := hr.mv hd0 (q := x) hx
    have hS2 := hr2.sh hS0
    have rB2 : gx_b (pm_i (pm_wI S 5 2 (nI x)) 6) n = gx_b (pm_i S0 6) n := by rw [rd_B, rB]
    rw [gx_bd_some ex] at h1 h0
    try simp only [pm_WV, pm_WW, true_and, and_true, true_or, or_true, and_self, reduceIte, Nat.reduceEqDiff, Nat.reduceLT, Nat.reduceLeDiff, Nat.reduceMul, false_and, and_false, reduceCtorEq, false_or, or_false, not_true_eq_false, not_false_eq_true, true_implies, false_implies, implies_true, lf_10, eq_self, Int32.reduceLT, Int32.reduceLE, Int32.reduceAdd, Int32.reduceSub, Int32.reduceDiv, Int32.reduceMul, pm_same, pm_i_wI, pm_l_wL, pm_l_wM, pm_oR_rf, pm_oQ_rf, sh_k5 hS, nI_1, sw_e, LQ1, LQ2, LQ3, pm_WI0, pm_WI1, pm_WI2, pm_WI3, pm_WI4, pm_WI5, pm_WV, pm_WW, pm_WX, pb_B55, pm_if, pm_QI_at, pm_QL_at, pm_QV_at, pm_QR_at, pm_QR_at0, pm_QR_at1, Nat.reduceSub, Nat.reduceAdd, List.replicate_zero, List.replicate_succ]
    try (refine ⟨fun z => absurd z (by decide), fun _ => ?_⟩)
    refine ⟨by omega, rd_48_04 (n := n) hS2 hr2.2.2.1 (fun y v e1 e2 e3 e4 => ?_) (fun e1 => ?_)⟩ <;> rw [rB2] at e1
    · rw [pm_wI_wI]; exact h1 y v _ e1 e4 (hr.mv hd0 e3)
    · exact h0 x _ e1 hr2
  · rw [gx_bd_none ex] at h0
    try simp only [pm_WV, pm_WW, true_and, and_true, true_or, or_true, and_self, reduceIte, Nat.reduceEqDiff, Nat.reduceLT, Nat.reduceLeDiff, Nat.reduceMul, false_and, and_false, reduceCtorEq, false_or, or_false, not_true_eq_false, not_false_eq_true, true_implies, false_implies, implies_true, lf_10, eq_self, Int32.reduceLT, Int32.reduceLE, Int32.reduceAdd, Int32.reduceSub, Int32.reduceDiv, Int32.reduceMul, pm_same, pm_i_wI, pm_l_wL, pm_l_wM, pm_oR_rf, pm_oQ_rf, sh_k5 hS, nI_1, sw_e, LQ1, LQ2, LQ3, pm_WI0, pm_WI1, pm_WI2, pm_WI3, pm_WI4, pm_WI5, pm_WV, pm_WW, pm_WX, pb_B55, pm_if, pm_QI_at, pm_QL_at, pm_QV_at, pm_QR_at, pm_QR_at0, pm_QR_at1, Nat.reduceSub, Nat.reduceAdd, List.replicate_zero, List.replicate_succ]
    first | exact h0 x _ rfl (hr.mv hd0 hx) | exact ⟨fun _ => h0 x _ rfl (hr.mv hd0 hx), fun z => absurd rfl z⟩
theorem wb_is : wb 0 = [111, 119, 101, 32] ∧ wb 1 = [105, 102, 32] ∧ wb 2 = [117, 110, 108, 101, 115, 115, 32] ∧ wb 3 = [97, 116, 101, 32] ∧ wb 4 = [101, 97, 99, 104, 32] ∧ wb 5 = [115, 99, 97, 108, 101, 32] ∧ wb 6 = [108, 105, 109, 105, 116, 32] ∧ wb 7 = [97, 110, 115, 119, 101, 114, 32] ∧ wb 8 = [99, 97, 112, 32] ∧ wb 9 = [102, 101, 119, 32] := by decide
theorem gx_one_eq {B : Nat → Nat} {L : gx_L} {f p : Nat} {ws : List Nat} : gx_one B L f ws p = gx_bd (gx_bd (gx_w B ws p) (fun _ r => gx_num B 0 4 r)) (fun v q => (q, some (L.1, va_up L.2.1 f v, L.2.2))) := by
  unfold gx_one; rw [gx_bd_assoc]
theorem rs.rowD (hd : dl S0 D W) {S : pm_S} {p : Nat} {L : gx_L} (h : rs S0 D W n S p L) : pm_r S 5 3 = some D ∧ pm_k S D = 5 ∧ pm_k S 5 = pm_k S0 5 := ⟨(h.todl hd).1, (h.todl hd).2.1, by rw [h.1.2.1]⟩
theorem rq.todl (hd : dl S0 D W) {S : pm_S} {p : Nat} (h : rq S0 D W n S p) : dl S D W := hd.same h.1.2.1 h.1.2.2.1 h.1.2.2.2.1
theorem rd43_108 (hS0 : Sh S0) (hd0 : dl S0 D W) {d : Nat} (hd : 21 ≤ d) {S : pm_S} {p : Nat} {L : gx_L} {q : Int32 → pm_S → Prop} (hr : rs S0 D W n S p L) (hl : L.2.2.length ≤ p) (hc : L.1.length < 10) (y : gx_b (pm_i S0 6) n p = 108) (h1 : ∀ x L' S', gx_clause (gx_b (pm_i S0 6) n) L p = (x, some L') → rs S0 D W n S' x L' → q 1 S') (h0 : ∀ x S', gx_clause (gx_b (pm_i S0 6) n) L p = (x, none) → rq S0 D W n S' x → q 0 S') : pm_CI G d 43 [.ref 5] S q := by
  have hS := hr.sh hS0
  have hdl := hr.todl hd0
  have ht := hr.text hd0
  have hr3 := hr.2.2.1
  have hn := hr3.2.2.2.1
  have hpn := hr3.2.2.1
  have hr5 : pm_r S 5 3 = some D := hdl.1
  have hkD : pm_k S D = 5 := hdl.2.1
  have rB : gx_b (pm_i S 6) n = gx_b (pm_i S0 6) n := by rw [ht]
  have es : sg (gx_b (pm_i S0 6) n p) = 108 := by rw [y]; rfl
  have ec : gx_clause (gx_b (pm_i S0 6) n) L p = gx_one (gx_b (pm_i S0 6) n) L 10 [108, 105, 109, 105, 116, 32] p := by
    unfold gx_clause; rw [if_neg (by omega), if_neg (by omega), if_neg (by omega), if_pos y]
  rw [gx_one_eq] at ec
  have hwb : wb 6 = [108, 105, 109, 105, 116, 32] := by decide
  refine pm_goI 43 1 pb_c43 (by decide) (Nat.le_of_ble_eq_true rfl) rfl ?_
  try simp only [show pm_mL 43 = 1 from rfl, pm_WI0, pm_WI1, pm_WI2, pm_WI3, pm_WI4, pm_WI5, pm_WV, pm_WW, pm_WX, pb_B43, pm_if, pm_QI_at, pm_QL_at, pm_QV_at, pm_QR_at, pm_QR_at0, pm_QR_at1, Nat.reduceSub, Nat.reduceAdd, List.replicate_zero, List.replicate_succ, true_and, and_true, true_or, or_true, and_self, reduceIte, Nat.reduceEqDiff, Nat.reduceLT, Nat.reduceLeDiff, Nat.reduceMul, false_and, and_false, reduceCtorEq, false_or, or_false, not_true_eq_false, not_false_eq_true, true_implies, false_implies, implies_true, lf_10, eq_self, Int32.reduceLT, Int32.reduceLE, Int32.reduceAdd, Int32.reduceSub, Int32.reduceDiv, Int32.reduceMul, pm_same, pm_i_wI, pm_l_wL, pm_l_wM, pm_oR_rf, pm_oQ_rf, sh_k5 hS, nI_1, sw_e, LQ1, LQ2, LQ3]
  refine ⟨by omega, rd_44 hS hr3 ?_⟩
  rw [rB, es]
  try simp only [pm_WV, pm_WW, true_and, and_true, true_or, or_true, and_self, reduceIte, Nat.reduceEqDiff, Nat.reduceLT, Nat.reduceLeDiff, Nat.reduceMul, false_and, and_false, reduceCtorEq, false_or, or_false, not_true_eq_false, not_false_eq_true, true_implies, false_implies, implies_true, lf_10, eq_self, Int32.reduceLT, Int32.reduceLE, Int32.reduceAdd, Int32.reduceSub, Int32.reduceDiv, Int32.reduceMul, pm_same, pm_i_wI, pm_l_wL, pm_l_wM, pm_oR_rf, pm_oQ_rf, sh_k5 hS, nI_1, sw_e, LQ1, LQ2, LQ3, pm_WI0, pm_WI1, pm_WI2, pm_WI3, pm_WI4, pm_WI5, pm_WV, pm_WW, pm_WX, pb_B43, pm_if, pm_QI_at, pm_QL_at, pm_QV_at, pm_QR_at, pm_QR_at0, pm_QR_at1, Nat.reduceSub, Nat.reduceAdd, List.replicate_zero, List.replicate_succ, hr5, hkD]
  refine pm_wb_ok pb_c43 3 128 0 _ _ _ _ _ ?_
  try simp only [pm_WI0, pm_WI1, pm_WI2, pm_WI3, pm_WI4, pm_WI5, pm_WV, pm_WW, pm_WX, pb_B43, pm_if, pm_QI_at, pm_QL_at, pm_QV_at, pm_QR_at, pm_QR_at0, pm_QR_at1, Nat.reduceSub, Nat.reduceAdd, List.replicate_zero, List.replicate_succ, true_and, and_true, true_or, or_true, and_self, reduceIte, Nat.reduceEqDiff, Nat.reduceLT, Nat.reduceLeDiff, Nat.reduceMul, false_and, and_false, reduceCtorEq, false_or, or_false, not_true_eq_false, not_false_eq_true, true_implies, false_implies, implies_true, lf_10, eq_self, Int32.reduceLT, Int32.reduceLE, Int32.reduceAdd, Int32.reduceSub, Int32.reduceDiv, Int32.reduceMul, pm_same, pm_i_wI, pm_l_wL, pm_l_wM, pm_oR_rf, pm_oQ_rf, sh_k5 hS, nI_1, sw_e, LQ1, LQ2, LQ3, hr5, hkD]
  refine ⟨by omega, rd_55 (i := 6) hS0 hd0 (by omega) (by omega) hr (fun x v S' e hv hS' => ?_) (fun x S' e hS' => ?_)⟩ <;> rw [hwb] at e
  · obtain ⟨z1, z2, z3⟩ := hS'.rowD hd0
    have hge : ¬ nI v < 0 := nI_pos (by omega)
    have hk5 : pm_k S' 5 = 6 := sh_k5 (hS'.sh hS0)
    try simp only [pm_WV, pm_WW, true_and, and_true, true_or, or_true, and_self, reduceIte, Nat.reduceEqDiff, Nat.reduceLT, Nat.reduceLeDiff, Nat.reduceMul, false_and, and_false, reduceCtorEq, false_or, or_false, not_true_eq_false, not_false_eq_true, true_implies, false_implies, implies_true, lf_10, eq_self, Int32.reduceLT, Int32.reduceLE, Int32.reduceAdd, Int32.reduceSub, Int32.reduceDiv, Int32.reduceMul, pm_same, pm_i_wI, pm_l_wL, pm_l_wM, pm_oR_rf, pm_oQ_rf, sh_k5 hS, nI_1, sw_e, LQ1, LQ2, LQ3, pm_WI0, pm_WI1, pm_WI2, pm_WI3, pm_WI4, pm_WI5, pm_WV, pm_WW, pm_WX, pb_B43, pm_if, pm_QI_at, pm_QL_at, pm_QV_at, pm_QR_at, pm_QR_at0, pm_QR_at1, Nat.reduceSub, Nat.reduceAdd, List.replicate_zero, List.replicate_succ, z1, z2, hk5, hge]
    exact h1 x _ _ (by rw [ec, gx_bd_some e]) (hS'.num hd0 (by omega) (by omega))
  · obtain ⟨z1, z2, z3⟩ := hS'.rowD hd0
    have hk5 : pm_k S' 5 = 6 := sh_k5 (hS'.sh hS0)
    try simp only [pm_WV, pm_WW, true_and, and_true, true_or, or_true, and_self, reduceIte, Nat.reduceEqDiff, Nat.reduceLT, Nat.reduceLeDiff, Nat.reduceMul, false_and, and_false, reduceCtorEq, false_or, or_false, not_true_eq_false, not_false_eq_true, true_implies, false_implies, implies_true, lf_10, eq_self, Int32.reduceLT, Int32.reduceLE, Int32.reduceAdd, Int32.reduceSub, Int32.reduceDiv, Int32.reduceMul, pm_same, pm_i_wI, pm_l_wL, pm_l_wM, pm_oR_rf, pm_oQ_rf, sh_k5 hS, nI_1, sw_e, LQ1, LQ2, LQ3, pm_WI0, pm_WI1, pm_WI2, pm_WI3, pm_WI4, pm_WI5, pm_WV, pm_WW, pm_WX, pb_B43, pm_if, pm_QI_at, pm_QL_at, pm_QV_at, pm_QR_at, pm_QR_at0, pm_QR_at1, Nat.reduceSub, Nat.reduceAdd, List.replicate_zero, List.replicate_succ, z1, z2, hk5]
    exact h0 x _ (by rw [ec, gx_bd_none e]) (hS'.q.wD hd0)
theorem rd43_97 (hS0 : Sh S0) (hd0 : dl S0 D W) {d : Nat} (hd : 21 ≤ d) {S : pm_S} {p : Nat} {L : gx_L} {q : Int32 → pm_S → Prop} (hr : rs S0 D W n S p L) (hl : L.2.2.length ≤ p) (hc : L.1.length < 10) (y : gx_b (pm_i S0 6) n p = 97) (h1 : ∀ x L' S', gx_clause (gx_b (pm_i S0 6) n) L p = (x, some L') → rs S0 D W n S' x L' → q 1 S') (h0 : ∀ x S', gx_clause (gx_b (pm_i S0 6) n) L p = (x, none) → rq S0 D W n S' x → q 0 S') : pm_CI G d 43 [.ref 5] S q := by
  have hS := hr.sh hS0
  have hdl := hr.todl hd0
  have ht := hr.text hd0
  have hr3 := hr.2.2.1
  have hn := hr3.2.2.2.1
  have hpn := hr3.2.2.1
  have hr5 : pm_r S 5 3 = some D := hdl.1
  have hkD : pm_k S D = 5 := hdl.2.1
  have rB : gx_b (pm_i S 6) n = gx_b (pm_i S0 6) n := by rw [ht]
  have es : sg (gx_b (pm_i S0 6) n p) = 97 := by rw [y]; rfl
  have ec : gx_clause (gx_b (pm_i S0 6) n) L p = gx_one (gx_b (pm_i S0 6) n) L 11 [97, 110, 115, 119, 101, 114, 32] p := by
    unfold gx_clause; rw [if_neg (by omega), if_neg (by omega), if_neg (by omega), if_neg (by omega), if_pos y]
  rw [gx_one_eq] at ec
  have hwb : wb 7 = [97, 110, 115, 119, 101, 114, 32] := by decide
  refine pm_goI 43 1 pb_c43 (by decide) (Nat.le_of_ble_eq_true rfl) rfl ?_
  try simp only [show pm_mL 43 = 1 from rfl, pm_WI0, pm_WI1, pm_WI2, pm_WI3, pm_WI4, pm_WI5, pm_WV, pm_WW, pm_WX, pb_B43, pm_if, pm_QI_at, pm_QL_at, pm_QV_at, pm_QR_at, pm_QR_at0, pm_QR_at1, Nat.reduceSub, Nat.reduceAdd, List.replicate_zero, List.replicate_succ, true_and, and_true, true_or, or_true, and_self, reduceIte, Nat.reduceEqDiff, Nat.reduceLT, Nat.reduceLeDiff, Nat.reduceMul, false_and, and_false, reduceCtorEq, false_or, or_false, not_true_eq_false, not_false_eq_true, true_implies, false_implies, implies_true, lf_10, eq_self, Int32.reduceLT, Int32.reduceLE, Int32.reduceAdd, Int32.reduceSub, Int32.reduceDiv, Int32.reduceMul, pm_same, pm_i_wI, pm_l_wL, pm_l_wM, pm_oR_rf, pm_oQ_rf, sh_k5 hS, nI_1, sw_e, LQ1, LQ2, LQ3]
  refine ⟨by omega, rd_44 hS hr3 ?_⟩
  rw [rB, es]
  try simp only [pm_WV, pm_WW, true_and, and_true, true_or, or_true, and_self, reduceIte, Nat.reduceEqDiff, Nat.reduceLT, Nat.reduceLeDiff, Nat.reduceMul, false_and, and_false, reduceCtorEq, false_or, or_false, not_true_eq_false, not_false_eq_true, true_implies, false_implies, implies_true, lf_10, eq_self, Int32.reduceLT, Int32.reduceLE, Int32.reduceAdd, Int32.reduceSub, Int32.reduceDiv, Int32.reduceMul, pm_same, pm_i_wI, pm_l_wL, pm_l_wM, pm_oR_rf, pm_oQ_rf, sh_k5 hS, nI_1, sw_e, LQ1, LQ2, LQ3, pm_WI0, pm_WI1, pm_WI2, pm_WI3, pm_WI4, pm_WI5, pm_WV, pm_WW, pm_WX, pb_B43, pm_if, pm_QI_at, pm_QL_at, pm_QV_at, pm_QR_at, pm_QR_at0, pm_QR_at1, Nat.reduceSub, Nat.reduceAdd, List.replicate_zero, List.replicate_succ, hr5, hkD]
  refine pm_wb_ok pb_c43 3 157 0 _ _ _ _ _ ?_
  try simp only [pm_WI0, pm_WI1, pm_WI2, pm_WI3, pm_WI4, pm_WI5, pm_WV, pm_WW, pm_WX, pb_B43, pm_if, pm_QI_at, pm_QL_at, pm_QV_at, pm_QR_at, pm_QR_at0, pm_QR_at1, Nat.reduceSub, Nat.reduceAdd, List.replicate_zero, List.replicate_succ, true_and, and_true, true_or, or_true, and_self, reduceIte, Nat.reduceEqDiff, Nat.reduceLT, Nat.reduceLeDiff, Nat.reduceMul, false_and, and_false, reduceCtorEq, false_or, or_false, not_true_eq_false, not_false_eq_true, true_implies, false_implies, implies_true, lf_10, eq_self, Int32.reduceLT, Int32.reduceLE, Int32.reduceAdd, Int32.reduceSub, Int32.reduceDiv, Int32.reduceMul, pm_same, pm_i_wI, pm_l_wL, pm_l_wM, pm_oR_rf, pm_oQ_rf, sh_k5 hS, nI_1, sw_e, LQ1, LQ2, LQ3, hr5, hkD]
  refine ⟨by omega, rd_55 (i := 7) hS0 hd0 (by omega) (by omega) hr (fun x v S' e hv hS' => ?_) (fun x S' e hS' => ?_)⟩ <;> rw [hwb] at e
  · obtain ⟨z1, z2, z3⟩ := hS'.rowD hd0
    have hge : ¬ nI v < 0 := nI_pos (by omega)
    have hk5 : pm_k S' 5 = 6 := sh_k5 (hS'.sh hS0)
    try simp only [pm_WV, pm_WW, true_and, and_true, true_or, or_true, and_self, reduceIte, Nat.reduceEqDiff, Nat.reduceLT, Nat.reduceLeDiff, Nat.reduceMul, false_and, and_false, reduceCtorEq, false_or, or_false, not_true_eq_false, not_false_eq_true, true_implies, false_implies, implies_true, lf_10, eq_self, Int32.reduceLT, Int32.reduceLE, Int32.reduceAdd, Int32.reduceSub, Int32.reduceDiv, Int32.reduceMul, pm_same, pm_i_wI, pm_l_wL, pm_l_wM, pm_oR_rf, pm_oQ_rf, sh_k5 hS, nI_1, sw_e, LQ1, LQ2, LQ3, pm_WI0, pm_WI1, pm_WI2, pm_WI3, pm_WI4, pm_WI5, pm_WV, pm_WW, pm_WX, pb_B43, pm_if, pm_QI_at, pm_QL_at, pm_QV_at, pm_QR_at, pm_QR_at0, pm_QR_at1, Nat.reduceSub, Nat.reduceAdd, List.replicate_zero, List.replicate_succ, z1, z2, hk5, hge]
    exact h1 x _ _ (by rw [ec, gx_bd_some e]) (hS'.num hd0 (by omega) (by omega))
  · obtain ⟨z1, z2, z3⟩ := hS'.rowD hd0
    have hk5 : pm_k S' 5 = 6 := sh_k5 (hS'.sh hS0)
    try simp only [pm_WV, pm_WW, true_and, and_true, true_or, or_true, and_self, reduceIte, Nat.reduceEqDiff, Nat.reduceLT, Nat.reduceLeDiff, Nat.reduceMul, false_and, and_false, reduceCtorEq, false_or, or_false, not_true_eq_false, not_false_eq_true, true_implies, false_implies, implies_true, lf_10, eq_self, Int32.reduceLT, Int32.reduceLE, Int32.reduceAdd, Int32.reduceSub, Int32.reduceDiv, Int32.reduceMul, pm_same, pm_i_wI, pm_l_wL, pm_l_wM, pm_oR_rf, pm_oQ_rf, sh_k5 hS, nI_1, sw_e, LQ1, LQ2, LQ3, pm_WI0, pm_WI1, pm_WI2, pm_WI3, pm_WI4, pm_WI5, pm_WV, pm_WW, pm_WX, pb_B43, pm_if, pm_QI_at, pm_QL_at, pm_QV_at, pm_QR_at, pm_QR_at0, pm_QR_at1, Nat.reduceSub, Nat.reduceAdd, List.replicate_zero, List.replicate_succ, z1, z2, hk5]
    exact h0 x _ (by rw [ec, gx_bd_none e]) (hS'.q.wD hd0)
theorem rd43_99 (hS0 : Sh S0) (hd0 : dl S0 D W) {d : Nat} (hd : 21 ≤ d) {S : pm_S} {p : Nat} {L : gx_L} {q : Int32 → pm_S → Prop} (hr : rs S0 D W n S p L) (hl : L.2.2.length ≤ p) (hc : L.1.length < 10) (y : gx_b (pm_i S0 6) n p = 99) (h1 : ∀ x L' S', gx_clause (gx_b (pm_i S0 6) n) L p = (x, some L') → rs S0 D W n S' x L' → q 1 S') (h0 : ∀ x S', gx_clause (gx_b (pm_i S0 6) n) L p = (x, none) → rq S0 D W n S' x → q 0 S') : pm_CI G d 43 [.ref 5] S q := by
  have hS := hr.sh hS0
  have hdl := hr.todl hd0
  have ht := hr.text hd0
  have hr3 := hr.2.2.1
  have hn := hr3.2.2.2.1
  have hpn := hr3.2.2.1
  have hr5 : pm_r S 5 3 = some D := hdl.1
  have hkD : pm_k S D = 5 := hdl.2.1
  have rB : gx_b (pm_i S 6) n = gx_b (pm_i S0 6) n := by rw [ht]
  have es : sg (gx_b (pm_i S0 6) n p) = 99 := by rw [y]; rfl
  have ec : gx_clause (gx_b (pm_i S0 6) n) L p = gx_one (gx_b (pm_i S0 6) n) L 14 [99, 97, 112, 32] p := by
    unfold gx_clause; rw [if_neg (by omega), if_neg (by omega), if_neg (by omega), if_neg (by omega), if_neg (by omega), if_pos y]
  rw [gx_one_eq] at ec
  have hwb : wb 8 = [99, 97, 112, 32] := by decide
  refine pm_goI 43 1 pb_c43 (by decide) (Nat.le_of_ble_eq_true rfl) rfl ?_
  try simp only [show pm_mL 43 = 1 from rfl, pm_WI0, pm_WI1, pm_WI2, pm_WI3, pm_WI4, pm_WI5, pm_WV, pm_WW, pm_WX, pb_B43, pm_if, pm_QI_at, pm_QL_at, pm_QV_at, pm_QR_at, pm_QR_at0, pm_QR_at1, Nat.reduceSub, Nat.reduceAdd, List.replicate_zero, List.replicate_succ, true_and, and_true, true_or, or_true, and_self, reduceIte, Nat.reduceEqDiff, Nat.reduceLT, Nat.reduceLeDiff, Nat.reduceMul, false_and, and_false, reduceCtorEq, false_or, or_false, not_true_eq_false, not_false_eq_true, true_implies, false_implies, implies_true, lf_10, eq_self, Int32.reduceLT, Int32.reduceLE, Int32.reduceAdd, Int32.reduceSub, Int32.reduceDiv, Int32.reduceMul, pm_same, pm_i_wI, pm_l_wL, pm_l_wM, pm_oR_rf, pm_oQ_rf, sh_k5 hS, nI_1, sw_e, LQ1, LQ2, LQ3]
  refine ⟨by omega, rd_44 hS hr3 ?_⟩
  rw [rB, es]
  try simp only [pm_WV, pm_WW, true_and, and_true, true_or, or_true, and_self, reduceIte, Nat.reduceEqDiff, Nat.reduceLT, Nat.reduceLeDiff, Nat.reduceMul, false_and, and_false, reduceCtorEq, false_or, or_false, not_true_eq_false, not_false_eq_true, true_implies, false_implies, implies_true, lf_10, eq_self, Int32.reduceLT, Int32.reduceLE, Int32.reduceAdd, Int32.reduceSub, Int32.reduceDiv, Int32.reduceMul, pm_same, pm_i_wI, pm_l_wL, pm_l_wM, pm_oR_rf, pm_oQ_rf, sh_k5 hS, nI_1, sw_e, LQ1, LQ2, LQ3, pm_WI0, pm_WI1, pm_WI2, pm_WI3, pm_WI4, pm_WI5, pm_WV, pm_WW, pm_WX, pb_B43, pm_if, pm_QI_at, pm_QL_at, pm_QV_at, pm_QR_at, pm_QR_at0, pm_QR_at1, Nat.reduceSub, Nat.reduceAdd, List.replicate_zero, List.replicate_succ, hr5, hkD]
  refine pm_wb_ok pb_c43 3 186 0 _ _ _ _ _ ?_
  try simp only [pm_WI0, pm_WI1, pm_WI2, pm_WI3, pm_WI4, pm_WI5, pm_WV, pm_WW, pm_WX, pb_B43, pm_if, pm_QI_at, pm_QL_at, pm_QV_at, pm_QR_at, pm_QR_at0, pm_QR_at1, Nat.reduceSub, Nat.reduceAdd, List.replicate_zero, List.replicate_succ, true_and, and_true, true_or, or_true, and_self, reduceIte, Nat.reduceEqDiff, Nat.reduceLT, Nat.reduceLeDiff, Nat.reduceMul, false_and, and_false, reduceCtorEq, false_or, or_false, not_true_eq_false, not_false_eq_true, true_implies, false_implies, implies_true, lf_10, eq_self, Int32.reduceLT, Int32.reduceLE, Int32.reduceAdd, Int32.reduceSub, Int32.reduceDiv, Int32.reduceMul, pm_same, pm_i_wI, pm_l_wL, pm_l_wM, pm_oR_rf, pm_oQ_rf, sh_k5 hS, nI_1, sw_e, LQ1, LQ2, LQ3, hr5, hkD]
  refine ⟨by omega, rd_55 (i := 8) hS0 hd0 (by omega) (by omega) hr (fun x v S' e hv hS' => ?_) (fun x S' e hS' => ?_)⟩ <;> rw [hwb] at e
  · obtain ⟨z1, z2, z3⟩ := hS'.rowD hd0
    have hge : ¬ nI v < 0 := nI_pos (by omega)
    have hk5 : pm_k S' 5 = 6 := sh_k5 (hS'.sh hS0)
    try simp only [pm_WV, pm_WW, true_and, and_true, true_or, or_true, and_self, reduceIte, Nat.reduceEqDiff, Nat.reduceLT, Nat.reduceLeDiff, Nat.reduceMul, false_and, and_false, reduceCtorEq, false_or, or_false, not_true_eq_false, not_false_eq_true, true_implies, false_implies, implies_true, lf_10, eq_self, Int32.reduceLT, Int32.reduceLE, Int32.reduceAdd, Int32.reduceSub, Int32.reduceDiv, Int32.reduceMul, pm_same, pm_i_wI, pm_l_wL, pm_l_wM, pm_oR_rf, pm_oQ_rf, sh_k5 hS, nI_1, sw_e, LQ1, LQ2, LQ3, pm_WI0, pm_WI1, pm_WI2, pm_WI3, pm_WI4, pm_WI5, pm_WV, pm_WW, pm_WX, pb_B43, pm_if, pm_QI_at, pm_QL_at, pm_QV_at, pm_QR_at, pm_QR_at0, pm_QR_at1, Nat.reduceSub, Nat.reduceAdd, List.replicate_zero, List.replicate_succ, z1, z2, hk5, hge]
    exact h1 x _ _ (by rw [ec, gx_bd_some e]) (hS'.num hd0 (by omega) (by omega))
  · obtain ⟨z1, z2, z3⟩ := hS'.rowD hd0
    have hk5 : pm_k S' 5 = 6 := sh_k5 (hS'.sh hS0)
    try simp only [pm_WV, pm_WW, true_and, and_true, true_or, or_true, and_self, reduceIte, Nat.reduceEqDiff, Nat.reduceLT, Nat.reduceLeDiff, Nat.reduceMul, false_and, and_false, reduceCtorEq, false_or, or_false, not_true_eq_false, not_false_eq_true, true_implies, false_implies, implies_true, lf_10, eq_self, Int32.reduceLT, Int32.reduceLE, Int32.reduceAdd, Int32.reduceSub, Int32.reduceDiv, Int32.reduceMul, pm_same, pm_i_wI, pm_l_wL, pm_l_wM, pm_oR_rf, pm_oQ_rf, sh_k5 hS, nI_1, sw_e, LQ1, LQ2, LQ3, pm_WI0, pm_WI1, pm_WI2, pm_WI3, pm_WI4, pm_WI5, pm_WV, pm_WW, pm_WX, pb_B43, pm_if, pm_QI_at, pm_QL_at, pm_QV_at, pm_QR_at, pm_QR_at0, pm_QR_at1, Nat.reduceSub, Nat.reduceAdd, List.replicate_zero, List.replicate_succ, z1, z2, hk5]
    exact h0 x _ (by rw [ec, gx_bd_none e]) (hS'.q.wD hd0)
theorem rd43_102 (hS0 : Sh S0) (hd0 : dl S0 D W) {d : Nat} (hd : 21 ≤ d) {S : pm_S} {p : Nat} {L : gx_L} {q : Int32 → pm_S → Prop} (hr : rs S0 D W n S p L) (hl : L.2.2.length ≤ p) (hc : L.1.length < 10) (y : gx_b (pm_i S0 6) n p = 102) (h1 : ∀ x L' S', gx_clause (gx_b (pm_i S0 6) n) L p = (x, some L') → rs S0 D W n S' x L' → q 1 S') (h0 : ∀ x S', gx_clause (gx_b (pm_i S0 6) n) L p = (x, none) → rq S0 D W n S' x → q 0 S') : pm_CI G d 43 [.ref 5] S q := by
  have hS := hr.sh hS0
  have hdl := hr.todl hd0
  have ht := hr.text hd0
  have hr3 := hr.2.2.1
  have hn := hr3.2.2.2.1
  have hpn := hr3.2.2.1
  have hr5 : pm_r S 5 3 = some D := hdl.1
  have hkD : pm_k S D = 5 := hdl.2.1
  have rB : gx_b (pm_i S 6) n = gx_b (pm_i S0 6) n := by rw [ht]
  have es : sg (gx_b (pm_i S0 6) n p) = 102 := by rw [y]; rfl
  have ec : gx_clause (gx_b (pm_i S0 6) n) L p = gx_one (gx_b (pm_i S0 6) n) L 16 [102, 101, 119, 32] p := by
    unfold gx_clause; rw [if_neg (by omega), if_neg (by omega), if_neg (by omega), if_neg (by omega), if_neg (by omega), if_neg (by omega), if_pos y]
  rw [gx_one_eq] at ec
  have hwb : wb 9 = [102, 101, 119, 32] := by decide
  refine pm_goI 43 1 pb_c43 (by decide) (Nat.le_of_ble_eq_true rfl) rfl ?_
  try simp only [show pm_mL 43 = 1 from rfl, pm_WI0, pm_WI1, pm_WI2, pm_WI3, pm_WI4, pm_WI5, pm_WV, pm_WW, pm_WX, pb_B43, pm_if, pm_QI_at, pm_QL_at, pm_QV_at, pm_QR_at, pm_QR_at0, pm_QR_at1, Nat.reduceSub, Nat.reduceAdd, List.replicate_zero, List.replicate_succ, true_and, and_true, true_or, or_true, and_self, reduceIte, Nat.reduceEqDiff, Nat.reduceLT, Nat.reduceLeDiff, Nat.reduceMul, false_and, and_false, reduceCtorEq, false_or, or_false, not_true_eq_false, not_false_eq_true, true_implies, false_implies, implies_true, lf_10, eq_self, Int32.reduceLT, Int32.reduceLE, Int32.reduceAdd, Int32.reduceSub, Int32.reduceDiv, Int32.reduceMul, pm_same, pm_i_wI, pm_l_wL, pm_l_wM, pm_oR_rf, pm_oQ_rf, sh_k5 hS, nI_1, sw_e, LQ1, LQ2, LQ3]
  refine ⟨by omega, rd_44 hS hr3 ?_⟩
  rw [rB, es]
  try simp only [pm_WV, pm_WW, true_and, and_true, true_or, or_true, and_self, reduceIte, Nat.reduceEqDiff, Nat.reduceLT, Nat.reduceLeDiff, Nat.reduceMul, false_and, and_false, reduceCtorEq, false_or, or_false, not_true_eq_false, not_false_eq_true, true_implies, false_implies, implies_true, lf_10, eq_self, Int32.reduceLT, Int32.reduceLE, Int32.reduceAdd, Int32.reduceSub, Int32.reduceDiv, Int32.reduceMul, pm_same, pm_i_wI, pm_l_wL, pm_l_wM, pm_oR_rf, pm_oQ_rf, sh_k5 hS, nI_1, sw_e, LQ1, LQ2, LQ3, pm_WI0, pm_WI1, pm_WI2, pm_WI3, pm_WI4, pm_WI5, pm_WV, pm_WW, pm_WX, pb_B43, pm_if, pm_QI_at, pm_QL_at, pm_QV_at, pm_QR_at, pm_QR_at0, pm_QR_at1, Nat.reduceSub, Nat.reduceAdd, List.replicate_zero, List.replicate_succ, hr5, hkD]
  refine pm_wb_ok pb_c43 3 215 0 _ _ _ _ _ ?_
  try simp only [pm_WI0, pm_WI1, pm_WI2, pm_WI3, pm_WI4, pm_WI5, pm_WV, pm_WW, pm_WX, pb_B43, pm_if, pm_QI_at, pm_QL_at, pm_QV_at, pm_QR_at, pm_QR_at0, pm_QR_at1, Nat.reduceSub, Nat.reduceAdd, List.replicate_zero, List.replicate_succ, true_and, and_true, true_or, or_true, and_self, reduceIte, Nat.reduceEqDiff, Nat.reduceLT, Nat.reduceLeDiff, Nat.reduceMul, false_and, and_false, reduceCtorEq, false_or, or_false, not_true_eq_false, not_false_eq_true, true_implies, false_implies, implies_true, lf_10, eq_self, Int32.reduceLT, Int32.reduceLE, Int32.reduceAdd, Int32.reduceSub, Int32.reduceDiv, Int32.reduceMul, pm_same, pm_i_wI, pm_l_wL, pm_l_wM, pm_oR_rf, pm_oQ_rf, sh_k5 hS, nI_1, sw_e, LQ1, LQ2, LQ3, hr5, hkD]
  refine ⟨by omega, rd_55 (i := 9) hS0 hd0 (by omega) (by omega) hr (fun x v S' e hv hS' => ?_) (fun x S' e hS' => ?_)⟩ <;> rw [hwb] at e
  · obtain ⟨z1, z2, z3⟩ := hS'.rowD hd0
    have hge : ¬ nI v < 0 := nI_pos (by omega)
    have hk5 : pm_k S' 5 = 6 := sh_k5 (hS'.sh hS0)
    try simp only [pm_WV, pm_WW, true_and, and_true, true_or, or_true, and_self, reduceIte, Nat.reduceEqDiff, Nat.reduceLT, Nat.reduceLeDiff, Nat.reduceMul, false_and, and_false, reduceCtorEq, false_or, or_false, not_true_eq_false, not_false_eq_true, true_implies, false_implies, implies_true, lf_10, eq_self, Int32.reduceLT, Int32.reduceLE, Int32.reduceAdd, Int32.reduceSub, Int32.reduceDiv, Int32.reduceMul, pm_same, pm_i_wI, pm_l_wL, pm_l_wM, pm_oR_rf, pm_oQ_rf, sh_k5 hS, nI_1, sw_e, LQ1, LQ2, LQ3, pm_WI0, pm_WI1, pm_WI2, pm_WI3, pm_WI4, pm_WI5, pm_WV, pm_WW, pm_WX, pb_B43, pm_if, pm_QI_at, pm_QL_at, pm_QV_at, pm_QR_at, pm_QR_at0, pm_QR_at1, Nat.reduceSub, Nat.reduceAdd, List.replicate_zero, List.replicate_succ, z1, z2, hk5, hge]
    exact h1 x _ _ (by rw [ec, gx_bd_some e]) (hS'.num hd0 (by omega) (by omega))
  · obtain ⟨z1, z2, z3⟩ := hS'.rowD hd0
    have hk5 : pm_k S' 5 = 6 := sh_k5 (hS'.sh hS0)
    try simp only [pm_WV, pm_WW, true_and, and_true, true_or, or_true, and_self, reduceIte, Nat.reduceEqDiff, Nat.reduceLT, Nat.reduceLeDiff, Nat.reduceMul, false_and, and_false, reduceCtorEq, false_or, or_false, not_true_eq_false, not_false_eq_true, true_implies, false_implies, implies_true, lf_10, eq_self, Int32.reduceLT, Int32.reduceLE, Int32.reduceAdd, Int32.reduceSub, Int32.reduceDiv, Int32.reduceMul, pm_same, pm_i_wI, pm_l_wL, pm_l_wM, pm_oR_rf, pm_oQ_rf, sh_k5 hS, nI_1, sw_e, LQ1, LQ2, LQ3, pm_WI0, pm_WI1, pm_WI2, pm_WI3, pm_WI4, pm_WI5, pm_WV, pm_WW, pm_WX, pb_B43, pm_if, pm_QI_at, pm_QL_at, pm_QV_at, pm_QR_at, pm_QR_at0, pm_QR_at1, Nat.reduceSub, Nat.reduceAdd, List.replicate_zero, List.replicate_succ, z1, z2, hk5]
    exact h0 x _ (by rw [ec, gx_bd_none e]) (hS'.q.wD hd0)
theorem rd_39 (hd0 : dl S0 D W) {d : Nat} {S : pm_S} {p s m wn a : Nat} {L : gx_L} {q : pm_S → Prop} (hr : rs S0 D W n S p L) (hc : L.1.length < 10) (h : ∀ S', rs S0 D W n S' p (L.1 ++ [(s, m, wn, a, L.2.2.length)], L.2.1, L.2.2) → q S') : pm_CV G d 39 [.ref D, .int (nI s), .int (nI m), .int (nI wn), .int (nI a)] S q := by
  have hd := hr.todl hd0
  have rw0 := hd.2.2.2.1 0 (by omega)
  have rw1 := hd.2.2.2.1 1 (by omega)
  have rw2 := hd.2.2.2.1 2 (by omega)
  have rw3 := hd.2.2.2.1 3 (by omega)
  have rw4 := hd.2.2.2.1 4 (by omega)
  have a0 : pm_r S D 3 = some (W 0) := rw0.1
  have a1 : pm_r S D 4 = some (W 1) := rw1.1
  have a2 : pm_r S D 5 = some (W 2) := rw2.1
  have a3 : pm_r S D 6 = some (W 3) := rw3.1
  have a4 : pm_r S D 7 = some (W 4) := rw4.1
  have b0 : pm_z S (W 0) = 10 := rw0.2.2.1
  have b1 : pm_z S (W 1) = 10 := rw1.2.2.1
  have b2 : pm_z S (W 2) = 10 := rw2.2.2.1
  have b3 : pm_z S (W 3) = 10 := rw3.2.2.1
  have b4 : pm_z S (W 4) = 10 := rw4.2.2.1
  have hle : ¬ (10 : Int32) ≤ nI L.1.length := nI_ge (b := 10) hc (by omega)
  have hD2 : pm_i S D 2 = nI L.1.length := hr.2.2.2.1
  have hD18 : pm_i S D 18 = nI L.2.2.length := hr.2.2.2.2.1
  have n0 : (D = W 0) = False := eq_false (hd.ne (by omega))
  have n1 : (D = W 1) = False := eq_false (hd.ne (by omega))
  have n2 : (D = W 2) = False := eq_false (hd.ne (by omega))
  have n3 : (D = W 3) = False := eq_false (hd.ne (by omega))
  have n4 : (D = W 4) = False := eq_false (hd.ne (by omega))
  have hcl := nI_clamp (n := L.1.length) (by omega)
  refine pm_goV 39 4 pb_c39 (by decide) (Nat.le_of_ble_eq_true rfl) rfl ?_
  try simp only [show pm_mL 39 = 5 from rfl, pm_WI0, pm_WI1, pm_WI2, pm_WI3, pm_WI4, pm_WI5, pm_WV, pm_WW, pm_WX, pb_B39, pm_if, pm_QI_at, pm_QL_at, pm_QV_at, pm_QR_at, pm_QR_at0, pm_QR_at1, Nat.reduceSub, Nat.reduceAdd, List.replicate_zero, List.replicate_succ, true_and, and_true, true_or, or_true, and_self, reduceIte, Nat.reduceEqDiff, Nat.reduceLT, Nat.reduceLeDiff, Nat.reduceMul, false_and, and_false, reduceCtorEq, false_or, or_false, not_true_eq_false, not_false_eq_true, true_implies, false_implies, implies_true, lf_10, eq_self, Int32.reduceLT, Int32.reduceLE, Int32.reduceAdd, Int32.reduceSub, pm_same, pm_i_wI, pm_l_wL, pm_l_wM, pm_oR_rf, pm_oQ_rf, hd.2.1, a0, a1, a2, a3, a4, b0, b1, b2, b3, b4, rw0.2.1, rw1.2.1, rw2.2.1, rw3.2.1, rw4.2.1, hle, hD2, hD18, n0, n1, n2, n3, n4, hcl, nI_1]
  have hv := vp_in_nI (n := L.1.length) (N := 10) hc (by decide)
  exact ⟨hv, hv, hv, hv, hv, h _ (hr.owe hd0 hc)⟩
theorem rd_47 (hS0 : Sh S0) (hd0 : dl S0 D W) {d : Nat} (hd : 21 ≤ d) {S : pm_S} {p0 p : Nat} {L : gx_L} {q : Int32 → pm_S → Prop} (hr : rs S0 D W n S p L) (hl : L.2.2.length ≤ p) (hc : L.1.length < 10) (ew : gx_w (gx_b (pm_i S0 6) n) [111, 119, 101, 32] p0 = (p, some ())) (h1 : ∀ x L' S', gx_owe (gx_b (pm_i S0 6) n) L p0 = (x, some L') → rs S0 D W n S' x L' → q 1 S') (h0 : ∀ x S', gx_owe (gx_b (pm_i S0 6) n) L p0 = (x, none) → rq S0 D W n S' x → q 0 S') : pm_CI G d 47 [.ref 5] S q := by
  have hS := hr.sh hS0
  have hdl := hr.todl hd0
  have ht := hr.text hd0
  have hr3 := hr.2.2.1
  have hn := hr3.2.2.2.1
  have hpn := hr3.2.2.1
  have hr5 : pm_r S 5 3 = some D := hdl.1
  have hkD : pm_k S D = 5 := hdl.2.1
  have rB : gx_b (pm_i S 6) n = gx_b (pm_i S0 6) n := by rw [ht]
  have eo : gx_owe (gx_b (pm_i S0 6) n) L p0 = gx_bd (gx_num (gx_b (pm_i S0 6) n) 1 1 p) (fun s q => gx_bd (gx_w (gx_b (pm_i S0 6) n) [32] q) (fun _ q => gx_bd (gx_num (gx_b (pm_i S0 6) n) 0 4 q) (fun m q => go_k (gx_b (pm_i S0 6) n) L s m q))) := by
    unfold gx_owe; rw [gx_bd_some ew]; rfl
  refine pm_goI 47 1 pb_c47 (by decide) (Nat.le_of_ble_eq_true rfl) rfl ?_
  try simp only [show pm_mL 47 = 5 from rfl, pm_WI0, pm_WI1, pm_WI2, pm_WI3, pm_WI4, pm_WI5, pm_WV, pm_WW, pm_WX, pb_B47, pm_if, pm_QI_at, pm_QL_at, pm_QV_at, pm_QR_at, pm_QR_at0, pm_QR_at1, Nat.reduceSub, Nat.reduceAdd, List.replicate_zero, List.replicate_succ, true_and, and_true, true_or, or_true, and_self, reduceIte, Nat.reduceEqDiff, Nat.reduceLT, Nat.reduceLeDiff, Nat.reduceMul, false_and, and_false, reduceCtorEq, false_or, or_false, not_true_eq_false, not_false_eq_true, true_implies, false_implies, implies_true, lf_10, eq_self, Int32.reduceLT, Int32.reduceLE, Int32.reduceAdd, Int32.reduceSub, Int32.reduceDiv, Int32.reduceMul, pm_same, pm_i_wI, pm_l_wL, pm_l_wM, pm_oR_rf, pm_oQ_rf, sh_k5 hS, nI_1, sw_e, LQ1, LQ2, LQ3]
  refine ⟨by omega, rd_48_11 (n := n) hS hr3 (fun x s ex e2 e3 e4 => ?_) (fun ex => ?_)⟩ <;> rw [rB] at ex
  rotate_left
  · rw [gx_bd_none ex] at eo
    have fin := h0 p S eo hr.q
    first
      | exact fin
      | exact ⟨fun _ => fin, fun z => absurd (by decide) z⟩
      | exact ⟨fun z => absurd z (by decide), fun _ => fin⟩
      | (refine pm_wb_ok pb_c47 1 20 0 _ _ _ _ _ ?_; simp only [pm_WI0, pm_WI1, pm_WI2, pm_WI3, pm_WI4, pm_WI5, pm_WV, pm_WW, pm_WX, pb_B47, pm_if, pm_QI_at, pm_QL_at, pm_QV_at, pm_QR_at, pm_QR_at0, pm_QR_at1, Nat.reduceSub, Nat.reduceAdd, List.replicate_zero, List.replicate_succ, true_and, and_true, true_or, or_true, and_self, reduceIte, Nat.reduceEqDiff, Nat.reduceLT, Nat.reduceLeDiff, Nat.reduceMul, false_and, and_false, reduceCtorEq, false_or, or_false, not_true_eq_false, not_false_eq_true, true_implies, false_implies, implies_true, lf_10, eq_self, Int32.reduceLT, Int32.reduceLE, Int32.reduceAdd, Int32.reduceSub, Int32.reduceDiv, Int32.reduceMul, pm_same, pm_i_wI, pm_l_wL, pm_l_wM, pm_oR_rf, pm_oQ_rf, sh_k5 hS, nI_1, sw_e, LQ1, LQ2, LQ3]; exact fin)
      | (refine ⟨fun _ => ?_, fun z => absurd (by decide) z⟩; refine pm_wb_ok pb_c47 1 20 0 _ _ _ _ _ ?_; simp only [pm_WI0, pm_WI1, pm_WI2, pm_WI3, pm_WI4, pm_WI5, pm_WV, pm_WW, pm_WX, pb_B47, pm_if, pm_QI_at, pm_QL_at, pm_QV_at, pm_QR_at, pm_QR_at0, pm_QR_at1, Nat.reduceSub, Nat.reduceAdd, List.replicate_zero, List.replicate_succ, true_and, and_true, true_or, or_true, and_self, reduceIte, Nat.reduceEqDiff, Nat.reduceLT, Nat.reduceLeDiff, Nat.reduceMul, false_and, and_false, reduceCtorEq, false_or, or_false, not_true_eq_false, not_false_eq_true, true_implies, false_implies, implies_true, lf_10, eq_self, Int32.reduceLT, Int32.reduceLE, Int32.reduceAdd, Int32.reduceSub, Int32.reduceDiv, Int32.reduceMul, pm_same, pm_i_wI, pm_l_wL, pm_l_wM, pm_oR_rf, pm_oQ_rf, sh_k5 hS, nI_1, sw_e, LQ1, LQ2, LQ3]; exact fin)
      | (refine ⟨fun z => absurd z (by decide), fun _ => ?_⟩; refine pm_wb_ok pb_c47 1 20 0 _ _ _ _ _ ?_; simp only [pm_WI0, pm_WI1, pm_WI2, pm_WI3, pm_WI4, pm_WI5, pm_WV, pm_WW, pm_WX, pb_B47, pm_if, pm_QI_at, pm_QL_at, pm_QV_at, pm_QR_at, pm_QR_at0, pm_QR_at1, Nat.reduceSub, Nat.reduceAdd, List.replicate_zero, List.replicate_succ, true_and, and_true, true_or, or_true, and_self, reduceIte, Nat.reduceEqDiff, Nat.reduceLT, Nat.reduceLeDiff, Nat.reduceMul, false_and, and_false, reduceCtorEq, false_or, or_false, not_true_eq_false, not_false_eq_true, true_implies, false_implies, implies_true, lf_10, eq_self, Int32.reduceLT, Int32.reduceLE, Int32.reduceAdd, Int32.reduceSub, Int32.reduceDiv, Int32.reduceMul, pm_same, pm_i_wI, pm_l_wL, pm_l_wM, pm_oR_rf, pm_oQ_rf, sh_k5 hS, nI_1, sw_e, LQ1, LQ2, LQ3]; exact fin)
  rw [gx_bd_some ex] at eo
  have hs0 : ¬ nI s < 0 := nI_pos (by omega)
  have hs1 : (0 : Int32) ≤ nI s := nI_pos' (by omega)
  have hr2 := hr.mv hd0 (q := x) e3
  have hS2 := hr2.sh hS0
  have rB2 : gx_b (pm_i (pm_wI S 5 2 (nI x)) 6) n = gx_b (pm_i S0 6) n := by rw [rd_B, rB]
  try simp only [pm_WV, pm_WW, true_and, and_true, true_or, or_true, and_self, reduceIte, Nat.reduceEqDiff, Nat.reduceLT, Nat.reduceLeDiff, Nat.reduceMul, false_and, and_false, reduceCtorEq, false_or, or_false, not_true_eq_false, not_false_eq_true, true_implies, false_implies, implies_true, lf_10, eq_self, Int32.reduceLT, Int32.reduceLE, Int32.reduceAdd, Int32.reduceSub, Int32.reduceDiv, Int32.reduceMul, pm_same, pm_i_wI, pm_l_wL, pm_l_wM, pm_oR_rf, pm_oQ_rf, sh_k5 hS, nI_1, sw_e, LQ1, LQ2, LQ3, pm_WI0, pm_WI1, pm_WI2, pm_WI3, pm_WI4, pm_WI5, pm_WV, pm_WW, pm_WX, pb_B47, pm_if, pm_QI_at, pm_QL_at, pm_QV_at, pm_QR_at, pm_QR_at0, pm_QR_at1, Nat.reduceSub, Nat.reduceAdd, List.replicate_zero, List.replicate_succ, hs0, hs1]
  refine ⟨by omega, rd_46 (c := 32) (n := n) hS2 hr2.2.2.1 (by omega) (fun y => ?_) (fun y => ?_)⟩ <;> rw [rB2] at y
  rotate_left
  · have ew2 : gx_w (gx_b (pm_i S0 6) n) [32] x = (x, none) := by simp only [gx_w]; rw [if_neg y]
    rw [gx_bd_none ew2] at eo
    have fin := h0 x _ eo hr2.q
    first
      | exact fin
      | exact ⟨fun _ => fin, fun z => absurd (by decide) z⟩
      | exact ⟨fun z => absurd z (by decide), fun _ => fin⟩
      | (refine pm_wb_ok pb_c47 1 20 0 _ _ _ _ _ ?_; simp only [pm_WI0, pm_WI1, pm_WI2, pm_WI3, pm_WI4, pm_WI5, pm_WV, pm_WW, pm_WX, pb_B47, pm_if, pm_QI_at, pm_QL_at, pm_QV_at, pm_QR_at, pm_QR_at0, pm_QR_at1, Nat.reduceSub, Nat.reduceAdd, List.replicate_zero, List.replicate_succ, true_and, and_true, true_or, or_true, and_self, reduceIte, Nat.reduceEqDiff, Nat.reduceLT, Nat.reduceLeDiff, Nat.reduceMul, false_and, and_false, reduceCtorEq, false_or, or_false, not_true_eq_false, not_false_eq_true, true_implies, false_implies, implies_true, lf_10, eq_self, Int32.reduceLT, Int32.reduceLE, Int32.reduceAdd, Int32.reduceSub, Int32.reduceDiv, Int32.reduceMul, pm_same, pm_i_wI, pm_l_wL, pm_l_wM, pm_oR_rf, pm_oQ_rf, sh_k5 hS, nI_1, sw_e, LQ1, LQ2, LQ3]; exact fin)
      | (refine ⟨fun _ => ?_, fun z => absurd (by decide) z⟩; refine pm_wb_ok pb_c47 1 20 0 _ _ _ _ _ ?_; simp only [pm_WI0, pm_WI1, pm_WI2, pm_WI3, pm_WI4, pm_WI5, pm_WV, pm_WW, pm_WX, pb_B47, pm_if, pm_QI_at, pm_QL_at, pm_QV_at, pm_QR_at, pm_QR_at0, pm_QR_at1, Nat.reduceSub, Nat.reduceAdd, List.replicate_zero, List.replicate_succ, true_and, and_true, true_or, or_true, and_self, reduceIte, Nat.reduceEqDiff, Nat.reduceLT, Nat.reduceLeDiff, Nat.reduceMul, false_and, and_false, reduceCtorEq, false_or, or_false, not_true_eq_false, not_false_eq_true, true_implies, false_implies, implies_true, lf_10, eq_self, Int32.reduceLT, Int32.reduceLE, Int32.reduceAdd, Int32.reduceSub, Int32.reduceDiv, Int32.reduceMul, pm_same, pm_i_wI, pm_l_wL, pm_l_wM, pm_oR_rf, pm_oQ_rf, sh_k5 hS, nI_1, sw_e, LQ1, LQ2, LQ3]; exact fin)
      | (refine ⟨fun z => absurd z (by decide), fun _ => ?_⟩; refine pm_wb_ok pb_c47 1 20 0 _ _ _ _ _ ?_; simp only [pm_WI0, pm_WI1, pm_WI2, pm_WI3, pm_WI4, pm_WI5, pm_WV, pm_WW, pm_WX, pb_B47, pm_if, pm_QI_at, pm_QL_at, pm_QV_at, pm_QR_at, pm_QR_at0, pm_QR_at1, Nat.reduceSub, Nat.reduceAdd, List.replicate_zero, List.replicate_succ, true_and, and_true, true_or, or_true, and_self, reduceIte, Nat.reduceEqDiff, Nat.reduceLT, Nat.reduceLeDiff, Nat.reduceMul, false_and, and_false, reduceCtorEq, false_or, or_false, not_true_eq_false, not_false_eq_true, true_implies, false_implies, implies_true, lf_10, eq_self, Int32.reduceLT, Int32.reduceLE, Int32.reduceAdd, Int32.reduceSub, Int32.reduceDiv, Int32.reduceMul, pm_same, pm_i_wI, pm_l_wL, pm_l_wM, pm_oR_rf, pm_oQ_rf, sh_k5 hS, nI_1, sw_e, LQ1, LQ2, LQ3]; exact fin)
  have hlt := gx_lt gx_b_eof y (by omega)
  have ew2 : gx_w (gx_b (pm_i S0 6) n) [32] x = (x + 1, some ()) := by simp only [gx_w]; rw [if_pos y]
  rw [gx_bd_some ew2] at eo
  have hr4 := hr.mv hd0 (q := x + 1) (by omega)
  rw [pm_wI_wI]
  have hS4 := hr4.sh hS0
  have rB4 : gx_b (pm_i (pm_wI S 5 2 (nI (x + 1))) 6) n = gx_b (pm_i S0 6) n := by rw [rd_B, rB]
  try (refine ⟨fun z => absurd z (by decide), fun _ => ?_⟩)
  try refine pm_wb_ok pb_c47 1 22 0 _ _ _ _ _ ?_
  try simp only [pm_WI0, pm_WI1, pm_WI2, pm_WI3, pm_WI4, pm_WI5, pm_WV, pm_WW, pm_WX, pb_B47, pm_if, pm_QI_at, pm_QL_at, pm_QV_at, pm_QR_at, pm_QR_at0, pm_QR_at1, Nat.reduceSub, Nat.reduceAdd, List.replicate_zero, List.replicate_succ, true_and, and_true, true_or, or_true, and_self, reduceIte, Nat.reduceEqDiff, Nat.reduceLT, Nat.reduceLeDiff, Nat.reduceMul, false_and, and_false, reduceCtorEq, false_or, or_false, not_true_eq_false, not_false_eq_true, true_implies, false_implies, implies_true, lf_10, eq_self, Int32.reduceLT, Int32.reduceLE, Int32.reduceAdd, Int32.reduceSub, Int32.reduceDiv, Int32.reduceMul, pm_same, pm_i_wI, pm_l_wL, pm_l_wM, pm_oR_rf, pm_oQ_rf, sh_k5 hS, nI_1, sw_e, LQ1, LQ2, LQ3]
  refine ⟨by omega, rd_48_04 (n := n) hS4 hr4.2.2.1 (fun z m ez f2 f3 f4 => ?_) (fun ez => ?_)⟩ <;> rw [rB4] at ez
  rotate_left
  · rw [gx_bd_none ez] at eo
    have fin := h0 _ _ eo hr4.q
    try simp only [pm_WV, pm_WW, true_and, and_true, true_or, or_true, and_self, reduceIte, Nat.reduceEqDiff, Nat.reduceLT, Nat.reduceLeDiff, Nat.reduceMul, false_and, and_false, reduceCtorEq, false_or, or_false, not_true_eq_false, not_false_eq_true, true_implies, false_implies, implies_true, lf_10, eq_self, Int32.reduceLT, Int32.reduceLE, Int32.reduceAdd, Int32.reduceSub, Int32.reduceDiv, Int32.reduceMul, pm_same, pm_i_wI, pm_l_wL, pm_l_wM, pm_oR_rf, pm_oQ_rf, sh_k5 hS, nI_1, sw_e, LQ1, LQ2, LQ3, pm_WI0, pm_WI1, pm_WI2, pm_WI3, pm_WI4, pm_WI5, pm_WV, pm_WW, pm_WX, pb_B47, pm_if, pm_QI_at, pm_QL_at, pm_QV_at, pm_QR_at, pm_QR_at0, pm_QR_at1, Nat.reduceSub, Nat.reduceAdd, List.replicate_zero, List.replicate_succ]
    first
      | exact fin
      | exact ⟨fun _ => fin, fun z => absurd (by decide) z⟩
      | exact ⟨fun z => absurd z (by decide), fun _ => fin⟩
      | (refine pm_wb_ok pb_c47 1 20 0 _ _ _ _ _ ?_; simp only [pm_WI0, pm_WI1, pm_WI2, pm_WI3, pm_WI4, pm_WI5, pm_WV, pm_WW, pm_WX, pb_B47, pm_if, pm_QI_at, pm_QL_at, pm_QV_at, pm_QR_at, pm_QR_at0, pm_QR_at1, Nat.reduceSub, Nat.reduceAdd, List.replicate_zero, List.replicate_succ, true_and, and_true, true_or, or_true, and_self, reduceIte, Nat.reduceEqDiff, Nat.reduceLT, Nat.reduceLeDiff, Nat.reduceMul, false_and, and_false, reduceCtorEq, false_or, or_false, not_true_eq_false, not_false_eq_true, true_implies, false_implies, implies_true, lf_10, eq_self, Int32.reduceLT, Int32.reduceLE, Int32.reduceAdd, Int32.reduceSub, Int32.reduceDiv, Int32.reduceMul, pm_same, pm_i_wI, pm_l_wL, pm_l_wM, pm_oR_rf, pm_oQ_rf, sh_k5 hS, nI_1, sw_e, LQ1, LQ2, LQ3]; exact fin)
      | (refine ⟨fun _ => ?_, fun z => absurd (by decide) z⟩; refine pm_wb_ok pb_c47 1 20 0 _ _ _ _ _ ?_; simp only [pm_WI0, pm_WI1, pm_WI2, pm_WI3, pm_WI4, pm_WI5, pm_WV, pm_WW, pm_WX, pb_B47, pm_if, pm_QI_at, pm_QL_at, pm_QV_at, pm_QR_at, pm_QR_at0, pm_QR_at1, Nat.reduceSub, Nat.reduceAdd, List.replicate_zero, List.replicate_succ, true_and, and_true, true_or, or_true, and_self, reduceIte, Nat.reduceEqDiff, Nat.reduceLT, Nat.reduceLeDiff, Nat.reduceMul, false_and, and_false, reduceCtorEq, false_or, or_false, not_true_eq_false, not_false_eq_true, true_implies, false_implies, implies_true, lf_10, eq_self, Int32.reduceLT, Int32.reduceLE, Int32.reduceAdd, Int32.reduceSub, Int32.reduceDiv, Int32.reduceMul, pm_same, pm_i_wI, pm_l_wL, pm_l_wM, pm_oR_rf, pm_oQ_rf, sh_k5 hS, nI_1, sw_e, LQ1, LQ2, LQ3]; exact fin)
      | (refine ⟨fun z => absurd z (by decide), fun _ => ?_⟩; refine pm_wb_ok pb_c47 1 20 0 _ _ _ _ _ ?_; simp only [pm_WI0, pm_WI1, pm_WI2, pm_WI3, pm_WI4, pm_WI5, pm_WV, pm_WW, pm_WX, pb_B47, pm_if, pm_QI_at, pm_QL_at, pm_QV_at, pm_QR_at, pm_QR_at0, pm_QR_at1, Nat.reduceSub, Nat.reduceAdd, List.replicate_zero, List.replicate_succ, true_and, and_true, true_or, or_true, and_self, reduceIte, Nat.reduceEqDiff, Nat.reduceLT, Nat.reduceLeDiff, Nat.reduceMul, false_and, and_false, reduceCtorEq, false_or, or_false, not_true_eq_false, not_false_eq_true, true_implies, false_implies, implies_true, lf_10, eq_self, Int32.reduceLT, Int32.reduceLE, Int32.reduceAdd, Int32.reduceSub, Int32.reduceDiv, Int32.reduceMul, pm_same, pm_i_wI, pm_l_wL, pm_l_wM, pm_oR_rf, pm_oQ_rf, sh_k5 hS, nI_1, sw_e, LQ1, LQ2, LQ3]; exact fin)
  rw [gx_bd_some ez] at eo
  rw [pm_wI_wI]
  have hr5' := hr.mv hd0 (q := z) f3
  have hS5 := hr5'.sh hS0
  obtain ⟨z1, z2, z3⟩ := hr5'.rowD hd0
  have hk5 : pm_k (pm_wI S 5 2 (nI z)) 5 = 6 := sh_k5 hS5
  have rB5 : gx_b (pm_i (pm_wI S 5 2 (nI z)) 6) n = gx_b (pm_i S0 6) n := by rw [rd_B, rB]
  have hm0 : ¬ nI m < 0 := nI_pos (by omega)
  have hm1 : (0 : Int32) ≤ nI m := nI_pos' (by omega)
  have h18 : pm_i (pm_wI S 5 2 (nI z)) D 18 = nI L.2.2.length := hr5'.2.2.2.2.1
  have h18s : pm_i S D 18 = nI L.2.2.length := hr.2.2.2.2.1
  try simp only [pm_WV, pm_WW, true_and, and_true, true_or, or_true, and_self, reduceIte, Nat.reduceEqDiff, Nat.reduceLT, Nat.reduceLeDiff, Nat.reduceMul, false_and, and_false, reduceCtorEq, false_or, or_false, not_true_eq_false, not_false_eq_true, true_implies, false_implies, implies_true, lf_10, eq_self, Int32.reduceLT, Int32.reduceLE, Int32.reduceAdd, Int32.reduceSub, Int32.reduceDiv, Int32.reduceMul, pm_same, pm_i_wI, pm_l_wL, pm_l_wM, pm_oR_rf, pm_oQ_rf, sh_k5 hS, nI_1, sw_e, LQ1, LQ2, LQ3, pm_WI0, pm_WI1, pm_WI2, pm_WI3, pm_WI4, pm_WI5, pm_WV, pm_WW, pm_WX, pb_B47, pm_if, pm_QI_at, pm_QL_at, pm_QV_at, pm_QR_at, pm_QR_at0, pm_QR_at1, Nat.reduceSub, Nat.reduceAdd, List.replicate_zero, List.replicate_succ, hm0, hm1]
  try refine pm_wb_ok pb_c47 6 35 0 _ _ _ _ _ ?_
  try simp only [pm_WI0, pm_WI1, pm_WI2, pm_WI3, pm_WI4, pm_WI5, pm_WV, pm_WW, pm_WX, pb_B47, pm_if, pm_QI_at, pm_QL_at, pm_QV_at, pm_QR_at, pm_QR_at0, pm_QR_at1, Nat.reduceSub, Nat.reduceAdd, List.replicate_zero, List.replicate_succ, true_and, and_true, true_or, or_true, and_self, reduceIte, Nat.reduceEqDiff, Nat.reduceLT, Nat.reduceLeDiff, Nat.reduceMul, false_and, and_false, reduceCtorEq, false_or, or_false, not_true_eq_false, not_false_eq_true, true_implies, false_implies, implies_true, lf_10, eq_self, Int32.reduceLT, Int32.reduceLE, Int32.reduceAdd, Int32.reduceSub, Int32.reduceDiv, Int32.reduceMul, pm_same, pm_i_wI, pm_l_wL, pm_l_wM, pm_oR_rf, pm_oQ_rf, sh_k5 hS, nI_1, sw_e, LQ1, LQ2, LQ3, z1, z2, hk5, h18, hr5, hkD, h18s]
  try simp only [z1, z2, hk5, h18, hr5, hkD, h18s, pm_WV, pm_WW, true_and, and_true, true_or, or_true, and_self, reduceIte, Nat.reduceEqDiff, Nat.reduceLT, Nat.reduceLeDiff, Nat.reduceMul, false_and, and_false, reduceCtorEq, false_or, or_false, not_true_eq_false, not_false_eq_true, true_implies, false_implies, implies_true, lf_10, eq_self, Int32.reduceLT, Int32.reduceLE, Int32.reduceAdd, Int32.reduceSub, Int32.reduceDiv, Int32.reduceMul, pm_same, pm_i_wI, pm_l_wL, pm_l_wM, pm_oR_rf, pm_oQ_rf, sh_k5 hS, nI_1, sw_e, LQ1, LQ2, LQ3, pm_WI0, pm_WI1, pm_WI2, pm_WI3, pm_WI4, pm_WI5, pm_WV, pm_WW, pm_WX, pb_B47, pm_if, pm_QI_at, pm_QL_at, pm_QV_at, pm_QR_at, pm_QR_at0, pm_QR_at1, Nat.reduceSub, Nat.reduceAdd, List.replicate_zero, List.replicate_succ]
  refine ⟨by omega, rd_46 (c := 32) (n := n) hS5 hr5'.2.2.1 (by omega) (fun y5 => ?_) (fun y5 => ?_)⟩ <;> rw [rB5] at y5
  rotate_left
  · have ek : go_k (gx_b (pm_i S0 6) n) L s m z = (z, some (L.1 ++ [(s, m, 0, L.2.2.length, L.2.2.length)], L.2.1, L.2.2)) := by unfold go_k; rw [if_neg y5]
    rw [ek] at eo
    try simp only [pm_WV, pm_WW, true_and, and_true, true_or, or_true, and_self, reduceIte, Nat.reduceEqDiff, Nat.reduceLT, Nat.reduceLeDiff, Nat.reduceMul, false_and, and_false, reduceCtorEq, false_or, or_false, not_true_eq_false, not_false_eq_true, true_implies, false_implies, implies_true, lf_10, eq_self, Int32.reduceLT, Int32.reduceLE, Int32.reduceAdd, Int32.reduceSub, Int32.reduceDiv, Int32.reduceMul, pm_same, pm_i_wI, pm_l_wL, pm_l_wM, pm_oR_rf, pm_oQ_rf, sh_k5 hS, nI_1, sw_e, LQ1, LQ2, LQ3, pm_WI0, pm_WI1, pm_WI2, pm_WI3, pm_WI4, pm_WI5, pm_WV, pm_WW, pm_WX, pb_B47, pm_if, pm_QI_at, pm_QL_at, pm_QV_at, pm_QR_at, pm_QR_at0, pm_QR_at1, Nat.reduceSub, Nat.reduceAdd, List.replicate_zero, List.replicate_succ]
    try (refine ⟨fun _ => ?_, fun z => absurd rfl z⟩)
    try refine pm_wb_ok pb_c47 1 99 0 _ _ _ _ _ ?_
    try simp only [pm_WI0, pm_WI1, pm_WI2, pm_WI3, pm_WI4, pm_WI5, pm_WV, pm_WW, pm_WX, pb_B47, pm_if, pm_QI_at, pm_QL_at, pm_QV_at, pm_QR_at, pm_QR_at0, pm_QR_at1, Nat.reduceSub, Nat.reduceAdd, List.replicate_zero, List.replicate_succ, true_and, and_true, true_or, or_true, and_self, reduceIte, Nat.reduceEqDiff, Nat.reduceLT, Nat.reduceLeDiff, Nat.reduceMul, false_and, and_false, reduceCtorEq, false_or, or_false, not_true_eq_false, not_false_eq_true, true_implies, false_implies, implies_true, lf_10, eq_self, Int32.reduceLT, Int32.reduceLE, Int32.reduceAdd, Int32.reduceSub, Int32.reduceDiv, Int32.reduceMul, pm_same, pm_i_wI, pm_l_wL, pm_l_wM, pm_oR_rf, pm_oQ_rf, sh_k5 hS, nI_1, sw_e, LQ1, LQ2, LQ3, z1, z2, hk5, hr5, hkD]
    try simp only [z1, z2, hk5, hr5, hkD, pm_WV, pm_WW, true_and, and_true, true_or, or_true, and_self, reduceIte, Nat.reduceEqDiff, Nat.reduceLT, Nat.reduceLeDiff, Nat.reduceMul, false_and, and_false, reduceCtorEq, false_or, or_false, not_true_eq_false, not_false_eq_true, true_implies, false_implies, implies_true, lf_10, eq_self, Int32.reduceLT, Int32.reduceLE, Int32.reduceAdd, Int32.reduceSub, Int32.reduceDiv, Int32.reduceMul, pm_same, pm_i_wI, pm_l_wL, pm_l_wM, pm_oR_rf, pm_oQ_rf, sh_k5 hS, nI_1, sw_e, LQ1, LQ2, LQ3, pm_WI0, pm_WI1, pm_WI2, pm_WI3, pm_WI4, pm_WI5, pm_WV, pm_WW, pm_WX, pb_B47, pm_if, pm_QI_at, pm_QL_at, pm_QV_at, pm_QR_at, pm_QR_at0, pm_QR_at1, Nat.reduceSub, Nat.reduceAdd, List.replicate_zero, List.replicate_succ]
    exact ⟨by omega, rd_39 (wn := 0) hd0 hr5' hc (fun S' hS' => h1 z _ S' eo hS')⟩
  have hlt5 := gx_lt gx_b_eof y5 (by omega)
  rw [pm_wI_wI]
  have hr6 := hr.mv hd0 (q := z + 1) (by omega)
  have hS6 := hr6.sh hS0
  have rB6 : gx_b (pm_i (pm_wI S 5 2 (nI (z + 1))) 6) n = gx_b (pm_i S0 6) n := by rw [rd_B, rB]
  have ek : go_k (gx_b (pm_i S0 6) n) L s m z = gx_bd (go_w (gx_b (pm_i S0 6) n) z) (fun _ r => gx_bd (gx_e (gx_b (pm_i S0 6) n) r) (fun e r => (r, some (L.1 ++ [(s, m, if gx_b (pm_i S0 6) n (z + 1) = 105 then 1 else 2, L.2.2.length, L.2.2.length + e.length)], L.2.1, L.2.2 ++ e)))) := by unfold go_k; rw [if_pos y5]
  rw [ek] at eo
  have tail : ∀ (wn x : Nat) (Q : Int32 → pm_S → Prop), x ≤ n → z + 1 ≤ x → go_w (gx_b (pm_i S0 6) n) z = (x, some ()) → wn = (if gx_b (pm_i S0 6) n (z + 1) = 105 then 1 else 2) → (∀ S', pm_k S' D = 5 → pm_k S' 5 = 6 → pm_r S' 5 3 = some D → pm_CV G (d - 1) 39 [.ref D, .int (nI s), .int (nI m), .int (nI wn), .int (nI L.2.2.length)] S' (fun S2 => q 1 S2) → Q 1 S') → (∀ S', q 0 S' → Q 0 S') → pm_CI G (d - 1) 49 [.ref 5, .int 0] (pm_wI S 5 2 (nI x)) Q := by
    intro wn x Q hx hzx egw hwn hy hn
    rw [gx_bd_some egw, ← hwn] at eo
    have hr7 := hr.mv hd0 (q := x) hx
    refine rd_e hS0 hd0 (by omega) hr7 (by omega) (fun x2 e S' he hS' => ?_) (fun x2 e S' he hS' hle => ?_)
    · rw [gx_bd_some he] at eo
      obtain ⟨w1, w2, w3⟩ := hS'.rowD hd0
      refine hy S' w2 (sh_k5 (hS'.sh hS0)) w1 (rd_39 hd0 hS' hc (fun S2 hS2 => h1 x2 _ S2 eo (hS2.L ?_)))
      simp
    · rw [gx_bd_none he] at eo
      exact hn S' (h0 x2 S' eo hS'.q)
  try simp only [pm_WV, pm_WW, true_and, and_true, true_or, or_true, and_self, reduceIte, Nat.reduceEqDiff, Nat.reduceLT, Nat.reduceLeDiff, Nat.reduceMul, false_and, and_false, reduceCtorEq, false_or, or_false, not_true_eq_false, not_false_eq_true, true_implies, false_implies, implies_true, lf_10, eq_self, Int32.reduceLT, Int32.reduceLE, Int32.reduceAdd, Int32.reduceSub, Int32.reduceDiv, Int32.reduceMul, pm_same, pm_i_wI, pm_l_wL, pm_l_wM, pm_oR_rf, pm_oQ_rf, sh_k5 hS, nI_1, sw_e, LQ1, LQ2, LQ3, pm_WI0, pm_WI1, pm_WI2, pm_WI3, pm_WI4, pm_WI5, pm_WV, pm_WW, pm_WX, pb_B47, pm_if, pm_QI_at, pm_QL_at, pm_QV_at, pm_QR_at, pm_QR_at0, pm_QR_at1, Nat.reduceSub, Nat.reduceAdd, List.replicate_zero, List.replicate_succ]
  try (refine ⟨fun z => absurd z (by decide), fun _ => ?_⟩)
  refine ⟨by omega, rd_44 hS6 hr6.2.2.1 ?_⟩
  rw [rB6]
  by_cases yi : gx_b (pm_i S0 6) n (z + 1) = 105
  · have es : sg (gx_b (pm_i S0 6) n (z + 1)) = 105 := by rw [yi]; rfl
    have hwb : wb 1 = [105, 102, 32] := by decide
    have egw : go_w (gx_b (pm_i S0 6) n) z = gx_w (gx_b (pm_i S0 6) n) [105, 102, 32] (z + 1) := by unfold go_w; rw [if_pos yi]
    try simp only [pm_WV, pm_WW, true_and, and_true, true_or, or_true, and_self, reduceIte, Nat.reduceEqDiff, Nat.reduceLT, Nat.reduceLeDiff, Nat.reduceMul, false_and, and_false, reduceCtorEq, false_or, or_false, not_true_eq_false, not_false_eq_true, true_implies, false_implies, implies_true, lf_10, eq_self, Int32.reduceLT, Int32.reduceLE, Int32.reduceAdd, Int32.reduceSub, Int32.reduceDiv, Int32.reduceMul, pm_same, pm_i_wI, pm_l_wL, pm_l_wM, pm_oR_rf, pm_oQ_rf, sh_k5 hS, nI_1, sw_e, LQ1, LQ2, LQ3, pm_WI0, pm_WI1, pm_WI2, pm_WI3, pm_WI4, pm_WI5, pm_WV, pm_WW, pm_WX, pb_B47, pm_if, pm_QI_at, pm_QL_at, pm_QV_at, pm_QR_at, pm_QR_at0, pm_QR_at1, Nat.reduceSub, Nat.reduceAdd, List.replicate_zero, List.replicate_succ, es]
    try (refine ⟨fun _ => ?_, fun z => absurd rfl z⟩)
    refine ⟨by omega, rd_45 (n := n) (i := 1) (p := z + 1) (by omega) hS6 hr6.2.2.1 (by omega) (fun x ex hx => ?_) (fun x ex hx => ?_)⟩ <;> rw [rB6, hwb] at ex <;> rw [pm_wI_wI]
    · have hzx := (gx_w_ok gx_b_eof (by omega) (by decide) ex).1
      try simp only [pm_WV, pm_WW, true_and, and_true, true_or, or_true, and_self, reduceIte, Nat.reduceEqDiff, Nat.reduceLT, Nat.reduceLeDiff, Nat.reduceMul, false_and, and_false, reduceCtorEq, false_or, or_false, not_true_eq_false, not_false_eq_true, true_implies, false_implies, implies_true, lf_10, eq_self, Int32.reduceLT, Int32.reduceLE, Int32.reduceAdd, Int32.reduceSub, Int32.reduceDiv, Int32.reduceMul, pm_same, pm_i_wI, pm_l_wL, pm_l_wM, pm_oR_rf, pm_oQ_rf, sh_k5 hS, nI_1, sw_e, LQ1, LQ2, LQ3, pm_WI0, pm_WI1, pm_WI2, pm_WI3, pm_WI4, pm_WI5, pm_WV, pm_WW, pm_WX, pb_B47, pm_if, pm_QI_at, pm_QL_at, pm_QV_at, pm_QR_at, pm_QR_at0, pm_QR_at1, Nat.reduceSub, Nat.reduceAdd, List.replicate_zero, List.replicate_succ]
      try (refine ⟨fun z => absurd z (by decide), fun _ => ?_⟩)
      refine ⟨by omega, tail 1 x _ hx hzx (by rw [egw, ex]) (by rw [if_pos yi]) (fun S' k1 k2 k3 w => ?_) (fun S' w => ?_)⟩
      · try simp only [pm_WV, pm_WW, true_and, and_true, true_or, or_true, and_self, reduceIte, Nat.reduceEqDiff, Nat.reduceLT, Nat.reduceLeDiff, Nat.reduceMul, false_and, and_false, reduceCtorEq, false_or, or_false, not_true_eq_false, not_false_eq_true, true_implies, false_implies, implies_true, lf_10, eq_self, Int32.reduceLT, Int32.reduceLE, Int32.reduceAdd, Int32.reduceSub, Int32.reduceDiv, Int32.reduceMul, pm_same, pm_i_wI, pm_l_wL, pm_l_wM, pm_oR_rf, pm_oQ_rf, sh_k5 hS, nI_1, sw_e, LQ1, LQ2, LQ3, pm_WI0, pm_WI1, pm_WI2, pm_WI3, pm_WI4, pm_WI5, pm_WV, pm_WW, pm_WX, pb_B47, pm_if, pm_QI_at, pm_QL_at, pm_QV_at, pm_QR_at, pm_QR_at0, pm_QR_at1, Nat.reduceSub, Nat.reduceAdd, List.replicate_zero, List.replicate_succ, k1, k2, k3]
        try (refine ⟨fun z => absurd z (by decide), fun _ => ?_⟩)
        try refine pm_wb_ok pb_c47 1 99 0 _ _ _ _ _ ?_
        try simp only [pm_WI0, pm_WI1, pm_WI2, pm_WI3, pm_WI4, pm_WI5, pm_WV, pm_WW, pm_WX, pb_B47, pm_if, pm_QI_at, pm_QL_at, pm_QV_at, pm_QR_at, pm_QR_at0, pm_QR_at1, Nat.reduceSub, Nat.reduceAdd, List.replicate_zero, List.replicate_succ, true_and, and_true, true_or, or_true, and_self, reduceIte, Nat.reduceEqDiff, Nat.reduceLT, Nat.reduceLeDiff, Nat.reduceMul, false_and, and_false, reduceCtorEq, false_or, or_false, not_true_eq_false, not_false_eq_true, true_implies, false_implies, implies_true, lf_10, eq_self, Int32.reduceLT, Int32.reduceLE, Int32.reduceAdd, Int32.reduceSub, Int32.reduceDiv, Int32.reduceMul, pm_same, pm_i_wI, pm_l_wL, pm_l_wM, pm_oR_rf, pm_oQ_rf, sh_k5 hS, nI_1, sw_e, LQ1, LQ2, LQ3, k1, k2, k3]
        exact ⟨by omega, w⟩
      · try simp only [pm_WV, pm_WW, true_and, and_true, true_or, or_true, and_self, reduceIte, Nat.reduceEqDiff, Nat.reduceLT, Nat.reduceLeDiff, Nat.reduceMul, false_and, and_false, reduceCtorEq, false_or, or_false, not_true_eq_false, not_false_eq_true, true_implies, false_implies, implies_true, lf_10, eq_self, Int32.reduceLT, Int32.reduceLE, Int32.reduceAdd, Int32.reduceSub, Int32.reduceDiv, Int32.reduceMul, pm_same, pm_i_wI, pm_l_wL, pm_l_wM, pm_oR_rf, pm_oQ_rf, sh_k5 hS, nI_1, sw_e, LQ1, LQ2, LQ3, pm_WI0, pm_WI1, pm_WI2, pm_WI3, pm_WI4, pm_WI5, pm_WV, pm_WW, pm_WX, pb_B47, pm_if, pm_QI_at, pm_QL_at, pm_QV_at, pm_QR_at, pm_QR_at0, pm_QR_at1, Nat.reduceSub, Nat.reduceAdd, List.replicate_zero, List.replicate_succ]
        first
          | exact w
          | exact ⟨fun _ => w, fun z => absurd (by decide) z⟩
          | exact ⟨fun z => absurd z (by decide), fun _ => w⟩
          | (refine pm_wb_ok pb_c47 1 97 0 _ _ _ _ _ ?_; simp only [pm_WI0, pm_WI1, pm_WI2, pm_WI3, pm_WI4, pm_WI5, pm_WV, pm_WW, pm_WX, pb_B47, pm_if, pm_QI_at, pm_QL_at, pm_QV_at, pm_QR_at, pm_QR_at0, pm_QR_at1, Nat.reduceSub, Nat.reduceAdd, List.replicate_zero, List.replicate_succ, true_and, and_true, true_or, or_true, and_self, reduceIte, Nat.reduceEqDiff, Nat.reduceLT, Nat.reduceLeDiff, Nat.reduceMul, false_and, and_false, reduceCtorEq, false_or, or_false, not_true_eq_false, not_false_eq_true, true_implies, false_implies, implies_true, lf_10, eq_self, Int32.reduceLT, Int32.reduceLE, Int32.reduceAdd, Int32.reduceSub, Int32.reduceDiv, Int32.reduceMul, pm_same, pm_i_wI, pm_l_wL, pm_l_wM, pm_oR_rf, pm_oQ_rf, sh_k5 hS, nI_1, sw_e, LQ1, LQ2, LQ3]; exact w)
          | (refine ⟨fun _ => ?_, fun z => absurd (by decide) z⟩; refine pm_wb_ok pb_c47 1 97 0 _ _ _ _ _ ?_; simp only [pm_WI0, pm_WI1, pm_WI2, pm_WI3, pm_WI4, pm_WI5, pm_WV, pm_WW, pm_WX, pb_B47, pm_if, pm_QI_at, pm_QL_at, pm_QV_at, pm_QR_at, pm_QR_at0, pm_QR_at1, Nat.reduceSub, Nat.reduceAdd, List.replicate_zero, List.replicate_succ, true_and, and_true, true_or, or_true, and_self, reduceIte, Nat.reduceEqDiff, Nat.reduceLT, Nat.reduceLeDiff, Nat.reduceMul, false_and, and_false, reduceCtorEq, false_or, or_false, not_true_eq_false, not_false_eq_true, true_implies, false_implies, implies_true, lf_10, eq_self, Int32.reduceLT, Int32.reduceLE, Int32.reduceAdd, Int32.reduceSub, Int32.reduceDiv, Int32.reduceMul, pm_same, pm_i_wI, pm_l_wL, pm_l_wM, pm_oR_rf, pm_oQ_rf, sh_k5 hS, nI_1, sw_e, LQ1, LQ2, LQ3]; exact w)
          | (refine ⟨fun z => absurd z (by decide), fun _ => ?_⟩; refine pm_wb_ok pb_c47 1 97 0 _ _ _ _ _ ?_; simp only [pm_WI0, pm_WI1, pm_WI2, pm_WI3, pm_WI4, pm_WI5, pm_WV, pm_WW, pm_WX, pb_B47, pm_if, pm_QI_at, pm_QL_at, pm_QV_at, pm_QR_at, pm_QR_at0, pm_QR_at1, Nat.reduceSub, Nat.reduceAdd, List.replicate_zero, List.replicate_succ, true_and, and_true, true_or, or_true, and_self, reduceIte, Nat.reduceEqDiff, Nat.reduceLT, Nat.reduceLeDiff, Nat.reduceMul, false_and, and_false, reduceCtorEq, false_or, or_false, not_true_eq_false, not_false_eq_true, true_implies, false_implies, implies_true, lf_10, eq_self, Int32.reduceLT, Int32.reduceLE, Int32.reduceAdd, Int32.reduceSub, Int32.reduceDiv, Int32.reduceMul, pm_same, pm_i_wI, pm_l_wL, pm_l_wM, pm_oR_rf, pm_oQ_rf, sh_k5 hS, nI_1, sw_e, LQ1, LQ2, LQ3]; exact w)
    · have fin := h0 x _ (by rw [eo, gx_bd_none (by rw [egw, ex])]) (hr.mv hd0 hx).q
      try simp only [pm_WV, pm_WW, true_and, and_true, true_or, or_true, and_self, reduceIte, Nat.reduceEqDiff, Nat.reduceLT, Nat.reduceLeDiff, Nat.reduceMul, false_and, and_false, reduceCtorEq, false_or, or_false, not_true_eq_false, not_false_eq_true, true_implies, false_implies, implies_true, lf_10, eq_self, Int32.reduceLT, Int32.reduceLE, Int32.reduceAdd, Int32.reduceSub, Int32.reduceDiv, Int32.reduceMul, pm_same, pm_i_wI, pm_l_wL, pm_l_wM, pm_oR_rf, pm_oQ_rf, sh_k5 hS, nI_1, sw_e, LQ1, LQ2, LQ3, pm_WI0, pm_WI1, pm_WI2, pm_WI3, pm_WI4, pm_WI5, pm_WV, pm_WW, pm_WX, pb_B47, pm_if, pm_QI_at, pm_QL_at, pm_QV_at, pm_QR_at, pm_QR_at0, pm_QR_at1, Nat.reduceSub, Nat.reduceAdd, List.replicate_zero, List.replicate_succ]
      first
        | exact fin
        | exact ⟨fun _ => fin, fun z => absurd (by decide) z⟩
        | exact ⟨fun z => absurd z (by decide), fun _ => fin⟩
        | (refine pm_wb_ok pb_c47 1 97 0 _ _ _ _ _ ?_; simp only [pm_WI0, pm_WI1, pm_WI2, pm_WI3, pm_WI4, pm_WI5, pm_WV, pm_WW, pm_WX, pb_B47, pm_if, pm_QI_at, pm_QL_at, pm_QV_at, pm_QR_at, pm_QR_at0, pm_QR_at1, Nat.reduceSub, Nat.reduceAdd, List.replicate_zero, List.replicate_succ, true_and, and_true, true_or, or_true, and_self, reduceIte, Nat.reduceEqDiff, Nat.reduceLT, Nat.reduceLeDiff, Nat.reduceMul, false_and, and_false, reduceCtorEq, false_or, or_false, not_true_eq_false, not_false_eq_true, true_implies, false_implies, implies_true, lf_10, eq_self, Int32.reduceLT, Int32.reduceLE, Int32.reduceAdd, Int32.reduceSub, Int32.reduceDiv, Int32.reduceMul, pm_same, pm_i_wI, pm_l_wL, pm_l_wM, pm_oR_rf, pm_oQ_rf, sh_k5 hS, nI_1, sw_e, LQ1, LQ2, LQ3]; exact fin)
        | (refine ⟨fun _ => ?_, fun z => absurd (by decide) z⟩; refine pm_wb_ok pb_c47 1 97 0 _ _ _ _ _ ?_; simp only [pm_WI0, pm_WI1, pm_WI2, pm_WI3, pm_WI4, pm_WI5, pm_WV, pm_WW, pm_WX, pb_B47, pm_if, pm_QI_at, pm_QL_at, pm_QV_at, pm_QR_at, pm_QR_at0, pm_QR_at1, Nat.reduceSub, Nat.reduceAdd, List.replicate_zero, List.replicate_succ, true_and, and_true, true_or, or_true, and_self, reduceIte, Nat.reduceEqDiff, Nat.reduceLT, Nat.reduceLeDiff, Nat.reduceMul, false_and, and_false, reduceCtorEq, false_or, or_false, not_true_eq_false, not_false_eq_true, true_implies, false_implies, implies_true, lf_10, eq_self, Int32.reduceLT, Int32.reduceLE, Int32.reduceAdd, Int32.reduceSub, Int32.reduceDiv, Int32.reduceMul, pm_same, pm_i_wI, pm_l_wL, pm_l_wM, pm_oR_rf, pm_oQ_rf, sh_k5 hS, nI_1, sw_e, LQ1, LQ2, LQ3]; exact fin)
        | (refine ⟨fun z => absurd z (by decide), fun _ => ?_⟩; refine pm_wb_ok pb_c47 1 97 0 _ _ _ _ _ ?_; simp only [pm_WI0, pm_WI1, pm_WI2, pm_WI3, pm_WI4, pm_WI5, pm_WV, pm_WW, pm_WX, pb_B47, pm_if, pm_QI_at, pm_QL_at, pm_QV_at, pm_QR_at, pm_QR_at0, pm_QR_at1, Nat.reduceSub, Nat.reduceAdd, List.replicate_zero, List.replicate_succ, true_and, and_true, true_or, or_true, and_self, reduceIte, Nat.reduceEqDiff, Nat.reduceLT, Nat.reduceLeDiff, Nat.reduceMul, false_and, and_false, reduceCtorEq, false_or, or_false, not_true_eq_false, not_false_eq_true, true_implies, false_implies, implies_true, lf_10, eq_self, Int32.reduceLT, Int32.reduceLE, Int32.reduceAdd, Int32.reduceSub, Int32.reduceDiv, Int32.reduceMul, pm_same, pm_i_wI, pm_l_wL, pm_l_wM, pm_oR_rf, pm_oQ_rf, sh_k5 hS, nI_1, sw_e, LQ1, LQ2, LQ3]; exact fin)
  · have es : ¬ sg (gx_b (pm_i S0 6) n (z + 1)) = 105 := fun e => yi ((sg_is (gx_b_le hr6.2.2.1 (z + 1) |> fun h => by rw [rB6] at h; exact h) (by omega)).mp e)
    have hwb : wb 2 = [117, 110, 108, 101, 115, 115, 32] := by decide
    have egw : go_w (gx_b (pm_i S0 6) n) z = gx_w (gx_b (pm_i S0 6) n) [117, 110, 108, 101, 115, 115, 32] (z + 1) := by unfold go_w; rw [if_neg yi]
    try simp only [pm_WV, pm_WW, true_and, and_true, true_or, or_true, and_self, reduceIte, Nat.reduceEqDiff, Nat.reduceLT, Nat.reduceLeDiff, Nat.reduceMul, false_and, and_false, reduceCtorEq, false_or, or_false, not_true_eq_false, not_false_eq_true, true_implies, false_implies, implies_true, lf_10, eq_self, Int32.reduceLT, Int32.reduceLE, Int32.reduceAdd, Int32.reduceSub, Int32.reduceDiv, Int32.reduceMul, pm_same, pm_i_wI, pm_l_wL, pm_l_wM, pm_oR_rf, pm_oQ_rf, sh_k5 hS, nI_1, sw_e, LQ1, LQ2, LQ3, pm_WI0, pm_WI1, pm_WI2, pm_WI3, pm_WI4, pm_WI5, pm_WV, pm_WW, pm_WX, pb_B47, pm_if, pm_QI_at, pm_QL_at, pm_QV_at, pm_QR_at, pm_QR_at0, pm_QR_at1, Nat.reduceSub, Nat.reduceAdd, List.replicate_zero, List.replicate_succ, es]
    try (refine ⟨fun _ => ?_, fun z => absurd rfl z⟩)
    refine ⟨by omega, rd_45 (n := n) (i := 2) (p := z + 1) (by omega) hS6 hr6.2.2.1 (by omega) (fun x ex hx => ?_) (fun x ex hx => ?_)⟩ <;> rw [rB6, hwb] at ex <;> rw [pm_wI_wI]
    · have hzx := (gx_w_ok gx_b_eof (by omega) (by decide) ex).1
      try simp only [pm_WV, pm_WW, true_and, and_true, true_or, or_true, and_self, reduceIte, Nat.reduceEqDiff, Nat.reduceLT, Nat.reduceLeDiff, Nat.reduceMul, false_and, and_false, reduceCtorEq, false_or, or_false, not_true_eq_false, not_false_eq_true, true_implies, false_implies, implies_true, lf_10, eq_self, Int32.reduceLT, Int32.reduceLE, Int32.reduceAdd, Int32.reduceSub, Int32.reduceDiv, Int32.reduceMul, pm_same, pm_i_wI, pm_l_wL, pm_l_wM, pm_oR_rf, pm_oQ_rf, sh_k5 hS, nI_1, sw_e, LQ1, LQ2, LQ3, pm_WI0, pm_WI1, pm_WI2, pm_WI3, pm_WI4, pm_WI5, pm_WV, pm_WW, pm_WX, pb_B47, pm_if, pm_QI_at, pm_QL_at, pm_QV_at, pm_QR_at, pm_QR_at0, pm_QR_at1, Nat.reduceSub, Nat.reduceAdd, List.replicate_zero, List.replicate_succ]
      try (refine ⟨fun z => absurd z (by decide), fun _ => ?_⟩)
      refine ⟨by omega, tail 2 x _ hx hzx (by rw [egw, ex]) (by rw [if_neg yi]) (fun S' k1 k2 k3 w => ?_) (fun S' w => ?_)⟩
      · try simp only [pm_WV, pm_WW, true_and, and_true, true_or, or_true, and_self, reduceIte, Nat.reduceEqDiff, Nat.reduceLT, Nat.reduceLeDiff, Nat.reduceMul, false_and, and_false, reduceCtorEq, false_or, or_false, not_true_eq_false, not_false_eq_true, true_implies, false_implies, implies_true, lf_10, eq_self, Int32.reduceLT, Int32.reduceLE, Int32.reduceAdd, Int32.reduceSub, Int32.reduceDiv, Int32.reduceMul, pm_same, pm_i_wI, pm_l_wL, pm_l_wM, pm_oR_rf, pm_oQ_rf, sh_k5 hS, nI_1, sw_e, LQ1, LQ2, LQ3, pm_WI0, pm_WI1, pm_WI2, pm_WI3, pm_WI4, pm_WI5, pm_WV, pm_WW, pm_WX, pb_B47, pm_if, pm_QI_at, pm_QL_at, pm_QV_at, pm_QR_at, pm_QR_at0, pm_QR_at1, Nat.reduceSub, Nat.reduceAdd, List.replicate_zero, List.replicate_succ, k1, k2, k3]
        try (refine ⟨fun z => absurd z (by decide), fun _ => ?_⟩)
        try refine pm_wb_ok pb_c47 1 99 0 _ _ _ _ _ ?_
        try simp only [pm_WI0, pm_WI1, pm_WI2, pm_WI3, pm_WI4, pm_WI5, pm_WV, pm_WW, pm_WX, pb_B47, pm_if, pm_QI_at, pm_QL_at, pm_QV_at, pm_QR_at, pm_QR_at0, pm_QR_at1, Nat.reduceSub, Nat.reduceAdd, List.replicate_zero, List.replicate_succ, true_and, and_true, true_or, or_true, and_self, reduceIte, Nat.reduceEqDiff, Nat.reduceLT, Nat.reduceLeDiff, Nat.reduceMul, false_and, and_false, reduceCtorEq, false_or, or_false, not_true_eq_false, not_false_eq_true, true_implies, false_implies, implies_true, lf_10, eq_self, Int32.reduceLT, Int32.reduceLE, Int32.reduceAdd, Int32.reduceSub, Int32.reduceDiv, Int32.reduceMul, pm_same, pm_i_wI, pm_l_wL, pm_l_wM, pm_oR_rf, pm_oQ_rf, sh_k5 hS, nI_1, sw_e, LQ1, LQ2, LQ3, k1, k2, k3]
        exact ⟨by omega, w⟩
      · try simp only [pm_WV, pm_WW, true_and, and_true, true_or, or_true, and_self, reduceIte, Nat.reduceEqDiff, Nat.reduceLT, Nat.reduceLeDiff, Nat.reduceMul, false_and, and_false, reduceCtorEq, false_or, or_false, not_true_eq_false, not_false_eq_true, true_implies, false_implies, implies_true, lf_10, eq_self, Int32.reduceLT, Int32.reduceLE, Int32.reduceAdd, Int32.reduceSub, Int32.reduceDiv, Int32.reduceMul, pm_same, pm_i_wI, pm_l_wL, pm_l_wM, pm_oR_rf, pm_oQ_rf, sh_k5 hS, nI_1, sw_e, LQ1, LQ2, LQ3, pm_WI0, pm_WI1, pm_WI2, pm_WI3, pm_WI4, pm_WI5, pm_WV, pm_WW, pm_WX, pb_B47, pm_if, pm_QI_at, pm_QL_at, pm_QV_at, pm_QR_at, pm_QR_at0, pm_QR_at1, Nat.reduceSub, Nat.reduceAdd, List.replicate_zero, List.replicate_succ]
        first
          | exact w
          | exact ⟨fun _ => w, fun z => absurd (by decide) z⟩
          | exact ⟨fun z => absurd z (by decide), fun _ => w⟩
          | (refine pm_wb_ok pb_c47 1 97 0 _ _ _ _ _ ?_; simp only [pm_WI0, pm_WI1, pm_WI2, pm_WI3, pm_WI4, pm_WI5, pm_WV, pm_WW, pm_WX, pb_B47, pm_if, pm_QI_at, pm_QL_at, pm_QV_at, pm_QR_at, pm_QR_at0, pm_QR_at1, Nat.reduceSub, Nat.reduceAdd, List.replicate_zero, List.replicate_succ, true_and, and_true, true_or, or_true, and_self, reduceIte, Nat.reduceEqDiff, Nat.reduceLT, Nat.reduceLeDiff, Nat.reduceMul, false_and, and_false, reduceCtorEq, false_or, or_false, not_true_eq_false, not_false_eq_true, true_implies, false_implies, implies_true, lf_10, eq_self, Int32.reduceLT, Int32.reduceLE, Int32.reduceAdd, Int32.reduceSub, Int32.reduceDiv, Int32.reduceMul, pm_same, pm_i_wI, pm_l_wL, pm_l_wM, pm_oR_rf, pm_oQ_rf, sh_k5 hS, nI_1, sw_e, LQ1, LQ2, LQ3]; exact w)
          | (refine ⟨fun _ => ?_, fun z => absurd (by decide) z⟩; refine pm_wb_ok pb_c47 1 97 0 _ _ _ _ _ ?_; simp only [pm_WI0, pm_WI1, pm_WI2, pm_WI3, pm_WI4, pm_WI5, pm_WV, pm_WW, pm_WX, pb_B47, pm_if, pm_QI_at, pm_QL_at, pm_QV_at, pm_QR_at, pm_QR_at0, pm_QR_at1, Nat.reduceSub, Nat.reduceAdd, List.replicate_zero, List.replicate_succ, true_and, and_true, true_or, or_true, and_self, reduceIte, Nat.reduceEqDiff, Nat.reduceLT, Nat.reduceLeDiff, Nat.reduceMul, false_and, and_false, reduceCtorEq, false_or, or_false, not_true_eq_false, not_false_eq_true, true_implies, false_implies, implies_true, lf_10, eq_self, Int32.reduceLT, Int32.reduceLE, Int32.reduceAdd, Int32.reduceSub, Int32.reduceDiv, Int32.reduceMul, pm_same, pm_i_wI, pm_l_wL, pm_l_wM, pm_oR_rf, pm_oQ_rf, sh_k5 hS, nI_1, sw_e, LQ1, LQ2, LQ3]; exact w)
          | (refine ⟨fun z => absurd z (by decide), fun _ => ?_⟩; refine pm_wb_ok pb_c47 1 97 0 _ _ _ _ _ ?_; simp only [pm_WI0, pm_WI1, pm_WI2, pm_WI3, pm_WI4, pm_WI5, pm_WV, pm_WW, pm_WX, pb_B47, pm_if, pm_QI_at, pm_QL_at, pm_QV_at, pm_QR_at, pm_QR_at0, pm_QR_at1, Nat.reduceSub, Nat.reduceAdd, List.replicate_zero, List.replicate_succ, true_and, and_true, true_or, or_true, and_self, reduceIte, Nat.reduceEqDiff, Nat.reduceLT, Nat.reduceLeDiff, Nat.reduceMul, false_and, and_false, reduceCtorEq, false_or, or_false, not_true_eq_false, not_false_eq_true, true_implies, false_implies, implies_true, lf_10, eq_self, Int32.reduceLT, Int32.reduceLE, Int32.reduceAdd, Int32.reduceSub, Int32.reduceDiv, Int32.reduceMul, pm_same, pm_i_wI, pm_l_wL, pm_l_wM, pm_oR_rf, pm_oQ_rf, sh_k5 hS, nI_1, sw_e, LQ1, LQ2, LQ3]; exact w)
    · have fin := h0 x _ (by rw [eo, gx_bd_none (by rw [egw, ex])]) (hr.mv hd0 hx).q
      try simp only [pm_WV, pm_WW, true_and, and_true, true_or, or_true, and_self, reduceIte, Nat.reduceEqDiff, Nat.reduceLT, Nat.reduceLeDiff, Nat.reduceMul, false_and, and_false, reduceCtorEq, false_or, or_false, not_true_eq_false, not_false_eq_true, true_implies, false_implies, implies_true, lf_10, eq_self, Int32.reduceLT, Int32.reduceLE, Int32.reduceAdd, Int32.reduceSub, Int32.reduceDiv, Int32.reduceMul, pm_same, pm_i_wI, pm_l_wL, pm_l_wM, pm_oR_rf, pm_oQ_rf, sh_k5 hS, nI_1, sw_e, LQ1, LQ2, LQ3, pm_WI0, pm_WI1, pm_WI2, pm_WI3, pm_WI4, pm_WI5, pm_WV, pm_WW, pm_WX, pb_B47, pm_if, pm_QI_at, pm_QL_at, pm_QV_at, pm_QR_at, pm_QR_at0, pm_QR_at1, Nat.reduceSub, Nat.reduceAdd, List.replicate_zero, List.replicate_succ]
      first
        | exact fin
        | exact ⟨fun _ => fin, fun z => absurd (by decide) z⟩
        | exact ⟨fun z => absurd z (by decide), fun _ => fin⟩
        | (refine pm_wb_ok pb_c47 1 97 0 _ _ _ _ _ ?_; simp only [pm_WI0, pm_WI1, pm_WI2, pm_WI3, pm_WI4, pm_WI5, pm_WV, pm_WW, pm_WX, pb_B47, pm_if, pm_QI_at, pm_QL_at, pm_QV_at, pm_QR_at, pm_QR_at0, pm_QR_at1, Nat.reduceSub, Nat.reduceAdd, List.replicate_zero, List.replicate_succ, true_and, and_true, true_or, or_true, and_self, reduceIte, Nat.reduceEqDiff, Nat.reduceLT, Nat.reduceLeDiff, Nat.reduceMul, false_and, and_false, reduceCtorEq, false_or, or_false, not_true_eq_false, not_false_eq_true, true_implies, false_implies, implies_true, lf_10, eq_self, Int32.reduceLT, Int32.reduceLE, Int32.reduceAdd, Int32.reduceSub, Int32.reduceDiv, Int32.reduceMul, pm_same, pm_i_wI, pm_l_wL, pm_l_wM, pm_oR_rf, pm_oQ_rf, sh_k5 hS, nI_1, sw_e, LQ1, LQ2, LQ3]; exact fin)
        | (refine ⟨fun _ => ?_, fun z => absurd (by decide) z⟩; refine pm_wb_ok pb_c47 1 97 0 _ _ _ _ _ ?_; simp only [pm_WI0, pm_WI1, pm_WI2, pm_WI3, pm_WI4, pm_WI5, pm_WV, pm_WW, pm_WX, pb_B47, pm_if, pm_QI_at, pm_QL_at, pm_QV_at, pm_QR_at, pm_QR_at0, pm_QR_at1, Nat.reduceSub, Nat.reduceAdd, List.replicate_zero, List.replicate_succ, true_and, and_true, true_or, or_true, and_self, reduceIte, Nat.reduceEqDiff, Nat.reduceLT, Nat.reduceLeDiff, Nat.reduceMul, false_and, and_false, reduceCtorEq, false_or, or_false, not_true_eq_false, not_false_eq_true, true_implies, false_implies, implies_true, lf_10, eq_self, Int32.reduceLT, Int32.reduceLE, Int32.reduceAdd, Int32.reduceSub, Int32.reduceDiv, Int32.reduceMul, pm_same, pm_i_wI, pm_l_wL, pm_l_wM, pm_oR_rf, pm_oQ_rf, sh_k5 hS, nI_1, sw_e, LQ1, LQ2, LQ3]; exact fin)
        | (refine ⟨fun z => absurd z (by decide), fun _ => ?_⟩; refine pm_wb_ok pb_c47 1 97 0 _ _ _ _ _ ?_; simp only [pm_WI0, pm_WI1, pm_WI2, pm_WI3, pm_WI4, pm_WI5, pm_WV, pm_WW, pm_WX, pb_B47, pm_if, pm_QI_at, pm_QL_at, pm_QV_at, pm_QR_at, pm_QR_at0, pm_QR_at1, Nat.reduceSub, Nat.reduceAdd, List.replicate_zero, List.replicate_succ, true_and, and_true, true_or, or_true, and_self, reduceIte, Nat.reduceEqDiff, Nat.reduceLT, Nat.reduceLeDiff, Nat.reduceMul, false_and, and_false, reduceCtorEq, false_or, or_false, not_true_eq_false, not_false_eq_true, true_implies, false_implies, implies_true, lf_10, eq_self, Int32.reduceLT, Int32.reduceLE, Int32.reduceAdd, Int32.reduceSub, Int32.reduceDiv, Int32.reduceMul, pm_same, pm_i_wI, pm_l_wL, pm_l_wM, pm_oR_rf, pm_oQ_rf, sh_k5 hS, nI_1, sw_e, LQ1, LQ2, LQ3]; exact fin)
theorem rd_54 (hS0 : Sh S0) (hd0 : dl S0 D W) {d : Nat} (hd : 21 ≤ d) {S : pm_S} {p : Nat} {L : gx_L} {q : Int32 → pm_S → Prop} (hr : rs S0 D W n S p L) (hl : L.2.2.length ≤ p) (y : gx_b (pm_i S0 6) n p = 114) (h1 : ∀ x L' S', gx_clause (gx_b (pm_i S0 6) n) L p = (x, some L') → rs S0 D W n S' x L' → q 1 S') (h0 : ∀ x S', gx_clause (gx_b (pm_i S0 6) n) L p = (x, none) → rq S0 D W n S' x → q 0 S') : pm_CI G d 54 [.ref 5] S q := by
  have hS := hr.sh hS0
  have hdl := hr.todl hd0
  have ht := hr.text hd0
  have hr3 := hr.2.2.1
  have hn := hr3.2.2.2.1
  have hpn := hr3.2.2.1
  have hr5 : pm_r S 5 3 = some D := hdl.1
  have hkD : pm_k S D = 5 := hdl.2.1
  have rB : gx_b (pm_i S 6) n = gx_b (pm_i S0 6) n := by rw [ht]
  have hlt : p < n := gx_lt gx_b_eof y (by omega)
  have hr2 := hr.mv hd0 (q := p + 1) (by omega)
  have hS2 := hr2.sh hS0
  have rB2 : gx_b (pm_i (pm_wI S 5 2 (nI (p + 1))) 6) n = gx_b (pm_i S0 6) n := by rw [rd_B, rB]
  obtain ⟨z1, z2, z3⟩ := hr2.rowD hd0
  have hk5 : pm_k (pm_wI S 5 2 (nI (p + 1))) 5 = 6 := sh_k5 hS2
  have h18 : pm_i (pm_wI S 5 2 (nI (p + 1))) D 18 = nI L.2.2.length := hr2.2.2.2.2.1
  have h18s : pm_i S D 18 = nI L.2.2.length := hr.2.2.2.2.1
  refine pm_goI 54 1 pb_c54 (by decide) (Nat.le_of_ble_eq_true rfl) rfl ?_
  try simp only [show pm_mL 54 = 1 from rfl, pm_WI0, pm_WI1, pm_WI2, pm_WI3, pm_WI4, pm_WI5, pm_WV, pm_WW, pm_WX, pb_B54, pm_if, pm_QI_at, pm_QL_at, pm_QV_at, pm_QR_at, pm_QR_at0, pm_QR_at1, Nat.reduceSub, Nat.reduceAdd, List.replicate_zero, List.replicate_succ, true_and, and_true, true_or, or_true, and_self, reduceIte, Nat.reduceEqDiff, Nat.reduceLT, Nat.reduceLeDiff, Nat.reduceMul, false_and, and_false, reduceCtorEq, false_or, or_false, not_true_eq_false, not_false_eq_true, true_implies, false_implies, implies_true, lf_10, eq_self, Int32.reduceLT, Int32.reduceLE, Int32.reduceAdd, Int32.reduceSub, Int32.reduceDiv, Int32.reduceMul, pm_same, pm_i_wI, pm_l_wL, pm_l_wM, pm_oR_rf, pm_oQ_rf, sh_k5 hS, nI_1, sw_e, LQ1, LQ2, LQ3]
  refine ⟨by omega, rd_46 (c := 114) (n := n) hS hr3 (by omega) (fun y2 => ?_) (fun y2 => ?_)⟩ <;> rw [rB] at y2
  rotate_left
  · exact absurd y y2
  refine ⟨fun z => absurd z (by decide), fun _ => ?_⟩
  refine pm_wb_ok pb_c54 4 11 0 _ _ _ _ _ ?_
  try simp only [pm_WI0, pm_WI1, pm_WI2, pm_WI3, pm_WI4, pm_WI5, pm_WV, pm_WW, pm_WX, pb_B54, pm_if, pm_QI_at, pm_QL_at, pm_QV_at, pm_QR_at, pm_QR_at0, pm_QR_at1, Nat.reduceSub, Nat.reduceAdd, List.replicate_zero, List.replicate_succ, true_and, and_true, true_or, or_true, and_self, reduceIte, Nat.reduceEqDiff, Nat.reduceLT, Nat.reduceLeDiff, Nat.reduceMul, false_and, and_false, reduceCtorEq, false_or, or_false, not_true_eq_false, not_false_eq_true, true_implies, false_implies, implies_true, lf_10, eq_self, Int32.reduceLT, Int32.reduceLE, Int32.reduceAdd, Int32.reduceSub, Int32.reduceDiv, Int32.reduceMul, pm_same, pm_i_wI, pm_l_wL, pm_l_wM, pm_oR_rf, pm_oQ_rf, sh_k5 hS, nI_1, sw_e, LQ1, LQ2, LQ3, hk5, z1, z2, h18, hr5, hkD, h18s]
  refine ⟨by omega, rd_44 hS2 hr2.2.2.1 ?_⟩
  rw [rB2]
  by_cases ya : gx_b (pm_i S0 6) n (p + 1) = 97
  · have es : sg (gx_b (pm_i S0 6) n (p + 1)) = 97 := by rw [ya]; rfl
    have ec : gx_clause (gx_b (pm_i S0 6) n) L p = gx_one (gx_b (pm_i S0 6) n) L 15 [97, 116, 101, 32] (p + 1) := by
      unfold gx_clause; rw [if_neg (by omega), if_pos y, if_pos ya]
    rw [gx_one_eq] at ec
    have hwb : wb 3 = [97, 116, 101, 32] := by decide
    rw [es]
    try simp only [pm_WV, pm_WW, true_and, and_true, true_or, or_true, and_self, reduceIte, Nat.reduceEqDiff, Nat.reduceLT, Nat.reduceLeDiff, Nat.reduceMul, false_and, and_false, reduceCtorEq, false_or, or_false, not_true_eq_false, not_false_eq_true, true_implies, false_implies, implies_true, lf_10, eq_self, Int32.reduceLT, Int32.reduceLE, Int32.reduceAdd, Int32.reduceSub, Int32.reduceDiv, Int32.reduceMul, pm_same, pm_i_wI, pm_l_wL, pm_l_wM, pm_oR_rf, pm_oQ_rf, sh_k5 hS, nI_1, sw_e, LQ1, LQ2, LQ3, pm_WI0, pm_WI1, pm_WI2, pm_WI3, pm_WI4, pm_WI5, pm_WV, pm_WW, pm_WX, pb_B54, pm_if, pm_QI_at, pm_QL_at, pm_QV_at, pm_QR_at, pm_QR_at0, pm_QR_at1, Nat.reduceSub, Nat.reduceAdd, List.replicate_zero, List.replicate_succ, hk5, z1, z2, hr5, hkD, h18s]
    refine ⟨by omega, rd_55 (i := 3) hS0 hd0 (by omega) (by omega) hr2 (fun x v S' e hv hS' => ?_) (fun x S' e hS' => ?_)⟩ <;> rw [hwb] at e
    · obtain ⟨w1, w2, w3⟩ := hS'.rowD hd0
      have hge : ¬ nI v < 0 := nI_pos (by omega)
      have hk5' : pm_k S' 5 = 6 := sh_k5 (hS'.sh hS0)
      try simp only [pm_WV, pm_WW, true_and, and_true, true_or, or_true, and_self, reduceIte, Nat.reduceEqDiff, Nat.reduceLT, Nat.reduceLeDiff, Nat.reduceMul, false_and, and_false, reduceCtorEq, false_or, or_false, not_true_eq_false, not_false_eq_true, true_implies, false_implies, implies_true, lf_10, eq_self, Int32.reduceLT, Int32.reduceLE, Int32.reduceAdd, Int32.reduceSub, Int32.reduceDiv, Int32.reduceMul, pm_same, pm_i_wI, pm_l_wL, pm_l_wM, pm_oR_rf, pm_oQ_rf, sh_k5 hS, nI_1, sw_e, LQ1, LQ2, LQ3, pm_WI0, pm_WI1, pm_WI2, pm_WI3, pm_WI4, pm_WI5, pm_WV, pm_WW, pm_WX, pb_B54, pm_if, pm_QI_at, pm_QL_at, pm_QV_at, pm_QR_at, pm_QR_at0, pm_QR_at1, Nat.reduceSub, Nat.reduceAdd, List.replicate_zero, List.replicate_succ, w1, w2, hk5', hge]
      exact h1 x _ _ (by rw [ec, gx_bd_some e]) (hS'.num hd0 (by omega) (by omega))
    · obtain ⟨w1, w2, w3⟩ := hS'.rowD hd0
      have hk5' : pm_k S' 5 = 6 := sh_k5 (hS'.sh hS0)
      try simp only [pm_WV, pm_WW, true_and, and_true, true_or, or_true, and_self, reduceIte, Nat.reduceEqDiff, Nat.reduceLT, Nat.reduceLeDiff, Nat.reduceMul, false_and, and_false, reduceCtorEq, false_or, or_false, not_true_eq_false, not_false_eq_true, true_implies, false_implies, implies_true, lf_10, eq_self, Int32.reduceLT, Int32.reduceLE, Int32.reduceAdd, Int32.reduceSub, Int32.reduceDiv, Int32.reduceMul, pm_same, pm_i_wI, pm_l_wL, pm_l_wM, pm_oR_rf, pm_oQ_rf, sh_k5 hS, nI_1, sw_e, LQ1, LQ2, LQ3, pm_WI0, pm_WI1, pm_WI2, pm_WI3, pm_WI4, pm_WI5, pm_WV, pm_WW, pm_WX, pb_B54, pm_if, pm_QI_at, pm_QL_at, pm_QV_at, pm_QR_at, pm_QR_at0, pm_QR_at1, Nat.reduceSub, Nat.reduceAdd, List.replicate_zero, List.replicate_succ, w1, w2, hk5']
      exact h0 x _ (by rw [ec, gx_bd_none e]) (hS'.q.wD hd0)
  · have es : ¬ sg (gx_b (pm_i S0 6) n (p + 1)) = 97 := fun e => ya ((sg_is (gx_b_le hr2.2.2.1 (p + 1) |> fun h => by rw [rB2] at h; exact h) (by omega)).mp e)
    have ec : gx_clause (gx_b (pm_i S0 6) n) L p = gx_reach (gx_b (pm_i S0 6) n) L (p + 1) := by
      unfold gx_clause; rw [if_neg (by omega), if_pos y, if_neg ya]
    unfold gx_reach at ec
    have hwb : wb 4 = [101, 97, 99, 104, 32] := by decide
    have hr3' := hr2.num hd0 (f := 8) (v := L.2.2.length) (by omega) (by omega)
    have hS3 := hr3'.sh hS0
    have rB3 : gx_b (pm_i (pm_wI (pm_wI S 5 2 (nI (p + 1))) D 8 (nI L.2.2.length)) 6) n = gx_b (pm_i S0 6) n := by rw [hr3'.text hd0]
    have hk53 : pm_k (pm_wI (pm_wI S 5 2 (nI (p + 1))) D 8 (nI L.2.2.length)) 5 = 6 := sh_k5 hS3
    try simp only [pm_WV, pm_WW, true_and, and_true, true_or, or_true, and_self, reduceIte, Nat.reduceEqDiff, Nat.reduceLT, Nat.reduceLeDiff, Nat.reduceMul, false_and, and_false, reduceCtorEq, false_or, or_false, not_true_eq_false, not_false_eq_true, true_implies, false_implies, implies_true, lf_10, eq_self, Int32.reduceLT, Int32.reduceLE, Int32.reduceAdd, Int32.reduceSub, Int32.reduceDiv, Int32.reduceMul, pm_same, pm_i_wI, pm_l_wL, pm_l_wM, pm_oR_rf, pm_oQ_rf, sh_k5 hS, nI_1, sw_e, LQ1, LQ2, LQ3, pm_WI0, pm_WI1, pm_WI2, pm_WI3, pm_WI4, pm_WI5, pm_WV, pm_WW, pm_WX, pb_B54, pm_if, pm_QI_at, pm_QL_at, pm_QV_at, pm_QR_at, pm_QR_at0, pm_QR_at1, Nat.reduceSub, Nat.reduceAdd, List.replicate_zero, List.replicate_succ, es]
    try refine pm_wb_ok pb_c54 1 49 0 _ _ _ _ _ ?_
    try simp only [pm_WI0, pm_WI1, pm_WI2, pm_WI3, pm_WI4, pm_WI5, pm_WV, pm_WW, pm_WX, pb_B54, pm_if, pm_QI_at, pm_QL_at, pm_QV_at, pm_QR_at, pm_QR_at0, pm_QR_at1, Nat.reduceSub, Nat.reduceAdd, List.replicate_zero, List.replicate_succ, true_and, and_true, true_or, or_true, and_self, reduceIte, Nat.reduceEqDiff, Nat.reduceLT, Nat.reduceLeDiff, Nat.reduceMul, false_and, and_false, reduceCtorEq, false_or, or_false, not_true_eq_false, not_false_eq_true, true_implies, false_implies, implies_true, lf_10, eq_self, Int32.reduceLT, Int32.reduceLE, Int32.reduceAdd, Int32.reduceSub, Int32.reduceDiv, Int32.reduceMul, pm_same, pm_i_wI, pm_l_wL, pm_l_wM, pm_oR_rf, pm_oQ_rf, sh_k5 hS, nI_1, sw_e, LQ1, LQ2, LQ3, z1, z2, hk5, h18, hk53, hr5, hkD, h18s]
    try simp only [pm_WV, pm_WW, true_and, and_true, true_or, or_true, and_self, reduceIte, Nat.reduceEqDiff, Nat.reduceLT, Nat.reduceLeDiff, Nat.reduceMul, false_and, and_false, reduceCtorEq, false_or, or_false, not_true_eq_false, not_false_eq_true, true_implies, false_implies, implies_true, lf_10, eq_self, Int32.reduceLT, Int32.reduceLE, Int32.reduceAdd, Int32.reduceSub, Int32.reduceDiv, Int32.reduceMul, pm_same, pm_i_wI, pm_l_wL, pm_l_wM, pm_oR_rf, pm_oQ_rf, sh_k5 hS, nI_1, sw_e, LQ1, LQ2, LQ3, pm_WI0, pm_WI1, pm_WI2, pm_WI3, pm_WI4, pm_WI5, pm_WV, pm_WW, pm_WX, pb_B54, pm_if, pm_QI_at, pm_QL_at, pm_QV_at, pm_QR_at, pm_QR_at0, pm_QR_at1, Nat.reduceSub, Nat.reduceAdd, List.replicate_zero, List.replicate_succ, hk5, z1, z2, h18, hk53, hr5, hkD, h18s]
    refine ⟨by omega, rd_45 (n := n) (i := 4) (p := p + 1) (by omega) hS3 hr3'.2.2.1 (by omega) (fun x ex hx => ?_) (fun x ex hx => ?_)⟩ <;> rw [rB3, hwb] at ex
    · have hzx := (gx_w_ok gx_b_eof (by omega) (by decide) ex).1
      rw [gx_bd_some ex] at ec
      have hr4 := hr3'.mv hd0 (q := x) hx
      have hk54 : pm_k (pm_wI (pm_wI (pm_wI S 5 2 (nI (p + 1))) D 8 (nI L.2.2.length)) 5 2 (nI x)) 5 = 6 := sh_k5 (hr4.sh hS0)
      try simp only [pm_WV, pm_WW, true_and, and_true, true_or, or_true, and_self, reduceIte, Nat.reduceEqDiff, Nat.reduceLT, Nat.reduceLeDiff, Nat.reduceMul, false_and, and_false, reduceCtorEq, false_or, or_false, not_true_eq_false, not_false_eq_true, true_implies, false_implies, implies_true, lf_10, eq_self, Int32.reduceLT, Int32.reduceLE, Int32.reduceAdd, Int32.reduceSub, Int32.reduceDiv, Int32.reduceMul, pm_same, pm_i_wI, pm_l_wL, pm_l_wM, pm_oR_rf, pm_oQ_rf, sh_k5 hS, nI_1, sw_e, LQ1, LQ2, LQ3, pm_WI0, pm_WI1, pm_WI2, pm_WI3, pm_WI4, pm_WI5, pm_WV, pm_WW, pm_WX, pb_B54, pm_if, pm_QI_at, pm_QL_at, pm_QV_at, pm_QR_at, pm_QR_at0, pm_QR_at1, Nat.reduceSub, Nat.reduceAdd, List.replicate_zero, List.replicate_succ, hk54]
      first
        | refine ⟨fun z => absurd z (by decide), fun _ => ⟨by omega, ?_⟩⟩
        | refine ⟨by omega, ?_⟩
        | skip
      refine rd_e hS0 hd0 (by omega) hr4 (by show L.2.2.length ≤ x; omega) (fun x2 e S' he hS' => ?_) (fun x2 e S' he hS' hle => ?_)
      · rw [gx_bd_some he] at ec
        obtain ⟨w1, w2, w3⟩ := hS'.rowD hd0
        have hk5' : pm_k S' 5 = 6 := sh_k5 (hS'.sh hS0)
        have w18 : pm_i S' D 18 = nI (L.2.2 ++ e).length := hS'.2.2.2.2.1
        have fin := h1 x2 _ _ ec ((hS'.num hd0 (f := 9) (v := (L.2.2 ++ e).length) (by omega) (by omega)).L (by simp))
        first
          | refine ⟨fun z => absurd z (by decide), fun _ => ?_⟩
          | skip
        try refine pm_wb_ok pb_c54 1 82 0 _ _ _ _ _ ?_
        try simp only [pm_WI0, pm_WI1, pm_WI2, pm_WI3, pm_WI4, pm_WI5, pm_WV, pm_WW, pm_WX, pb_B54, pm_if, pm_QI_at, pm_QL_at, pm_QV_at, pm_QR_at, pm_QR_at0, pm_QR_at1, Nat.reduceSub, Nat.reduceAdd, List.replicate_zero, List.replicate_succ, true_and, and_true, true_or, or_true, and_self, reduceIte, Nat.reduceEqDiff, Nat.reduceLT, Nat.reduceLeDiff, Nat.reduceMul, false_and, and_false, reduceCtorEq, false_or, or_false, not_true_eq_false, not_false_eq_true, true_implies, false_implies, implies_true, lf_10, eq_self, Int32.reduceLT, Int32.reduceLE, Int32.reduceAdd, Int32.reduceSub, Int32.reduceDiv, Int32.reduceMul, pm_same, pm_i_wI, pm_l_wL, pm_l_wM, pm_oR_rf, pm_oQ_rf, sh_k5 hS, nI_1, sw_e, LQ1, LQ2, LQ3, w1, w2, hk5', w18]
        try simp only [pm_WV, pm_WW, true_and, and_true, true_or, or_true, and_self, reduceIte, Nat.reduceEqDiff, Nat.reduceLT, Nat.reduceLeDiff, Nat.reduceMul, false_and, and_false, reduceCtorEq, false_or, or_false, not_true_eq_false, not_false_eq_true, true_implies, false_implies, implies_true, lf_10, eq_self, Int32.reduceLT, Int32.reduceLE, Int32.reduceAdd, Int32.reduceSub, Int32.reduceDiv, Int32.reduceMul, pm_same, pm_i_wI, pm_l_wL, pm_l_wM, pm_oR_rf, pm_oQ_rf, sh_k5 hS, nI_1, sw_e, LQ1, LQ2, LQ3, pm_WI0, pm_WI1, pm_WI2, pm_WI3, pm_WI4, pm_WI5, pm_WV, pm_WW, pm_WX, pb_B54, pm_if, pm_QI_at, pm_QL_at, pm_QV_at, pm_QR_at, pm_QR_at0, pm_QR_at1, Nat.reduceSub, Nat.reduceAdd, List.replicate_zero, List.replicate_succ, w1, w2, hk5', w18]
        exact fin
      · rw [gx_bd_none he] at ec
        first
          | refine ⟨fun _ => ?_, fun z => absurd rfl z⟩
          | skip
        try simp only [pm_WV, pm_WW, true_and, and_true, true_or, or_true, and_self, reduceIte, Nat.reduceEqDiff, Nat.reduceLT, Nat.reduceLeDiff, Nat.reduceMul, false_and, and_false, reduceCtorEq, false_or, or_false, not_true_eq_false, not_false_eq_true, true_implies, false_implies, implies_true, lf_10, eq_self, Int32.reduceLT, Int32.reduceLE, Int32.reduceAdd, Int32.reduceSub, Int32.reduceDiv, Int32.reduceMul, pm_same, pm_i_wI, pm_l_wL, pm_l_wM, pm_oR_rf, pm_oQ_rf, sh_k5 hS, nI_1, sw_e, LQ1, LQ2, LQ3, pm_WI0, pm_WI1, pm_WI2, pm_WI3, pm_WI4, pm_WI5, pm_WV, pm_WW, pm_WX, pb_B54, pm_if, pm_QI_at, pm_QL_at, pm_QV_at, pm_QR_at, pm_QR_at0, pm_QR_at1, Nat.reduceSub, Nat.reduceAdd, List.replicate_zero, List.replicate_succ]
        exact h0 x2 S' ec hS'.q
    · rw [gx_bd_none ex] at ec
      try simp only [pm_WV, pm_WW, true_and, and_true, true_or, or_true, and_self, reduceIte, Nat.reduceEqDiff, Nat.reduceLT, Nat.reduceLeDiff, Nat.reduceMul, false_and, and_false, reduceCtorEq, false_or, or_false, not_true_eq_false, not_false_eq_true, true_implies, false_implies, implies_true, lf_10, eq_self, Int32.reduceLT, Int32.reduceLE, Int32.reduceAdd, Int32.reduceSub, Int32.reduceDiv, Int32.reduceMul, pm_same, pm_i_wI, pm_l_wL, pm_l_wM, pm_oR_rf, pm_oQ_rf, sh_k5 hS, nI_1, sw_e, LQ1, LQ2, LQ3, pm_WI0, pm_WI1, pm_WI2, pm_WI3, pm_WI4, pm_WI5, pm_WV, pm_WW, pm_WX, pb_B54, pm_if, pm_QI_at, pm_QL_at, pm_QV_at, pm_QR_at, pm_QR_at0, pm_QR_at1, Nat.reduceSub, Nat.reduceAdd, List.replicate_zero, List.replicate_succ]
      first
        | exact ⟨fun _ => h0 x _ ec (hr3'.mv hd0 hx).q, fun z => absurd rfl z⟩
        | exact h0 x _ ec (hr3'.mv hd0 hx).q
theorem rd_56 (hS0 : Sh S0) (hd0 : dl S0 D W) {d : Nat} (hd : 8 ≤ d) {S : pm_S} {p : Nat} {L : gx_L} {q : Int32 → pm_S → Prop} (hr : rs S0 D W n S p L) (y : gx_b (pm_i S0 6) n p = 115) (h1 : ∀ x L' S', gx_clause (gx_b (pm_i S0 6) n) L p = (x, some L') → rs S0 D W n S' x L' → q 1 S') (h0 : ∀ x S', gx_clause (gx_b (pm_i S0 6) n) L p = (x, none) → rq S0 D W n S' x → q 0 S') : pm_CI G d 56 [.ref 5] S q := by
  have hS := hr.sh hS0
  have hdl := hr.todl hd0
  have ht := hr.text hd0
  have hr3 := hr.2.2.1
  have hn := hr3.2.2.2.1
  have hpn := hr3.2.2.1
  have hr5 : pm_r S 5 3 = some D := hdl.1
  have hkD : pm_k S D = 5 := hdl.2.1
  have rB : gx_b (pm_i S 6) n = gx_b (pm_i S0 6) n := by rw [ht]
  have ec : gx_clause (gx_b (pm_i S0 6) n) L p = gx_bd (gx_bd (gx_w (gx_b (pm_i S0 6) n) [115, 99, 97, 108, 101, 32] p) (fun _ r => gx_num (gx_b (pm_i S0 6) n) 0 4 r)) (fun v q => gx_bd (gx_w (gx_b (pm_i S0 6) n) [32] q) (fun _ q => gx_bd (gx_num (gx_b (pm_i S0 6) n) 1 4 q) (fun m q => (q, some (L.1, va_up (va_up L.2.1 12 v) 13 m, L.2.2))))) := by
    unfold gx_clause; rw [if_neg (by omega), if_neg (by omega), if_pos y]
    unfold gx_scale; rw [gx_bd_assoc]
  have hwb : wb 5 = [115, 99, 97, 108, 101, 32] := by decide
  refine pm_goI 56 1 pb_c56 (by decide) (Nat.le_of_ble_eq_true rfl) rfl ?_
  try simp only [show pm_mL 56 = 1 from rfl, pm_WI0, pm_WI1, pm_WI2, pm_WI3, pm_WI4, pm_WI5, pm_WV, pm_WW, pm_WX, pb_B56, pm_if, pm_QI_at, pm_QL_at, pm_QV_at, pm_QR_at, pm_QR_at0, pm_QR_at1, Nat.reduceSub, Nat.reduceAdd, List.replicate_zero, List.replicate_succ, true_and, and_true, true_or, or_true, and_self, reduceIte, Nat.reduceEqDiff, Nat.reduceLT, Nat.reduceLeDiff, Nat.reduceMul, false_and, and_false, reduceCtorEq, false_or, or_false, not_true_eq_false, not_false_eq_true, true_implies, false_implies, implies_true, lf_10, eq_self, Int32.reduceLT, Int32.reduceLE, Int32.reduceAdd, Int32.reduceSub, Int32.reduceDiv, Int32.reduceMul, pm_same, pm_i_wI, pm_l_wL, pm_l_wM, pm_oR_rf, pm_oQ_rf, sh_k5 hS, nI_1, sw_e, LQ1, LQ2, LQ3, hr5, hkD]
  refine ⟨by omega, rd_55 (i := 5) hS0 hd0 (by omega) (by omega) hr (fun x v S' e hv hS' => ?_) (fun x S' e hS' => ?_)⟩ <;> rw [hwb] at e
  · rw [gx_bd_some e] at ec
    obtain ⟨w1, w2, w3⟩ := hS'.rowD hd0
    have hge : ¬ nI v < 0 := nI_pos (by omega)
    have hr6 := hS'.num hd0 (f := 12) (v := v) (by omega) (by omega)
    have hS6 := hr6.sh hS0
    have hk5' : pm_k S' 5 = 6 := sh_k5 (hS'.sh hS0)
    have hk6' : pm_k (pm_wI S' D 12 (nI v)) 5 = 6 := hk5'
    have rB6 : gx_b (pm_i (pm_wI S' D 12 (nI v)) 6) n = gx_b (pm_i S0 6) n := by rw [hr6.text hd0]
    have hx6 := hr6.2.2.1.2.2.1
    try simp only [pm_WV, pm_WW, true_and, and_true, true_or, or_true, and_self, reduceIte, Nat.reduceEqDiff, Nat.reduceLT, Nat.reduceLeDiff, Nat.reduceMul, false_and, and_false, reduceCtorEq, false_or, or_false, not_true_eq_false, not_false_eq_true, true_implies, false_implies, implies_true, lf_10, eq_self, Int32.reduceLT, Int32.reduceLE, Int32.reduceAdd, Int32.reduceSub, Int32.reduceDiv, Int32.reduceMul, pm_same, pm_i_wI, pm_l_wL, pm_l_wM, pm_oR_rf, pm_oQ_rf, sh_k5 hS, nI_1, sw_e, LQ1, LQ2, LQ3, pm_WI0, pm_WI1, pm_WI2, pm_WI3, pm_WI4, pm_WI5, pm_WV, pm_WW, pm_WX, pb_B56, pm_if, pm_QI_at, pm_QL_at, pm_QV_at, pm_QR_at, pm_QR_at0, pm_QR_at1, Nat.reduceSub, Nat.reduceAdd, List.replicate_zero, List.replicate_succ, w1, w2, hk5', hge]
    refine ⟨by omega, rd_46 (c := 32) (n := n) hS6 hr6.2.2.1 (by omega) (fun y2 => ?_) (fun y2 => ?_)⟩ <;> rw [rB6] at y2
    rotate_left
    · have ew : gx_w (gx_b (pm_i S0 6) n) [32] x = (x, none) := by simp only [gx_w]; rw [if_neg y2]
      rw [gx_bd_none ew] at ec
      try simp only [pm_WV, pm_WW, true_and, and_true, true_or, or_true, and_self, reduceIte, Nat.reduceEqDiff, Nat.reduceLT, Nat.reduceLeDiff, Nat.reduceMul, false_and, and_false, reduceCtorEq, false_or, or_false, not_true_eq_false, not_false_eq_true, true_implies, false_implies, implies_true, lf_10, eq_self, Int32.reduceLT, Int32.reduceLE, Int32.reduceAdd, Int32.reduceSub, Int32.reduceDiv, Int32.reduceMul, pm_same, pm_i_wI, pm_l_wL, pm_l_wM, pm_oR_rf, pm_oQ_rf, sh_k5 hS, nI_1, sw_e, LQ1, LQ2, LQ3, pm_WI0, pm_WI1, pm_WI2, pm_WI3, pm_WI4, pm_WI5, pm_WV, pm_WW, pm_WX, pb_B56, pm_if, pm_QI_at, pm_QL_at, pm_QV_at, pm_QR_at, pm_QR_at0, pm_QR_at1, Nat.reduceSub, Nat.reduceAdd, List.replicate_zero, List.replicate_succ]
      have fin := h0 x _ ec hr6.q
      first
        | exact fin
        | exact ⟨fun _ => fin, fun z => absurd (by decide) z⟩
        | exact ⟨fun z => absurd z (by decide), fun _ => fin⟩
        | (refine pm_wb_ok pb_c56 1 32 0 _ _ _ _ _ ?_; simp only [pm_WI0, pm_WI1, pm_WI2, pm_WI3, pm_WI4, pm_WI5, pm_WV, pm_WW, pm_WX, pb_B56, pm_if, pm_QI_at, pm_QL_at, pm_QV_at, pm_QR_at, pm_QR_at0, pm_QR_at1, Nat.reduceSub, Nat.reduceAdd, List.replicate_zero, List.replicate_succ, true_and, and_true, true_or, or_true, and_self, reduceIte, Nat.reduceEqDiff, Nat.reduceLT, Nat.reduceLeDiff, Nat.reduceMul, false_and, and_false, reduceCtorEq, false_or, or_false, not_true_eq_false, not_false_eq_true, true_implies, false_implies, implies_true, lf_10, eq_self, Int32.reduceLT, Int32.reduceLE, Int32.reduceAdd, Int32.reduceSub, Int32.reduceDiv, Int32.reduceMul, pm_same, pm_i_wI, pm_l_wL, pm_l_wM, pm_oR_rf, pm_oQ_rf, sh_k5 hS, nI_1, sw_e, LQ1, LQ2, LQ3]; exact fin)
        | (refine ⟨fun _ => ?_, fun z => absurd (by decide) z⟩; refine pm_wb_ok pb_c56 1 32 0 _ _ _ _ _ ?_; simp only [pm_WI0, pm_WI1, pm_WI2, pm_WI3, pm_WI4, pm_WI5, pm_WV, pm_WW, pm_WX, pb_B56, pm_if, pm_QI_at, pm_QL_at, pm_QV_at, pm_QR_at, pm_QR_at0, pm_QR_at1, Nat.reduceSub, Nat.reduceAdd, List.replicate_zero, List.replicate_succ, true_and, and_true, true_or, or_true, and_self, reduceIte, Nat.reduceEqDiff, Nat.reduceLT, Nat.reduceLeDiff, Nat.reduceMul, false_and, and_false, reduceCtorEq, false_or, or_false, not_true_eq_false, not_false_eq_true, true_implies, false_implies, implies_true, lf_10, eq_self, Int32.reduceLT, Int32.reduceLE, Int32.reduceAdd, Int32.reduceSub, Int32.reduceDiv, Int32.reduceMul, pm_same, pm_i_wI, pm_l_wL, pm_l_wM, pm_oR_rf, pm_oQ_rf, sh_k5 hS, nI_1, sw_e, LQ1, LQ2, LQ3]; exact fin)
        | (refine ⟨fun z => absurd z (by decide), fun _ => ?_⟩; refine pm_wb_ok pb_c56 1 32 0 _ _ _ _ _ ?_; simp only [pm_WI0, pm_WI1, pm_WI2, pm_WI3, pm_WI4, pm_WI5, pm_WV, pm_WW, pm_WX, pb_B56, pm_if, pm_QI_at, pm_QL_at, pm_QV_at, pm_QR_at, pm_QR_at0, pm_QR_at1, Nat.reduceSub, Nat.reduceAdd, List.replicate_zero, List.replicate_succ, true_and, and_true, true_or, or_true, and_self, reduceIte, Nat.reduceEqDiff, Nat.reduceLT, Nat.reduceLeDiff, Nat.reduceMul, false_and, and_false, reduceCtorEq, false_or, or_false, not_true_eq_false, not_false_eq_true, true_implies, false_implies, implies_true, lf_10, eq_self, Int32.reduceLT, Int32.reduceLE, Int32.reduceAdd, Int32.reduceSub, Int32.reduceDiv, Int32.reduceMul, pm_same, pm_i_wI, pm_l_wL, pm_l_wM, pm_oR_rf, pm_oQ_rf, sh_k5 hS, nI_1, sw_e, LQ1, LQ2, LQ3]; exact fin)
    have hlt := gx_lt gx_b_eof y2 (by omega)
    have ew : gx_w (gx_b (pm_i S0 6) n) [32] x = (x + 1, some ()) := by simp only [gx_w]; rw [if_pos y2]
    rw [gx_bd_some ew] at ec
    have hr7 := hr6.mv hd0 (q := x + 1) (by omega)
    have hS7 := hr7.sh hS0
    obtain ⟨v1, v2, v3⟩ := hr7.rowD hd0
    have hk7 : pm_k (pm_wI (pm_wI S' D 12 (nI v)) 5 2 (nI (x + 1))) 5 = 6 := sh_k5 hS7
    have rB7 : gx_b (pm_i (pm_wI (pm_wI S' D 12 (nI v)) 5 2 (nI (x + 1))) 6) n = gx_b (pm_i S0 6) n := by rw [hr7.text hd0]
    try simp only [pm_WV, pm_WW, true_and, and_true, true_or, or_true, and_self, reduceIte, Nat.reduceEqDiff, Nat.reduceLT, Nat.reduceLeDiff, Nat.reduceMul, false_and, and_false, reduceCtorEq, false_or, or_false, not_true_eq_false, not_false_eq_true, true_implies, false_implies, implies_true, lf_10, eq_self, Int32.reduceLT, Int32.reduceLE, Int32.reduceAdd, Int32.reduceSub, Int32.reduceDiv, Int32.reduceMul, pm_same, pm_i_wI, pm_l_wL, pm_l_wM, pm_oR_rf, pm_oQ_rf, sh_k5 hS, nI_1, sw_e, LQ1, LQ2, LQ3, pm_WI0, pm_WI1, pm_WI2, pm_WI3, pm_WI4, pm_WI5, pm_WV, pm_WW, pm_WX, pb_B56, pm_if, pm_QI_at, pm_QL_at, pm_QV_at, pm_QR_at, pm_QR_at0, pm_QR_at1, Nat.reduceSub, Nat.reduceAdd, List.replicate_zero, List.replicate_succ]
    first
      | refine ⟨fun z => absurd z (by decide), fun _ => ?_⟩
      | skip
    try refine pm_wb_ok pb_c56 3 34 0 _ _ _ _ _ ?_
    try simp only [pm_WI0, pm_WI1, pm_WI2, pm_WI3, pm_WI4, pm_WI5, pm_WV, pm_WW, pm_WX, pb_B56, pm_if, pm_QI_at, pm_QL_at, pm_QV_at, pm_QR_at, pm_QR_at0, pm_QR_at1, Nat.reduceSub, Nat.reduceAdd, List.replicate_zero, List.replicate_succ, true_and, and_true, true_or, or_true, and_self, reduceIte, Nat.reduceEqDiff, Nat.reduceLT, Nat.reduceLeDiff, Nat.reduceMul, false_and, and_false, reduceCtorEq, false_or, or_false, not_true_eq_false, not_false_eq_true, true_implies, false_implies, implies_true, lf_10, eq_self, Int32.reduceLT, Int32.reduceLE, Int32.reduceAdd, Int32.reduceSub, Int32.reduceDiv, Int32.reduceMul, pm_same, pm_i_wI, pm_l_wL, pm_l_wM, pm_oR_rf, pm_oQ_rf, sh_k5 hS, nI_1, sw_e, LQ1, LQ2, LQ3, v1, v2, hk7, w1, w2, hk5']
    try simp only [pm_WV, pm_WW, true_and, and_true, true_or, or_true, and_self, reduceIte, Nat.reduceEqDiff, Nat.reduceLT, Nat.reduceLeDiff, Nat.reduceMul, false_and, and_false, reduceCtorEq, false_or, or_false, not_true_eq_false, not_false_eq_true, true_implies, false_implies, implies_true, lf_10, eq_self, Int32.reduceLT, Int32.reduceLE, Int32.reduceAdd, Int32.reduceSub, Int32.reduceDiv, Int32.reduceMul, pm_same, pm_i_wI, pm_l_wL, pm_l_wM, pm_oR_rf, pm_oQ_rf, sh_k5 hS, nI_1, sw_e, LQ1, LQ2, LQ3, pm_WI0, pm_WI1, pm_WI2, pm_WI3, pm_WI4, pm_WI5, pm_WV, pm_WW, pm_WX, pb_B56, pm_if, pm_QI_at, pm_QL_at, pm_QV_at, pm_QR_at, pm_QR_at0, pm_QR_at1, Nat.reduceSub, Nat.reduceAdd, List.replicate_zero, List.replicate_succ, v1, v2, hk7, w1, w2, hk5']
    refine ⟨by omega, rd_48_14 (n := n) hS7 hr7.2.2.1 (fun z m ez f2 f3 f4 => ?_) (fun ez => ?_)⟩ <;> rw [rB7] at ez
    · rw [gx_bd_some ez] at ec
      have hr8 := (hr6.mv hd0 (q := z) f3).num hd0 (f := 13) (v := m) (by omega) (by omega)
      rw [pm_wI_wI]
      obtain ⟨u1, u2, u3⟩ := (hr6.mv hd0 (q := z) f3).rowD hd0
      have hk8 : pm_k (pm_wI (pm_wI S' D 12 (nI v)) 5 2 (nI z)) 5 = 6 := sh_k5 ((hr6.mv hd0 (q := z) f3).sh hS0)
      have hge : ¬ nI m < 0 := nI_pos (by omega)
      try simp only [pm_WV, pm_WW, true_and, and_true, true_or, or_true, and_self, reduceIte, Nat.reduceEqDiff, Nat.reduceLT, Nat.reduceLeDiff, Nat.reduceMul, false_and, and_false, reduceCtorEq, false_or, or_false, not_true_eq_false, not_false_eq_true, true_implies, false_implies, implies_true, lf_10, eq_self, Int32.reduceLT, Int32.reduceLE, Int32.reduceAdd, Int32.reduceSub, Int32.reduceDiv, Int32.reduceMul, pm_same, pm_i_wI, pm_l_wL, pm_l_wM, pm_oR_rf, pm_oQ_rf, sh_k5 hS, nI_1, sw_e, LQ1, LQ2, LQ3, pm_WI0, pm_WI1, pm_WI2, pm_WI3, pm_WI4, pm_WI5, pm_WV, pm_WW, pm_WX, pb_B56, pm_if, pm_QI_at, pm_QL_at, pm_QV_at, pm_QR_at, pm_QR_at0, pm_QR_at1, Nat.reduceSub, Nat.reduceAdd, List.replicate_zero, List.replicate_succ, u1, u2, hk8, hge, w1, w2, hk5']
      exact h1 z _ _ ec hr8
    · rw [gx_bd_none ez] at ec
      try simp only [pm_WV, pm_WW, true_and, and_true, true_or, or_true, and_self, reduceIte, Nat.reduceEqDiff, Nat.reduceLT, Nat.reduceLeDiff, Nat.reduceMul, false_and, and_false, reduceCtorEq, false_or, or_false, not_true_eq_false, not_false_eq_true, true_implies, false_implies, implies_true, lf_10, eq_self, Int32.reduceLT, Int32.reduceLE, Int32.reduceAdd, Int32.reduceSub, Int32.reduceDiv, Int32.reduceMul, pm_same, pm_i_wI, pm_l_wL, pm_l_wM, pm_oR_rf, pm_oQ_rf, sh_k5 hS, nI_1, sw_e, LQ1, LQ2, LQ3, pm_WI0, pm_WI1, pm_WI2, pm_WI3, pm_WI4, pm_WI5, pm_WV, pm_WW, pm_WX, pb_B56, pm_if, pm_QI_at, pm_QL_at, pm_QV_at, pm_QR_at, pm_QR_at0, pm_QR_at1, Nat.reduceSub, Nat.reduceAdd, List.replicate_zero, List.replicate_succ, v1, v2, hk7, w1, w2, hk5']
      exact h0 _ _ ec (hr7.q.wD hd0)
  · rw [gx_bd_none e] at ec
    obtain ⟨w1, w2, w3⟩ := hS'.rowD hd0
    have hk5' : pm_k S' 5 = 6 := sh_k5 (hS'.sh hS0)
    try simp only [pm_WV, pm_WW, true_and, and_true, true_or, or_true, and_self, reduceIte, Nat.reduceEqDiff, Nat.reduceLT, Nat.reduceLeDiff, Nat.reduceMul, false_and, and_false, reduceCtorEq, false_or, or_false, not_true_eq_false, not_false_eq_true, true_implies, false_implies, implies_true, lf_10, eq_self, Int32.reduceLT, Int32.reduceLE, Int32.reduceAdd, Int32.reduceSub, Int32.reduceDiv, Int32.reduceMul, pm_same, pm_i_wI, pm_l_wL, pm_l_wM, pm_oR_rf, pm_oQ_rf, sh_k5 hS, nI_1, sw_e, LQ1, LQ2, LQ3, pm_WI0, pm_WI1, pm_WI2, pm_WI3, pm_WI4, pm_WI5, pm_WV, pm_WW, pm_WX, pb_B56, pm_if, pm_QI_at, pm_QL_at, pm_QV_at, pm_QR_at, pm_QR_at0, pm_QR_at1, Nat.reduceSub, Nat.reduceAdd, List.replicate_zero, List.replicate_succ, w1, w2, hk5']
    have fin := h0 x _ ec (hS'.q.wD hd0 (j := 12) (v := -1))
    first
      | exact fin
      | exact ⟨fun _ => fin, fun z => absurd (by decide) z⟩
      | exact ⟨fun z => absurd z (by decide), fun _ => fin⟩
      | (refine pm_wb_ok pb_c56 1 32 0 _ _ _ _ _ ?_; simp only [pm_WI0, pm_WI1, pm_WI2, pm_WI3, pm_WI4, pm_WI5, pm_WV, pm_WW, pm_WX, pb_B56, pm_if, pm_QI_at, pm_QL_at, pm_QV_at, pm_QR_at, pm_QR_at0, pm_QR_at1, Nat.reduceSub, Nat.reduceAdd, List.replicate_zero, List.replicate_succ, true_and, and_true, true_or, or_true, and_self, reduceIte, Nat.reduceEqDiff, Nat.reduceLT, Nat.reduceLeDiff, Nat.reduceMul, false_and, and_false, reduceCtorEq, false_or, or_false, not_true_eq_false, not_false_eq_true, true_implies, false_implies, implies_true, lf_10, eq_self, Int32.reduceLT, Int32.reduceLE, Int32.reduceAdd, Int32.reduceSub, Int32.reduceDiv, Int32.reduceMul, pm_same, pm_i_wI, pm_l_wL, pm_l_wM, pm_oR_rf, pm_oQ_rf, sh_k5 hS, nI_1, sw_e, LQ1, LQ2, LQ3]; exact fin)
      | (refine ⟨fun _ => ?_, fun z => absurd (by decide) z⟩; refine pm_wb_ok pb_c56 1 32 0 _ _ _ _ _ ?_; simp only [pm_WI0, pm_WI1, pm_WI2, pm_WI3, pm_WI4, pm_WI5, pm_WV, pm_WW, pm_WX, pb_B56, pm_if, pm_QI_at, pm_QL_at, pm_QV_at, pm_QR_at, pm_QR_at0, pm_QR_at1, Nat.reduceSub, Nat.reduceAdd, List.replicate_zero, List.replicate_succ, true_and, and_true, true_or, or_true, and_self, reduceIte, Nat.reduceEqDiff, Nat.reduceLT, Nat.reduceLeDiff, Nat.reduceMul, false_and, and_false, reduceCtorEq, false_or, or_false, not_true_eq_false, not_false_eq_true, true_implies, false_implies, implies_true, lf_10, eq_self, Int32.reduceLT, Int32.reduceLE, Int32.reduceAdd, Int32.reduceSub, Int32.reduceDiv, Int32.reduceMul, pm_same, pm_i_wI, pm_l_wL, pm_l_wM, pm_oR_rf, pm_oQ_rf, sh_k5 hS, nI_1, sw_e, LQ1, LQ2, LQ3]; exact fin)
      | (refine ⟨fun z => absurd z (by decide), fun _ => ?_⟩; refine pm_wb_ok pb_c56 1 32 0 _ _ _ _ _ ?_; simp only [pm_WI0, pm_WI1, pm_WI2, pm_WI3, pm_WI4, pm_WI5, pm_WV, pm_WW, pm_WX, pb_B56, pm_if, pm_QI_at, pm_QL_at, pm_QV_at, pm_QR_at, pm_QR_at0, pm_QR_at1, Nat.reduceSub, Nat.reduceAdd, List.replicate_zero, List.replicate_succ, true_and, and_true, true_or, or_true, and_self, reduceIte, Nat.reduceEqDiff, Nat.reduceLT, Nat.reduceLeDiff, Nat.reduceMul, false_and, and_false, reduceCtorEq, false_or, or_false, not_true_eq_false, not_false_eq_true, true_implies, false_implies, implies_true, lf_10, eq_self, Int32.reduceLT, Int32.reduceLE, Int32.reduceAdd, Int32.reduceSub, Int32.reduceDiv, Int32.reduceMul, pm_same, pm_i_wI, pm_l_wL, pm_l_wM, pm_oR_rf, pm_oQ_rf, sh_k5 hS, nI_1, sw_e, LQ1, LQ2, LQ3]; exact fin)
theorem rd_43 (hS0 : Sh S0) (hd0 : dl S0 D W) {d : Nat} (hd : 22 ≤ d) {S : pm_S} {p : Nat} {L : gx_L} {q : Int32 → pm_S → Prop} (hr : rs S0 D W n S p L) (hl : L.2.2.length ≤ p) (hc : L.1.length < 10) (h1 : ∀ x L' S', gx_clause (gx_b (pm_i S0 6) n) L p = (x, some L') → rs S0 D W n S' x L' → q 1 S') (h0 : ∀ x S', gx_clause (gx_b (pm_i S0 6) n) L p = (x, none) → rq S0 D W n S' x → q 0 S') : pm_CI G d 43 [.ref 5] S q := by
  have hS := hr.sh hS0
  have hdl := hr.todl hd0
  have ht := hr.text hd0
  have hr3 := hr.2.2.1
  have hn := hr3.2.2.2.1
  have hpn := hr3.2.2.1
  have hr5 : pm_r S 5 3 = some D := hdl.1
  have hkD : pm_k S D = 5 := hdl.2.1
  have rB : gx_b (pm_i S 6) n = gx_b (pm_i S0 6) n := by rw [ht]
  have hle := gx_b_le hr3 p
  rw [rB] at hle
  by_cases y108 : gx_b (pm_i S0 6) n p = 108
  · exact rd43_108 hS0 hd0 (by omega) hr hl hc y108 h1 h0
  by_cases y97 : gx_b (pm_i S0 6) n p = 97
  · exact rd43_97 hS0 hd0 (by omega) hr hl hc y97 h1 h0
  by_cases y99 : gx_b (pm_i S0 6) n p = 99
  · exact rd43_99 hS0 hd0 (by omega) hr hl hc y99 h1 h0
  by_cases y102 : gx_b (pm_i S0 6) n p = 102
  · exact rd43_102 hS0 hd0 (by omega) hr hl hc y102 h1 h0
  by_cases y114 : gx_b (pm_i S0 6) n p = 114
  · have es : sg (gx_b (pm_i S0 6) n p) = 114 := by rw [y114]; rfl
    refine pm_goI 43 1 pb_c43 (by decide) (Nat.le_of_ble_eq_true rfl) rfl ?_
    try simp only [show pm_mL 43 = 1 from rfl, pm_WI0, pm_WI1, pm_WI2, pm_WI3, pm_WI4, pm_WI5, pm_WV, pm_WW, pm_WX, pb_B43, pm_if, pm_QI_at, pm_QL_at, pm_QV_at, pm_QR_at, pm_QR_at0, pm_QR_at1, Nat.reduceSub, Nat.reduceAdd, List.replicate_zero, List.replicate_succ, true_and, and_true, true_or, or_true, and_self, reduceIte, Nat.reduceEqDiff, Nat.reduceLT, Nat.reduceLeDiff, Nat.reduceMul, false_and, and_false, reduceCtorEq, false_or, or_false, not_true_eq_false, not_false_eq_true, true_implies, false_implies, implies_true, lf_10, eq_self, Int32.reduceLT, Int32.reduceLE, Int32.reduceAdd, Int32.reduceSub, Int32.reduceDiv, Int32.reduceMul, pm_same, pm_i_wI, pm_l_wL, pm_l_wM, pm_oR_rf, pm_oQ_rf, sh_k5 hS, nI_1, sw_e, LQ1, LQ2, LQ3]
    refine ⟨by omega, rd_44 hS hr3 ?_⟩
    rw [rB, es]
    try simp only [pm_WV, pm_WW, true_and, and_true, true_or, or_true, and_self, reduceIte, Nat.reduceEqDiff, Nat.reduceLT, Nat.reduceLeDiff, Nat.reduceMul, false_and, and_false, reduceCtorEq, false_or, or_false, not_true_eq_false, not_false_eq_true, true_implies, false_implies, implies_true, lf_10, eq_self, Int32.reduceLT, Int32.reduceLE, Int32.reduceAdd, Int32.reduceSub, Int32.reduceDiv, Int32.reduceMul, pm_same, pm_i_wI, pm_l_wL, pm_l_wM, pm_oR_rf, pm_oQ_rf, sh_k5 hS, nI_1, sw_e, LQ1, LQ2, LQ3, pm_WI0, pm_WI1, pm_WI2, pm_WI3, pm_WI4, pm_WI5, pm_WV, pm_WW, pm_WX, pb_B43, pm_if, pm_QI_at, pm_QL_at, pm_QV_at, pm_QR_at, pm_QR_at0, pm_QR_at1, Nat.reduceSub, Nat.reduceAdd, List.replicate_zero, List.replicate_succ, sh_k5 hS]
    refine pm_wb_ok pb_c43 1 118 0 _ _ _ _ _ ?_
    try simp only [pm_WI0, pm_WI1, pm_WI2, pm_WI3, pm_WI4, pm_WI5, pm_WV, pm_WW, pm_WX, pb_B43, pm_if, pm_QI_at, pm_QL_at, pm_QV_at, pm_QR_at, pm_QR_at0, pm_QR_at1, Nat.reduceSub, Nat.reduceAdd, List.replicate_zero, List.replicate_succ, true_and, and_true, true_or, or_true, and_self, reduceIte, Nat.reduceEqDiff, Nat.reduceLT, Nat.reduceLeDiff, Nat.reduceMul, false_and, and_false, reduceCtorEq, false_or, or_false, not_true_eq_false, not_false_eq_true, true_implies, false_implies, implies_true, lf_10, eq_self, Int32.reduceLT, Int32.reduceLE, Int32.reduceAdd, Int32.reduceSub, Int32.reduceDiv, Int32.reduceMul, pm_same, pm_i_wI, pm_l_wL, pm_l_wM, pm_oR_rf, pm_oQ_rf, sh_k5 hS, nI_1, sw_e, LQ1, LQ2, LQ3]
    first
      | exact ⟨by omega, rd_54 hS0 hd0 (by omega) hr hl y114 (fun x L' S' e hS' => ⟨Or.inr rfl, h1 x L' S' e hS'⟩) (fun x S' e hS' => ⟨Or.inl rfl, h0 x S' e hS'⟩)⟩
      | exact ⟨by omega, rd_54 hS0 hd0 (by omega) hr hl y114 h1 h0⟩
      | exact ⟨by omega, rd_54 hS0 hd0 (by omega) hr hl y114 (fun x L' S' e hS' => by simpa using h1 x L' S' e hS') (fun x S' e hS' => by simpa using h0 x S' e hS')⟩
  by_cases y115 : gx_b (pm_i S0 6) n p = 115
  · have es : sg (gx_b (pm_i S0 6) n p) = 115 := by rw [y115]; rfl
    refine pm_goI 43 1 pb_c43 (by decide) (Nat.le_of_ble_eq_true rfl) rfl ?_
    try simp only [show pm_mL 43 = 1 from rfl, pm_WI0, pm_WI1, pm_WI2, pm_WI3, pm_WI4, pm_WI5, pm_WV, pm_WW, pm_WX, pb_B43, pm_if, pm_QI_at, pm_QL_at, pm_QV_at, pm_QR_at, pm_QR_at0, pm_QR_at1, Nat.reduceSub, Nat.reduceAdd, List.replicate_zero, List.replicate_succ, true_and, and_true, true_or, or_true, and_self, reduceIte, Nat.reduceEqDiff, Nat.reduceLT, Nat.reduceLeDiff, Nat.reduceMul, false_and, and_false, reduceCtorEq, false_or, or_false, not_true_eq_false, not_false_eq_true, true_implies, false_implies, implies_true, lf_10, eq_self, Int32.reduceLT, Int32.reduceLE, Int32.reduceAdd, Int32.reduceSub, Int32.reduceDiv, Int32.reduceMul, pm_same, pm_i_wI, pm_l_wL, pm_l_wM, pm_oR_rf, pm_oQ_rf, sh_k5 hS, nI_1, sw_e, LQ1, LQ2, LQ3]
    refine ⟨by omega, rd_44 hS hr3 ?_⟩
    rw [rB, es]
    try simp only [pm_WV, pm_WW, true_and, and_true, true_or, or_true, and_self, reduceIte, Nat.reduceEqDiff, Nat.reduceLT, Nat.reduceLeDiff, Nat.reduceMul, false_and, and_false, reduceCtorEq, false_or, or_false, not_true_eq_false, not_false_eq_true, true_implies, false_implies, implies_true, lf_10, eq_self, Int32.reduceLT, Int32.reduceLE, Int32.reduceAdd, Int32.reduceSub, Int32.reduceDiv, Int32.reduceMul, pm_same, pm_i_wI, pm_l_wL, pm_l_wM, pm_oR_rf, pm_oQ_rf, sh_k5 hS, nI_1, sw_e, LQ1, LQ2, LQ3, pm_WI0, pm_WI1, pm_WI2, pm_WI3, pm_WI4, pm_WI5, pm_WV, pm_WW, pm_WX, pb_B43, pm_if, pm_QI_at, pm_QL_at, pm_QV_at, pm_QR_at, pm_QR_at0, pm_QR_at1, Nat.reduceSub, Nat.reduceAdd, List.replicate_zero, List.replicate_succ, sh_k5 hS]
    refine pm_wb_ok pb_c43 1 123 0 _ _ _ _ _ ?_
    try simp only [pm_WI0, pm_WI1, pm_WI2, pm_WI3, pm_WI4, pm_WI5, pm_WV, pm_WW, pm_WX, pb_B43, pm_if, pm_QI_at, pm_QL_at, pm_QV_at, pm_QR_at, pm_QR_at0, pm_QR_at1, Nat.reduceSub, Nat.reduceAdd, List.replicate_zero, List.replicate_succ, true_and, and_true, true_or, or_true, and_self, reduceIte, Nat.reduceEqDiff, Nat.reduceLT, Nat.reduceLeDiff, Nat.reduceMul, false_and, and_false, reduceCtorEq, false_or, or_false, not_true_eq_false, not_false_eq_true, true_implies, false_implies, implies_true, lf_10, eq_self, Int32.reduceLT, Int32.reduceLE, Int32.reduceAdd, Int32.reduceSub, Int32.reduceDiv, Int32.reduceMul, pm_same, pm_i_wI, pm_l_wL, pm_l_wM, pm_oR_rf, pm_oQ_rf, sh_k5 hS, nI_1, sw_e, LQ1, LQ2, LQ3]
    first
      | exact ⟨by omega, rd_56 hS0 hd0 (by omega) hr y115 (fun x L' S' e hS' => ⟨Or.inr rfl, h1 x L' S' e hS'⟩) (fun x S' e hS' => ⟨Or.inl rfl, h0 x S' e hS'⟩)⟩
      | exact ⟨by omega, rd_56 hS0 hd0 (by omega) hr y115 h1 h0⟩
      | exact ⟨by omega, rd_56 hS0 hd0 (by omega) hr y115 (fun x L' S' e hS' => by simpa using h1 x L' S' e hS') (fun x S' e hS' => by simpa using h0 x S' e hS')⟩
  by_cases y111 : gx_b (pm_i S0 6) n p = 111
  · have es : sg (gx_b (pm_i S0 6) n p) = 111 := by rw [y111]; rfl
    have ec : gx_clause (gx_b (pm_i S0 6) n) L p = gx_owe (gx_b (pm_i S0 6) n) L p := by unfold gx_clause; rw [if_pos y111]
    have hwb : wb 0 = [111, 119, 101, 32] := by decide
    refine pm_goI 43 1 pb_c43 (by decide) (Nat.le_of_ble_eq_true rfl) rfl ?_
    try simp only [show pm_mL 43 = 1 from rfl, pm_WI0, pm_WI1, pm_WI2, pm_WI3, pm_WI4, pm_WI5, pm_WV, pm_WW, pm_WX, pb_B43, pm_if, pm_QI_at, pm_QL_at, pm_QV_at, pm_QR_at, pm_QR_at0, pm_QR_at1, Nat.reduceSub, Nat.reduceAdd, List.replicate_zero, List.replicate_succ, true_and, and_true, true_or, or_true, and_self, reduceIte, Nat.reduceEqDiff, Nat.reduceLT, Nat.reduceLeDiff, Nat.reduceMul, false_and, and_false, reduceCtorEq, false_or, or_false, not_true_eq_false, not_false_eq_true, true_implies, false_implies, implies_true, lf_10, eq_self, Int32.reduceLT, Int32.reduceLE, Int32.reduceAdd, Int32.reduceSub, Int32.reduceDiv, Int32.reduceMul, pm_same, pm_i_wI, pm_l_wL, pm_l_wM, pm_oR_rf, pm_oQ_rf, sh_k5 hS, nI_1, sw_e, LQ1, LQ2, LQ3]
    refine ⟨by omega, rd_44 hS hr3 ?_⟩
    rw [rB, es]
    try simp only [pm_WV, pm_WW, true_and, and_true, true_or, or_true, and_self, reduceIte, Nat.reduceEqDiff, Nat.reduceLT, Nat.reduceLeDiff, Nat.reduceMul, false_and, and_false, reduceCtorEq, false_or, or_false, not_true_eq_false, not_false_eq_true, true_implies, false_implies, implies_true, lf_10, eq_self, Int32.reduceLT, Int32.reduceLE, Int32.reduceAdd, Int32.reduceSub, Int32.reduceDiv, Int32.reduceMul, pm_same, pm_i_wI, pm_l_wL, pm_l_wM, pm_oR_rf, pm_oQ_rf, sh_k5 hS, nI_1, sw_e, LQ1, LQ2, LQ3, pm_WI0, pm_WI1, pm_WI2, pm_WI3, pm_WI4, pm_WI5, pm_WV, pm_WW, pm_WX, pb_B43, pm_if, pm_QI_at, pm_QL_at, pm_QV_at, pm_QR_at, pm_QR_at0, pm_QR_at1, Nat.reduceSub, Nat.reduceAdd, List.replicate_zero, List.replicate_succ, sh_k5 hS]
    refine pm_wb_ok pb_c43 3 96 0 _ _ _ _ _ ?_
    try simp only [pm_WI0, pm_WI1, pm_WI2, pm_WI3, pm_WI4, pm_WI5, pm_WV, pm_WW, pm_WX, pb_B43, pm_if, pm_QI_at, pm_QL_at, pm_QV_at, pm_QR_at, pm_QR_at0, pm_QR_at1, Nat.reduceSub, Nat.reduceAdd, List.replicate_zero, List.replicate_succ, true_and, and_true, true_or, or_true, and_self, reduceIte, Nat.reduceEqDiff, Nat.reduceLT, Nat.reduceLeDiff, Nat.reduceMul, false_and, and_false, reduceCtorEq, false_or, or_false, not_true_eq_false, not_false_eq_true, true_implies, false_implies, implies_true, lf_10, eq_self, Int32.reduceLT, Int32.reduceLE, Int32.reduceAdd, Int32.reduceSub, Int32.reduceDiv, Int32.reduceMul, pm_same, pm_i_wI, pm_l_wL, pm_l_wM, pm_oR_rf, pm_oQ_rf, sh_k5 hS, nI_1, sw_e, LQ1, LQ2, LQ3]
    refine ⟨by omega, rd_45 (n := n) (i := 0) (p := p) (by omega) hS hr3 (by omega) (fun x ex hx => ?_) (fun x ex hx => ?_)⟩ <;> rw [rB, hwb] at ex
    · have hzx := (gx_w_ok gx_b_eof hpn (by decide) ex).1
      have hr2 := hr.mv hd0 (q := x) hx
      have hk2 : pm_k (pm_wI S 5 2 (nI x)) 5 = 6 := sh_k5 (hr2.sh hS0)
      try simp only [pm_WV, pm_WW, true_and, and_true, true_or, or_true, and_self, reduceIte, Nat.reduceEqDiff, Nat.reduceLT, Nat.reduceLeDiff, Nat.reduceMul, false_and, and_false, reduceCtorEq, false_or, or_false, not_true_eq_false, not_false_eq_true, true_implies, false_implies, implies_true, lf_10, eq_self, Int32.reduceLT, Int32.reduceLE, Int32.reduceAdd, Int32.reduceSub, Int32.reduceDiv, Int32.reduceMul, pm_same, pm_i_wI, pm_l_wL, pm_l_wM, pm_oR_rf, pm_oQ_rf, sh_k5 hS, nI_1, sw_e, LQ1, LQ2, LQ3, pm_WI0, pm_WI1, pm_WI2, pm_WI3, pm_WI4, pm_WI5, pm_WV, pm_WW, pm_WX, pb_B43, pm_if, pm_QI_at, pm_QL_at, pm_QV_at, pm_QR_at, pm_QR_at0, pm_QR_at1, Nat.reduceSub, Nat.reduceAdd, List.replicate_zero, List.replicate_succ, hk2]
      first
        | refine ⟨fun z => absurd z (by decide), fun _ => ⟨by omega, ?_⟩⟩
        | refine ⟨by omega, ?_⟩
      refine rd_47 hS0 hd0 (by omega) hr2 (by omega) hc ex (fun x2 L' S' e hS' => ?_) (fun x2 S' e hS' => ?_)
      · have := h1 x2 L' S' (by rw [ec]; exact e) hS'
        try simp only [pm_WV, pm_WW, true_and, and_true, true_or, or_true, and_self, reduceIte, Nat.reduceEqDiff, Nat.reduceLT, Nat.reduceLeDiff, Nat.reduceMul, false_and, and_false, reduceCtorEq, false_or, or_false, not_true_eq_false, not_false_eq_true, true_implies, false_implies, implies_true, lf_10, eq_self, Int32.reduceLT, Int32.reduceLE, Int32.reduceAdd, Int32.reduceSub, Int32.reduceDiv, Int32.reduceMul, pm_same, pm_i_wI, pm_l_wL, pm_l_wM, pm_oR_rf, pm_oQ_rf, sh_k5 hS, nI_1, sw_e, LQ1, LQ2, LQ3, pm_WI0, pm_WI1, pm_WI2, pm_WI3, pm_WI4, pm_WI5, pm_WV, pm_WW, pm_WX, pb_B43, pm_if, pm_QI_at, pm_QL_at, pm_QV_at, pm_QR_at, pm_QR_at0, pm_QR_at1, Nat.reduceSub, Nat.reduceAdd, List.replicate_zero, List.replicate_succ]
        first | exact ⟨fun z => absurd z (by decide), fun _ => this⟩ | exact this
      · have := h0 x2 S' (by rw [ec]; exact e) hS'
        try simp only [pm_WV, pm_WW, true_and, and_true, true_or, or_true, and_self, reduceIte, Nat.reduceEqDiff, Nat.reduceLT, Nat.reduceLeDiff, Nat.reduceMul, false_and, and_false, reduceCtorEq, false_or, or_false, not_true_eq_false, not_false_eq_true, true_implies, false_implies, implies_true, lf_10, eq_self, Int32.reduceLT, Int32.reduceLE, Int32.reduceAdd, Int32.reduceSub, Int32.reduceDiv, Int32.reduceMul, pm_same, pm_i_wI, pm_l_wL, pm_l_wM, pm_oR_rf, pm_oQ_rf, sh_k5 hS, nI_1, sw_e, LQ1, LQ2, LQ3, pm_WI0, pm_WI1, pm_WI2, pm_WI3, pm_WI4, pm_WI5, pm_WV, pm_WW, pm_WX, pb_B43, pm_if, pm_QI_at, pm_QL_at, pm_QV_at, pm_QR_at, pm_QR_at0, pm_QR_at1, Nat.reduceSub, Nat.reduceAdd, List.replicate_zero, List.replicate_succ]
        first | exact ⟨fun _ => this, fun z => absurd rfl z⟩ | exact this
    · have eo : gx_owe (gx_b (pm_i S0 6) n) L p = (x, none) := by unfold gx_owe; rw [gx_bd_none ex]
      have := h0 x _ (by rw [ec, eo]) (hr.mv hd0 hx).q
      try simp only [pm_WV, pm_WW, true_and, and_true, true_or, or_true, and_self, reduceIte, Nat.reduceEqDiff, Nat.reduceLT, Nat.reduceLeDiff, Nat.reduceMul, false_and, and_false, reduceCtorEq, false_or, or_false, not_true_eq_false, not_false_eq_true, true_implies, false_implies, implies_true, lf_10, eq_self, Int32.reduceLT, Int32.reduceLE, Int32.reduceAdd, Int32.reduceSub, Int32.reduceDiv, Int32.reduceMul, pm_same, pm_i_wI, pm_l_wL, pm_l_wM, pm_oR_rf, pm_oQ_rf, sh_k5 hS, nI_1, sw_e, LQ1, LQ2, LQ3, pm_WI0, pm_WI1, pm_WI2, pm_WI3, pm_WI4, pm_WI5, pm_WV, pm_WW, pm_WX, pb_B43, pm_if, pm_QI_at, pm_QL_at, pm_QV_at, pm_QR_at, pm_QR_at0, pm_QR_at1, Nat.reduceSub, Nat.reduceAdd, List.replicate_zero, List.replicate_succ]
      first | exact ⟨fun _ => this, fun z => absurd rfl z⟩ | exact this
  have ec : gx_clause (gx_b (pm_i S0 6) n) L p = (p, none) := by unfold gx_clause; rw [if_neg y111, if_neg y114, if_neg y115, if_neg y108, if_neg y97, if_neg y99, if_neg y102]
  have g97 : (sg (gx_b (pm_i S0 6) n p) = Int32.ofNat 97) = False := eq_false (fun z => y97 ((sg_is hle (by omega)).mp z))
  have g99 : (sg (gx_b (pm_i S0 6) n p) = Int32.ofNat 99) = False := eq_false (fun z => y99 ((sg_is hle (by omega)).mp z))
  have g102 : (sg (gx_b (pm_i S0 6) n p) = Int32.ofNat 102) = False := eq_false (fun z => y102 ((sg_is hle (by omega)).mp z))
  have g108 : (sg (gx_b (pm_i S0 6) n p) = Int32.ofNat 108) = False := eq_false (fun z => y108 ((sg_is hle (by omega)).mp z))
  have g111 : (sg (gx_b (pm_i S0 6) n p) = Int32.ofNat 111) = False := eq_false (fun z => y111 ((sg_is hle (by omega)).mp z))
  have g114 : (sg (gx_b (pm_i S0 6) n p) = Int32.ofNat 114) = False := eq_false (fun z => y114 ((sg_is hle (by omega)).mp z))
  have g115 : (sg (gx_b (pm_i S0 6) n p) = Int32.ofNat 115) = False := eq_false (fun z => y115 ((sg_is hle (by omega)).mp z))
  refine pm_goI 43 1 pb_c43 (by decide) (Nat.le_of_ble_eq_true rfl) rfl ?_
  try simp only [show pm_mL 43 = 1 from rfl, pm_WI0, pm_WI1, pm_WI2, pm_WI3, pm_WI4, pm_WI5, pm_WV, pm_WW, pm_WX, pb_B43, pm_if, pm_QI_at, pm_QL_at, pm_QV_at, pm_QR_at, pm_QR_at0, pm_QR_at1, Nat.reduceSub, Nat.reduceAdd, List.replicate_zero, List.replicate_succ, true_and, and_true, true_or, or_true, and_self, reduceIte, Nat.reduceEqDiff, Nat.reduceLT, Nat.reduceLeDiff, Nat.reduceMul, false_and, and_false, reduceCtorEq, false_or, or_false, not_true_eq_false, not_false_eq_true, true_implies, false_implies, implies_true, lf_10, eq_self, Int32.reduceLT, Int32.reduceLE, Int32.reduceAdd, Int32.reduceSub, Int32.reduceDiv, Int32.reduceMul, pm_same, pm_i_wI, pm_l_wL, pm_l_wM, pm_oR_rf, pm_oQ_rf, sh_k5 hS, nI_1, sw_e, LQ1, LQ2, LQ3]
  refine ⟨by omega, rd_44 hS hr3 ?_⟩
  rw [rB]
  try simp only [pm_WV, pm_WW, true_and, and_true, true_or, or_true, and_self, reduceIte, Nat.reduceEqDiff, Nat.reduceLT, Nat.reduceLeDiff, Nat.reduceMul, false_and, and_false, reduceCtorEq, false_or, or_false, not_true_eq_false, not_false_eq_true, true_implies, false_implies, implies_true, lf_10, eq_self, Int32.reduceLT, Int32.reduceLE, Int32.reduceAdd, Int32.reduceSub, Int32.reduceDiv, Int32.reduceMul, pm_same, pm_i_wI, pm_l_wL, pm_l_wM, pm_oR_rf, pm_oQ_rf, sh_k5 hS, nI_1, sw_e, LQ1, LQ2, LQ3, pm_WI0, pm_WI1, pm_WI2, pm_WI3, pm_WI4, pm_WI5, pm_WV, pm_WW, pm_WX, pb_B43, pm_if, pm_QI_at, pm_QL_at, pm_QV_at, pm_QR_at, pm_QR_at0, pm_QR_at1, Nat.reduceSub, Nat.reduceAdd, List.replicate_zero, List.replicate_succ, g97, g99, g102, g108, g111, g114, g115]
  have fin : pm_W G d 43 (pm_QI q) 244 [.ref 5] [] S 0 0 := by
    refine pm_wb_ok pb_c43 1 244 0 _ _ _ _ _ ?_
    try simp only [pm_WI0, pm_WI1, pm_WI2, pm_WI3, pm_WI4, pm_WI5, pm_WV, pm_WW, pm_WX, pb_B43, pm_if, pm_QI_at, pm_QL_at, pm_QV_at, pm_QR_at, pm_QR_at0, pm_QR_at1, Nat.reduceSub, Nat.reduceAdd, List.replicate_zero, List.replicate_succ, true_and, and_true, true_or, or_true, and_self, reduceIte, Nat.reduceEqDiff, Nat.reduceLT, Nat.reduceLeDiff, Nat.reduceMul, false_and, and_false, reduceCtorEq, false_or, or_false, not_true_eq_false, not_false_eq_true, true_implies, false_implies, implies_true, lf_10, eq_self, Int32.reduceLT, Int32.reduceLE, Int32.reduceAdd, Int32.reduceSub, Int32.reduceDiv, Int32.reduceMul, pm_same, pm_i_wI, pm_l_wL, pm_l_wM, pm_oR_rf, pm_oQ_rf, sh_k5 hS, nI_1, sw_e, LQ1, LQ2, LQ3]
    exact h0 p S ec hr.q
  repeat' (first | exact fin | refine ⟨fun _ => ?_, fun _ => ?_⟩)
theorem rd_42k (hS0 : Sh S0) (hd0 : dl S0 D W) {d : Nat} (hd : 23 ≤ d) {q : Int32 → pm_S → Prop} : ∀ (g : Nat) (S : pm_S) (p : Nat) (L : gx_L), g + 1 ≤ 10 → rs S0 D W n S p L → gx_wf (fun _ => false) L (10 - (g + 1)) p → (∀ x L' S', gx_law (gx_b (pm_i S0 6) n) n (g + 1) L p = (x, some L') → rs S0 D W n S' x L' → q 1 S') → (∀ x S', gx_law (gx_b (pm_i S0 6) n) n (g + 1) L p = (x, none) → rq S0 D W n S' x → q 0 S') → pm_W G d 42 (pm_QI q) 14 [.ref 5, .int (nI (10 - g))] [] S 0 0 := by
  intro g
  induction g with
  | zero =>
    intro S p L hg hr hw h1 h0
    have hS := hr.sh hS0
    have hdl := hr.todl hd0
    have ht := hr.text hd0
    have hr3 := hr.2.2.1
    have hn := hr3.2.2.2.1
    have hpn := hr3.2.2.1
    have hr5 : pm_r S 5 3 = some D := hdl.1
    have hkD : pm_k S D = 5 := hdl.2.1
    have rB : gx_b (pm_i S 6) n = gx_b (pm_i S0 6) n := by rw [ht]
    have hle : ¬ (10 : Int32) < nI (10 - 0) := nI_nlt (a := 10) (b := 10 - 0) (by omega) (by omega)
    refine pm_wb_ok pb_c42 1 14 0 _ _ _ _ _ ?_
    try simp only [pm_WI0, pm_WI1, pm_WI2, pm_WI3, pm_WI4, pm_WI5, pm_WV, pm_WW, pm_WX, pb_B42, pm_if, pm_QI_at, pm_QL_at, pm_QV_at, pm_QR_at, pm_QR_at0, pm_QR_at1, Nat.reduceSub, Nat.reduceAdd, List.replicate_zero, List.replicate_succ, true_and, and_true, true_or, or_true, and_self, reduceIte, Nat.reduceEqDiff, Nat.reduceLT, Nat.reduceLeDiff, Nat.reduceMul, false_and, and_false, reduceCtorEq, false_or, or_false, not_true_eq_false, not_false_eq_true, true_implies, false_implies, implies_true, lf_10, eq_self, Int32.reduceLT, Int32.reduceLE, Int32.reduceAdd, Int32.reduceSub, Int32.reduceDiv, Int32.reduceMul, pm_same, pm_i_wI, pm_l_wL, pm_l_wM, pm_oR_rf, pm_oQ_rf, sh_k5 hS, nI_1, sw_e, LQ1, LQ2, LQ3, hle]
    refine ⟨by omega, rd_43 hS0 hd0 (by omega) hr hw.1.2 (by have := hw.1.1; omega) (fun x L' S' e hS' => ?_) (fun x S' e hS' => ?_)⟩
    rotate_left
    · have := h0 x S' (by rw [gx_law, gx_bd_none e]) hS'
      try simp only [pm_WV, pm_WW, true_and, and_true, true_or, or_true, and_self, reduceIte, Nat.reduceEqDiff, Nat.reduceLT, Nat.reduceLeDiff, Nat.reduceMul, false_and, and_false, reduceCtorEq, false_or, or_false, not_true_eq_false, not_false_eq_true, true_implies, false_implies, implies_true, lf_10, eq_self, Int32.reduceLT, Int32.reduceLE, Int32.reduceAdd, Int32.reduceSub, Int32.reduceDiv, Int32.reduceMul, pm_same, pm_i_wI, pm_l_wL, pm_l_wM, pm_oR_rf, pm_oQ_rf, sh_k5 hS, nI_1, sw_e, LQ1, LQ2, LQ3, pm_WI0, pm_WI1, pm_WI2, pm_WI3, pm_WI4, pm_WI5, pm_WV, pm_WW, pm_WX, pb_B42, pm_if, pm_QI_at, pm_QL_at, pm_QV_at, pm_QR_at, pm_QR_at0, pm_QR_at1, Nat.reduceSub, Nat.reduceAdd, List.replicate_zero, List.replicate_succ]
      first | exact ⟨fun _ => this, fun z => absurd rfl z⟩ | exact this
    have hw2 := wf_clause gx_b_eof hw hpn e
    have hS2 := hS'.sh hS0
    have rB2 : gx_b (pm_i S' 6) n = gx_b (pm_i S0 6) n := by rw [hS'.text hd0]
    have hk5' : pm_k S' 5 = 6 := sh_k5 hS2
    have p2 : pm_i S' 5 2 = nI x := hS'.2.2.1.1
    have p1 : pm_i S' 5 1 = nI n := hS'.2.2.1.2.1
    try simp only [pm_WV, pm_WW, true_and, and_true, true_or, or_true, and_self, reduceIte, Nat.reduceEqDiff, Nat.reduceLT, Nat.reduceLeDiff, Nat.reduceMul, false_and, and_false, reduceCtorEq, false_or, or_false, not_true_eq_false, not_false_eq_true, true_implies, false_implies, implies_true, lf_10, eq_self, Int32.reduceLT, Int32.reduceLE, Int32.reduceAdd, Int32.reduceSub, Int32.reduceDiv, Int32.reduceMul, pm_same, pm_i_wI, pm_l_wL, pm_l_wM, pm_oR_rf, pm_oQ_rf, sh_k5 hS, nI_1, sw_e, LQ1, LQ2, LQ3, pm_WI0, pm_WI1, pm_WI2, pm_WI3, pm_WI4, pm_WI5, pm_WV, pm_WW, pm_WX, pb_B42, pm_if, pm_QI_at, pm_QL_at, pm_QV_at, pm_QR_at, pm_QR_at0, pm_QR_at1, Nat.reduceSub, Nat.reduceAdd, List.replicate_zero, List.replicate_succ]
    first | refine ⟨fun z => absurd z (by decide), fun _ => ?_⟩ | skip
    try refine pm_wb_ok pb_c42 1 29 0 _ _ _ _ _ ?_
    try simp only [pm_WI0, pm_WI1, pm_WI2, pm_WI3, pm_WI4, pm_WI5, pm_WV, pm_WW, pm_WX, pb_B42, pm_if, pm_QI_at, pm_QL_at, pm_QV_at, pm_QR_at, pm_QR_at0, pm_QR_at1, Nat.reduceSub, Nat.reduceAdd, List.replicate_zero, List.replicate_succ, true_and, and_true, true_or, or_true, and_self, reduceIte, Nat.reduceEqDiff, Nat.reduceLT, Nat.reduceLeDiff, Nat.reduceMul, false_and, and_false, reduceCtorEq, false_or, or_false, not_true_eq_false, not_false_eq_true, true_implies, false_implies, implies_true, lf_10, eq_self, Int32.reduceLT, Int32.reduceLE, Int32.reduceAdd, Int32.reduceSub, Int32.reduceDiv, Int32.reduceMul, pm_same, pm_i_wI, pm_l_wL, pm_l_wM, pm_oR_rf, pm_oQ_rf, sh_k5 hS, nI_1, sw_e, LQ1, LQ2, LQ3, hk5', p1, p2]
    try simp only [pm_WV, pm_WW, true_and, and_true, true_or, or_true, and_self, reduceIte, Nat.reduceEqDiff, Nat.reduceLT, Nat.reduceLeDiff, Nat.reduceMul, false_and, and_false, reduceCtorEq, false_or, or_false, not_true_eq_false, not_false_eq_true, true_implies, false_implies, implies_true, lf_10, eq_self, Int32.reduceLT, Int32.reduceLE, Int32.reduceAdd, Int32.reduceSub, Int32.reduceDiv, Int32.reduceMul, pm_same, pm_i_wI, pm_l_wL, pm_l_wM, pm_oR_rf, pm_oQ_rf, sh_k5 hS, nI_1, sw_e, LQ1, LQ2, LQ3, pm_WI0, pm_WI1, pm_WI2, pm_WI3, pm_WI4, pm_WI5, pm_WV, pm_WW, pm_WX, pb_B42, pm_if, pm_QI_at, pm_QL_at, pm_QV_at, pm_QR_at, pm_QR_at0, pm_QR_at1, Nat.reduceSub, Nat.reduceAdd, List.replicate_zero, List.replicate_succ, hk5', p1, p2]
    have el : gx_law (gx_b (pm_i S0 6) n) n (0 + 1) L p = if n ≤ x then (x, some L') else (x, none) := by
      rw [gx_law, gx_bd_some e]; split <;> rfl
    refine ⟨fun z => ?_, fun z => ?_⟩
    · have hnx : ¬ n ≤ x := fun y => absurd z (nI_nlt y (by omega))
      rw [if_neg hnx] at el
      have := h0 x S' el hS'.q
      have e10 : (nI (10 - 0) = 10) := rfl
      have e10' : (nI 10 = 10) := rfl
      try refine pm_wb_ok pb_c42 2 42 0 _ _ _ _ _ ?_
      try simp only [pm_WI0, pm_WI1, pm_WI2, pm_WI3, pm_WI4, pm_WI5, pm_WV, pm_WW, pm_WX, pb_B42, pm_if, pm_QI_at, pm_QL_at, pm_QV_at, pm_QR_at, pm_QR_at0, pm_QR_at1, Nat.reduceSub, Nat.reduceAdd, List.replicate_zero, List.replicate_succ, true_and, and_true, true_or, or_true, and_self, reduceIte, Nat.reduceEqDiff, Nat.reduceLT, Nat.reduceLeDiff, Nat.reduceMul, false_and, and_false, reduceCtorEq, false_or, or_false, not_true_eq_false, not_false_eq_true, true_implies, false_implies, implies_true, lf_10, eq_self, Int32.reduceLT, Int32.reduceLE, Int32.reduceAdd, Int32.reduceSub, Int32.reduceDiv, Int32.reduceMul, pm_same, pm_i_wI, pm_l_wL, pm_l_wM, pm_oR_rf, pm_oQ_rf, sh_k5 hS, nI_1, sw_e, LQ1, LQ2, LQ3, e10, e10']
      exact this
    · have hnx : n ≤ x := by
        by_cases y : n ≤ x
        · exact y
        · exact absurd (nI_lt (a := x) (b := n) (by omega) (by omega)) z
      rw [if_pos hnx] at el
      exact h1 x L' S' el hS'
  | succ g ih =>
    intro S p L hg hr hw h1 h0
    have hS := hr.sh hS0
    have hdl := hr.todl hd0
    have ht := hr.text hd0
    have hr3 := hr.2.2.1
    have hn := hr3.2.2.2.1
    have hpn := hr3.2.2.1
    have hr5 : pm_r S 5 3 = some D := hdl.1
    have hkD : pm_k S D = 5 := hdl.2.1
    have rB : gx_b (pm_i S 6) n = gx_b (pm_i S0 6) n := by rw [ht]
    have hle : ¬ (10 : Int32) < nI (10 - (g + 1)) := nI_nlt (a := 10) (b := 10 - (g + 1)) (by omega) (by omega)
    refine pm_wb_ok pb_c42 1 14 0 _ _ _ _ _ ?_
    try simp only [pm_WI0, pm_WI1, pm_WI2, pm_WI3, pm_WI4, pm_WI5, pm_WV, pm_WW, pm_WX, pb_B42, pm_if, pm_QI_at, pm_QL_at, pm_QV_at, pm_QR_at, pm_QR_at0, pm_QR_at1, Nat.reduceSub, Nat.reduceAdd, List.replicate_zero, List.replicate_succ, true_and, and_true, true_or, or_true, and_self, reduceIte, Nat.reduceEqDiff, Nat.reduceLT, Nat.reduceLeDiff, Nat.reduceMul, false_and, and_false, reduceCtorEq, false_or, or_false, not_true_eq_false, not_false_eq_true, true_implies, false_implies, implies_true, lf_10, eq_self, Int32.reduceLT, Int32.reduceLE, Int32.reduceAdd, Int32.reduceSub, Int32.reduceDiv, Int32.reduceMul, pm_same, pm_i_wI, pm_l_wL, pm_l_wM, pm_oR_rf, pm_oQ_rf, sh_k5 hS, nI_1, sw_e, LQ1, LQ2, LQ3, hle]
    refine ⟨by omega, rd_43 hS0 hd0 (by omega) hr hw.1.2 (by have := hw.1.1; omega) (fun x L' S' e hS' => ?_) (fun x S' e hS' => ?_)⟩
    rotate_left
    · have := h0 x S' (by rw [gx_law, gx_bd_none e]) hS'
      try simp only [pm_WV, pm_WW, true_and, and_true, true_or, or_true, and_self, reduceIte, Nat.reduceEqDiff, Nat.reduceLT, Nat.reduceLeDiff, Nat.reduceMul, false_and, and_false, reduceCtorEq, false_or, or_false, not_true_eq_false, not_false_eq_true, true_implies, false_implies, implies_true, lf_10, eq_self, Int32.reduceLT, Int32.reduceLE, Int32.reduceAdd, Int32.reduceSub, Int32.reduceDiv, Int32.reduceMul, pm_same, pm_i_wI, pm_l_wL, pm_l_wM, pm_oR_rf, pm_oQ_rf, sh_k5 hS, nI_1, sw_e, LQ1, LQ2, LQ3, pm_WI0, pm_WI1, pm_WI2, pm_WI3, pm_WI4, pm_WI5, pm_WV, pm_WW, pm_WX, pb_B42, pm_if, pm_QI_at, pm_QL_at, pm_QV_at, pm_QR_at, pm_QR_at0, pm_QR_at1, Nat.reduceSub, Nat.reduceAdd, List.replicate_zero, List.replicate_succ]
      first | exact ⟨fun _ => this, fun z => absurd rfl z⟩ | exact this
    have hw2 := wf_clause gx_b_eof hw hpn e
    have hS2 := hS'.sh hS0
    have rB2 : gx_b (pm_i S' 6) n = gx_b (pm_i S0 6) n := by rw [hS'.text hd0]
    have hk5' : pm_k S' 5 = 6 := sh_k5 hS2
    have p2 : pm_i S' 5 2 = nI x := hS'.2.2.1.1
    have p1 : pm_i S' 5 1 = nI n := hS'.2.2.1.2.1
    try simp only [pm_WV, pm_WW, true_and, and_true, true_or, or_true, and_self, reduceIte, Nat.reduceEqDiff, Nat.reduceLT, Nat.reduceLeDiff, Nat.reduceMul, false_and, and_false, reduceCtorEq, false_or, or_false, not_true_eq_false, not_false_eq_true, true_implies, false_implies, implies_true, lf_10, eq_self, Int32.reduceLT, Int32.reduceLE, Int32.reduceAdd, Int32.reduceSub, Int32.reduceDiv, Int32.reduceMul, pm_same, pm_i_wI, pm_l_wL, pm_l_wM, pm_oR_rf, pm_oQ_rf, sh_k5 hS, nI_1, sw_e, LQ1, LQ2, LQ3, pm_WI0, pm_WI1, pm_WI2, pm_WI3, pm_WI4, pm_WI5, pm_WV, pm_WW, pm_WX, pb_B42, pm_if, pm_QI_at, pm_QL_at, pm_QV_at, pm_QR_at, pm_QR_at0, pm_QR_at1, Nat.reduceSub, Nat.reduceAdd, List.replicate_zero, List.replicate_succ]
    first | refine ⟨fun z => absurd z (by decide), fun _ => ?_⟩ | skip
    try refine pm_wb_ok pb_c42 1 29 0 _ _ _ _ _ ?_
    try simp only [pm_WI0, pm_WI1, pm_WI2, pm_WI3, pm_WI4, pm_WI5, pm_WV, pm_WW, pm_WX, pb_B42, pm_if, pm_QI_at, pm_QL_at, pm_QV_at, pm_QR_at, pm_QR_at0, pm_QR_at1, Nat.reduceSub, Nat.reduceAdd, List.replicate_zero, List.replicate_succ, true_and, and_true, true_or, or_true, and_self, reduceIte, Nat.reduceEqDiff, Nat.reduceLT, Nat.reduceLeDiff, Nat.reduceMul, false_and, and_false, reduceCtorEq, false_or, or_false, not_true_eq_false, not_false_eq_true, true_implies, false_implies, implies_true, lf_10, eq_self, Int32.reduceLT, Int32.reduceLE, Int32.reduceAdd, Int32.reduceSub, Int32.reduceDiv, Int32.reduceMul, pm_same, pm_i_wI, pm_l_wL, pm_l_wM, pm_oR_rf, pm_oQ_rf, sh_k5 hS, nI_1, sw_e, LQ1, LQ2, LQ3, hk5', p1, p2]
    try simp only [pm_WV, pm_WW, true_and, and_true, true_or, or_true, and_self, reduceIte, Nat.reduceEqDiff, Nat.reduceLT, Nat.reduceLeDiff, Nat.reduceMul, false_and, and_false, reduceCtorEq, false_or, or_false, not_true_eq_false, not_false_eq_true, true_implies, false_implies, implies_true, lf_10, eq_self, Int32.reduceLT, Int32.reduceLE, Int32.reduceAdd, Int32.reduceSub, Int32.reduceDiv, Int32.reduceMul, pm_same, pm_i_wI, pm_l_wL, pm_l_wM, pm_oR_rf, pm_oQ_rf, sh_k5 hS, nI_1, sw_e, LQ1, LQ2, LQ3, pm_WI0, pm_WI1, pm_WI2, pm_WI3, pm_WI4, pm_WI5, pm_WV, pm_WW, pm_WX, pb_B42, pm_if, pm_QI_at, pm_QL_at, pm_QV_at, pm_QR_at, pm_QR_at0, pm_QR_at1, Nat.reduceSub, Nat.reduceAdd, List.replicate_zero, List.replicate_succ, hk5', p1, p2]
    have el : gx_law (gx_b (pm_i S0 6) n) n (g + 1 + 1) L p = if n ≤ x then (x, some L') else if gx_b (pm_i S0 6) n x = 59 then gx_law (gx_b (pm_i S0 6) n) n (g + 1) L' (x + 1) else (x, none) := by
      rw [gx_law, gx_bd_some e]
      show (if n ≤ x then _ else if g + 1 = 0 then _ else _) = _
      rw [if_neg (show ¬ g + 1 = 0 by omega)]
    refine ⟨fun z => ?_, fun z => ?_⟩
    · have hnx : ¬ n ≤ x := fun y => absurd z (nI_nlt y (by omega))
      rw [if_neg hnx] at el
      have e10 : (nI (10 - (g + 1)) = 10) = False := eq_false (fun z => by have := (nI_eq (a := 10 - (g + 1)) (b := 10) (by omega) (by omega)).mp z; omega)
      have e1 : nI (10 - (g + 1)) + 1 = nI (10 - g) := by rw [nI_1]; congr 1; omega
      try refine pm_wb_ok pb_c42 1 42 0 _ _ _ _ _ ?_
      try simp only [pm_WI0, pm_WI1, pm_WI2, pm_WI3, pm_WI4, pm_WI5, pm_WV, pm_WW, pm_WX, pb_B42, pm_if, pm_QI_at, pm_QL_at, pm_QV_at, pm_QR_at, pm_QR_at0, pm_QR_at1, Nat.reduceSub, Nat.reduceAdd, List.replicate_zero, List.replicate_succ, true_and, and_true, true_or, or_true, and_self, reduceIte, Nat.reduceEqDiff, Nat.reduceLT, Nat.reduceLeDiff, Nat.reduceMul, false_and, and_false, reduceCtorEq, false_or, or_false, not_true_eq_false, not_false_eq_true, true_implies, false_implies, implies_true, lf_10, eq_self, Int32.reduceLT, Int32.reduceLE, Int32.reduceAdd, Int32.reduceSub, Int32.reduceDiv, Int32.reduceMul, pm_same, pm_i_wI, pm_l_wL, pm_l_wM, pm_oR_rf, pm_oQ_rf, sh_k5 hS, nI_1, sw_e, LQ1, LQ2, LQ3, e10, hk5']
      refine ⟨by omega, rd_46 (c := 59) (n := n) hS2 hS'.2.2.1 (by omega) (fun y => ?_) (fun y => ?_)⟩ <;> rw [rB2] at y
      · have hlt := gx_lt gx_b_eof y (by omega)
        rw [if_pos y] at el
        have nx := ih _ (x + 1) L' (by omega) (hS'.mv hd0 (q := x + 1) (by omega)) (wf_mono hw2.1 (by omega) (by omega)) (fun x2 L2 S2 e2 hS2 => h1 x2 L2 S2 (by rw [el]; exact e2) hS2) (fun x2 S2 e2 hS2 => h0 x2 S2 (by rw [el]; exact e2) hS2)
        try simp only [pm_WV, pm_WW, true_and, and_true, true_or, or_true, and_self, reduceIte, Nat.reduceEqDiff, Nat.reduceLT, Nat.reduceLeDiff, Nat.reduceMul, false_and, and_false, reduceCtorEq, false_or, or_false, not_true_eq_false, not_false_eq_true, true_implies, false_implies, implies_true, lf_10, eq_self, Int32.reduceLT, Int32.reduceLE, Int32.reduceAdd, Int32.reduceSub, Int32.reduceDiv, Int32.reduceMul, pm_same, pm_i_wI, pm_l_wL, pm_l_wM, pm_oR_rf, pm_oQ_rf, sh_k5 hS, nI_1, sw_e, LQ1, LQ2, LQ3, pm_WI0, pm_WI1, pm_WI2, pm_WI3, pm_WI4, pm_WI5, pm_WV, pm_WW, pm_WX, pb_B42, pm_if, pm_QI_at, pm_QL_at, pm_QV_at, pm_QR_at, pm_QR_at0, pm_QR_at1, Nat.reduceSub, Nat.reduceAdd, List.replicate_zero, List.replicate_succ]
        first | refine ⟨fun z => absurd z (by decide), fun _ => ?_⟩ | skip
        try refine pm_wb_ok pb_c42 1 59 0 _ _ _ _ _ ?_
        try simp only [pm_WI0, pm_WI1, pm_WI2, pm_WI3, pm_WI4, pm_WI5, pm_WV, pm_WW, pm_WX, pb_B42, pm_if, pm_QI_at, pm_QL_at, pm_QV_at, pm_QR_at, pm_QR_at0, pm_QR_at1, Nat.reduceSub, Nat.reduceAdd, List.replicate_zero, List.replicate_succ, true_and, and_true, true_or, or_true, and_self, reduceIte, Nat.reduceEqDiff, Nat.reduceLT, Nat.reduceLeDiff, Nat.reduceMul, false_and, and_false, reduceCtorEq, false_or, or_false, not_true_eq_false, not_false_eq_true, true_implies, false_implies, implies_true, lf_10, eq_self, Int32.reduceLT, Int32.reduceLE, Int32.reduceAdd, Int32.reduceSub, Int32.reduceDiv, Int32.reduceMul, pm_same, pm_i_wI, pm_l_wL, pm_l_wM, pm_oR_rf, pm_oQ_rf, sh_k5 hS, nI_1, sw_e, LQ1, LQ2, LQ3, e1]
        exact nx
      · rw [if_neg y] at el
        have fin := h0 x S' el hS'.q
        try simp only [pm_WV, pm_WW, true_and, and_true, true_or, or_true, and_self, reduceIte, Nat.reduceEqDiff, Nat.reduceLT, Nat.reduceLeDiff, Nat.reduceMul, false_and, and_false, reduceCtorEq, false_or, or_false, not_true_eq_false, not_false_eq_true, true_implies, false_implies, implies_true, lf_10, eq_self, Int32.reduceLT, Int32.reduceLE, Int32.reduceAdd, Int32.reduceSub, Int32.reduceDiv, Int32.reduceMul, pm_same, pm_i_wI, pm_l_wL, pm_l_wM, pm_oR_rf, pm_oQ_rf, sh_k5 hS, nI_1, sw_e, LQ1, LQ2, LQ3, pm_WI0, pm_WI1, pm_WI2, pm_WI3, pm_WI4, pm_WI5, pm_WV, pm_WW, pm_WX, pb_B42, pm_if, pm_QI_at, pm_QL_at, pm_QV_at, pm_QR_at, pm_QR_at0, pm_QR_at1, Nat.reduceSub, Nat.reduceAdd, List.replicate_zero, List.replicate_succ]
        first
          | exact fin
          | exact ⟨fun _ => fin, fun z => absurd (by decide) z⟩
          | exact ⟨fun z => absurd z (by decide), fun _ => fin⟩
          | (refine pm_wb_ok pb_c42 1 57 0 _ _ _ _ _ ?_; simp only [pm_WI0, pm_WI1, pm_WI2, pm_WI3, pm_WI4, pm_WI5, pm_WV, pm_WW, pm_WX, pb_B42, pm_if, pm_QI_at, pm_QL_at, pm_QV_at, pm_QR_at, pm_QR_at0, pm_QR_at1, Nat.reduceSub, Nat.reduceAdd, List.replicate_zero, List.replicate_succ, true_and, and_true, true_or, or_true, and_self, reduceIte, Nat.reduceEqDiff, Nat.reduceLT, Nat.reduceLeDiff, Nat.reduceMul, false_and, and_false, reduceCtorEq, false_or, or_false, not_true_eq_false, not_false_eq_true, true_implies, false_implies, implies_true, lf_10, eq_self, Int32.reduceLT, Int32.reduceLE, Int32.reduceAdd, Int32.reduceSub, Int32.reduceDiv, Int32.reduceMul, pm_same, pm_i_wI, pm_l_wL, pm_l_wM, pm_oR_rf, pm_oQ_rf, sh_k5 hS, nI_1, sw_e, LQ1, LQ2, LQ3]; exact fin)
          | (refine ⟨fun _ => ?_, fun z => absurd (by decide) z⟩; refine pm_wb_ok pb_c42 1 57 0 _ _ _ _ _ ?_; simp only [pm_WI0, pm_WI1, pm_WI2, pm_WI3, pm_WI4, pm_WI5, pm_WV, pm_WW, pm_WX, pb_B42, pm_if, pm_QI_at, pm_QL_at, pm_QV_at, pm_QR_at, pm_QR_at0, pm_QR_at1, Nat.reduceSub, Nat.reduceAdd, List.replicate_zero, List.replicate_succ, true_and, and_true, true_or, or_true, and_self, reduceIte, Nat.reduceEqDiff, Nat.reduceLT, Nat.reduceLeDiff, Nat.reduceMul, false_and, and_false, reduceCtorEq, false_or, or_false, not_true_eq_false, not_false_eq_true, true_implies, false_implies, implies_true, lf_10, eq_self, Int32.reduceLT, Int32.reduceLE, Int32.reduceAdd, Int32.reduceSub, Int32.reduceDiv, Int32.reduceMul, pm_same, pm_i_wI, pm_l_wL, pm_l_wM, pm_oR_rf, pm_oQ_rf, sh_k5 hS, nI_1, sw_e, LQ1, LQ2, LQ3]; exact fin)
          | (refine ⟨fun z => absurd z (by decide), fun _ => ?_⟩; refine pm_wb_ok pb_c42 1 57 0 _ _ _ _ _ ?_; simp only [pm_WI0, pm_WI1, pm_WI2, pm_WI3, pm_WI4, pm_WI5, pm_WV, pm_WW, pm_WX, pb_B42, pm_if, pm_QI_at, pm_QL_at, pm_QV_at, pm_QR_at, pm_QR_at0, pm_QR_at1, Nat.reduceSub, Nat.reduceAdd, List.replicate_zero, List.replicate_succ, true_and, and_true, true_or, or_true, and_self, reduceIte, Nat.reduceEqDiff, Nat.reduceLT, Nat.reduceLeDiff, Nat.reduceMul, false_and, and_false, reduceCtorEq, false_or, or_false, not_true_eq_false, not_false_eq_true, true_implies, false_implies, implies_true, lf_10, eq_self, Int32.reduceLT, Int32.reduceLE, Int32.reduceAdd, Int32.reduceSub, Int32.reduceDiv, Int32.reduceMul, pm_same, pm_i_wI, pm_l_wL, pm_l_wM, pm_oR_rf, pm_oQ_rf, sh_k5 hS, nI_1, sw_e, LQ1, LQ2, LQ3]; exact fin)
    · have hnx : n ≤ x := by
        by_cases y : n ≤ x
        · exact y
        · exact absurd (nI_lt (a := x) (b := n) (by omega) (by omega)) z
      rw [if_pos hnx] at el
      exact h1 x L' S' el hS'
end CRL
theorem LQ5 : (((0 : Int32) = Int32.ofNat 0) = True) ∧ (((0 : Int32) = Int32.ofNat 1) = False) ∧ (((0 : Int32) = Int32.ofNat 2) = False) ∧ (((0 : Int32) = Int32.ofNat 3) = False) ∧ (((0 : Int32) = Int32.ofNat 4) = False) ∧ (((0 : Int32) = Int32.ofNat 5) = False) ∧ (((0 : Int32) = Int32.ofNat 6) = False) ∧ (((0 : Int32) = Int32.ofNat 7) = False) ∧ (((0 : Int32) = Int32.ofNat 8) = False) ∧ (((0 : Int32) = Int32.ofNat 9) = False) ∧ (((0 : Int32) = Int32.ofNat 10) = False) ∧ (((1 : Int32) = Int32.ofNat 0) = False) ∧ (((1 : Int32) = Int32.ofNat 1) = True) ∧ (((1 : Int32) = Int32.ofNat 2) = False) ∧ (((1 : Int32) = Int32.ofNat 3) = False) ∧ (((1 : Int32) = Int32.ofNat 4) = False) ∧ (((1 : Int32) = Int32.ofNat 5) = False) ∧ (((1 : Int32) = Int32.ofNat 6) = False) ∧ (((1 : Int32) = Int32.ofNat 7) = False) ∧ (((1 : Int32) = Int32.ofNat 8) = False) ∧ (((1 : Int32) = Int32.ofNat 9) = False) ∧ (((1 : Int32) = Int32.ofNat 10) = False) ∧ (((2 : Int32) = Int32.ofNat 0) = False) ∧ (((2 : Int32) = Int32.ofNat 1) = False) ∧ (((2 : Int32) = Int32.ofNat 2) = True) ∧ (((2 : Int32) = Int32.ofNat 3) = False) ∧ (((2 : Int32) = Int32.ofNat 4) = False) ∧ (((2 : Int32) = Int32.ofNat 5) = False) ∧ (((2 : Int32) = Int32.ofNat 6) = False) ∧ (((2 : Int32) = Int32.ofNat 7) = False) ∧ (((2 : Int32) = Int32.ofNat 8) = False) ∧ (((2 : Int32) = Int32.ofNat 9) = False) ∧ (((2 : Int32) = Int32.ofNat 10) = False) ∧ (((3 : Int32) = Int32.ofNat 0) = False) ∧ (((3 : Int32) = Int32.ofNat 1) = False) ∧ (((3 : Int32) = Int32.ofNat 2) = False) ∧ (((3 : Int32) = Int32.ofNat 3) = True) ∧ (((3 : Int32) = Int32.ofNat 4) = False) ∧ (((3 : Int32) = Int32.ofNat 5) = False) ∧ (((3 : Int32) = Int32.ofNat 6) = False) ∧ (((3 : Int32) = Int32.ofNat 7) = False) ∧ (((3 : Int32) = Int32.ofNat 8) = False) ∧ (((3 : Int32) = Int32.ofNat 9) = False) ∧ (((3 : Int32) = Int32.ofNat 10) = False) ∧ (((4 : Int32) = Int32.ofNat 0) = False) ∧ (((4 : Int32) = Int32.ofNat 1) = False) ∧ (((4 : Int32) = Int32.ofNat 2) = False) ∧ (((4 : Int32) = Int32.ofNat 3) = False) ∧ (((4 : Int32) = Int32.ofNat 4) = True) ∧ (((4 : Int32) = Int32.ofNat 5) = False) ∧ (((4 : Int32) = Int32.ofNat 6) = False) ∧ (((4 : Int32) = Int32.ofNat 7) = False) ∧ (((4 : Int32) = Int32.ofNat 8) = False) ∧ (((4 : Int32) = Int32.ofNat 9) = False) ∧ (((4 : Int32) = Int32.ofNat 10) = False) ∧ (((5 : Int32) = Int32.ofNat 0) = False) ∧ (((5 : Int32) = Int32.ofNat 1) = False) ∧ (((5 : Int32) = Int32.ofNat 2) = False) ∧ (((5 : Int32) = Int32.ofNat 3) = False) ∧ (((5 : Int32) = Int32.ofNat 4) = False) ∧ (((5 : Int32) = Int32.ofNat 5) = True) ∧ (((5 : Int32) = Int32.ofNat 6) = False) ∧ (((5 : Int32) = Int32.ofNat 7) = False) ∧ (((5 : Int32) = Int32.ofNat 8) = False) ∧ (((5 : Int32) = Int32.ofNat 9) = False) ∧ (((5 : Int32) = Int32.ofNat 10) = False) ∧ (((6 : Int32) = Int32.ofNat 0) = False) ∧ (((6 : Int32) = Int32.ofNat 1) = False) ∧ (((6 : Int32) = Int32.ofNat 2) = False) ∧ (((6 : Int32) = Int32.ofNat 3) = False) ∧ (((6 : Int32) = Int32.ofNat 4) = False) ∧ (((6 : Int32) = Int32.ofNat 5) = False) ∧ (((6 : Int32) = Int32.ofNat 6) = True) ∧ (((6 : Int32) = Int32.ofNat 7) = False) ∧ (((6 : Int32) = Int32.ofNat 8) = False) ∧ (((6 : Int32) = Int32.ofNat 9) = False) ∧ (((6 : Int32) = Int32.ofNat 10) = False) ∧ (((7 : Int32) = Int32.ofNat 0) = False) ∧ (((7 : Int32) = Int32.ofNat 1) = False) ∧ (((7 : Int32) = Int32.ofNat 2) = False) ∧ (((7 : Int32) = Int32.ofNat 3) = False) ∧ (((7 : Int32) = Int32.ofNat 4) = False) ∧ (((7 : Int32) = Int32.ofNat 5) = False) ∧ (((7 : Int32) = Int32.ofNat 6) = False) ∧ (((7 : Int32) = Int32.ofNat 7) = True) ∧ (((7 : Int32) = Int32.ofNat 8) = False) ∧ (((7 : Int32) = Int32.ofNat 9) = False) ∧ (((7 : Int32) = Int32.ofNat 10) = False) ∧ (((8 : Int32) = Int32.ofNat 0) = False) ∧ (((8 : Int32) = Int32.ofNat 1) = False) ∧ (((8 : Int32) = Int32.ofNat 2) = False) ∧ (((8 : Int32) = Int32.ofNat 3) = False) ∧ (((8 : Int32) = Int32.ofNat 4) = False) ∧ (((8 : Int32) = Int32.ofNat 5) = False) ∧ (((8 : Int32) = Int32.ofNat 6) = False) ∧ (((8 : Int32) = Int32.ofNat 7) = False) ∧ (((8 : Int32) = Int32.ofNat 8) = True) ∧ (((8 : Int32) = Int32.ofNat 9) = False) ∧ (((8 : Int32) = Int32.ofNat 10) = False) ∧ (((9 : Int32) = Int32.ofNat 0) = False) ∧ (((9 : Int32) = Int32.ofNat 1) = False) ∧ (((9 : Int32) = Int32.ofNat 2) = False) ∧ (((9 : Int32) = Int32.ofNat 3) = False) ∧ (((9 : Int32) = Int32.ofNat 4) = False) ∧ (((9 : Int32) = Int32.ofNat 5) = False) ∧ (((9 : Int32) = Int32.ofNat 6) = False) ∧ (((9 : Int32) = Int32.ofNat 7) = False) ∧ (((9 : Int32) = Int32.ofNat 8) = False) ∧ (((9 : Int32) = Int32.ofNat 9) = True) ∧ (((9 : Int32) = Int32.ofNat 10) = False) ∧ (((10 : Int32) = Int32.ofNat 0) = False) ∧ (((10 : Int32) = Int32.ofNat 1) = False) ∧ (((10 : Int32) = Int32.ofNat 2) = False) ∧ (((10 : Int32) = Int32.ofNat 3) = False) ∧ (((10 : Int32) = Int32.ofNat 4) = False) ∧ (((10 : Int32) = Int32.ofNat 5) = False) ∧ (((10 : Int32) = Int32.ofNat 6) = False) ∧ (((10 : Int32) = Int32.ofNat 7) = False) ∧ (((10 : Int32) = Int32.ofNat 8) = False) ∧ (((10 : Int32) = Int32.ofNat 9) = False) ∧ (((10 : Int32) = Int32.ofNat 10) = True) := ⟨eq_true (by decide), eq_false (by decide), eq_false (by decide), eq_false (by decide), eq_false (by decide), eq_false (by decide), eq_false (by decide), eq_false (by decide), eq_false (by decide), eq_false (by decide), eq_false (by decide), eq_false (by decide), eq_true (by decide), eq_false (by decide), eq_false (by decide), eq_false (by decide), eq_false (by decide), eq_false (by decide), eq_false (by decide), eq_false (by decide), eq_false (by decide), eq_false (by decide), eq_false (by decide), eq_false (by decide), eq_true (by decide), eq_false (by decide), eq_false (by decide), eq_false (by decide), eq_false (by decide), eq_false (by decide), eq_false (by decide), eq_false (by decide), eq_false (by decide), eq_false (by decide), eq_false (by decide), eq_false (by decide), eq_true (by decide), eq_false (by decide), eq_false (by decide), eq_false (by decide), eq_false (by decide), eq_false (by decide), eq_false (by decide), eq_false (by decide), eq_false (by decide), eq_false (by decide), eq_false (by decide), eq_false (by decide), eq_true (by decide), eq_false (by decide), eq_false (by decide), eq_false (by decide), eq_false (by decide), eq_false (by decide), eq_false (by decide), eq_false (by decide), eq_false (by decide), eq_false (by decide), eq_false (by decide), eq_false (by decide), eq_true (by decide), eq_false (by decide), eq_false (by decide), eq_false (by decide), eq_false (by decide), eq_false (by decide), eq_false (by decide), eq_false (by decide), eq_false (by decide), eq_false (by decide), eq_false (by decide), eq_false (by decide), eq_true (by decide), eq_false (by decide), eq_false (by decide), eq_false (by decide), eq_false (by decide), eq_false (by decide), eq_false (by decide), eq_false (by decide), eq_false (by decide), eq_false (by decide), eq_false (by decide), eq_false (by decide), eq_true (by decide), eq_false (by decide), eq_false (by decide), eq_false (by decide), eq_false (by decide), eq_false (by decide), eq_false (by decide), eq_false (by decide), eq_false (by decide), eq_false (by decide), eq_false (by decide), eq_false (by decide), eq_true (by decide), eq_false (by decide), eq_false (by decide), eq_false (by decide), eq_false (by decide), eq_false (by decide), eq_false (by decide), eq_false (by decide), eq_false (by decide), eq_false (by decide), eq_false (by decide), eq_false (by decide), eq_true (by decide), eq_false (by decide), eq_false (by decide), eq_false (by decide), eq_false (by decide), eq_false (by decide), eq_false (by decide), eq_false (by decide), eq_false (by decide), eq_false (by decide), eq_false (by decide), eq_false (by decide), eq_true (by decide)⟩
/-! E judged by the class -/
theorem st_bits {x : Nat} (hx : x < 2 ^ 22) : nI x >>> ((4 : Int32) &&& 31) = nI (x / 16) ∧ nI (x / 16) &&& 15 = nI (x / 16 % 16) ∧ nI x >>> ((8 : Int32) &&& 31) = nI (x / 256) ∧ nI x &&& 15 = nI (x % 16) :=
  ⟨pk_shrN (by omega) _ 4 (by decide), pk_andN (by omega) 4 (by decide), pk_shrN (by omega) _ 8 (by decide), pk_andN (by omega) 4 (by decide)⟩
theorem fa_f_cl {A : iv_A} {S : pm_S} (hI : Inv A S) {m : Nat} {s k : Int32} : ac_f (ac_c (pm_i S 76) (pm_i S 79) s k) (ac_bt (pm_i S 77) false) (iv_acts S m) none = fa_f S m s k := ac_eq hI _ _
theorem fa_l_cl {A : iv_A} {S : pm_S} (hI : Inv A S) {m : Nat} {s k : Int32} : ac_f (ac_c (pm_i S 76) (pm_i S 79) s k) (ac_bt (pm_i S 77) true) (iv_acts S m) none = fa_l S m s k := ac_eq hI _ _
theorem fa_f_lt {S : pm_S} {m : Nat} {s k : Int32} {a : Nat} (h : fa_f S m s k = some a) : a < iv_c S 24 := ac_f_lt h
theorem fa_l_lt {S : pm_S} {m : Nat} {s k : Int32} {a : Nat} (h : fa_l S m s k = some a) : a < iv_c S 24 := ac_f_lt h
theorem lf_59 {G : pm_G} {d : Nat} {A : iv_A} {S : pm_S} {m : Nat} {s k : Int32} {q : Option Nat → pm_S → Prop} (hI : Inv A S) (hm : m < iv_c S 18) (h : q ((fa_f S m s k).map (iv_a A)) S) : pm_CR G d 59 [.ref (iv_m A m), .int s, .int k] S q := ac_59 hI hm (by rw [fa_f_cl hI]; exact h)
theorem lf_60 {G : pm_G} {d : Nat} {A : iv_A} {S : pm_S} {m : Nat} {s k : Int32} {q : Option Nat → pm_S → Prop} (hI : Inv A S) (hm : m < iv_c S 18) (h : q ((fa_l S m s k).map (iv_a A)) S) : pm_CR G d 60 [.ref (iv_m A m), .int s, .int k] S q := ac_60 hI hm (by rw [fa_l_cl hI]; exact h)
theorem lf_36_0 {G : pm_G} {d : Nat} {A : iv_A} {S : pm_S} {m x : Nat} {k : Int32} {q : Int32 → pm_S → Prop} (hd : 2 ≤ d) (hI : Inv A S) (hm : m < iv_c S 18) (hx : x < 2 ^ 22) (h : q (bI (tv S m k x)) S) (hc : x % 16 = 0) : pm_CI G d 36 [.int (nI x), .ref (iv_m A m), .int k] S q := by
  obtain ⟨b1, b2, b3, b4⟩ := st_bits hx
  have hw := hI.row hm
  rw [hc] at b4
  have ht : tv S m k x = decide (pm_i S 65 m = nI (x / 256)) := by unfold tv; rw [hc]; rfl
  rw [ht] at h
  have ei : (nI 0 : Int32) = 0 := rfl
  rw [ei] at b4
  refine pm_goI 36 6 pb_c36 (by decide) (Nat.le_of_ble_eq_true rfl) rfl ?_
  try simp only [show pm_mL 36 = 6 from rfl, pm_WI0, pm_WI1, pm_WI2, pm_WI3, pm_WI4, pm_WI5, pm_WV, pm_WW, pm_WX, pb_B36, pm_if, pm_QI_at, pm_QL_at, pm_QV_at, pm_QR_at, pm_QR_at0, pm_QR_at1, Nat.reduceSub, Nat.reduceAdd, List.replicate_zero, List.replicate_succ, true_and, and_true, true_or, or_true, and_self, reduceIte, Nat.reduceEqDiff, Nat.reduceLT, Nat.reduceLeDiff, Nat.reduceMul, false_and, and_false, reduceCtorEq, false_or, or_false, not_true_eq_false, not_false_eq_true, true_implies, false_implies, implies_true, lf_10, eq_self, Int32.reduceLT, Int32.reduceLE, Int32.reduceAdd, Int32.reduceSub, Int32.reduceDiv, Int32.reduceMul, pm_same, pm_i_wI, pm_l_wL, pm_l_wM, pm_oR_rf, pm_oQ_rf, nI_1, sw_e, LQ1, LQ2, LQ5, b1, b2, b3, hw.k, hw.f3, hw.f4, hw.f5, b4]
  by_cases hcc : pm_i S 65 m = nI (x / 256)
  · have h1 : q 1 S := by rw [decide_eq_true hcc] at h; exact h
    refine ⟨fun z => ?_, fun z => ?_⟩
    all_goals first | exact absurd hcc z | exact h1 | (exfalso; lia)
  · have h1 : q 0 S := by rw [decide_eq_false hcc] at h; exact h
    refine ⟨fun z => ?_, fun z => ?_⟩
    all_goals first | exact absurd z hcc | exact h1 | (exfalso; lia)
theorem lf_36_1 {G : pm_G} {d : Nat} {A : iv_A} {S : pm_S} {m x : Nat} {k : Int32} {q : Int32 → pm_S → Prop} (hd : 2 ≤ d) (hI : Inv A S) (hm : m < iv_c S 18) (hx : x < 2 ^ 22) (h : q (bI (tv S m k x)) S) (hc : x % 16 = 1) : pm_CI G d 36 [.int (nI x), .ref (iv_m A m), .int k] S q := by
  obtain ⟨b1, b2, b3, b4⟩ := st_bits hx
  have hw := hI.row hm
  rw [hc] at b4
  have ht : tv S m k x = (fa_f S m (nI (x / 16 % 16)) k).isSome := by unfold tv; rw [hc]; rfl
  rw [ht] at h
  have ei : (nI 1 : Int32) = 1 := rfl
  rw [ei] at b4
  refine pm_goI 36 6 pb_c36 (by decide) (Nat.le_of_ble_eq_true rfl) rfl ?_
  try simp only [show pm_mL 36 = 6 from rfl, pm_WI0, pm_WI1, pm_WI2, pm_WI3, pm_WI4, pm_WI5, pm_WV, pm_WW, pm_WX, pb_B36, pm_if, pm_QI_at, pm_QL_at, pm_QV_at, pm_QR_at, pm_QR_at0, pm_QR_at1, Nat.reduceSub, Nat.reduceAdd, List.replicate_zero, List.replicate_succ, true_and, and_true, true_or, or_true, and_self, reduceIte, Nat.reduceEqDiff, Nat.reduceLT, Nat.reduceLeDiff, Nat.reduceMul, false_and, and_false, reduceCtorEq, false_or, or_false, not_true_eq_false, not_false_eq_true, true_implies, false_implies, implies_true, lf_10, eq_self, Int32.reduceLT, Int32.reduceLE, Int32.reduceAdd, Int32.reduceSub, Int32.reduceDiv, Int32.reduceMul, pm_same, pm_i_wI, pm_l_wL, pm_l_wM, pm_oR_rf, pm_oQ_rf, nI_1, sw_e, LQ1, LQ2, LQ5, b1, b2, b3, hw.k, hw.f3, hw.f4, hw.f5, b4]
  refine ⟨by omega, lf_59 hI hm ?_⟩
  cases ha : fa_f S m (nI (x / 16 % 16)) k with
  | none =>
    rw [ha] at h
    try simp only [pm_WV, pm_WW, true_and, and_true, true_or, or_true, and_self, reduceIte, Nat.reduceEqDiff, Nat.reduceLT, Nat.reduceLeDiff, Nat.reduceMul, false_and, and_false, reduceCtorEq, false_or, or_false, not_true_eq_false, not_false_eq_true, true_implies, false_implies, implies_true, lf_10, eq_self, Int32.reduceLT, Int32.reduceLE, Int32.reduceAdd, Int32.reduceSub, Int32.reduceDiv, Int32.reduceMul, pm_same, pm_i_wI, pm_l_wL, pm_l_wM, pm_oR_rf, pm_oQ_rf, nI_1, sw_e, LQ1, LQ2, LQ5, pm_WI0, pm_WI1, pm_WI2, pm_WI3, pm_WI4, pm_WI5, pm_WV, pm_WW, pm_WX, pb_B36, pm_if, pm_QI_at, pm_QL_at, pm_QV_at, pm_QR_at, pm_QR_at0, pm_QR_at1, Nat.reduceSub, Nat.reduceAdd, List.replicate_zero, List.replicate_succ, Option.map_none]
    exact h
  | some a =>
    rw [ha] at h
    try simp only [pm_WV, pm_WW, true_and, and_true, true_or, or_true, and_self, reduceIte, Nat.reduceEqDiff, Nat.reduceLT, Nat.reduceLeDiff, Nat.reduceMul, false_and, and_false, reduceCtorEq, false_or, or_false, not_true_eq_false, not_false_eq_true, true_implies, false_implies, implies_true, lf_10, eq_self, Int32.reduceLT, Int32.reduceLE, Int32.reduceAdd, Int32.reduceSub, Int32.reduceDiv, Int32.reduceMul, pm_same, pm_i_wI, pm_l_wL, pm_l_wM, pm_oR_rf, pm_oQ_rf, nI_1, sw_e, LQ1, LQ2, LQ5, pm_WI0, pm_WI1, pm_WI2, pm_WI3, pm_WI4, pm_WI5, pm_WV, pm_WW, pm_WX, pb_B36, pm_if, pm_QI_at, pm_QL_at, pm_QV_at, pm_QR_at, pm_QR_at0, pm_QR_at1, Nat.reduceSub, Nat.reduceAdd, List.replicate_zero, List.replicate_succ, Option.map_some]
    exact h
theorem lf_36_2 {G : pm_G} {d : Nat} {A : iv_A} {S : pm_S} {m x : Nat} {k : Int32} {q : Int32 → pm_S → Prop} (hd : 2 ≤ d) (hI : Inv A S) (hm : m < iv_c S 18) (hx : x < 2 ^ 22) (h : q (bI (tv S m k x)) S) (hc : x % 16 = 2) : pm_CI G d 36 [.int (nI x), .ref (iv_m A m), .int k] S q := by
  obtain ⟨b1, b2, b3, b4⟩ := st_bits hx
  have hw := hI.row hm
  rw [hc] at b4
  have ht : tv S m k x = tv_w S (fa_l S m (nI (x / 16 % 16)) k) true (nI (x / 256)) := by unfold tv; rw [hc]; rfl
  rw [ht] at h
  have ei : (nI 2 : Int32) = 2 := rfl
  rw [ei] at b4
  refine pm_goI 36 6 pb_c36 (by decide) (Nat.le_of_ble_eq_true rfl) rfl ?_
  try simp only [show pm_mL 36 = 6 from rfl, pm_WI0, pm_WI1, pm_WI2, pm_WI3, pm_WI4, pm_WI5, pm_WV, pm_WW, pm_WX, pb_B36, pm_if, pm_QI_at, pm_QL_at, pm_QV_at, pm_QR_at, pm_QR_at0, pm_QR_at1, Nat.reduceSub, Nat.reduceAdd, List.replicate_zero, List.replicate_succ, true_and, and_true, true_or, or_true, and_self, reduceIte, Nat.reduceEqDiff, Nat.reduceLT, Nat.reduceLeDiff, Nat.reduceMul, false_and, and_false, reduceCtorEq, false_or, or_false, not_true_eq_false, not_false_eq_true, true_implies, false_implies, implies_true, lf_10, eq_self, Int32.reduceLT, Int32.reduceLE, Int32.reduceAdd, Int32.reduceSub, Int32.reduceDiv, Int32.reduceMul, pm_same, pm_i_wI, pm_l_wL, pm_l_wM, pm_oR_rf, pm_oQ_rf, nI_1, sw_e, LQ1, LQ2, LQ5, b1, b2, b3, hw.k, hw.f3, hw.f4, hw.f5, b4]
  refine ⟨by omega, lf_60 hI hm ?_⟩
  cases ha : fa_l S m (nI (x / 16 % 16)) k with
  | none =>
    rw [ha] at h
    try simp only [pm_WV, pm_WW, true_and, and_true, true_or, or_true, and_self, reduceIte, Nat.reduceEqDiff, Nat.reduceLT, Nat.reduceLeDiff, Nat.reduceMul, false_and, and_false, reduceCtorEq, false_or, or_false, not_true_eq_false, not_false_eq_true, true_implies, false_implies, implies_true, lf_10, eq_self, Int32.reduceLT, Int32.reduceLE, Int32.reduceAdd, Int32.reduceSub, Int32.reduceDiv, Int32.reduceMul, pm_same, pm_i_wI, pm_l_wL, pm_l_wM, pm_oR_rf, pm_oQ_rf, nI_1, sw_e, LQ1, LQ2, LQ5, pm_WI0, pm_WI1, pm_WI2, pm_WI3, pm_WI4, pm_WI5, pm_WV, pm_WW, pm_WX, pb_B36, pm_if, pm_QI_at, pm_QL_at, pm_QV_at, pm_QR_at, pm_QR_at0, pm_QR_at1, Nat.reduceSub, Nat.reduceAdd, List.replicate_zero, List.replicate_succ, b1, b2, b3, hw.k, hw.f3, hw.f4, hw.f5, b4, Option.map_none]
    exact h
  | some a =>
    rw [ha] at h
    obtain ⟨⟨a1, a2, a3⟩, ⟨f0, f1, f2, f3, f4⟩, _⟩ := hI.act.2.2.1 a (fa_l_lt ha)
    try simp only [pm_WV, pm_WW, true_and, and_true, true_or, or_true, and_self, reduceIte, Nat.reduceEqDiff, Nat.reduceLT, Nat.reduceLeDiff, Nat.reduceMul, false_and, and_false, reduceCtorEq, false_or, or_false, not_true_eq_false, not_false_eq_true, true_implies, false_implies, implies_true, lf_10, eq_self, Int32.reduceLT, Int32.reduceLE, Int32.reduceAdd, Int32.reduceSub, Int32.reduceDiv, Int32.reduceMul, pm_same, pm_i_wI, pm_l_wL, pm_l_wM, pm_oR_rf, pm_oQ_rf, nI_1, sw_e, LQ1, LQ2, LQ5, pm_WI0, pm_WI1, pm_WI2, pm_WI3, pm_WI4, pm_WI5, pm_WV, pm_WW, pm_WX, pb_B36, pm_if, pm_QI_at, pm_QL_at, pm_QV_at, pm_QR_at, pm_QR_at0, pm_QR_at1, Nat.reduceSub, Nat.reduceAdd, List.replicate_zero, List.replicate_succ, b1, b2, b3, hw.k, hw.f3, hw.f4, hw.f5, b4, Option.map_some, a3, f2, b4]
    unfold tv_w at h
    refine ⟨fun z => ?_, fun z => ?_⟩
    all_goals first
      | (have hcc : ¬ pm_i S 78 a < nI (x / 256) := by lia
         have h1 : q 0 S := by simp only [hcc, decide_false, reduceIte, Bool.false_eq_true] at h; exact h
         exact h1)
      | (have hcc : pm_i S 78 a < nI (x / 256) := by lia
         have h1 : q 1 S := by simp only [hcc, decide_true, reduceIte, Bool.false_eq_true] at h; exact h
         exact h1)
theorem lf_36_4 {G : pm_G} {d : Nat} {A : iv_A} {S : pm_S} {m x : Nat} {k : Int32} {q : Int32 → pm_S → Prop} (hd : 2 ≤ d) (hI : Inv A S) (hm : m < iv_c S 18) (hx : x < 2 ^ 22) (h : q (bI (tv S m k x)) S) (hc : x % 16 = 4) : pm_CI G d 36 [.int (nI x), .ref (iv_m A m), .int k] S q := by
  obtain ⟨b1, b2, b3, b4⟩ := st_bits hx
  have hw := hI.row hm
  rw [hc] at b4
  have ht : tv S m k x = decide (pm_i S 67 m < nI (x / 256)) := by unfold tv; rw [hc]; rfl
  rw [ht] at h
  have ei : (nI 4 : Int32) = 4 := rfl
  rw [ei] at b4
  refine pm_goI 36 6 pb_c36 (by decide) (Nat.le_of_ble_eq_true rfl) rfl ?_
  try simp only [show pm_mL 36 = 6 from rfl, pm_WI0, pm_WI1, pm_WI2, pm_WI3, pm_WI4, pm_WI5, pm_WV, pm_WW, pm_WX, pb_B36, pm_if, pm_QI_at, pm_QL_at, pm_QV_at, pm_QR_at, pm_QR_at0, pm_QR_at1, Nat.reduceSub, Nat.reduceAdd, List.replicate_zero, List.replicate_succ, true_and, and_true, true_or, or_true, and_self, reduceIte, Nat.reduceEqDiff, Nat.reduceLT, Nat.reduceLeDiff, Nat.reduceMul, false_and, and_false, reduceCtorEq, false_or, or_false, not_true_eq_false, not_false_eq_true, true_implies, false_implies, implies_true, lf_10, eq_self, Int32.reduceLT, Int32.reduceLE, Int32.reduceAdd, Int32.reduceSub, Int32.reduceDiv, Int32.reduceMul, pm_same, pm_i_wI, pm_l_wL, pm_l_wM, pm_oR_rf, pm_oQ_rf, nI_1, sw_e, LQ1, LQ2, LQ5, b1, b2, b3, hw.k, hw.f3, hw.f4, hw.f5, b4]
  by_cases hcc : pm_i S 67 m < nI (x / 256)
  · have h1 : q 1 S := by rw [decide_eq_true hcc] at h; exact h
    refine ⟨fun z => ?_, fun z => ?_⟩
    all_goals first | exact absurd hcc z | exact h1 | (exfalso; lia)
  · have h1 : q 0 S := by rw [decide_eq_false hcc] at h; exact h
    refine ⟨fun z => ?_, fun z => ?_⟩
    all_goals first | exact absurd z hcc | exact h1 | (exfalso; lia)
theorem lf_36_5 {G : pm_G} {d : Nat} {A : iv_A} {S : pm_S} {m x : Nat} {k : Int32} {q : Int32 → pm_S → Prop} (hd : 2 ≤ d) (hI : Inv A S) (hm : m < iv_c S 18) (hx : x < 2 ^ 22) (h : q (bI (tv S m k x)) S) (hc : x % 16 = 5) : pm_CI G d 36 [.int (nI x), .ref (iv_m A m), .int k] S q := by
  obtain ⟨b1, b2, b3, b4⟩ := st_bits hx
  have hw := hI.row hm
  rw [hc] at b4
  have ht : tv S m k x = decide (nI (x / 256) < pm_i S 67 m) := by unfold tv; rw [hc]; rfl
  rw [ht] at h
  have ei : (nI 5 : Int32) = 5 := rfl
  rw [ei] at b4
  refine pm_goI 36 6 pb_c36 (by decide) (Nat.le_of_ble_eq_true rfl) rfl ?_
  try simp only [show pm_mL 36 = 6 from rfl, pm_WI0, pm_WI1, pm_WI2, pm_WI3, pm_WI4, pm_WI5, pm_WV, pm_WW, pm_WX, pb_B36, pm_if, pm_QI_at, pm_QL_at, pm_QV_at, pm_QR_at, pm_QR_at0, pm_QR_at1, Nat.reduceSub, Nat.reduceAdd, List.replicate_zero, List.replicate_succ, true_and, and_true, true_or, or_true, and_self, reduceIte, Nat.reduceEqDiff, Nat.reduceLT, Nat.reduceLeDiff, Nat.reduceMul, false_and, and_false, reduceCtorEq, false_or, or_false, not_true_eq_false, not_false_eq_true, true_implies, false_implies, implies_true, lf_10, eq_self, Int32.reduceLT, Int32.reduceLE, Int32.reduceAdd, Int32.reduceSub, Int32.reduceDiv, Int32.reduceMul, pm_same, pm_i_wI, pm_l_wL, pm_l_wM, pm_oR_rf, pm_oQ_rf, nI_1, sw_e, LQ1, LQ2, LQ5, b1, b2, b3, hw.k, hw.f3, hw.f4, hw.f5, b4]
  by_cases hcc : nI (x / 256) < pm_i S 67 m
  · have h1 : q 1 S := by rw [decide_eq_true hcc] at h; exact h
    refine ⟨fun z => ?_, fun z => ?_⟩
    all_goals first | exact absurd hcc z | exact h1 | (exfalso; lia)
  · have h1 : q 0 S := by rw [decide_eq_false hcc] at h; exact h
    refine ⟨fun z => ?_, fun z => ?_⟩
    all_goals first | exact absurd z hcc | exact h1 | (exfalso; lia)
theorem lf_36_6 {G : pm_G} {d : Nat} {A : iv_A} {S : pm_S} {m x : Nat} {k : Int32} {q : Int32 → pm_S → Prop} (hd : 2 ≤ d) (hI : Inv A S) (hm : m < iv_c S 18) (hx : x < 2 ^ 22) (h : q (bI (tv S m k x)) S) (hc : x % 16 = 6) : pm_CI G d 36 [.int (nI x), .ref (iv_m A m), .int k] S q := by
  obtain ⟨b1, b2, b3, b4⟩ := st_bits hx
  have hw := hI.row hm
  rw [hc] at b4
  have ht : tv S m k x = decide (k - pm_i S 66 m < nI (x / 256)) := by unfold tv; rw [hc]; rfl
  rw [ht] at h
  have ei : (nI 6 : Int32) = 6 := rfl
  rw [ei] at b4
  refine pm_goI 36 6 pb_c36 (by decide) (Nat.le_of_ble_eq_true rfl) rfl ?_
  try simp only [show pm_mL 36 = 6 from rfl, pm_WI0, pm_WI1, pm_WI2, pm_WI3, pm_WI4, pm_WI5, pm_WV, pm_WW, pm_WX, pb_B36, pm_if, pm_QI_at, pm_QL_at, pm_QV_at, pm_QR_at, pm_QR_at0, pm_QR_at1, Nat.reduceSub, Nat.reduceAdd, List.replicate_zero, List.replicate_succ, true_and, and_true, true_or, or_true, and_self, reduceIte, Nat.reduceEqDiff, Nat.reduceLT, Nat.reduceLeDiff, Nat.reduceMul, false_and, and_false, reduceCtorEq, false_or, or_false, not_true_eq_false, not_false_eq_true, true_implies, false_implies, implies_true, lf_10, eq_self, Int32.reduceLT, Int32.reduceLE, Int32.reduceAdd, Int32.reduceSub, Int32.reduceDiv, Int32.reduceMul, pm_same, pm_i_wI, pm_l_wL, pm_l_wM, pm_oR_rf, pm_oQ_rf, nI_1, sw_e, LQ1, LQ2, LQ5, b1, b2, b3, hw.k, hw.f3, hw.f4, hw.f5, b4]
  by_cases hcc : k - pm_i S 66 m < nI (x / 256)
  · have h1 : q 1 S := by rw [decide_eq_true hcc] at h; exact h
    refine ⟨fun z => ?_, fun z => ?_⟩
    all_goals first | exact absurd hcc z | exact h1 | (exfalso; lia)
  · have h1 : q 0 S := by rw [decide_eq_false hcc] at h; exact h
    refine ⟨fun z => ?_, fun z => ?_⟩
    all_goals first | exact absurd z hcc | exact h1 | (exfalso; lia)
theorem lf_36_7 {G : pm_G} {d : Nat} {A : iv_A} {S : pm_S} {m x : Nat} {k : Int32} {q : Int32 → pm_S → Prop} (hd : 2 ≤ d) (hI : Inv A S) (hm : m < iv_c S 18) (hx : x < 2 ^ 22) (h : q (bI (tv S m k x)) S) (hc : x % 16 = 7) : pm_CI G d 36 [.int (nI x), .ref (iv_m A m), .int k] S q := by
  obtain ⟨b1, b2, b3, b4⟩ := st_bits hx
  have hw := hI.row hm
  rw [hc] at b4
  have ht : tv S m k x = decide (nI (x / 256) < k - pm_i S 66 m) := by unfold tv; rw [hc]; rfl
  rw [ht] at h
  have ei : (nI 7 : Int32) = 7 := rfl
  rw [ei] at b4
  refine pm_goI 36 6 pb_c36 (by decide) (Nat.le_of_ble_eq_true rfl) rfl ?_
  try simp only [show pm_mL 36 = 6 from rfl, pm_WI0, pm_WI1, pm_WI2, pm_WI3, pm_WI4, pm_WI5, pm_WV, pm_WW, pm_WX, pb_B36, pm_if, pm_QI_at, pm_QL_at, pm_QV_at, pm_QR_at, pm_QR_at0, pm_QR_at1, Nat.reduceSub, Nat.reduceAdd, List.replicate_zero, List.replicate_succ, true_and, and_true, true_or, or_true, and_self, reduceIte, Nat.reduceEqDiff, Nat.reduceLT, Nat.reduceLeDiff, Nat.reduceMul, false_and, and_false, reduceCtorEq, false_or, or_false, not_true_eq_false, not_false_eq_true, true_implies, false_implies, implies_true, lf_10, eq_self, Int32.reduceLT, Int32.reduceLE, Int32.reduceAdd, Int32.reduceSub, Int32.reduceDiv, Int32.reduceMul, pm_same, pm_i_wI, pm_l_wL, pm_l_wM, pm_oR_rf, pm_oQ_rf, nI_1, sw_e, LQ1, LQ2, LQ5, b1, b2, b3, hw.k, hw.f3, hw.f4, hw.f5, b4]
  by_cases hcc : nI (x / 256) < k - pm_i S 66 m
  · have h1 : q 1 S := by rw [decide_eq_true hcc] at h; exact h
    refine ⟨fun z => ?_, fun z => ?_⟩
    all_goals first | exact absurd hcc z | exact h1 | (exfalso; lia)
  · have h1 : q 0 S := by rw [decide_eq_false hcc] at h; exact h
    refine ⟨fun z => ?_, fun z => ?_⟩
    all_goals first | exact absurd z hcc | exact h1 | (exfalso; lia)
theorem lf_36_99 {G : pm_G} {d : Nat} {A : iv_A} {S : pm_S} {m x : Nat} {k : Int32} {q : Int32 → pm_S → Prop} (hd : 2 ≤ d) (hI : Inv A S) (hm : m < iv_c S 18) (hx : x < 2 ^ 22) (h : q (bI (tv S m k x)) S) (h0 : ¬ x % 16 = 0) (h1 : ¬ x % 16 = 1) (h2 : ¬ x % 16 = 2) (h4 : ¬ x % 16 = 4) (h5 : ¬ x % 16 = 5) (h6 : ¬ x % 16 = 6) (h7 : ¬ x % 16 = 7) : pm_CI G d 36 [.int (nI x), .ref (iv_m A m), .int k] S q := by
  obtain ⟨b1, b2, b3, b4⟩ := st_bits hx
  have hw := hI.row hm
  have ht : tv S m k x = tv_w S (fa_l S m (nI (x / 16 % 16)) k) false (nI (x / 256)) := by unfold tv; rw [if_neg h0, if_neg h1, if_neg h2, if_neg h4, if_neg h5, if_neg h6, if_neg h7]
  rw [ht] at h
  have g0 : (nI (x % 16) = Int32.ofNat 0) = False := eq_false (fun z => h0 ((nI_eq (by omega) (by omega)).mp z))
  have g1 : (nI (x % 16) = Int32.ofNat 1) = False := eq_false (fun z => h1 ((nI_eq (by omega) (by omega)).mp z))
  have g2 : (nI (x % 16) = Int32.ofNat 2) = False := eq_false (fun z => h2 ((nI_eq (by omega) (by omega)).mp z))
  have g4 : (nI (x % 16) = Int32.ofNat 4) = False := eq_false (fun z => h4 ((nI_eq (by omega) (by omega)).mp z))
  have g5 : (nI (x % 16) = Int32.ofNat 5) = False := eq_false (fun z => h5 ((nI_eq (by omega) (by omega)).mp z))
  have g6 : (nI (x % 16) = Int32.ofNat 6) = False := eq_false (fun z => h6 ((nI_eq (by omega) (by omega)).mp z))
  have g7 : (nI (x % 16) = Int32.ofNat 7) = False := eq_false (fun z => h7 ((nI_eq (by omega) (by omega)).mp z))
  have g2e : (nI (x % 16) = 2) = False := g2
  have g3e : (nI (x % 16) = Int32.ofNat 3) = (x % 16 = 3) := propext (nI_eq (by omega) (by omega))
  refine pm_goI 36 6 pb_c36 (by decide) (Nat.le_of_ble_eq_true rfl) rfl ?_
  try simp only [show pm_mL 36 = 6 from rfl, pm_WI0, pm_WI1, pm_WI2, pm_WI3, pm_WI4, pm_WI5, pm_WV, pm_WW, pm_WX, pb_B36, pm_if, pm_QI_at, pm_QL_at, pm_QV_at, pm_QR_at, pm_QR_at0, pm_QR_at1, Nat.reduceSub, Nat.reduceAdd, List.replicate_zero, List.replicate_succ, true_and, and_true, true_or, or_true, and_self, reduceIte, Nat.reduceEqDiff, Nat.reduceLT, Nat.reduceLeDiff, Nat.reduceMul, false_and, and_false, reduceCtorEq, false_or, or_false, not_true_eq_false, not_false_eq_true, true_implies, false_implies, implies_true, lf_10, eq_self, Int32.reduceLT, Int32.reduceLE, Int32.reduceAdd, Int32.reduceSub, Int32.reduceDiv, Int32.reduceMul, pm_same, pm_i_wI, pm_l_wL, pm_l_wM, pm_oR_rf, pm_oQ_rf, nI_1, sw_e, LQ1, LQ2, LQ5, b1, b2, b3, hw.k, hw.f3, hw.f4, hw.f5, b4, g0, g1, g2, g4, g5, g6, g7, g2e, g3e]
  try (refine ⟨fun _ => ?_, fun _ => ?_⟩)
  all_goals
    refine ⟨by omega, lf_60 hI hm ?_⟩
    cases ha : fa_l S m (nI (x / 16 % 16)) k with
    | none =>
      rw [ha] at h
      try simp only [pm_WV, pm_WW, true_and, and_true, true_or, or_true, and_self, reduceIte, Nat.reduceEqDiff, Nat.reduceLT, Nat.reduceLeDiff, Nat.reduceMul, false_and, and_false, reduceCtorEq, false_or, or_false, not_true_eq_false, not_false_eq_true, true_implies, false_implies, implies_true, lf_10, eq_self, Int32.reduceLT, Int32.reduceLE, Int32.reduceAdd, Int32.reduceSub, Int32.reduceDiv, Int32.reduceMul, pm_same, pm_i_wI, pm_l_wL, pm_l_wM, pm_oR_rf, pm_oQ_rf, nI_1, sw_e, LQ1, LQ2, LQ5, pm_WI0, pm_WI1, pm_WI2, pm_WI3, pm_WI4, pm_WI5, pm_WV, pm_WW, pm_WX, pb_B36, pm_if, pm_QI_at, pm_QL_at, pm_QV_at, pm_QR_at, pm_QR_at0, pm_QR_at1, Nat.reduceSub, Nat.reduceAdd, List.replicate_zero, List.replicate_succ, b1, b2, b3, hw.k, hw.f3, hw.f4, hw.f5, b4, g0, g1, g2, g4, g5, g6, g7, g2e, g3e, Option.map_none]
      exact h
    | some a =>
      rw [ha] at h
      obtain ⟨⟨a1, a2, a3⟩, ⟨f0, f1, f2, f3, f4⟩, _⟩ := hI.act.2.2.1 a (fa_l_lt ha)
      try simp only [pm_WV, pm_WW, true_and, and_true, true_or, or_true, and_self, reduceIte, Nat.reduceEqDiff, Nat.reduceLT, Nat.reduceLeDiff, Nat.reduceMul, false_and, and_false, reduceCtorEq, false_or, or_false, not_true_eq_false, not_false_eq_true, true_implies, false_implies, implies_true, lf_10, eq_self, Int32.reduceLT, Int32.reduceLE, Int32.reduceAdd, Int32.reduceSub, Int32.reduceDiv, Int32.reduceMul, pm_same, pm_i_wI, pm_l_wL, pm_l_wM, pm_oR_rf, pm_oQ_rf, nI_1, sw_e, LQ1, LQ2, LQ5, pm_WI0, pm_WI1, pm_WI2, pm_WI3, pm_WI4, pm_WI5, pm_WV, pm_WW, pm_WX, pb_B36, pm_if, pm_QI_at, pm_QL_at, pm_QV_at, pm_QR_at, pm_QR_at0, pm_QR_at1, Nat.reduceSub, Nat.reduceAdd, List.replicate_zero, List.replicate_succ, b1, b2, b3, hw.k, hw.f3, hw.f4, hw.f5, b4, g0, g1, g2, g4, g5, g6, g7, g2e, g3e, Option.map_some, a3, f2, b4]
      unfold tv_w at h
      refine ⟨fun z => ?_, fun z => ?_⟩
      all_goals first
        | (have hcc : ¬ nI (x / 256) < pm_i S 78 a := by lia
           have h1 : q 0 S := by simp only [hcc, decide_false, reduceIte, Bool.false_eq_true] at h; exact h
           exact h1)
        | (have hcc : nI (x / 256) < pm_i S 78 a := by lia
           have h1 : q 1 S := by simp only [hcc, decide_true, reduceIte, Bool.false_eq_true] at h; exact h
           exact h1)
theorem lf_36 {G : pm_G} {d : Nat} {A : iv_A} {S : pm_S} {m x : Nat} {k : Int32} {q : Int32 → pm_S → Prop} (hd : 2 ≤ d) (hI : Inv A S) (hm : m < iv_c S 18) (hx : x < 2 ^ 22) (h : q (bI (tv S m k x)) S) : pm_CI G d 36 [.int (nI x), .ref (iv_m A m), .int k] S q := by
  by_cases h0 : x % 16 = 0
  · exact lf_36_0 hd hI hm hx h h0
  by_cases h1 : x % 16 = 1
  · exact lf_36_1 hd hI hm hx h h1
  by_cases h2 : x % 16 = 2
  · exact lf_36_2 hd hI hm hx h h2
  by_cases h4 : x % 16 = 4
  · exact lf_36_4 hd hI hm hx h h4
  by_cases h5 : x % 16 = 5
  · exact lf_36_5 hd hI hm hx h h5
  by_cases h6 : x % 16 = 6
  · exact lf_36_6 hd hI hm hx h h6
  by_cases h7 : x % 16 = 7
  · exact lf_36_7 hd hI hm hx h h7
  exact lf_36_99 hd hI hm hx h h0 h1 h2 h4 h5 h6 h7
def en : List Bool → Nat
  | [] => 1
  | b :: st => 2 * en st + (if b then 1 else 0)
theorem en_lt : ∀ st : List Bool, 1 ≤ en st ∧ en st < 2 ^ (st.length + 1)
  | [] => by decide
  | b :: st => by
    have := en_lt st
    try simp only [en, List.length_cons, Nat.pow_succ] at this ⊢
    split <;> omega
theorem or_1 (a b : Nat) : nI a ||| nI b = nI (a ||| b) := by
  apply Int32.toBitVec_inj.mp
  show BitVec.ofNat 32 a ||| BitVec.ofNat 32 b = BitVec.ofNat 32 (a ||| b)
  exact (BitVec.ofNat_or ..).symm
theorem xor_1 (a b : Nat) : nI a ^^^ nI b = nI (a ^^^ b) := by
  apply Int32.toBitVec_inj.1
  show BitVec.ofNat 32 a ^^^ BitVec.ofNat 32 b = BitVec.ofNat 32 (a ^^^ b)
  apply BitVec.eq_of_getLsbD_eq
  intro i hi
  simp [hi]
theorem and_1 (a b : Nat) : nI a &&& nI b = nI (a &&& b) := by
  apply Int32.toBitVec_inj.1
  show BitVec.ofNat 32 a &&& BitVec.ofNat 32 b = BitVec.ofNat 32 (a &&& b)
  apply BitVec.eq_of_getLsbD_eq
  intro i hi
  simp [hi]
theorem or_11 (A : Nat) : (A ||| 1) ||| 1 = A ||| 1 := Nat.eq_of_testBit_eq (fun i => by rw [Nat.testBit_or, Nat.testBit_or]; cases A.testBit i <;> cases (1 : Nat).testBit i <;> rfl)
theorem or_nat1 (W : Nat) : W ||| 1 = 2 * (W / 2) + 1 := by
  have h2 : 2 ^ 1 * (W / 2) + 1 = 2 ^ 1 * (W / 2) ||| 1 := Nat.two_pow_add_eq_or_of_lt (by decide) (W / 2)
  have h3 : W % 2 = 0 ∨ W % 2 = 1 := by omega
  rcases h3 with h3 | h3
  · rw [show W = 2 ^ 1 * (W / 2) from by omega, ← show 2 ^ 1 * (W / 2) + 1 = 2 ^ 1 * (W / 2) ||| 1 from h2]; omega
  · have h4 : W = 2 ^ 1 * (W / 2) ||| 1 := by rw [← h2]; omega
    conv => lhs; rw [h4]
    rw [or_11, ← h2]
theorem and_nat2 {W : Nat} (hW : W < 2 ^ 20) : W &&& 4294967294 = 2 * (W / 2) := by
  have e1 : W &&& (2 ^ 32 - 1) = W % 2 ^ 32 := Nat.and_two_pow_sub_one_eq_mod W 32
  have e2 : (2 * (W / 2)) &&& (2 ^ 32 - 1) = (2 * (W / 2)) % 2 ^ 32 := Nat.and_two_pow_sub_one_eq_mod _ 32
  have e3 : (2 * (W / 2)) &&& (2 ^ 1 - 1) = (2 * (W / 2)) % 2 ^ 1 := Nat.and_two_pow_sub_one_eq_mod _ 1
  have e4 : (2 ^ 32 - 1 : Nat) = 4294967294 ||| (2 ^ 1 - 1) := by decide
  have k : (2 * (W / 2)) &&& 4294967294 = 2 * (W / 2) := by
    rw [e4, Nat.and_comm, Nat.and_or_distrib_right, Nat.and_comm 4294967294, Nat.and_comm (2 ^ 1 - 1), e3] at e2
    rw [show (2 * (W / 2)) % 2 ^ 1 = 0 by omega, show (2 * (W / 2)) % 2 ^ 32 = 2 * (W / 2) by omega] at e2
    simpa using e2
  have h2 : 2 ^ 1 * (W / 2) + 1 = 2 ^ 1 * (W / 2) ||| 1 := Nat.two_pow_add_eq_or_of_lt (by decide) (W / 2)
  have h3 : W % 2 = 0 ∨ W % 2 = 1 := by omega
  rcases h3 with h3 | h3
  · rw [show W = 2 * (W / 2) by omega]
    rw [show 2 * (W / 2) / 2 = W / 2 by omega]; exact k
  · have h4 : W = 2 * (W / 2) ||| 1 := by rw [show 2 * (W / 2) = 2 ^ 1 * (W / 2) by omega, ← h2]; omega
    conv => lhs; rw [h4]
    rw [Nat.and_or_distrib_right, k, show (1 &&& 4294967294 : Nat) = 0 from by decide]
    simp
theorem en_bits {W : Nat} (hW : W < 2 ^ 20) : nI W &&& 1 = nI (W % 2) ∧ ((nI W).toUInt32 >>> ((1 : Int32).toUInt32 &&& Int32.toUInt32 31)).toInt32 = nI (W / 2) ∧ nI W ^^^ 1 = nI (2 * (W / 2) + (1 - W % 2)) ∧ nI W &&& -2 = nI (2 * (W / 2)) ∧ nI W ||| 1 = nI (2 * (W / 2) + 1) ∧ nI W ||| 0 = nI W ∧ nI W <<< ((1 : Int32) &&& 31) = nI (2 * W) := by
  refine ⟨pk_andN (by omega) 1 (by decide), pk_ushrN (by omega) _ 1 (by decide), ?_, ?_, ?_, ?_, ?_⟩
  · rw [show (1 : Int32) = nI 1 from rfl, xor_1]
    congr 1
    have h1 : (W ^^^ 1) % 2 ^ 1 = (W % 2 ^ 1) ^^^ (1 % 2 ^ 1) := Nat.xor_mod_two_pow
    have h2 : (W ^^^ 1) / 2 ^ 1 = (W / 2 ^ 1) ^^^ (1 / 2 ^ 1) := Nat.xor_div_two_pow
    rw [show 1 / 2 ^ 1 = 0 from rfl, Nat.xor_zero] at h2
    have h3 : W % 2 ^ 1 = 0 ∨ W % 2 ^ 1 = 1 := by omega
    rcases h3 with h3 | h3 <;> rw [h3] at h1
    · rw [show 0 ^^^ (1 % 2 ^ 1) = 1 from rfl] at h1; omega
    · rw [show 1 ^^^ (1 % 2 ^ 1) = 0 from rfl] at h1; omega
  · rw [show (-2 : Int32) = nI 4294967294 from by decide, and_1, and_nat2 hW]
  · rw [show (1 : Int32) = nI 1 from rfl, or_1, or_nat1]
  · rw [show (0 : Int32) = nI 0 from rfl, or_1]; simp
  · rw [pk_shlN (n := W) _ 1 (by decide) (by omega)]; congr 1; omega
theorem en_c {b : Bool} {st : List Bool} : en (b :: st) % 2 = (if b then 1 else 0) ∧ en (b :: st) / 2 = en st := by
  cases b <;> simp only [en, reduceIte, Bool.false_eq_true] <;> omega
/-- a LAW's steps in an object's row -/
def lst (S : pm_S) (p w5 : Nat) (st : List Nat) : Prop := pm_k S p = 5 ∧ pm_r S p 17 = some w5 ∧ pm_k S w5 = 20 ∧ pm_z S w5 = 160 ∧ st.length ≤ 160 ∧ (∀ x, x ∈ st → x < 2 ^ 22) ∧ ∀ i, i < st.length → pm_i S w5 i = nI (st.getD i 0)
theorem tk_succ : ∀ (l : List Nat) (j : Nat), j < l.length → l.take (j + 1) = l.take j ++ [l.getD j 0]
  | [], j, h => absurd h (by simp)
  | a :: l, 0, h => by simp
  | a :: l, j + 1, h => by
    have := tk_succ l j (by simpa using h)
    simp [this]
theorem gd_drop : ∀ (l : List Nat) (a j : Nat), (l.drop a).getD j 0 = l.getD (a + j) 0
  | l, 0, j => by simp
  | [], a + 1, j => by simp
  | x :: l, a + 1, j => by
    have := gd_drop l a j
    rw [show a + 1 + j = (a + j) + 1 by omega]
    simpa using this
theorem gd_take : ∀ (l : List Nat) (n j : Nat), j < n → (l.take n).getD j 0 = l.getD j 0
  | l, 0, j, h => absurd h (Nat.not_lt_zero j)
  | [], n + 1, j, h => by simp
  | x :: l, n + 1, 0, h => by simp
  | x :: l, n + 1, j + 1, h => by
    have := gd_take l n j (by omega)
    simpa using this
theorem sub_get {st : List Nat} {a b j : Nat} (hb : b ≤ st.length) (hj : a + j < b) : (gx_sub st a b).take (j + 1) = (gx_sub st a b).take j ++ [st.getD (a + j) 0] := by
  have hlen : (gx_sub st a b).length = b - a := by unfold gx_sub; simp; omega
  rw [tk_succ _ j (by omega), ← gd_drop]
  congr 2
  unfold gx_sub
  exact gd_take _ _ _ (by omega)
theorem sub_len {st : List Nat} {a b : Nat} (hb : b ≤ st.length) : (gx_sub st a b).length = b - a := by unfold gx_sub; simp; omega
theorem gx_s1_8 {t : Nat → Bool} {x : Nat} {a : Bool} {r : List Bool} (h : x % 16 = 8) : gx_s1 t x (a :: r) = (!a) :: r := by unfold gx_s1; rw [h]; rfl
theorem gx_s1_9 {t : Nat → Bool} {x : Nat} {a b : Bool} {r : List Bool} (h : x % 16 = 9) : gx_s1 t x (a :: b :: r) = (b && a) :: r := by unfold gx_s1; rw [h]; rfl
theorem gx_s1_10 {t : Nat → Bool} {x : Nat} {a b : Bool} {r : List Bool} (h : x % 16 = 10) : gx_s1 t x (a :: b :: r) = (b || a) :: r := by unfold gx_s1; rw [h]; rfl
theorem gx_s1_o {t : Nat → Bool} {x : Nat} {st : List Bool} (h8 : ¬ x % 16 = 8) (h9 : ¬ x % 16 = 9) (h10 : ¬ x % 16 = 10) : gx_s1 t x st = t x :: st := by
  unfold gx_s1
  split
  · exact absurd (by assumption) h8
  · exact absurd (by assumption) h9
  · exact absurd (by assumption) h10
  · rfl
theorem en_head : ∀ st : List Bool, en st % 2 = if st.headD true then 1 else 0
  | [] => rfl
  | b :: st => en_c.1
theorem lf_35 {G : pm_G} {d : Nat} {A : iv_A} {S : pm_S} {m p w5 a b : Nat} {k : Int32} {st : List Nat} {q : Int32 → pm_S → Prop} (hd : 3 ≤ d) (hI : Inv A S) (hm : m < iv_c S 18) (hl : lst S p w5 st) (hab : a ≤ b) (hb : b ≤ st.length) (hev : gx_sub st a b = [] ∨ gx_ev (tv S m k) (gx_sub st a b) 15) (h : q (bI (gx_hv (tv S m k) (gx_sub st a b))) S) : pm_CI G d 35 [.ref p, .int (nI a), .int (nI b), .ref (iv_m A m), .int k] S q := by
  obtain ⟨l1, l2, l3, l4, l5, l6, l7⟩ := hl
  generalize hE : gx_sub st a b = E at hev h
  have hEl : E.length = b - a := by rw [← hE]; exact sub_len hb
  generalize hT : tv S m k = t at hev h
  have key : ∀ r j, j + r = b - a → pm_W G d 35 (pm_QI q) 6 [.ref p, .int (nI a), .int (nI b), .ref (iv_m A m), .int k, .int (nI (en (gx_run t (E.take j) []))), .int (nI (a + j)), .float 0, .float 0] [] S 0 0 := by
    intro r
    induction r with
    | zero =>
      intro j hj
      have hEj : E.take j = E := List.take_of_length_le (by omega)
      rw [hEj]
      have hlt := en_lt (gx_run t E [])
      have hlen : (gx_run t E []).length ≤ 15 := by
        rcases hev with rfl | hev
        · simp [gx_run]
        · have := hev.2.1 [] E.length
          rw [List.take_length] at this; simpa using this
      have hW : en (gx_run t E []) < 2 ^ 20 := Nat.lt_of_lt_of_le hlt.2 (Nat.pow_le_pow_right (by omega) (by omega))
      have h1 := (en_bits hW).1
      have h2 := en_head (gx_run t E [])
      have haj : nI b ≤ nI (a + j) := nI_le (by omega) (by omega)
      have hn0 : ¬ nI (a + j) < 0 := nI_pos (by omega)
      have hhv : (gx_run t E []).headD true = gx_hv t E := rfl
      rw [hhv] at h2
      refine pm_wb_ok pb_c35 4 6 0 _ _ _ _ _ ?_
      try simp only [pm_WI0, pm_WI1, pm_WI2, pm_WI3, pm_WI4, pm_WI5, pm_WV, pm_WW, pm_WX, pb_B35, pm_if, pm_QI_at, pm_QL_at, pm_QV_at, pm_QR_at, pm_QR_at0, pm_QR_at1, Nat.reduceSub, Nat.reduceAdd, List.replicate_zero, List.replicate_succ, true_and, and_true, true_or, or_true, and_self, reduceIte, Nat.reduceEqDiff, Nat.reduceLT, Nat.reduceLeDiff, Nat.reduceMul, false_and, and_false, reduceCtorEq, false_or, or_false, not_true_eq_false, not_false_eq_true, true_implies, false_implies, implies_true, lf_10, eq_self, Int32.reduceLT, Int32.reduceLE, Int32.reduceAdd, Int32.reduceSub, Int32.reduceDiv, Int32.reduceMul, pm_same, pm_i_wI, pm_l_wL, pm_l_wM, pm_oR_rf, pm_oQ_rf, nI_1, sw_e, LQ1, LQ2, LQ5, haj, hn0, h1, h2]
      cases hg : gx_hv t E <;> rw [hg] at h <;> simp only [hg, reduceIte, Bool.false_eq_true, nI_0]
      · exact ⟨fun z => absurd z (by decide), fun _ => h⟩
      · exact ⟨fun _ => h, fun z => absurd rfl z⟩
    | succ r ih =>
      intro j hj
      have hev' : gx_ev t E 15 := by
        rcases hev with he | he
        · rw [he] at hEl; simp at hEl; omega
        · exact he
      have hx := sub_get (st := st) (a := a) (b := b) (j := j) hb (by omega)
      rw [hE] at hx
      have hxm : st.getD (a + j) 0 ∈ st := by
        rw [List.getD_eq_getElem?_getD, List.getElem?_eq_getElem (show a + j < st.length by omega)]; exact List.getElem_mem _
      have hx22 := l6 _ hxm
      have hsi := l7 (a + j) (by omega)
      generalize hX : st.getD (a + j) 0 = x at hx hxm hx22 hsi
      generalize hST : gx_run t (E.take j) [] = ST
      have hlen : ST.length ≤ 15 := by
        have := hev'.2.1 [] j
        rw [hST] at this; simpa using this
      have hnx : gx_run t (E.take (j + 1)) [] = gx_s1 t x ST := by rw [hx, gx_run_app, hST]; rfl
      have hfit : (x % 16 = 8 → 1 ≤ ST.length) ∧ (x % 16 = 9 ∨ x % 16 = 10 → 2 ≤ ST.length) := by
        have h1 := hev'.2.2 []
        rw [← List.take_append_drop (j + 1) E, gx_fit_app, hx, gx_fit_app, hST] at h1
        exact h1.1.2.1
      have go := ih (j + 1) (by omega)
      rw [hnx] at go
      have hlt := en_lt ST
      have hW : en ST < 2 ^ 18 := Nat.lt_of_lt_of_le hlt.2 (Nat.pow_le_pow_right (by omega) (by omega))
      obtain ⟨e1, e2, e3, e4, e5, e6, e7⟩ := en_bits (show en ST < 2 ^ 20 by omega)
      obtain ⟨g1, g2, g3, g4, g5, g6, g7⟩ := en_bits (show en ST / 2 < 2 ^ 20 by omega)
      obtain ⟨k1, k2, k3, k4, k5, k6, k7⟩ := en_bits (show 2 * en ST < 2 ^ 20 by omega)
      have haj : ¬ nI b ≤ nI (a + j) := nI_ge (by omega) (by omega)
      have hn0 : ¬ nI (a + j) < 0 := nI_pos (by omega)
      have h160 : ¬ (160 : Int32) ≤ nI (a + j) := nI_ge (a := a + j) (b := 160) (by omega) (by omega)
      have hcl := nI_clamp (n := a + j) (by omega)
      have hvp := vp_in_nI (n := a + j) (N := 160) (by omega) (by decide)
      have b4 := (st_bits hx22).2.2.2
      have wk : ∀ (W : Nat) (v7 v8 : Value), W = en (gx_s1 t x ST) → pm_W G d 35 (pm_QI q) 6 [.ref p, .int (nI a), .int (nI b), .ref (iv_m A m), .int k, .int (nI W), .int (nI (a + j + 1)), v7, v8] [] S 0 0 := fun W v7 v8 e => by
        rw [e]; exact pv_W go (by simp [pv_le, pm_unk, Nat.add_assoc])
      by_cases c8 : x % 16 = 8
      · have hi8 : (nI 8 : Int32) = 8 := rfl
        rw [c8, hi8] at b4
        refine pm_wb_ok pb_c35 5 6 0 _ _ _ _ _ ?_
        try simp only [pm_WI0, pm_WI1, pm_WI2, pm_WI3, pm_WI4, pm_WI5, pm_WV, pm_WW, pm_WX, pb_B35, pm_if, pm_QI_at, pm_QL_at, pm_QV_at, pm_QR_at, pm_QR_at0, pm_QR_at1, Nat.reduceSub, Nat.reduceAdd, List.replicate_zero, List.replicate_succ, true_and, and_true, true_or, or_true, and_self, reduceIte, Nat.reduceEqDiff, Nat.reduceLT, Nat.reduceLeDiff, Nat.reduceMul, false_and, and_false, reduceCtorEq, false_or, or_false, not_true_eq_false, not_false_eq_true, true_implies, false_implies, implies_true, lf_10, eq_self, Int32.reduceLT, Int32.reduceLE, Int32.reduceAdd, Int32.reduceSub, Int32.reduceDiv, Int32.reduceMul, pm_same, pm_i_wI, pm_l_wL, pm_l_wM, pm_oR_rf, pm_oQ_rf, nI_1, sw_e, LQ1, LQ2, LQ5, l1, l2, l3, l4, haj, hn0, h160, hcl, hsi, b4, e3]
        refine ⟨hvp, wk _ _ _ ?_⟩
        cases ST with
        | nil => have := hfit.1 c8; simp at this
        | cons v r =>
          rw [gx_s1_8 c8]
          have := en_c (b := v) (st := r)
          rw [this.1, this.2]
          cases v <;> simp [en]
      · by_cases c9 : x % 16 = 9
        · have hi8 : (nI 9 : Int32) = 9 := rfl
          rw [c9, hi8] at b4
          refine pm_wb_ok pb_c35 6 6 0 _ _ _ _ _ ?_
          try simp only [pm_WI0, pm_WI1, pm_WI2, pm_WI3, pm_WI4, pm_WI5, pm_WV, pm_WW, pm_WX, pb_B35, pm_if, pm_QI_at, pm_QL_at, pm_QV_at, pm_QR_at, pm_QR_at0, pm_QR_at1, Nat.reduceSub, Nat.reduceAdd, List.replicate_zero, List.replicate_succ, true_and, and_true, true_or, or_true, and_self, reduceIte, Nat.reduceEqDiff, Nat.reduceLT, Nat.reduceLeDiff, Nat.reduceMul, false_and, and_false, reduceCtorEq, false_or, or_false, not_true_eq_false, not_false_eq_true, true_implies, false_implies, implies_true, lf_10, eq_self, Int32.reduceLT, Int32.reduceLE, Int32.reduceAdd, Int32.reduceSub, Int32.reduceDiv, Int32.reduceMul, pm_same, pm_i_wI, pm_l_wL, pm_l_wM, pm_oR_rf, pm_oQ_rf, nI_1, sw_e, LQ1, LQ2, LQ5, l1, l2, l3, l4, haj, hn0, h160, hcl, hsi, b4, e1, e2, g4]
          refine ⟨hvp, ?_⟩
          match ST, hfit.2 (Or.inl c9) with
          | v :: u :: r, _ =>
            have q1 := en_c (b := v) (st := u :: r)
            have q2 := en_c (b := u) (st := r)
            rw [q1.1, q1.2] at *
            rw [gx_s1_9 c9] at wk
            refine ⟨fun z => ?_, fun z => ?_⟩
            · refine wk _ _ _ ?_
              cases v
              · exact absurd z (by decide)
              · cases u <;> simp [en]
            · refine wk _ _ _ ?_
              cases v
              · cases u <;> simp [en]; omega
              · exact absurd rfl z
        · by_cases c10 : x % 16 = 10
          · have hi8 : (nI 10 : Int32) = 10 := rfl
            rw [c10, hi8] at b4
            refine pm_wb_ok pb_c35 6 6 0 _ _ _ _ _ ?_
            try simp only [pm_WI0, pm_WI1, pm_WI2, pm_WI3, pm_WI4, pm_WI5, pm_WV, pm_WW, pm_WX, pb_B35, pm_if, pm_QI_at, pm_QL_at, pm_QV_at, pm_QR_at, pm_QR_at0, pm_QR_at1, Nat.reduceSub, Nat.reduceAdd, List.replicate_zero, List.replicate_succ, true_and, and_true, true_or, or_true, and_self, reduceIte, Nat.reduceEqDiff, Nat.reduceLT, Nat.reduceLeDiff, Nat.reduceMul, false_and, and_false, reduceCtorEq, false_or, or_false, not_true_eq_false, not_false_eq_true, true_implies, false_implies, implies_true, lf_10, eq_self, Int32.reduceLT, Int32.reduceLE, Int32.reduceAdd, Int32.reduceSub, Int32.reduceDiv, Int32.reduceMul, pm_same, pm_i_wI, pm_l_wL, pm_l_wM, pm_oR_rf, pm_oQ_rf, nI_1, sw_e, LQ1, LQ2, LQ5, l1, l2, l3, l4, haj, hn0, h160, hcl, hsi, b4, e1, e2]
            refine ⟨hvp, ?_⟩
            match ST, hfit.2 (Or.inr c10) with
            | v :: u :: r, _ =>
              have q1 := en_c (b := v) (st := u :: r)
              have q2 := en_c (b := u) (st := r)
              rw [gx_s1_10 c10] at wk
              rw [q1.2] at g5 g6 ⊢
              rw [q1.1]
              cases v
              · try simp only [reduceIte, Bool.false_eq_true]
                rw [show nI 0 = 0 from rfl, g6]
                exact wk _ _ _ (by cases u <;> simp [en])
              · try simp only [reduceIte]
                rw [show nI 1 = 1 from rfl, g5]
                exact wk _ _ _ (by rw [q2.2]; cases u <;> simp [en])
          · rw [gx_s1_o c8 c9 c10] at wk
            have f8 : (nI (x % 16) = Int32.ofNat 8) = False := eq_false (fun z => c8 ((nI_eq (by omega) (by omega)).mp z))
            have f9 : (nI (x % 16) = Int32.ofNat 9) = False := eq_false (fun z => c9 ((nI_eq (by omega) (by omega)).mp z))
            have f10 : (nI (x % 16) = Int32.ofNat 10) = False := eq_false (fun z => c10 ((nI_eq (by omega) (by omega)).mp z))
            refine pm_wb_ok pb_c35 6 6 0 _ _ _ _ _ ?_
            try simp only [pm_WI0, pm_WI1, pm_WI2, pm_WI3, pm_WI4, pm_WI5, pm_WV, pm_WW, pm_WX, pb_B35, pm_if, pm_QI_at, pm_QL_at, pm_QV_at, pm_QR_at, pm_QR_at0, pm_QR_at1, Nat.reduceSub, Nat.reduceAdd, List.replicate_zero, List.replicate_succ, true_and, and_true, true_or, or_true, and_self, reduceIte, Nat.reduceEqDiff, Nat.reduceLT, Nat.reduceLeDiff, Nat.reduceMul, false_and, and_false, reduceCtorEq, false_or, or_false, not_true_eq_false, not_false_eq_true, true_implies, false_implies, implies_true, lf_10, eq_self, Int32.reduceLT, Int32.reduceLE, Int32.reduceAdd, Int32.reduceSub, Int32.reduceDiv, Int32.reduceMul, pm_same, pm_i_wI, pm_l_wL, pm_l_wM, pm_oR_rf, pm_oQ_rf, nI_1, sw_e, LQ1, LQ2, LQ5, l1, l2, l3, l4, haj, hn0, h160, hcl, hsi, b4, e7, f8, f9, f10]
            refine ⟨hvp, hvp, by omega, lf_36 (by omega) hI hm hx22 ?_⟩
            rw [hT]
            cases hx0 : t x
            · refine ⟨fun _ => ?_, fun z => absurd rfl z⟩
              rw [k6]
              exact wk _ _ _ (by simp [en, hx0])
            · refine ⟨fun z => absurd z (by decide), fun _ => ?_⟩
              rw [k5]
              exact wk _ _ _ (by simp [en, hx0])
  refine pm_goI 35 1 pb_c35 (by decide) (Nat.le_of_ble_eq_true rfl) rfl ?_
  try simp only [show pm_mL 35 = 9 from rfl, pm_WI0, pm_WI1, pm_WI2, pm_WI3, pm_WI4, pm_WI5, pm_WV, pm_WW, pm_WX, pb_B35, pm_if, pm_QI_at, pm_QL_at, pm_QV_at, pm_QR_at, pm_QR_at0, pm_QR_at1, Nat.reduceSub, Nat.reduceAdd, List.replicate_zero, List.replicate_succ, true_and, and_true, true_or, or_true, and_self, reduceIte, Nat.reduceEqDiff, Nat.reduceLT, Nat.reduceLeDiff, Nat.reduceMul, false_and, and_false, reduceCtorEq, false_or, or_false, not_true_eq_false, not_false_eq_true, true_implies, false_implies, implies_true, lf_10, eq_self, Int32.reduceLT, Int32.reduceLE, Int32.reduceAdd, Int32.reduceSub, Int32.reduceDiv, Int32.reduceMul, pm_same, pm_i_wI, pm_l_wL, pm_l_wM, pm_oR_rf, pm_oQ_rf, nI_1, sw_e, LQ1, LQ2, LQ5]
  exact key (b - a) 0 (by omega)
/-! LAWS of the class -/
theorem iv_Law.c31 {A : iv_A} {S : pm_S} (h : iv_Law A S) : iv_c S 31 ≤ 12 ∧ pm_i S 59 31 = nI (iv_c S 31) := ⟨iv_le (n := 12) 12 h.2.1.2 (by decide), iv_nn h.2.1.1⟩
def lwp (A : iv_A) (o : Option Nat) : Nat := match o with
  | none => 16
  | some i => iv_l A i
def lww (A : iv_A) (o : Option Nat) (q : Nat) : Nat := match o with
  | none => 17 + q
  | some i => iv_w A i q
def lwc (S : pm_S) (p : Nat) (wq : Nat → Nat) : Prop := pm_k S p = 5 ∧ ∀ q, q < 6 → pm_r S p (iv_lf q) = some (wq q) ∧ pm_k S (wq q) = 20 ∧ pm_z S (wq q) = (if q = 5 then 160 else 10)
theorem lw_ok {A : iv_A} {S : pm_S} (hS : Sh S) (hL : iv_Law A S) {o : Option Nat} (ho : ∀ i, o = some i → i < iv_c S 31) : lwc S (lwp A o) (lww A o) ∧ iv_lrep S (lwp A o) (lww A o) (lawL S o) := by
  cases o with
  | none =>
    refine ⟨⟨sh_k16 hS, fun q hq => ?_⟩, hL.2.2.2.2.2⟩
    match q, hq with
    | 0, _ => exact ⟨sh_r16_3 hS, sh_k17 hS, sh_z17 hS⟩
    | 1, _ => exact ⟨sh_r16_4 hS, sh_k18 hS, sh_z18 hS⟩
    | 2, _ => exact ⟨sh_r16_5 hS, sh_k19 hS, sh_z19 hS⟩
    | 3, _ => exact ⟨sh_r16_6 hS, sh_k20 hS, sh_z20 hS⟩
    | 4, _ => exact ⟨sh_r16_7 hS, sh_k21 hS, sh_z21 hS⟩
    | 5, _ => exact ⟨sh_r16_17 hS, sh_k22 hS, sh_z22 hS⟩
  | some i =>
    have hi := ho i rfl
    obtain ⟨c1, c2, c3, c4, c5⟩ := hL.2.2.1 i (Nat.le_of_lt hi)
    obtain ⟨d1, d2, d3, d4, d5, d6, d7, p, L, d8, d9⟩ := hL.2.2.2.1 i hi
    refine ⟨⟨c3, fun q hq => ⟨(c5 q hq).1, (c5 q hq).2.2.2.1, (c5 q hq).2.2.2.2.1⟩⟩, ?_⟩
    have e2 : lawL S (some i) = L := by unfold lawL; simp only [d8]; rfl
    rw [e2]; exact d9
theorem lw_lst {S : pm_S} {p : Nat} {wq : Nat → Nat} {L : gx_L} {t : Nat → Bool} {c n : Nat} (hc : lwc S p wq) (hr : iv_lrep S p wq L) (hw : gx_wf t L c n) : lst S p (wq 5) L.2.2 := by
  obtain ⟨k1, k2⟩ := hc
  obtain ⟨l1, l2, l3, l4, l5, l6, l7⟩ := hr
  have h5 := k2 5 (by omega)
  exact ⟨k1, h5.1, h5.2.1, h5.2.2, l4, hw.2.2.2.2.2, l7⟩
theorem lf_4 {G : pm_G} {d : Nat} {A : iv_A} {S : pm_S} {b k : Int32} {q : Int32 → pm_S → Prop} (hS : Sh S) (hL : iv_Law A S) (h : q (oI (lwo S b k)) S) : pm_CI G d 4 [.ref 14, .int b, .int k] S q := by
  unfold lwo at h
  obtain ⟨n12, hn59⟩ := hL.c31
  have hn : pm_i S 14 2 = nI (iv_c S 31) := by rw [hL.1]; exact hn59
  have rows : ∀ i, i < iv_c S 31 → pm_r S 15 i = some (iv_l A i) ∧ pm_k S (iv_l A i) = 5 ∧ pm_i S (iv_l A i) 0 = pm_i S 83 i ∧ pm_i S (iv_l A i) 1 = pm_i S 84 i := fun i hi => ⟨(hL.2.2.2.1 i hi).1, (hL.2.2.1 i (Nat.le_of_lt hi)).2.2.1, (hL.2.2.2.1 i hi).2.1, (hL.2.2.2.1 i hi).2.2.1⟩
  generalize iv_c S 31 = n at *
  refine pm_goI 4 40 pb_c4 (by decide) (Nat.le_of_ble_eq_true rfl) rfl ?_
  try simp only [show pm_mL 4 = 6 from rfl, pm_WI0, pm_WI1, pm_WI2, pm_WI3, pm_WI4, pm_WI5, pm_WV, pm_WW, pm_WX, pb_B4, pm_if, pm_QI_at, pm_QL_at, pm_QV_at, pm_QR_at, pm_QR_at0, pm_QR_at1, Nat.reduceSub, Nat.reduceAdd, List.replicate_zero, List.replicate_succ, true_and, and_true, true_or, or_true, and_self, reduceIte, Nat.reduceEqDiff, Nat.reduceLT, Nat.reduceLeDiff, Nat.reduceMul, false_and, and_false, reduceCtorEq, false_or, or_false, not_true_eq_false, not_false_eq_true, true_implies, false_implies, implies_true, lf_10, eq_self, Int32.reduceLT, Int32.reduceLE, Int32.reduceAdd, Int32.reduceSub, pm_same, pm_i_wI, pm_l_wL, pm_l_wM, pm_oR_rf, pm_oQ_rf, nI_1, sw_e, LQ1, LQ2, sh_k14 hS, sh_r14_1 hS, sh_k15 hS, sh_z15 hS]
  refine pv_W (pv_loopR (fun i => [.ref 14, .int b, .int k, .int (oI (ac_f (fun l => decide (pm_i S 83 l = b ∧ ¬ k < pm_i S 84 l)) (ac_bt (pm_i S 84) true) (List.range i) none)), .int (nI i), .float 0]) n (fun i hi hk => ?_) ?_) (by simp [pv_le, pm_unk, ac_f, oI]; first | done | rfl | exact ⟨rfl, rfl⟩)
  · have hc := nI_clamp (n := i) (by omega)
    have hle : ¬ nI n ≤ nI i := nI_ge hi (by omega)
    have hvi := vp_in_nI (n := i) (N := 12) (by omega) (by decide)
    have hb : ∀ b', ac_f (fun l => decide (pm_i S 83 l = b ∧ ¬ k < pm_i S 84 l)) (ac_bt (pm_i S 84) true) (List.range i) none = some b' → b' < i := fun b' e => ac_f_lt e
    try simp only [ac_f_succ] at hk
    revert hk hb
    generalize ac_f (fun l => decide (pm_i S 83 l = b ∧ ¬ k < pm_i S 84 l)) (ac_bt (pm_i S 84) true) (List.range i) none = acc
    intro hb hk
    have go : ∀ acc' (v : Value), acc' = ac_s (fun l => decide (pm_i S 83 l = b ∧ ¬ k < pm_i S 84 l)) (ac_bt (pm_i S 84) true) acc i → pm_W G d 4 (pm_QI q) 5 [.ref 14, .int b, .int k, .int (oI acc'), .int (nI (i + 1)), v] [] S 0 0 := fun acc' v e => by rw [e]; exact pv_W hk (by simp [pv_le, pm_unk])
    have no : ∀ v, (fun l => decide (pm_i S 83 l = b ∧ ¬ k < pm_i S 84 l)) i = false → pm_W G d 4 (pm_QI q) 5 [.ref 14, .int b, .int k, .int (oI acc), .int (nI (i + 1)), v] [] S 0 0 := fun v hf => go acc v (ac_s_none hf).symm
    obtain ⟨ri1, ri2, ri3, ri4⟩ := rows i hi
    refine pm_wb_ok pb_c4 60 5 0 _ _ _ _ _ ?_
    try simp only [pm_WI0, pm_WI1, pm_WI2, pm_WI3, pm_WI4, pm_WI5, pm_WV, pm_WW, pm_WX, pb_B4, pm_if, pm_QI_at, pm_QL_at, pm_QV_at, pm_QR_at, pm_QR_at0, pm_QR_at1, Nat.reduceSub, Nat.reduceAdd, List.replicate_zero, List.replicate_succ, true_and, and_true, true_or, or_true, and_self, reduceIte, Nat.reduceEqDiff, Nat.reduceLT, Nat.reduceLeDiff, Nat.reduceMul, false_and, and_false, reduceCtorEq, false_or, or_false, not_true_eq_false, not_false_eq_true, true_implies, false_implies, implies_true, lf_10, eq_self, Int32.reduceLT, Int32.reduceLE, Int32.reduceAdd, Int32.reduceSub, pm_same, pm_i_wI, pm_l_wL, pm_l_wM, pm_oR_rf, pm_oQ_rf, nI_1, sw_e, LQ1, LQ2, sh_k14 hS, sh_r14_1 hS, sh_k15 hS, sh_z15 hS, hn, hc, hle, ri1, ri2, ri3, ri4]
    refine ⟨hvi, fun c1 => ⟨hvi, fun c2 => ?_, fun c2 => ?_⟩, fun c1 => ?_⟩
    · exact no _ (by simp [c2])
    · have hyes : decide (pm_i S 83 i = b ∧ ¬ k < pm_i S 84 i) = true := by simp [c1, c2]
      cases acc with
      | none =>
        refine ⟨fun _ => ?_, fun z => absurd (show oI none < 0 by decide) z⟩
        exact go (some i) _ (ac_s_yes hyes rfl)
      | some b' =>
        have hbi := hb b' rfl
        have hcb : (oI (some b')).toNatClampNeg = b' := nI_clamp (by omega)
        obtain ⟨rj1, rj2, rj3, rj4⟩ := rows b' (by omega)
        refine ⟨fun z => absurd z (nI_pos (by omega)), fun _ => ⟨hvi, vp_in_nI (by omega) (by decide), ?_⟩⟩
        rw [hcb]
        try simp only [pm_WV, pm_WW, true_and, and_true, true_or, or_true, and_self, reduceIte, Nat.reduceEqDiff, Nat.reduceLT, Nat.reduceLeDiff, Nat.reduceMul, false_and, and_false, reduceCtorEq, false_or, or_false, not_true_eq_false, not_false_eq_true, true_implies, false_implies, implies_true, lf_10, eq_self, Int32.reduceLT, Int32.reduceLE, Int32.reduceAdd, Int32.reduceSub, pm_same, pm_i_wI, pm_l_wL, pm_l_wM, pm_oR_rf, pm_oQ_rf, nI_1, sw_e, LQ1, LQ2, pm_WI0, pm_WI1, pm_WI2, pm_WI3, pm_WI4, pm_WI5, pm_WV, pm_WW, pm_WX, pb_B4, pm_if, pm_QI_at, pm_QL_at, pm_QV_at, pm_QR_at, pm_QR_at0, pm_QR_at1, Nat.reduceSub, Nat.reduceAdd, List.replicate_zero, List.replicate_succ, rj1, rj2, rj4, hcb]
        refine ⟨fun z => ?_, fun z => ?_⟩
        · exact go (some b') _ (ac_s_keep hyes (by simp [ac_ok, ac_bt, z]))
        · exact go (some i) _ (ac_s_yes hyes (by simp [ac_ok, ac_bt, z]))
    · exact no _ (by simp [c1])
  · refine pm_wb_ok pb_c4 60 5 0 _ _ _ _ _ ?_
    try simp only [pm_WI0, pm_WI1, pm_WI2, pm_WI3, pm_WI4, pm_WI5, pm_WV, pm_WW, pm_WX, pb_B4, pm_if, pm_QI_at, pm_QL_at, pm_QV_at, pm_QR_at, pm_QR_at0, pm_QR_at1, Nat.reduceSub, Nat.reduceAdd, List.replicate_zero, List.replicate_succ, true_and, and_true, true_or, or_true, and_self, reduceIte, Nat.reduceEqDiff, Nat.reduceLT, Nat.reduceLeDiff, Nat.reduceMul, false_and, and_false, reduceCtorEq, false_or, or_false, not_true_eq_false, not_false_eq_true, true_implies, false_implies, implies_true, lf_10, eq_self, Int32.reduceLT, Int32.reduceLE, Int32.reduceAdd, Int32.reduceSub, pm_same, pm_i_wI, pm_l_wL, pm_l_wM, pm_oR_rf, pm_oQ_rf, nI_1, sw_e, LQ1, LQ2, sh_k14 hS, sh_r14_1 hS, sh_k15 hS, sh_z15 hS, hn, Int32.le_refl]
    exact h
theorem lf_3 {G : pm_G} {d : Nat} {A : iv_A} {S : pm_S} {b k : Int32} {q : Option Nat → pm_S → Prop} (hd : 1 ≤ d) (hS : Sh S) (hL : iv_Law A S) (h : q (some (lwp A (lwo S b k))) S) : pm_CR G d 3 [.ref 14, .int b, .int k] S q := by
  obtain ⟨n12, hn59⟩ := hL.c31
  refine pm_goR 3 40 pb_c3 (by decide) (Nat.le_of_ble_eq_true rfl) rfl ?_
  try simp only [show pm_mL 3 = 4 from rfl, pm_WI0, pm_WI1, pm_WI2, pm_WI3, pm_WI4, pm_WI5, pm_WV, pm_WW, pm_WX, pb_B3, pm_if, pm_QI_at, pm_QL_at, pm_QV_at, pm_QR_at, pm_QR_at0, pm_QR_at1, Nat.reduceSub, Nat.reduceAdd, List.replicate_zero, List.replicate_succ, true_and, and_true, true_or, or_true, and_self, reduceIte, Nat.reduceEqDiff, Nat.reduceLT, Nat.reduceLeDiff, Nat.reduceMul, false_and, and_false, reduceCtorEq, false_or, or_false, not_true_eq_false, not_false_eq_true, true_implies, false_implies, implies_true, lf_10, eq_self, Int32.reduceLT, Int32.reduceLE, Int32.reduceAdd, Int32.reduceSub, pm_same, pm_i_wI, pm_l_wL, pm_l_wM, pm_oR_rf, pm_oQ_rf, nI_1, sw_e, LQ1, LQ2, sh_k14 hS, sh_r14_1 hS, sh_k15 hS, sh_z15 hS, sh_r14_3 hS]
  refine ⟨by omega, lf_4 hS hL ?_⟩
  cases ho : lwo S b k with
  | none =>
    rw [ho] at h
    have h1 : ¬ 0 ≤ oI none := by decide
    try simp only [pm_WV, pm_WW, true_and, and_true, true_or, or_true, and_self, reduceIte, Nat.reduceEqDiff, Nat.reduceLT, Nat.reduceLeDiff, Nat.reduceMul, false_and, and_false, reduceCtorEq, false_or, or_false, not_true_eq_false, not_false_eq_true, true_implies, false_implies, implies_true, lf_10, eq_self, Int32.reduceLT, Int32.reduceLE, Int32.reduceAdd, Int32.reduceSub, pm_same, pm_i_wI, pm_l_wL, pm_l_wM, pm_oR_rf, pm_oQ_rf, nI_1, sw_e, LQ1, LQ2, pm_WI0, pm_WI1, pm_WI2, pm_WI3, pm_WI4, pm_WI5, pm_WV, pm_WW, pm_WX, pb_B3, pm_if, pm_QI_at, pm_QL_at, pm_QV_at, pm_QR_at, pm_QR_at0, pm_QR_at1, Nat.reduceSub, Nat.reduceAdd, List.replicate_zero, List.replicate_succ, sh_k14 hS, sh_r14_1 hS, sh_r14_3 hS, sh_k15 hS, sh_z15 hS, h1]
    first | exact h | exact ⟨fun z => absurd z h1, fun _ => h⟩
  | some i =>
    rw [ho] at h
    have hi := lwo_lt ho
    have h1 : 0 ≤ oI (some i) := nI_pos' (by omega)
    have hcl : (oI (some i)).toNatClampNeg = i := nI_clamp (by omega)
    have hr := (hL.2.2.2.1 i hi).1
    have hv : vp_in (oI (some i)) 12 := vp_in_nI (by omega) (by decide)
    try simp only [pm_WV, pm_WW, true_and, and_true, true_or, or_true, and_self, reduceIte, Nat.reduceEqDiff, Nat.reduceLT, Nat.reduceLeDiff, Nat.reduceMul, false_and, and_false, reduceCtorEq, false_or, or_false, not_true_eq_false, not_false_eq_true, true_implies, false_implies, implies_true, lf_10, eq_self, Int32.reduceLT, Int32.reduceLE, Int32.reduceAdd, Int32.reduceSub, pm_same, pm_i_wI, pm_l_wL, pm_l_wM, pm_oR_rf, pm_oQ_rf, nI_1, sw_e, LQ1, LQ2, pm_WI0, pm_WI1, pm_WI2, pm_WI3, pm_WI4, pm_WI5, pm_WV, pm_WW, pm_WX, pb_B3, pm_if, pm_QI_at, pm_QL_at, pm_QV_at, pm_QR_at, pm_QR_at0, pm_QR_at1, Nat.reduceSub, Nat.reduceAdd, List.replicate_zero, List.replicate_succ, sh_k14 hS, sh_r14_1 hS, sh_r14_3 hS, sh_k15 hS, sh_z15 hS, h1, hcl, hr]
    first | exact ⟨hv, h⟩ | exact ⟨fun _ => ⟨hv, h⟩, fun z => absurd h1 z⟩
theorem lw_of {A : iv_A} {S : pm_S} {b k : Int32} : ∀ i, lwo S b k = some i → i < iv_c S 31 := fun i h => lwo_lt h
/-- IN REACH -/
def rch (S : pm_S) (m : Nat) (k : Int32) : Bool := decide (¬ nI ((lawL S (lwo S (-1) k)).2.1 10) < k - pm_i S 66 m) && ld_reach (tv S m k) (lawL S (lwo S (-1) k))
theorem rch_me {S T : pm_S} (h : me S T) (m : Nat) (k : Int32) : rch T m k = rch S m k := by
  unfold rch; rw [lawL_me h, lwo_me h, tv_me h, h.row (p := 66) (by omega) (by omega)]
theorem lf_34 {G : pm_G} {d : Nat} {A : iv_A} {S : pm_S} {m : Nat} {k : Int32} {o : Option Nat} {q : Int32 → pm_S → Prop} (hd : 4 ≤ d) (hI : Inv A S) (hm : m < iv_c S 18) (ho : ∀ i, o = some i → i < iv_c S 31) (h : q (bI (ld_reach (tv S m k) (lawL S o))) S) : pm_CI G d 34 [.ref (lwp A o), .ref (iv_m A m), .int k] S q := by
  obtain ⟨hc, hr⟩ := lw_ok hI.sh hI.law ho
  have hwf := lawL_wf hI.mi (t := tv S m k) ho
  have h8 : pm_i S (lwp A o) 8 = nI ((lawL S o).2.1 8) := hr.2.2.2.2.1 8 (by omega) (by omega)
  have h9 : pm_i S (lwp A o) 9 = nI ((lawL S o).2.1 9) := hr.2.2.2.2.1 9 (by omega) (by omega)
  refine pm_goI 34 40 pb_c34 (by decide) (Nat.le_of_ble_eq_true rfl) rfl ?_
  try simp only [show pm_mL 34 = 3 from rfl, pm_WI0, pm_WI1, pm_WI2, pm_WI3, pm_WI4, pm_WI5, pm_WV, pm_WW, pm_WX, pb_B34, pm_if, pm_QI_at, pm_QL_at, pm_QV_at, pm_QR_at, pm_QR_at0, pm_QR_at1, Nat.reduceSub, Nat.reduceAdd, List.replicate_zero, List.replicate_succ, true_and, and_true, true_or, or_true, and_self, reduceIte, Nat.reduceEqDiff, Nat.reduceLT, Nat.reduceLeDiff, Nat.reduceMul, false_and, and_false, reduceCtorEq, false_or, or_false, not_true_eq_false, not_false_eq_true, true_implies, false_implies, implies_true, lf_10, eq_self, Int32.reduceLT, Int32.reduceLE, Int32.reduceAdd, Int32.reduceSub, pm_same, pm_i_wI, pm_l_wL, pm_l_wM, pm_oR_rf, pm_oQ_rf, nI_1, sw_e, LQ1, LQ2, hc.1, h8, h9]
  exact ⟨by omega, lf_35 (by omega) hI hm (lw_lst hc hr hwf) hwf.2.2.1.1 hwf.2.2.1.2.1 hwf.2.2.1.2.2 ⟨bI01 _, h⟩⟩
theorem lf_37 {G : pm_G} {d : Nat} {A : iv_A} {S : pm_S} {m c : Nat} {k : Int32} {o : Option Nat} {q : Int32 → pm_S → Prop} (hd : 4 ≤ d) (hI : Inv A S) (hm : m < iv_c S 18) (ho : ∀ i, o = some i → i < iv_c S 31) (hcl : c < (lawL S o).1.length) (h : q (bI (lo_h (tv S m k) (lawL S o).2.2 ((lawL S o).1.getD c gx_o0))) S) : pm_CI G d 37 [.ref (lwp A o), .int (nI c), .ref (iv_m A m), .int k] S q := by
  obtain ⟨hc, hr⟩ := lw_ok hI.sh hI.law ho
  have hwf := lawL_wf hI.mi (t := tv S m k) ho
  have hl10 := hwf.1.1
  have w2 := hc.2 2 (by omega)
  have w3 := hc.2 3 (by omega)
  have w4 := hc.2 4 (by omega)
  have a2 : pm_r S (lwp A o) 5 = some (lww A o 2) := w2.1
  have a3 : pm_r S (lwp A o) 6 = some (lww A o 3) := w3.1
  have a4 : pm_r S (lwp A o) 7 = some (lww A o 4) := w4.1
  have z2 : pm_z S (lww A o 2) = 10 := w2.2.2
  have z3 : pm_z S (lww A o 3) = 10 := w3.2.2
  have z4 : pm_z S (lww A o 4) = 10 := w4.2.2
  obtain ⟨r0, r1, r2, r3, r4⟩ := hr.2.2.2.2.2.1 c hcl
  have hm1 : (lawL S o).1.getD c gx_o0 ∈ (lawL S o).1 := by
    rw [List.getD_eq_getElem?_getD, List.getElem?_eq_getElem hcl]; exact List.getElem_mem hcl
  have hok := hwf.2.1 _ hm1
  change pm_i S (lww A o 2) c = nI ((lawL S o).1.getD c gx_o0).2.2.1 at r2
  change pm_i S (lww A o 3) c = nI ((lawL S o).1.getD c gx_o0).2.2.2.1 at r3
  change pm_i S (lww A o 4) c = nI ((lawL S o).1.getD c gx_o0).2.2.2.2 at r4
  generalize hE : (lawL S o).1.getD c gx_o0 = e at *
  obtain ⟨k1, k2, k3, k4, k5, k6⟩ := hok
  have hv := vp_in_nI (n := c) (N := 10) (by omega) (by decide)
  have hcc := nI_clamp (n := c) (by omega)
  unfold lo_h at h
  have hwn : e.2.2.1 = 0 ∨ e.2.2.1 = 1 ∨ e.2.2.1 = 2 := by omega
  have key : ∀ (wn : Int32), e.2.2.1 ≠ 0 → pm_i S (lww A o 2) c = wn → (wn = 1 ∨ wn = 2) → (e.2.2.1 = 1 ↔ wn = 1) → pm_CI G (d - 1) 35 [.ref (lwp A o), .int (nI e.2.2.2.1), .int (nI e.2.2.2.2), .ref (iv_m A m), .int k] S (fun r S' => S' = S ∧ (wn = 1 → (r = 1 → q 1 S') ∧ (¬ r = 1 → q 0 S')) ∧ (¬ wn = 1 → (r = 0 → q 1 S') ∧ (¬ r = 0 → q 0 S'))) := by
    intro wn hw0 _ hw hiff
    have hev : gx_ev (tv S m k) (gx_sub (lawL S o).2.2 e.2.2.2.1 e.2.2.2.2) 15 := by
      rcases k6 with z | z
      · exact absurd z hw0
      · exact z
    refine lf_35 (by omega) hI hm (lw_lst hc hr hwf) k4 k5 (Or.inr hev) ?_
    rw [if_neg hw0] at h
    cases hg : gx_hv (tv S m k) (gx_sub (lawL S o).2.2 e.2.2.2.1 e.2.2.2.2) <;> rw [hg] at h
    · refine ⟨rfl, fun z => ⟨fun y => absurd y (by decide), fun _ => ?_⟩, fun z => ⟨fun _ => ?_, fun y => absurd rfl y⟩⟩
      · simpa [hiff.mpr z, bI] using h
      · simpa [show ¬ e.2.2.1 = 1 from fun y => z (hiff.mp y), bI] using h
    · refine ⟨rfl, fun z => ⟨fun _ => ?_, fun y => absurd rfl y⟩, fun z => ⟨fun y => absurd y (by decide), fun _ => ?_⟩⟩
      · simpa [hiff.mpr z, bI] using h
      · simpa [show ¬ e.2.2.1 = 1 from fun y => z (hiff.mp y), bI] using h
  rcases hwn with hw0 | hw1 | hw2
  · rw [if_pos hw0] at h
    rw [hw0] at r2
    have r2' : pm_i S (lww A o 2) c = 0 := r2
    refine pm_goI 37 8 pb_c37 (by decide) (Nat.le_of_ble_eq_true rfl) rfl ?_
    try simp only [show pm_mL 37 = 4 from rfl, pm_WI0, pm_WI1, pm_WI2, pm_WI3, pm_WI4, pm_WI5, pm_WV, pm_WW, pm_WX, pb_B37, pm_if, pm_QI_at, pm_QL_at, pm_QV_at, pm_QR_at, pm_QR_at0, pm_QR_at1, Nat.reduceSub, Nat.reduceAdd, List.replicate_zero, List.replicate_succ, true_and, and_true, true_or, or_true, and_self, reduceIte, Nat.reduceEqDiff, Nat.reduceLT, Nat.reduceLeDiff, Nat.reduceMul, false_and, and_false, reduceCtorEq, false_or, or_false, not_true_eq_false, not_false_eq_true, true_implies, false_implies, implies_true, lf_10, eq_self, Int32.reduceLT, Int32.reduceLE, Int32.reduceAdd, Int32.reduceSub, pm_same, pm_i_wI, pm_l_wL, pm_l_wM, pm_oR_rf, pm_oQ_rf, nI_1, sw_e, LQ1, LQ2, hc.1, a2, a3, a4, z2, z3, z4, w2.2.1, w3.2.1, w4.2.1, hcc, r2', r3, r4]
    exact ⟨hv, h⟩
  · have kk := key 1 (by omega) (by rw [r2, hw1]; rfl) (by decide) (by rw [hw1]; decide)
    have r2' : pm_i S (lww A o 2) c = 1 := by rw [r2, hw1]; rfl
    refine pm_goI 37 8 pb_c37 (by decide) (Nat.le_of_ble_eq_true rfl) rfl ?_
    try simp only [show pm_mL 37 = 4 from rfl, pm_WI0, pm_WI1, pm_WI2, pm_WI3, pm_WI4, pm_WI5, pm_WV, pm_WW, pm_WX, pb_B37, pm_if, pm_QI_at, pm_QL_at, pm_QV_at, pm_QR_at, pm_QR_at0, pm_QR_at1, Nat.reduceSub, Nat.reduceAdd, List.replicate_zero, List.replicate_succ, true_and, and_true, true_or, or_true, and_self, reduceIte, Nat.reduceEqDiff, Nat.reduceLT, Nat.reduceLeDiff, Nat.reduceMul, false_and, and_false, reduceCtorEq, false_or, or_false, not_true_eq_false, not_false_eq_true, true_implies, false_implies, implies_true, lf_10, eq_self, Int32.reduceLT, Int32.reduceLE, Int32.reduceAdd, Int32.reduceSub, pm_same, pm_i_wI, pm_l_wL, pm_l_wM, pm_oR_rf, pm_oQ_rf, nI_1, sw_e, LQ1, LQ2, hc.1, a2, a3, a4, z2, z3, z4, w2.2.1, w3.2.1, w4.2.1, hcc, r2', r3, r4]
    refine ⟨hv, hv, hv, by omega, ?_⟩
    refine kk.mono (fun x S' hx => ?_)
    obtain ⟨eS, hx⟩ := hx
    rw [eS] at hx ⊢
    try simp only [pm_WV, pm_WW, true_and, and_true, true_or, or_true, and_self, reduceIte, Nat.reduceEqDiff, Nat.reduceLT, Nat.reduceLeDiff, Nat.reduceMul, false_and, and_false, reduceCtorEq, false_or, or_false, not_true_eq_false, not_false_eq_true, true_implies, false_implies, implies_true, lf_10, eq_self, Int32.reduceLT, Int32.reduceLE, Int32.reduceAdd, Int32.reduceSub, pm_same, pm_i_wI, pm_l_wL, pm_l_wM, pm_oR_rf, pm_oQ_rf, nI_1, sw_e, LQ1, LQ2, pm_WI0, pm_WI1, pm_WI2, pm_WI3, pm_WI4, pm_WI5, pm_WV, pm_WW, pm_WX, pb_B37, pm_if, pm_QI_at, pm_QL_at, pm_QV_at, pm_QR_at, pm_QR_at0, pm_QR_at1, Nat.reduceSub, Nat.reduceAdd, List.replicate_zero, List.replicate_succ, sh_k14 hI.sh] at hx
    try simp only [pm_WV, pm_WW, true_and, and_true, true_or, or_true, and_self, reduceIte, Nat.reduceEqDiff, Nat.reduceLT, Nat.reduceLeDiff, Nat.reduceMul, false_and, and_false, reduceCtorEq, false_or, or_false, not_true_eq_false, not_false_eq_true, true_implies, false_implies, implies_true, lf_10, eq_self, Int32.reduceLT, Int32.reduceLE, Int32.reduceAdd, Int32.reduceSub, pm_same, pm_i_wI, pm_l_wL, pm_l_wM, pm_oR_rf, pm_oQ_rf, nI_1, sw_e, LQ1, LQ2, pm_WI0, pm_WI1, pm_WI2, pm_WI3, pm_WI4, pm_WI5, pm_WV, pm_WW, pm_WX, pb_B37, pm_if, pm_QI_at, pm_QL_at, pm_QV_at, pm_QR_at, pm_QR_at0, pm_QR_at1, Nat.reduceSub, Nat.reduceAdd, List.replicate_zero, List.replicate_succ, sh_k14 hI.sh, hc.1, a2, z2, w2.2.1, hcc, r2']
    first | exact ⟨hv, hx⟩ | exact hx | skip
  · have kk := key 2 (by omega) (by rw [r2, hw2]; rfl) (by decide) (by rw [hw2]; decide)
    have r2' : pm_i S (lww A o 2) c = 2 := by rw [r2, hw2]; rfl
    refine pm_goI 37 8 pb_c37 (by decide) (Nat.le_of_ble_eq_true rfl) rfl ?_
    try simp only [show pm_mL 37 = 4 from rfl, pm_WI0, pm_WI1, pm_WI2, pm_WI3, pm_WI4, pm_WI5, pm_WV, pm_WW, pm_WX, pb_B37, pm_if, pm_QI_at, pm_QL_at, pm_QV_at, pm_QR_at, pm_QR_at0, pm_QR_at1, Nat.reduceSub, Nat.reduceAdd, List.replicate_zero, List.replicate_succ, true_and, and_true, true_or, or_true, and_self, reduceIte, Nat.reduceEqDiff, Nat.reduceLT, Nat.reduceLeDiff, Nat.reduceMul, false_and, and_false, reduceCtorEq, false_or, or_false, not_true_eq_false, not_false_eq_true, true_implies, false_implies, implies_true, lf_10, eq_self, Int32.reduceLT, Int32.reduceLE, Int32.reduceAdd, Int32.reduceSub, pm_same, pm_i_wI, pm_l_wL, pm_l_wM, pm_oR_rf, pm_oQ_rf, nI_1, sw_e, LQ1, LQ2, hc.1, a2, a3, a4, z2, z3, z4, w2.2.1, w3.2.1, w4.2.1, hcc, r2', r3, r4]
    refine ⟨hv, hv, hv, by omega, ?_⟩
    refine kk.mono (fun x S' hx => ?_)
    obtain ⟨eS, hx⟩ := hx
    rw [eS] at hx ⊢
    try simp only [pm_WV, pm_WW, true_and, and_true, true_or, or_true, and_self, reduceIte, Nat.reduceEqDiff, Nat.reduceLT, Nat.reduceLeDiff, Nat.reduceMul, false_and, and_false, reduceCtorEq, false_or, or_false, not_true_eq_false, not_false_eq_true, true_implies, false_implies, implies_true, lf_10, eq_self, Int32.reduceLT, Int32.reduceLE, Int32.reduceAdd, Int32.reduceSub, pm_same, pm_i_wI, pm_l_wL, pm_l_wM, pm_oR_rf, pm_oQ_rf, nI_1, sw_e, LQ1, LQ2, pm_WI0, pm_WI1, pm_WI2, pm_WI3, pm_WI4, pm_WI5, pm_WV, pm_WW, pm_WX, pb_B37, pm_if, pm_QI_at, pm_QL_at, pm_QV_at, pm_QR_at, pm_QR_at0, pm_QR_at1, Nat.reduceSub, Nat.reduceAdd, List.replicate_zero, List.replicate_succ, sh_k14 hI.sh] at hx
    try simp only [pm_WV, pm_WW, true_and, and_true, true_or, or_true, and_self, reduceIte, Nat.reduceEqDiff, Nat.reduceLT, Nat.reduceLeDiff, Nat.reduceMul, false_and, and_false, reduceCtorEq, false_or, or_false, not_true_eq_false, not_false_eq_true, true_implies, false_implies, implies_true, lf_10, eq_self, Int32.reduceLT, Int32.reduceLE, Int32.reduceAdd, Int32.reduceSub, pm_same, pm_i_wI, pm_l_wL, pm_l_wM, pm_oR_rf, pm_oQ_rf, nI_1, sw_e, LQ1, LQ2, pm_WI0, pm_WI1, pm_WI2, pm_WI3, pm_WI4, pm_WI5, pm_WV, pm_WW, pm_WX, pb_B37, pm_if, pm_QI_at, pm_QL_at, pm_QV_at, pm_QR_at, pm_QR_at0, pm_QR_at1, Nat.reduceSub, Nat.reduceAdd, List.replicate_zero, List.replicate_succ, sh_k14 hI.sh, hc.1, a2, z2, w2.2.1, hcc, r2']
    first | exact ⟨hv, hx⟩ | exact hx | skip
theorem lf_2 {G : pm_G} {d : Nat} {A : iv_A} {S : pm_S} {m : Nat} {k : Int32} {q : Int32 → pm_S → Prop} (hd : 5 ≤ d) (hI : Inv A S) (hm : m < iv_c S 18) (h : q (bI (rch S m k)) S) : pm_CI G d 2 [.ref 14, .ref (iv_m A m), .int k] S q := by
  have hS := hI.sh
  have hw := hI.row hm
  obtain ⟨hc, hr⟩ := lw_ok hS hI.law (lw_of (A := A) (S := S) (b := -1) (k := k))
  have h10 : pm_i S (lwp A (lwo S (-1) k)) 10 = nI ((lawL S (lwo S (-1) k)).2.1 10) := hr.2.2.2.2.1 10 (by omega) (by omega)
  unfold rch at h
  refine pm_goI 2 40 pb_c2 (by decide) (Nat.le_of_ble_eq_true rfl) rfl ?_
  try simp only [show pm_mL 2 = 4 from rfl, pm_WI0, pm_WI1, pm_WI2, pm_WI3, pm_WI4, pm_WI5, pm_WV, pm_WW, pm_WX, pb_B2, pm_if, pm_QI_at, pm_QL_at, pm_QV_at, pm_QR_at, pm_QR_at0, pm_QR_at1, Nat.reduceSub, Nat.reduceAdd, List.replicate_zero, List.replicate_succ, true_and, and_true, true_or, or_true, and_self, reduceIte, Nat.reduceEqDiff, Nat.reduceLT, Nat.reduceLeDiff, Nat.reduceMul, false_and, and_false, reduceCtorEq, false_or, or_false, not_true_eq_false, not_false_eq_true, true_implies, false_implies, implies_true, lf_10, eq_self, Int32.reduceLT, Int32.reduceLE, Int32.reduceAdd, Int32.reduceSub, pm_same, pm_i_wI, pm_l_wL, pm_l_wM, pm_oR_rf, pm_oQ_rf, nI_1, sw_e, LQ1, LQ2, sh_k14 hS, hw.k, hw.f4]
  refine ⟨by omega, lf_3 (by omega) hS hI.law ?_⟩
  try simp only [pm_WV, pm_WW, true_and, and_true, true_or, or_true, and_self, reduceIte, Nat.reduceEqDiff, Nat.reduceLT, Nat.reduceLeDiff, Nat.reduceMul, false_and, and_false, reduceCtorEq, false_or, or_false, not_true_eq_false, not_false_eq_true, true_implies, false_implies, implies_true, lf_10, eq_self, Int32.reduceLT, Int32.reduceLE, Int32.reduceAdd, Int32.reduceSub, pm_same, pm_i_wI, pm_l_wL, pm_l_wM, pm_oR_rf, pm_oQ_rf, nI_1, sw_e, LQ1, LQ2, pm_WI0, pm_WI1, pm_WI2, pm_WI3, pm_WI4, pm_WI5, pm_WV, pm_WW, pm_WX, pb_B2, pm_if, pm_QI_at, pm_QL_at, pm_QV_at, pm_QR_at, pm_QR_at0, pm_QR_at1, Nat.reduceSub, Nat.reduceAdd, List.replicate_zero, List.replicate_succ, hc.1, h10, hw.k, hw.f4]
  refine ⟨fun z => ?_, fun z => ⟨by omega, lf_34 (by omega) hI hm (lw_of (A := A)) ?_⟩⟩
  · have : decide (¬ nI ((lawL S (lwo S (-1) k)).2.1 10) < k - pm_i S 66 m) = false := by simp [z]
    rw [this] at h
    exact h
  · have : decide (¬ nI ((lawL S (lwo S (-1) k)).2.1 10) < k - pm_i S 66 m) = true := by simp [z]
    rw [this, Bool.true_and] at h
    cases hg : ld_reach (tv S m k) (lawL S (lwo S (-1) k)) <;> rw [hg] at h
    · exact ⟨fun _ => h, fun y => absurd rfl y⟩
    · exact ⟨fun y => absurd y (by decide), fun _ => h⟩
theorem mm_175 {G : pm_G} {d : Nat} {S : pm_S} {m : Nat} {k : Int32} {q : Int32 → pm_S → Prop} (hd : 33 ≤ d) (hM : iv_MI S) (hm : m < iv_c S 18) (h : ∀ T, sc S T → q (bI (rch S m k)) T) : pm_CI G d 175 [.ref 59, .int (nI m), .int k] S q := by
  have hS := hM.1
  obtain ⟨n12, hn⟩ := MI.c31 hM
  have h40 := (MI.c18 hM).1
  refine pm_goI 175 40 pb_c175 (by decide) (Nat.le_of_ble_eq_true rfl) rfl ?_
  try simp only [show pm_mL 175 = 3 from rfl, pm_WI0, pm_WI1, pm_WI2, pm_WI3, pm_WI4, pm_WI5, pm_WV, pm_WW, pm_WX, pb_B175, pm_if, pm_QI_at, pm_QL_at, pm_QV_at, pm_QR_at, pm_QR_at0, pm_QR_at1, Nat.reduceSub, Nat.reduceAdd, List.replicate_zero, List.replicate_succ, true_and, and_true, true_or, or_true, and_self, reduceIte, Nat.reduceEqDiff, Nat.reduceLT, Nat.reduceLeDiff, Nat.reduceMul, false_and, and_false, reduceCtorEq, false_or, or_false, not_true_eq_false, not_false_eq_true, true_implies, false_implies, implies_true, lf_10, eq_self, Int32.reduceLT, Int32.reduceLE, Int32.reduceAdd, Int32.reduceSub, pm_same, pm_i_wI, pm_l_wL, pm_l_wM, pm_oR_rf, pm_oQ_rf, nI_1, sw_e, LQ1, LQ2, sh_k59 hS]
  refine ⟨by omega, ml_176 hS hn n12 ?_⟩
  try simp only [pm_WV, pm_WW, true_and, and_true, true_or, or_true, and_self, reduceIte, Nat.reduceEqDiff, Nat.reduceLT, Nat.reduceLeDiff, Nat.reduceMul, false_and, and_false, reduceCtorEq, false_or, or_false, not_true_eq_false, not_false_eq_true, true_implies, false_implies, implies_true, lf_10, eq_self, Int32.reduceLT, Int32.reduceLE, Int32.reduceAdd, Int32.reduceSub, pm_same, pm_i_wI, pm_l_wL, pm_l_wM, pm_oR_rf, pm_oQ_rf, nI_1, sw_e, LQ1, LQ2, pm_WI0, pm_WI1, pm_WI2, pm_WI3, pm_WI4, pm_WI5, pm_WV, pm_WW, pm_WX, pb_B175, pm_if, pm_QI_at, pm_QL_at, pm_QV_at, pm_QR_at, pm_QR_at0, pm_QR_at1, Nat.reduceSub, Nat.reduceAdd, List.replicate_zero, List.replicate_succ, sh_k59 hS]
  refine ⟨by omega, ml_177 (t := tv S m k) (by omega) hM (fun i hi => lwo_lt hi) (Or.inr ⟨m, hm, rfl, rfl⟩) (fun T hs hl => ?_)⟩
  have hT := hs.sh hS
  obtain ⟨a1, a2, a3, a4⟩ := hl
  have l10 : pm_i T 59 53 = nI ((lawL S (lwo S (-1) k)).2.1 10) := a4 10 (by omega) (by omega)
  have hcm := nI_clamp (n := m) (by omega)
  have hv := vp_in_nI (n := m) (N := 40) (by omega) (by decide)
  have hh := h T hs
  unfold rch at hh
  try simp only [pm_WV, pm_WW, true_and, and_true, true_or, or_true, and_self, reduceIte, Nat.reduceEqDiff, Nat.reduceLT, Nat.reduceLeDiff, Nat.reduceMul, false_and, and_false, reduceCtorEq, false_or, or_false, not_true_eq_false, not_false_eq_true, true_implies, false_implies, implies_true, lf_10, eq_self, Int32.reduceLT, Int32.reduceLE, Int32.reduceAdd, Int32.reduceSub, pm_same, pm_i_wI, pm_l_wL, pm_l_wM, pm_oR_rf, pm_oQ_rf, nI_1, sw_e, LQ1, LQ2, pm_WI0, pm_WI1, pm_WI2, pm_WI3, pm_WI4, pm_WI5, pm_WV, pm_WW, pm_WX, pb_B175, pm_if, pm_QI_at, pm_QL_at, pm_QV_at, pm_QR_at, pm_QR_at0, pm_QR_at1, Nat.reduceSub, Nat.reduceAdd, List.replicate_zero, List.replicate_succ, sh_k59 hT, sh_r59_9 hT, sh_k66 hT, sh_z66 hT, a3, l10, hcm, hs.r66]
  cases hg : ld_reach (tv S m k) (lawL S (lwo S (-1) k)) <;> rw [hg] at hh
  · rw [Bool.and_false] at hh
    refine ⟨fun _ => hh, fun y => absurd rfl y⟩
  · rw [Bool.and_true] at hh
    refine ⟨fun y => absurd y (by decide), fun _ => ⟨hv, fun z => ?_, fun z => ?_⟩⟩
    · have : decide (¬ nI ((lawL S (lwo S (-1) k)).2.1 10) < k - pm_i S 66 m) = false := by simp [z]
      rw [this] at hh; exact hh
    · have : decide (¬ nI ((lawL S (lwo S (-1) k)).2.1 10) < k - pm_i S 66 m) = true := by simp [z]
      rw [this] at hh; exact hh
