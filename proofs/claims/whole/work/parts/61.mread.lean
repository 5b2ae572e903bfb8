theorem LQ4 : (((97 : Int32) = 0) = False) ∧ (((98 : Int32) = 0) = False) ∧ (((99 : Int32) = 0) = False) ∧ (((100 : Int32) = 0) = False) ∧ (((101 : Int32) = 0) = False) ∧ (((102 : Int32) = 0) = False) ∧ (((103 : Int32) = 0) = False) ∧ (((104 : Int32) = 0) = False) ∧ (((105 : Int32) = 0) = False) ∧ (((106 : Int32) = 0) = False) ∧ (((107 : Int32) = 0) = False) ∧ (((108 : Int32) = 0) = False) ∧ (((109 : Int32) = 0) = False) ∧ (((110 : Int32) = 0) = False) ∧ (((111 : Int32) = 0) = False) ∧ (((112 : Int32) = 0) = False) ∧ (((113 : Int32) = 0) = False) ∧ (((114 : Int32) = 0) = False) ∧ (((115 : Int32) = 0) = False) ∧ (((116 : Int32) = 0) = False) ∧ (((117 : Int32) = 0) = False) ∧ (((118 : Int32) = 0) = False) ∧ (((119 : Int32) = 0) = False) ∧ (((120 : Int32) = 0) = False) ∧ (((121 : Int32) = 0) = False) ∧ (((122 : Int32) = 0) = False) := ⟨eq_false (by decide), eq_false (by decide), eq_false (by decide), eq_false (by decide), eq_false (by decide), eq_false (by decide), eq_false (by decide), eq_false (by decide), eq_false (by decide), eq_false (by decide), eq_false (by decide), eq_false (by decide), eq_false (by decide), eq_false (by decide), eq_false (by decide), eq_false (by decide), eq_false (by decide), eq_false (by decide), eq_false (by decide), eq_false (by decide), eq_false (by decide), eq_false (by decide), eq_false (by decide), eq_false (by decide), eq_false (by decide), eq_false (by decide)⟩
/-! THE MODEL'S READER: a base state with its place, its fault and its depth -/
def mst (S : pm_S) (a x o : Int32) : pm_S := pm_wI (pm_wI (pm_wI S 59 46 a) 59 48 x) 59 49 o
section MST
variable {S : pm_S} {a x o v : Int32}
theorem mst_w49 : pm_wI (mst S a x o) 59 49 v = mst S a x v := by unfold mst; rw [pm_wI_wI]
theorem mst_w48 : pm_wI (mst S a x o) 59 48 v = mst S a v o := by unfold mst; rw [pm_wI_comm (q := 59) (k := 48) (by decide), pm_wI_wI]
theorem mst_w46 : pm_wI (mst S a x o) 59 46 v = mst S v x o := by unfold mst; rw [pm_wI_comm (q := 59) (k := 46) (by decide), pm_wI_comm (S := pm_wI S 59 46 a) (q := 59) (k := 46) (by decide), pm_wI_wI]
theorem mst_46 : pm_i (mst S a x o) 59 46 = a := by unfold mst; simp [pm_i_wI]
theorem mst_48 : pm_i (mst S a x o) 59 48 = x := by unfold mst; simp [pm_i_wI]
theorem mst_49 : pm_i (mst S a x o) 59 49 = o := by unfold mst; simp [pm_i_wI]
theorem mst_k : pm_k (mst S a x o) = pm_k S := rfl
theorem mst_z : pm_z (mst S a x o) = pm_z S := rfl
theorem mst_r : pm_r (mst S a x o) = pm_r S := rfl
theorem mst_n : pm_n (mst S a x o) = pm_n S := rfl
theorem mst_l : pm_l (mst S a x o) = pm_l S := rfl
theorem mst_sh (h : Sh S) : Sh (mst S a x o) := h
theorem mst_row {p : Nat} (h : p ≠ 59) : pm_i (mst S a x o) p = pm_i S p := by unfold mst; rw [pm_i_wI_ne h, pm_i_wI_ne h, pm_i_wI_ne h]
theorem mst_f {j : Nat} (h : j ≠ 46 ∧ j ≠ 48 ∧ j ≠ 49) : pm_i (mst S a x o) 59 j = pm_i S 59 j := by
  unfold mst; rw [pm_i_wI, if_neg (by omega), pm_i_wI, if_neg (by omega), pm_i_wI, if_neg (by omega)]
theorem mst_sc : sc S (mst S a x o) := by
  unfold mst
  exact ((sc.rf.wI (by unfold sc_q; omega)).wI (by unfold sc_q; omega)).wI (by unfold sc_q; omega)
theorem mst_R60 : pm_i (mst S a x o) 60 = pm_i S 60 := mst_row (by decide)
theorem mst_R62 : pm_i (mst S a x o) 62 = pm_i S 62 := mst_row (by decide)
theorem mst_R63 : pm_i (mst S a x o) 63 = pm_i S 63 := mst_row (by decide)
theorem mst_R64 : pm_i (mst S a x o) 64 = pm_i S 64 := mst_row (by decide)
theorem mst_R65 : pm_i (mst S a x o) 65 = pm_i S 65 := mst_row (by decide)
theorem mst_R66 : pm_i (mst S a x o) 66 = pm_i S 66 := mst_row (by decide)
theorem mst_R67 : pm_i (mst S a x o) 67 = pm_i S 67 := mst_row (by decide)
theorem mst_R68 : pm_i (mst S a x o) 68 = pm_i S 68 := mst_row (by decide)
theorem mst_R69 : pm_i (mst S a x o) 69 = pm_i S 69 := mst_row (by decide)
theorem mst_R70 : pm_i (mst S a x o) 70 = pm_i S 70 := mst_row (by decide)
theorem mst_R71 : pm_i (mst S a x o) 71 = pm_i S 71 := mst_row (by decide)
theorem mst_R72 : pm_i (mst S a x o) 72 = pm_i S 72 := mst_row (by decide)
theorem mst_R73 : pm_i (mst S a x o) 73 = pm_i S 73 := mst_row (by decide)
theorem mst_R74 : pm_i (mst S a x o) 74 = pm_i S 74 := mst_row (by decide)
theorem mst_R75 : pm_i (mst S a x o) 75 = pm_i S 75 := mst_row (by decide)
theorem mst_R76 : pm_i (mst S a x o) 76 = pm_i S 76 := mst_row (by decide)
theorem mst_R77 : pm_i (mst S a x o) 77 = pm_i S 77 := mst_row (by decide)
theorem mst_R78 : pm_i (mst S a x o) 78 = pm_i S 78 := mst_row (by decide)
theorem mst_R79 : pm_i (mst S a x o) 79 = pm_i S 79 := mst_row (by decide)
theorem mst_R80 : pm_i (mst S a x o) 80 = pm_i S 80 := mst_row (by decide)
theorem mst_R81 : pm_i (mst S a x o) 81 = pm_i S 81 := mst_row (by decide)
theorem mst_R82 : pm_i (mst S a x o) 82 = pm_i S 82 := mst_row (by decide)
theorem mst_R83 : pm_i (mst S a x o) 83 = pm_i S 83 := mst_row (by decide)
theorem mst_R84 : pm_i (mst S a x o) 84 = pm_i S 84 := mst_row (by decide)
theorem mst_R85 : pm_i (mst S a x o) 85 = pm_i S 85 := mst_row (by decide)
theorem mst_R86 : pm_i (mst S a x o) 86 = pm_i S 86 := mst_row (by decide)
theorem mst_R87 : pm_i (mst S a x o) 87 = pm_i S 87 := mst_row (by decide)
theorem mst_R88 : pm_i (mst S a x o) 88 = pm_i S 88 := mst_row (by decide)
theorem mst_R95 : pm_i (mst S a x o) 95 = pm_i S 95 := mst_row (by decide)
theorem mst_R96 : pm_i (mst S a x o) 96 = pm_i S 96 := mst_row (by decide)
theorem mst_R97 : pm_i (mst S a x o) 97 = pm_i S 97 := mst_row (by decide)
theorem mst_F0 : pm_i (mst S a x o) 59 0 = pm_i S 59 0 := mst_f (by decide)
theorem mst_F2 : pm_i (mst S a x o) 59 2 = pm_i S 59 2 := mst_f (by decide)
theorem mst_F18 : pm_i (mst S a x o) 59 18 = pm_i S 59 18 := mst_f (by decide)
theorem mst_F24 : pm_i (mst S a x o) 59 24 = pm_i S 59 24 := mst_f (by decide)
theorem mst_F31 : pm_i (mst S a x o) 59 31 = pm_i S 59 31 := mst_f (by decide)
theorem mst_F26 : pm_i (mst S a x o) 59 26 = pm_i S 59 26 := mst_f (by decide)
theorem mst_F45 : pm_i (mst S a x o) 59 45 = pm_i S 59 45 := mst_f (by decide)
theorem mst_F47 : pm_i (mst S a x o) 59 47 = pm_i S 59 47 := mst_f (by decide)
theorem mst_F50 : pm_i (mst S a x o) 59 50 = pm_i S 59 50 := mst_f (by decide)
theorem mst_F51 : pm_i (mst S a x o) 59 51 = pm_i S 59 51 := mst_f (by decide)
theorem mst_F52 : pm_i (mst S a x o) 59 52 = pm_i S 59 52 := mst_f (by decide)
theorem mst_F53 : pm_i (mst S a x o) 59 53 = pm_i S 59 53 := mst_f (by decide)
theorem mst_F54 : pm_i (mst S a x o) 59 54 = pm_i S 59 54 := mst_f (by decide)
theorem mst_F55 : pm_i (mst S a x o) 59 55 = pm_i S 59 55 := mst_f (by decide)
theorem mst_F56 : pm_i (mst S a x o) 59 56 = pm_i S 59 56 := mst_f (by decide)
theorem mst_F57 : pm_i (mst S a x o) 59 57 = pm_i S 59 57 := mst_f (by decide)
theorem mst_F58 : pm_i (mst S a x o) 59 58 = pm_i S 59 58 := mst_f (by decide)
theorem mst_F59 : pm_i (mst S a x o) 59 59 = pm_i S 59 59 := mst_f (by decide)
theorem mst_F60 : pm_i (mst S a x o) 59 60 = pm_i S 59 60 := mst_f (by decide)
theorem mst_F61 : pm_i (mst S a x o) 59 61 = pm_i S 59 61 := mst_f (by decide)
theorem mst_F62 : pm_i (mst S a x o) 59 62 = pm_i S 59 62 := mst_f (by decide)
theorem mst_F63 : pm_i (mst S a x o) 59 63 = pm_i S 59 63 := mst_f (by decide)
end MST
/-- the text that is read: THE TEXT, or that of a LAW -/
def mrc (S : pm_S) (f : Nat → Int32) (n : Nat) : Prop := pm_i S 59 47 = nI n ∧ n ≤ 160 ∧ (∀ k, k < n → iv_in (f k) 0 255) ∧ ((pm_i S 59 45 = -1 ∧ f = pm_i S 80) ∨ ∃ l, l < 12 ∧ pm_i S 59 45 = nI (160 * l) ∧ f = iv_txt S l)
theorem mrc.at {S : pm_S} {f : Nat → Int32} {n k : Nat} (h : mrc S f n) (hk : k < n) : f k = nI (gx_b f n k) ∧ gx_b f n k < 256 := by
  have h5 := h.2.2.1 k hk
  have e : gx_b f n k = (f k).toNatClampNeg := by unfold gx_b; rw [if_pos hk]
  refine ⟨by rw [e]; exact iv_nn h5.1, ?_⟩
  rw [e]; have := iv_le (n := 255) 255 h5.2 (by decide); omega
theorem mrc.le {S : pm_S} {f : Nat → Int32} {n : Nat} (h : mrc S f n) (k : Nat) : gx_b f n k ≤ 256 := by
  by_cases hk : k < n
  · have := (h.at hk).2; omega
  · rw [gx_b_end (by omega)]; omega
def un {α : Type} (r : gx_R α) : gx_R Unit := (r.1, r.2.map (fun _ => ()))
def ms (S : pm_S) (o : Nat) (r : gx_R Unit) : pm_S := mst S (nI r.1) (match r.2 with
  | none => nI r.1
  | some _ => -1) (nI o)
def vo (r : gx_R Nat) : Int32 := match r.2 with
  | none => 0
  | some v => nI v
theorem un_some {α : Type} {p : Nat} {a : α} : un (p, some a) = (p, some ()) := rfl
theorem un_none {α : Type} {p : Nat} : un ((p, none) : gx_R α) = (p, none) := rfl
theorem un_un {r : gx_R Unit} : un r = r := by
  obtain ⟨p, _ | ⟨⟩⟩ := r <;> rfl
theorem gx_bd_un {α β : Type} {r : gx_R α} {f : Nat → gx_R β} : gx_bd (un r) (fun _ p => f p) = gx_bd r (fun _ p => f p) := by
  obtain ⟨p, _ | a⟩ := r <;> rfl
theorem mr_181 {G : pm_G} {d : Nat} {S : pm_S} {f : Nat → Int32} {n : Nat} {p : Nat} {x o : Int32} {q : Int32 → pm_S → Prop} (hS : Sh S) (hm : mrc S f n) (hp : p ≤ n) (h : q (sg (gx_b f n p)) (mst S (nI p) x o)) : pm_CI G d 181 [.ref 59] (mst S (nI p) x o) q := by
  obtain ⟨m1, m2, m3, m4⟩ := id hm
  refine pm_goI 181 40 pb_c181 (by decide) (Nat.le_of_ble_eq_true rfl) rfl ?_
  try simp only [show pm_mL 181 = 1 from rfl, pm_WI0, pm_WI1, pm_WI2, pm_WI3, pm_WI4, pm_WI5, pm_WV, pm_WW, pm_WX, pb_B181, pm_if, pm_QI_at, pm_QL_at, pm_QV_at, pm_QR_at, pm_QR_at0, pm_QR_at1, Nat.reduceSub, Nat.reduceAdd, List.replicate_zero, List.replicate_succ, true_and, and_true, true_or, or_true, and_self, reduceIte, Nat.reduceEqDiff, Nat.reduceLT, Nat.reduceLeDiff, Nat.reduceMul, false_and, and_false, reduceCtorEq, false_or, or_false, not_true_eq_false, not_false_eq_true, true_implies, false_implies, implies_true, lf_10, eq_self, Int32.reduceLT, Int32.reduceLE, Int32.reduceAdd, Int32.reduceSub, pm_same, pm_i_wI, pm_l_wL, pm_l_wM, pm_oR_rf, pm_oQ_rf, sh_k59 hS, sh_r59_25 hS, sh_k80 hS, sh_z80 hS, sh_r59_27 hS, sh_k81 hS, sh_z81 hS, mst_w46, mst_w48, mst_w49, mst_46, mst_48, mst_49, mst_k, mst_z, mst_r, mst_n, mst_l, mst_R62, mst_R64, mst_R65, mst_R66, mst_R67, mst_R78, mst_R80, mst_R81, mst_F18, mst_F24, mst_F45, mst_F47, mst_F50, mst_F51, nI_1, LQ1, LQ2, LQ4, m1]
  refine ⟨fun z => ?_, fun z => ?_⟩
  · have : n ≤ p := (nI_leI (by omega) (by omega)).mp z
    unfold sg at h
    rw [gx_b_end this, if_pos rfl] at h; exact h
  · have hpn : p < n := by
      by_cases h1 : p < n
      · exact h1
      · exact absurd (nI_le (by omega) (by omega)) z
    obtain ⟨e2, e3⟩ := hm.at hpn
    unfold sg at h
    rw [if_neg (by omega), ← e2] at h
    rcases m4 with ⟨b1, b2⟩ | ⟨l, b0, b1, b2⟩
    · rw [b1]
      refine ⟨fun y => absurd y (by decide), fun _ => ⟨vp_in_nI (by omega) (by decide), ?_⟩⟩
      rw [nI_clamp (by omega), ← b2]; exact h
    · rw [b1]
      refine ⟨fun _ => ?_, fun y => absurd (nI_pos' (by omega)) y⟩
      rw [nI_add, nI_clamp (by omega)]
      refine ⟨vp_in_nI (by omega) (by decide), ?_⟩
      rw [b2] at h; exact h
theorem mr_187l {G : pm_G} {d : Nat} {S : pm_S} {a o : Int32} {q : Int32 → pm_S → Prop} (hS : Sh S) (h : q 0 (mst S a a o)) : pm_CI G d 187 [.ref 59] (mst S a (-1) o) q := by
  refine pm_goI 187 40 pb_c187 (by decide) (Nat.le_of_ble_eq_true rfl) rfl ?_
  try simp only [show pm_mL 187 = 1 from rfl, pm_WI0, pm_WI1, pm_WI2, pm_WI3, pm_WI4, pm_WI5, pm_WV, pm_WW, pm_WX, pb_B187, pm_if, pm_QI_at, pm_QL_at, pm_QV_at, pm_QR_at, pm_QR_at0, pm_QR_at1, Nat.reduceSub, Nat.reduceAdd, List.replicate_zero, List.replicate_succ, true_and, and_true, true_or, or_true, and_self, reduceIte, Nat.reduceEqDiff, Nat.reduceLT, Nat.reduceLeDiff, Nat.reduceMul, false_and, and_false, reduceCtorEq, false_or, or_false, not_true_eq_false, not_false_eq_true, true_implies, false_implies, implies_true, lf_10, eq_self, Int32.reduceLT, Int32.reduceLE, Int32.reduceAdd, Int32.reduceSub, pm_same, pm_i_wI, pm_l_wL, pm_l_wM, pm_oR_rf, pm_oQ_rf, sh_k59 hS, sh_r59_25 hS, sh_k80 hS, sh_z80 hS, sh_r59_27 hS, sh_k81 hS, sh_z81 hS, mst_w46, mst_w48, mst_w49, mst_46, mst_48, mst_49, mst_k, mst_z, mst_r, mst_n, mst_l, mst_R62, mst_R64, mst_R65, mst_R66, mst_R67, mst_R78, mst_R80, mst_R81, mst_F18, mst_F24, mst_F45, mst_F47, mst_F50, mst_F51, nI_1, LQ1, LQ2, LQ4]
  exact h
theorem mr_187f {G : pm_G} {d : Nat} {S : pm_S} {a o : Int32} {p : Nat} {q : Int32 → pm_S → Prop} (hS : Sh S) (hp : p < 2 ^ 31) (h : q 0 (mst S a (nI p) o)) : pm_CI G d 187 [.ref 59] (mst S a (nI p) o) q := by
  have hx : 0 ≤ nI p := nI_pos' hp
  refine pm_goI 187 40 pb_c187 (by decide) (Nat.le_of_ble_eq_true rfl) rfl ?_
  try simp only [show pm_mL 187 = 1 from rfl, pm_WI0, pm_WI1, pm_WI2, pm_WI3, pm_WI4, pm_WI5, pm_WV, pm_WW, pm_WX, pb_B187, pm_if, pm_QI_at, pm_QL_at, pm_QV_at, pm_QR_at, pm_QR_at0, pm_QR_at1, Nat.reduceSub, Nat.reduceAdd, List.replicate_zero, List.replicate_succ, true_and, and_true, true_or, or_true, and_self, reduceIte, Nat.reduceEqDiff, Nat.reduceLT, Nat.reduceLeDiff, Nat.reduceMul, false_and, and_false, reduceCtorEq, false_or, or_false, not_true_eq_false, not_false_eq_true, true_implies, false_implies, implies_true, lf_10, eq_self, Int32.reduceLT, Int32.reduceLE, Int32.reduceAdd, Int32.reduceSub, pm_same, pm_i_wI, pm_l_wL, pm_l_wM, pm_oR_rf, pm_oQ_rf, sh_k59 hS, sh_r59_25 hS, sh_k80 hS, sh_z80 hS, sh_r59_27 hS, sh_k81 hS, sh_z81 hS, mst_w46, mst_w48, mst_w49, mst_46, mst_48, mst_49, mst_k, mst_z, mst_r, mst_n, mst_l, mst_R62, mst_R64, mst_R65, mst_R66, mst_R67, mst_R78, mst_R80, mst_R81, mst_F18, mst_F24, mst_F45, mst_F47, mst_F50, mst_F51, nI_1, LQ1, LQ2, LQ4, hx]
  exact h
theorem sg_nc {S : pm_S} {f : Nat → Int32} {n p c : Nat} (hm : mrc S f n) (hc : c < 256) : sg (gx_b f n p) = nI c ↔ gx_b f n p = c := sg_is (hm.le p) hc
theorem mr_186l {G : pm_G} {d : Nat} {S : pm_S} {f : Nat → Int32} {n : Nat} {p c : Nat} {o : Int32} {q : Int32 → pm_S → Prop} (hd : 2 ≤ d) (hS : Sh S) (hm : mrc S f n) (hp : p ≤ n) (hc : c < 256) (h1 : gx_b f n p = c → q 1 (mst S (nI (p + 1)) (-1) o)) (h0 : ¬ gx_b f n p = c → q 0 (mst S (nI p) (-1) o)) : pm_CI G d 186 [.ref 59, .int (nI c)] (mst S (nI p) (-1) o) q := by
  refine pm_goI 186 40 pb_c186 (by decide) (Nat.le_of_ble_eq_true rfl) rfl ?_
  try simp only [show pm_mL 186 = 2 from rfl, pm_WI0, pm_WI1, pm_WI2, pm_WI3, pm_WI4, pm_WI5, pm_WV, pm_WW, pm_WX, pb_B186, pm_if, pm_QI_at, pm_QL_at, pm_QV_at, pm_QR_at, pm_QR_at0, pm_QR_at1, Nat.reduceSub, Nat.reduceAdd, List.replicate_zero, List.replicate_succ, true_and, and_true, true_or, or_true, and_self, reduceIte, Nat.reduceEqDiff, Nat.reduceLT, Nat.reduceLeDiff, Nat.reduceMul, false_and, and_false, reduceCtorEq, false_or, or_false, not_true_eq_false, not_false_eq_true, true_implies, false_implies, implies_true, lf_10, eq_self, Int32.reduceLT, Int32.reduceLE, Int32.reduceAdd, Int32.reduceSub, pm_same, pm_i_wI, pm_l_wL, pm_l_wM, pm_oR_rf, pm_oQ_rf, sh_k59 hS, sh_r59_25 hS, sh_k80 hS, sh_z80 hS, sh_r59_27 hS, sh_k81 hS, sh_z81 hS, mst_w46, mst_w48, mst_w49, mst_46, mst_48, mst_49, mst_k, mst_z, mst_r, mst_n, mst_l, mst_R62, mst_R64, mst_R65, mst_R66, mst_R67, mst_R78, mst_R80, mst_R81, mst_F18, mst_F24, mst_F45, mst_F47, mst_F50, mst_F51, nI_1, LQ1, LQ2, LQ4]
  refine ⟨by omega, mr_181 hS hm hp ⟨fun z => ?_, fun z => ?_⟩⟩ <;> rw [sg_nc hm hc] at z
  · try simp only [pm_WV, pm_WW, true_and, and_true, true_or, or_true, and_self, reduceIte, Nat.reduceEqDiff, Nat.reduceLT, Nat.reduceLeDiff, Nat.reduceMul, false_and, and_false, reduceCtorEq, false_or, or_false, not_true_eq_false, not_false_eq_true, true_implies, false_implies, implies_true, lf_10, eq_self, Int32.reduceLT, Int32.reduceLE, Int32.reduceAdd, Int32.reduceSub, pm_same, pm_i_wI, pm_l_wL, pm_l_wM, pm_oR_rf, pm_oQ_rf, sh_k59 hS, sh_r59_25 hS, sh_k80 hS, sh_z80 hS, sh_r59_27 hS, sh_k81 hS, sh_z81 hS, mst_w46, mst_w48, mst_w49, mst_46, mst_48, mst_49, mst_k, mst_z, mst_r, mst_n, mst_l, mst_R62, mst_R64, mst_R65, mst_R66, mst_R67, mst_R78, mst_R80, mst_R81, mst_F18, mst_F24, mst_F45, mst_F47, mst_F50, mst_F51, nI_1, LQ1, LQ2, LQ4]
    exact h1 z
  · exact h0 z
theorem mr_186f {G : pm_G} {d : Nat} {S : pm_S} {p r : Nat} {c a o : Int32} {q : Int32 → pm_S → Prop} (hS : Sh S) (hp : r < 2 ^ 31) (h0 : q 0 (mst S a (nI r) o)) : pm_CI G d 186 [.ref 59, .int c] (mst S a (nI r) o) q := by
  have hx : 0 ≤ nI r := nI_pos' hp
  refine pm_goI 186 40 pb_c186 (by decide) (Nat.le_of_ble_eq_true rfl) rfl ?_
  try simp only [show pm_mL 186 = 2 from rfl, pm_WI0, pm_WI1, pm_WI2, pm_WI3, pm_WI4, pm_WI5, pm_WV, pm_WW, pm_WX, pb_B186, pm_if, pm_QI_at, pm_QL_at, pm_QV_at, pm_QR_at, pm_QR_at0, pm_QR_at1, Nat.reduceSub, Nat.reduceAdd, List.replicate_zero, List.replicate_succ, true_and, and_true, true_or, or_true, and_self, reduceIte, Nat.reduceEqDiff, Nat.reduceLT, Nat.reduceLeDiff, Nat.reduceMul, false_and, and_false, reduceCtorEq, false_or, or_false, not_true_eq_false, not_false_eq_true, true_implies, false_implies, implies_true, lf_10, eq_self, Int32.reduceLT, Int32.reduceLE, Int32.reduceAdd, Int32.reduceSub, pm_same, pm_i_wI, pm_l_wL, pm_l_wM, pm_oR_rf, pm_oQ_rf, sh_k59 hS, sh_r59_25 hS, sh_k80 hS, sh_z80 hS, sh_r59_27 hS, sh_k81 hS, sh_z81 hS, mst_w46, mst_w48, mst_w49, mst_46, mst_48, mst_49, mst_k, mst_z, mst_r, mst_n, mst_l, mst_R62, mst_R64, mst_R65, mst_R66, mst_R67, mst_R78, mst_R80, mst_R81, mst_F18, mst_F24, mst_F45, mst_F47, mst_F50, mst_F51, nI_1, LQ1, LQ2, LQ4, hx]
  exact h0
theorem mr_185 {G : pm_G} {d : Nat} {S : pm_S} {f : Nat → Int32} {n : Nat} {o : Nat} {r : gx_R Unit} {c : Nat} {q : pm_S → Prop} (hd : 3 ≤ d) (hS : Sh S) (hm : mrc S f n) (hr : r.1 ≤ n) (hc : c < 256) (h : q (ms S o (gx_bd r (fun _ p => gx_w (gx_b f n) [c] p)))) : pm_CV G d 185 [.ref 59, .int (nI c)] (ms S o r) q := by
  have hn := hm.2.1
  obtain ⟨p, _ | u⟩ := r
  · try simp only [ms, gx_bd] at *
    refine pm_goV 185 40 pb_c185 (by decide) (Nat.le_of_ble_eq_true rfl) rfl ?_
    try simp only [show pm_mL 185 = 3 from rfl, pm_WI0, pm_WI1, pm_WI2, pm_WI3, pm_WI4, pm_WI5, pm_WV, pm_WW, pm_WX, pb_B185, pm_if, pm_QI_at, pm_QL_at, pm_QV_at, pm_QR_at, pm_QR_at0, pm_QR_at1, Nat.reduceSub, Nat.reduceAdd, List.replicate_zero, List.replicate_succ, true_and, and_true, true_or, or_true, and_self, reduceIte, Nat.reduceEqDiff, Nat.reduceLT, Nat.reduceLeDiff, Nat.reduceMul, false_and, and_false, reduceCtorEq, false_or, or_false, not_true_eq_false, not_false_eq_true, true_implies, false_implies, implies_true, lf_10, eq_self, Int32.reduceLT, Int32.reduceLE, Int32.reduceAdd, Int32.reduceSub, pm_same, pm_i_wI, pm_l_wL, pm_l_wM, pm_oR_rf, pm_oQ_rf, sh_k59 hS, sh_r59_25 hS, sh_k80 hS, sh_z80 hS, sh_r59_27 hS, sh_k81 hS, sh_z81 hS, mst_w46, mst_w48, mst_w49, mst_46, mst_48, mst_49, mst_k, mst_z, mst_r, mst_n, mst_l, mst_R62, mst_R64, mst_R65, mst_R66, mst_R67, mst_R78, mst_R80, mst_R81, mst_F18, mst_F24, mst_F45, mst_F47, mst_F50, mst_F51, nI_1, LQ1, LQ2, LQ4]
    exact ⟨by omega, mr_186f hS (p := 0) (by omega) ⟨fun _ => ⟨by omega, sh_k59 hS, mr_187f hS (by omega) h⟩, fun z => absurd rfl z⟩⟩
  · try simp only [ms, gx_bd, gx_w] at *
    refine pm_goV 185 40 pb_c185 (by decide) (Nat.le_of_ble_eq_true rfl) rfl ?_
    try simp only [show pm_mL 185 = 3 from rfl, pm_WI0, pm_WI1, pm_WI2, pm_WI3, pm_WI4, pm_WI5, pm_WV, pm_WW, pm_WX, pb_B185, pm_if, pm_QI_at, pm_QL_at, pm_QV_at, pm_QR_at, pm_QR_at0, pm_QR_at1, Nat.reduceSub, Nat.reduceAdd, List.replicate_zero, List.replicate_succ, true_and, and_true, true_or, or_true, and_self, reduceIte, Nat.reduceEqDiff, Nat.reduceLT, Nat.reduceLeDiff, Nat.reduceMul, false_and, and_false, reduceCtorEq, false_or, or_false, not_true_eq_false, not_false_eq_true, true_implies, false_implies, implies_true, lf_10, eq_self, Int32.reduceLT, Int32.reduceLE, Int32.reduceAdd, Int32.reduceSub, pm_same, pm_i_wI, pm_l_wL, pm_l_wM, pm_oR_rf, pm_oQ_rf, sh_k59 hS, sh_r59_25 hS, sh_k80 hS, sh_z80 hS, sh_r59_27 hS, sh_k81 hS, sh_z81 hS, mst_w46, mst_w48, mst_w49, mst_46, mst_48, mst_49, mst_k, mst_z, mst_r, mst_n, mst_l, mst_R62, mst_R64, mst_R65, mst_R66, mst_R67, mst_R78, mst_R80, mst_R81, mst_F18, mst_F24, mst_F45, mst_F47, mst_F50, mst_F51, nI_1, LQ1, LQ2, LQ4]
    refine ⟨by omega, mr_186l (by omega) hS hm hr hc (fun y => ⟨fun z => absurd z (by decide), fun _ => ?_⟩) (fun y => ⟨fun _ => ⟨by omega, sh_k59 hS, mr_187l hS ?_⟩, fun z => absurd rfl z⟩)⟩
    · rw [if_pos y] at h; exact h
    · rw [if_neg y] at h; exact h
def dg (L : Int64) (i : Nat) : Int32 := ((L >>> ((nI (55 - 5 * i)).toInt64 &&& 63)) &&& 31).toInt32
def wk (L : Int64) (cs : List Nat) : Prop := ∀ i, i < 12 → (dg L i = 0 ∧ cs.getD i 0 = 0) ∨ (¬ dg L i = 0 ∧ 97 + dg L i - 1 = nI (cs.getD i 0) ∧ 0 < cs.getD i 0 ∧ cs.getD i 0 < 256)
def wz (cs : List Nat) : List Nat := cs.filter (fun c => decide (0 < c))
theorem gx_w_app {B : Nat → Nat} : ∀ (l m : List Nat) (p : Nat), gx_w B (l ++ m) p = gx_bd (gx_w B l p) (fun _ p => gx_w B m p)
  | [], m, p => rfl
  | c :: l, m, p => by
    show gx_w B (c :: (l ++ m)) p = _
    try simp only [gx_w]
    by_cases h : B p = c
    · rw [if_pos h, if_pos h]; exact gx_w_app l m (p + 1)
    · rw [if_neg h, if_neg h]; rfl
theorem gx_w_le {B : Nat → Nat} {n : Nat} (hB : ∀ i, n ≤ i → B i = 256) : ∀ (l : List Nat) (p : Nat), p ≤ n → (∀ c, c ∈ l → c < 256) → (gx_w B l p).1 ≤ n ∧ p ≤ (gx_w B l p).1
  | [], p, hp, _ => ⟨hp, Nat.le_refl _⟩
  | c :: l, p, hp, hc => by
    try simp only [gx_w]
    by_cases h : B p = c
    · rw [if_pos h]
      have := gx_lt hB h (hc c List.mem_cons_self)
      have h2 := gx_w_le hB l (p + 1) (by omega) (fun c hc2 => hc c (List.mem_cons_of_mem _ hc2))
      exact ⟨h2.1, by omega⟩
    · rw [if_neg h]; exact ⟨hp, Nat.le_refl _⟩
theorem gx_bd_le {α β : Type} {n : Nat} {r : gx_R α} {f : α → Nat → gx_R β} (hr : r.1 ≤ n) (hf : ∀ a p, p ≤ n → (f a p).1 ≤ n) : (gx_bd r f).1 ≤ n := by
  obtain ⟨p, _ | a⟩ := r
  · exact hr
  · exact hf a p hr
theorem wz_lt {L : Int64} {cs : List Nat} (hk : wk L cs) (hl : cs.length = 12) {m : List Nat} (hm : ∀ c, c ∈ m → c ∈ cs) : ∀ c, c ∈ wz m → c < 256 := fun c hc => by
  have h1 := hm c (List.mem_filter.mp hc).1
  obtain ⟨i, hi, e⟩ := List.mem_iff_getElem.mp h1
  have e2 : cs.getD i 0 = c := by rw [List.getD_eq_getElem?_getD, List.getElem?_eq_getElem hi]; exact e
  rcases hk i (by omega) with h2 | h2
  · omega
  · omega
theorem mr_184 {G : pm_G} {d : Nat} {S : pm_S} {f : Nat → Int32} {n : Nat} {o : Nat} {r : gx_R Unit} {L : Int64} {cs : List Nat} {q : pm_S → Prop} (hd : 4 ≤ d) (hS : Sh S) (hm : mrc S f n) (hr : r.1 ≤ n) (hl : cs.length = 12) (hk : wk L cs) (h : q (ms S o (gx_bd r (fun _ p => gx_w (gx_b f n) (wz cs) p)))) : pm_CV G d 184 [.ref 59, .long L] (ms S o r) q := by
  have hn := hm.2.1
  have key : ∀ k i r0, i + k = 12 → r0.1 ≤ n → q (ms S o (gx_bd r0 (fun _ p => gx_w (gx_b f n) (wz (cs.drop i)) p))) → ∀ X, pm_W G d 184 (pm_QV q) 3 [.ref 59, .long L, .float 0, .int (nI 55 - nI (5 * i)), X] [] (ms S o r0) 0 0 := by
    intro k
    induction k with
    | zero =>
      intro i r0 hi hr0 hq X
      have h12 : i = 12 := by omega
      subst h12
      rw [List.drop_of_length_le (by omega)] at hq
      have hneg : nI 55 - nI (5 * 12) < 0 := by decide
      have e0 : gx_bd r0 (fun _ p => gx_w (gx_b f n) (wz []) p) = r0 := by obtain ⟨p, _ | ⟨⟩⟩ := r0 <;> rfl
      rw [e0] at hq
      have kk : pm_k (ms S o r0) = pm_k S := rfl
      refine pm_wb_ok pb_c184 4 3 0 _ _ _ _ _ ?_
      try simp only [pm_WI0, pm_WI1, pm_WI2, pm_WI3, pm_WI4, pm_WI5, pm_WV, pm_WW, pm_WX, pb_B184, pm_if, pm_QI_at, pm_QL_at, pm_QV_at, pm_QR_at, pm_QR_at0, pm_QR_at1, Nat.reduceSub, Nat.reduceAdd, List.replicate_zero, List.replicate_succ, true_and, and_true, true_or, or_true, and_self, reduceIte, Nat.reduceEqDiff, Nat.reduceLT, Nat.reduceLeDiff, Nat.reduceMul, false_and, and_false, reduceCtorEq, false_or, or_false, not_true_eq_false, not_false_eq_true, true_implies, false_implies, implies_true, lf_10, eq_self, Int32.reduceLT, Int32.reduceLE, Int32.reduceAdd, Int32.reduceSub, pm_same, pm_i_wI, pm_l_wL, pm_l_wM, pm_oR_rf, pm_oQ_rf, sh_k59 hS, sh_r59_25 hS, sh_k80 hS, sh_z80 hS, sh_r59_27 hS, sh_k81 hS, sh_z81 hS, mst_w46, mst_w48, mst_w49, mst_46, mst_48, mst_49, mst_k, mst_z, mst_r, mst_n, mst_l, mst_R62, mst_R64, mst_R65, mst_R66, mst_R67, mst_R78, mst_R80, mst_R81, mst_F18, mst_F24, mst_F45, mst_F47, mst_F50, mst_F51, nI_1, LQ1, LQ2, LQ4, hneg, kk]
      exact hq
    | succ k ih =>
      intro i r0 hi hr0 hq X
      have hge : ¬ nI 55 - nI (5 * i) < 0 := by rw [pk_sub (by omega)]; exact nI_pos (by omega)
      have e55 : nI 55 - nI (5 * i) = nI (55 - 5 * i) := pk_sub (by omega)
      have nxt : nI 55 - nI (5 * i) + -5 = nI 55 - nI (5 * (i + 1)) := by
        rw [show (-5 : Int32) = -(nI 5) from rfl, show nI (5 * (i + 1)) = nI (5 * i) + nI 5 from by rw [nI_add]; rfl]
        lia
      have kk : pm_k (ms S o r0) = pm_k S := rfl
      have hdrop : cs.drop i = cs.getD i 0 :: cs.drop (i + 1) := by
        rw [List.drop_eq_getElem_cons (by omega), List.getD_eq_getElem?_getD, List.getElem?_eq_getElem (by omega)]; rfl
      have e1 : dg L i = ((L >>> ((nI 55 - nI (5 * i)).toInt64 &&& 63)) &&& 31).toInt32 := by unfold dg; rw [e55]
      refine pm_wb_ok pb_c184 2 3 0 _ _ _ _ _ ?_
      try simp only [pm_WI0, pm_WI1, pm_WI2, pm_WI3, pm_WI4, pm_WI5, pm_WV, pm_WW, pm_WX, pb_B184, pm_if, pm_QI_at, pm_QL_at, pm_QV_at, pm_QR_at, pm_QR_at0, pm_QR_at1, Nat.reduceSub, Nat.reduceAdd, List.replicate_zero, List.replicate_succ, true_and, and_true, true_or, or_true, and_self, reduceIte, Nat.reduceEqDiff, Nat.reduceLT, Nat.reduceLeDiff, Nat.reduceMul, false_and, and_false, reduceCtorEq, false_or, or_false, not_true_eq_false, not_false_eq_true, true_implies, false_implies, implies_true, lf_10, eq_self, Int32.reduceLT, Int32.reduceLE, Int32.reduceAdd, Int32.reduceSub, pm_same, pm_i_wI, pm_l_wL, pm_l_wM, pm_oR_rf, pm_oQ_rf, sh_k59 hS, sh_r59_25 hS, sh_k80 hS, sh_z80 hS, sh_r59_27 hS, sh_k81 hS, sh_z81 hS, mst_w46, mst_w48, mst_w49, mst_46, mst_48, mst_49, mst_k, mst_z, mst_r, mst_n, mst_l, mst_R62, mst_R64, mst_R65, mst_R66, mst_R67, mst_R78, mst_R80, mst_R81, mst_F18, mst_F24, mst_F45, mst_F47, mst_F50, mst_F51, nI_1, LQ1, LQ2, LQ4, hge, kk, ← e1]
      rcases hk i (by omega) with ⟨c1, c2⟩ | ⟨c1, c2, c3, c4⟩
      · refine ⟨fun _ => ?_, fun z => absurd c1 z⟩
        rw [c1, nxt]
        refine ih (i + 1) r0 (by omega) hr0 ?_ _
        rw [hdrop] at hq
        unfold wz at hq
        rw [List.filter_cons_of_neg (by rw [c2]; decide)] at hq
        exact hq
      · refine ⟨fun z => absurd z c1, fun _ => ⟨by omega, ?_⟩⟩
        rw [c2]
        refine mr_185 (by omega) hS hm hr0 c4 ?_
        try simp only [pm_WV, pm_WW, true_and, and_true, true_or, or_true, and_self, reduceIte, Nat.reduceEqDiff, Nat.reduceLT, Nat.reduceLeDiff, Nat.reduceMul, false_and, and_false, reduceCtorEq, false_or, or_false, not_true_eq_false, not_false_eq_true, true_implies, false_implies, implies_true, lf_10, eq_self, Int32.reduceLT, Int32.reduceLE, Int32.reduceAdd, Int32.reduceSub, pm_same, pm_i_wI, pm_l_wL, pm_l_wM, pm_oR_rf, pm_oQ_rf, sh_k59 hS, sh_r59_25 hS, sh_k80 hS, sh_z80 hS, sh_r59_27 hS, sh_k81 hS, sh_z81 hS, mst_w46, mst_w48, mst_w49, mst_46, mst_48, mst_49, mst_k, mst_z, mst_r, mst_n, mst_l, mst_R62, mst_R64, mst_R65, mst_R66, mst_R67, mst_R78, mst_R80, mst_R81, mst_F18, mst_F24, mst_F45, mst_F47, mst_F50, mst_F51, nI_1, LQ1, LQ2, LQ4, pb_B184, pm_if, pm_QI_at, pm_QL_at, pm_QV_at, pm_QR_at, pm_QR_at0, pm_QR_at1, Nat.reduceSub, Nat.reduceAdd, List.replicate_zero, List.replicate_succ, pm_WI0, pm_WI1, pm_WI2, pm_WI3, pm_WI4, pm_WI5, pm_WV, pm_WW, pm_WX, nxt, kk]
        refine ih (i + 1) _ (by omega) (gx_bd_le hr0 (fun _ p hp => (gx_w_le gx_b_eof [cs.getD i 0] p hp (fun c hc => by rw [List.mem_singleton.mp hc]; exact c4)).1)) ?_ _
        rw [hdrop] at hq
        unfold wz at hq
        rw [List.filter_cons_of_pos (by simpa using c3)] at hq
        rw [gx_bd_assoc]
        have : ∀ p, gx_w (gx_b f n) (cs.getD i 0 :: wz (cs.drop (i + 1))) p = gx_bd (gx_w (gx_b f n) [cs.getD i 0] p) (fun _ p => gx_w (gx_b f n) (wz (cs.drop (i + 1))) p) := fun p => gx_w_app [_] _ p
        unfold wz at this
        try simp only [this] at hq
        exact hq
  refine pm_goV 184 1 pb_c184 (by decide) (Nat.le_of_ble_eq_true rfl) rfl ?_
  try simp only [show pm_mL 184 = 5 from rfl, pm_WI0, pm_WI1, pm_WI2, pm_WI3, pm_WI4, pm_WI5, pm_WV, pm_WW, pm_WX, pb_B184, pm_if, pm_QI_at, pm_QL_at, pm_QV_at, pm_QR_at, pm_QR_at0, pm_QR_at1, Nat.reduceSub, Nat.reduceAdd, List.replicate_zero, List.replicate_succ, true_and, and_true, true_or, or_true, and_self, reduceIte, Nat.reduceEqDiff, Nat.reduceLT, Nat.reduceLeDiff, Nat.reduceMul, false_and, and_false, reduceCtorEq, false_or, or_false, not_true_eq_false, not_false_eq_true, true_implies, false_implies, implies_true, lf_10, eq_self, Int32.reduceLT, Int32.reduceLE, Int32.reduceAdd, Int32.reduceSub, pm_same, pm_i_wI, pm_l_wL, pm_l_wM, pm_oR_rf, pm_oQ_rf, sh_k59 hS, sh_r59_25 hS, sh_k80 hS, sh_z80 hS, sh_r59_27 hS, sh_k81 hS, sh_z81 hS, mst_w46, mst_w48, mst_w49, mst_46, mst_48, mst_49, mst_k, mst_z, mst_r, mst_n, mst_l, mst_R62, mst_R64, mst_R65, mst_R66, mst_R67, mst_R78, mst_R80, mst_R81, mst_F18, mst_F24, mst_F45, mst_F47, mst_F50, mst_F51, nI_1, LQ1, LQ2, LQ4]
  have := key 12 0 r (by omega) hr (by rw [List.drop_zero]; exact h) (.float 0)
  exact this
