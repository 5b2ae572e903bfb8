/-! OWED: which clauses, till when, wrong how -/
def owL (S : pm_S) (m : Nat) : gx_L := lawL S (lwo S (pm_i S 64 m) (pm_i S 66 m))
def owH (S : pm_S) (m : Nat) (k : Int32) (c : Nat) : Bool := lo_h (tv S m k) (owL S m).2.2 ((owL S m).1.getD c gx_o0)
def owO (S : pm_S) (m : Nat) (k : Int32) (c : Nat) : List Nat := (List.range c).filter (owH S m k)
def owS (S : pm_S) (m c : Nat) : Nat := ((owL S m).1.getD c gx_o0).1
def owD (S : pm_S) (m c : Nat) : Nat := wd (pm_i S 60) (iv_c S 2) (pm_i S 66 m).toNatClampNeg ((owL S m).1.getD c gx_o0).2.1
def owW (S : pm_S) (m : Nat) (k : Int32) (s due : Nat) : Int32 := match fa_f S m (nI s) k with
  | some a => if nI due < pm_i S 77 a then 1 else 0
  | none => if k ≤ nI due then 0 else if 0 ≤ pm_i S 71 m ∧ pm_i S 71 m ≤ k then 3 else 2
def owT (S : pm_S) (m : Nat) (k : Int32) (s due : Nat) : Int32 := match fa_f S m (nI s) k with
  | some a => pm_i S 77 a - nI due
  | none => 0
theorem fa_f_me {S T : pm_S} (h : me S T) (m : Nat) (s k : Int32) : fa_f T m s k = fa_f S m s k := by
  unfold fa_f; rw [h.row (p := 75) (by omega) (by omega), h.row (p := 76) (by omega) (by omega), h.row (p := 77) (by omega) (by omega), h.row (p := 79) (by omega) (by omega), h.c (f := 24) (by omega)]
theorem owL_me {S T : pm_S} (h : me S T) (m : Nat) : owL T m = owL S m := by
  unfold owL; rw [lawL_me h, h.row (p := 64) (by omega) (by omega), h.row (p := 66) (by omega) (by omega), lwo_me h]
theorem owO_s {S : pm_S} {m c : Nat} {k : Int32} : owO S m k (c + 1) = if owH S m k c then owO S m k c ++ [c] else owO S m k c := by
  unfold owO
  rw [List.range_succ, List.filter_append]
  cases h : owH S m k c <;> simp [h]
theorem owO_le {S : pm_S} {m c : Nat} {k : Int32} : (owO S m k c).length ≤ c := by
  unfold owO
  exact Nat.le_trans (List.length_filter_le _ _) (by simp)
theorem owO_mem {S : pm_S} {m c i : Nat} {k : Int32} (hi : i < (owO S m k c).length) : (owO S m k c).getD i 0 < c := by
  have : (owO S m k c).getD i 0 ∈ owO S m k c := by
    rw [List.getD_eq_getElem?_getD, List.getElem?_eq_getElem hi]; exact List.getElem_mem hi
  unfold owO at this
  exact List.mem_range.mp (List.mem_filter.mp this).1
/-- all that is OWED -/
def owA (S : pm_S) (m : Nat) (k : Int32) : List Nat := owO S m k (owL S m).1.length
/-- rows of the class, rows of the model -/
def cwr (S T : pm_S) (m : Nat) (k : Int32) (O : List Nat) : Prop := pm_i T 14 4 = nI O.length ∧ ∀ i, i < O.length → pm_i T 23 i = nI (owS S m (O.getD i 0)) ∧ pm_i T 24 i = nI (owD S m (O.getD i 0)) ∧ pm_i T 25 i = owW S m k (owS S m (O.getD i 0)) (owD S m (O.getD i 0)) ∧ pm_i T 26 i = nI (O.getD i 0) ∧ pm_i T 27 i = owT S m k (owS S m (O.getD i 0)) (owD S m (O.getD i 0))
def mwr (S T : pm_S) (m : Nat) (k : Int32) (O : List Nat) : Prop := pm_i T 59 68 = nI O.length ∧ ∀ i, i < O.length → pm_i T 98 i = nI (owS S m (O.getD i 0)) ∧ pm_i T 99 i = nI (owD S m (O.getD i 0)) ∧ pm_i T 100 i = owW S m k (owS S m (O.getD i 0)) (owD S m (O.getD i 0)) ∧ pm_i T 101 i = nI (O.getD i 0)
theorem gd_app {O : List Nat} {c i : Nat} (hi : i < O.length) : (O ++ [c]).getD i 0 = O.getD i 0 := by
  rw [List.getD_eq_getElem?_getD, List.getElem?_append_left hi, List.getD_eq_getElem?_getD]
theorem gd_new {O : List Nat} {c : Nat} : (O ++ [c]).getD O.length 0 = c := by
  rw [List.getD_eq_getElem?_getD, List.getElem?_append_right (Nat.le_refl _)]; simp
theorem lf_61m {G : pm_G} {d : Nat} {A : iv_A} {S : pm_S} {m : Nat} {k : Int32} {q : Int32 → pm_S → Prop} (hI : Inv A S) (hm : m < iv_c S 18) (h1 : 0 ≤ pm_i S 71 m ∧ pm_i S 71 m ≤ k → q 1 S) (h0 : ¬ (0 ≤ pm_i S 71 m ∧ pm_i S 71 m ≤ k) → q 0 S) : pm_CI G d 61 [.ref (iv_m A m), .int k] S q := by
  have hw := hI.row hm
  refine pm_goI 61 40 pb_c61 (by decide) (Nat.le_of_ble_eq_true rfl) rfl ?_
  try simp only [show pm_mL 61 = 2 from rfl, pm_WI0, pm_WI1, pm_WI2, pm_WI3, pm_WI4, pm_WI5, pm_WV, pm_WW, pm_WX, pb_B61, pm_if, pm_QI_at, pm_QL_at, pm_QV_at, pm_QR_at, pm_QR_at0, pm_QR_at1, Nat.reduceSub, Nat.reduceAdd, List.replicate_zero, List.replicate_succ, true_and, and_true, true_or, or_true, and_self, reduceIte, Nat.reduceEqDiff, Nat.reduceLT, Nat.reduceLeDiff, Nat.reduceMul, false_and, and_false, reduceCtorEq, false_or, or_false, not_true_eq_false, not_false_eq_true, true_implies, false_implies, implies_true, lf_10, eq_self, Int32.reduceLT, Int32.reduceLE, Int32.reduceAdd, Int32.reduceSub, pm_same, pm_i_wI, pm_l_wL, pm_l_wM, pm_oR_rf, pm_oQ_rf, nI_1, sw_e, LQ1, LQ2, hw.k, hw.f10]
  repeat' (first | refine ⟨fun _ => ?_, fun _ => ?_⟩ | fail)
  all_goals first | (refine h1 ?_; lia) | (refine h0 ?_; lia) | (exfalso; lia)
theorem lf_8 {G : pm_G} {d : Nat} {A : iv_A} {S : pm_S} {m s due : Nat} {r : Option Nat} {k : Int32} {q : Int32 → pm_S → Prop} (hd : 1 ≤ d) (hI : Inv A S) (hm : m < iv_c S 18) (hr : fa_f S m (nI s) k = r) (h : q (owW S m k s due) S) : pm_CI G d 8 [.ref (iv_m A m), .int k, .int (nI due), va_rf (r.map (iv_a A))] S q := by
  unfold owW at h
  rw [hr] at h
  cases r with
  | none =>
    show pm_CI G d 8 [.ref (iv_m A m), .int k, .int (nI due), .null] S q
    refine pm_goI 8 40 pb_c8 (by decide) (Nat.le_of_ble_eq_true rfl) rfl ?_
    try simp only [show pm_mL 8 = 4 from rfl, pm_WI0, pm_WI1, pm_WI2, pm_WI3, pm_WI4, pm_WI5, pm_WV, pm_WW, pm_WX, pb_B8, pm_if, pm_QI_at, pm_QL_at, pm_QV_at, pm_QR_at, pm_QR_at0, pm_QR_at1, Nat.reduceSub, Nat.reduceAdd, List.replicate_zero, List.replicate_succ, true_and, and_true, true_or, or_true, and_self, reduceIte, Nat.reduceEqDiff, Nat.reduceLT, Nat.reduceLeDiff, Nat.reduceMul, false_and, and_false, reduceCtorEq, false_or, or_false, not_true_eq_false, not_false_eq_true, true_implies, false_implies, implies_true, lf_10, eq_self, Int32.reduceLT, Int32.reduceLE, Int32.reduceAdd, Int32.reduceSub, pm_same, pm_i_wI, pm_l_wL, pm_l_wM, pm_oR_rf, pm_oQ_rf, nI_1, sw_e, LQ1, LQ2, (hI.row hm).k]
    refine ⟨fun z => ⟨by omega, lf_61m hI hm (fun y => ?_) (fun y => ?_)⟩, fun z => ?_⟩
    · have z2 : ¬ k ≤ nI due := by lia
      try simp only [z2, y, and_self, reduceIte] at h
      try simp only [pm_WV, pm_WW, true_and, and_true, true_or, or_true, and_self, reduceIte, Nat.reduceEqDiff, Nat.reduceLT, Nat.reduceLeDiff, Nat.reduceMul, false_and, and_false, reduceCtorEq, false_or, or_false, not_true_eq_false, not_false_eq_true, true_implies, false_implies, implies_true, lf_10, eq_self, Int32.reduceLT, Int32.reduceLE, Int32.reduceAdd, Int32.reduceSub, pm_same, pm_i_wI, pm_l_wL, pm_l_wM, pm_oR_rf, pm_oQ_rf, nI_1, sw_e, LQ1, LQ2, pm_WI0, pm_WI1, pm_WI2, pm_WI3, pm_WI4, pm_WI5, pm_WV, pm_WW, pm_WX, pb_B8, pm_if, pm_QI_at, pm_QL_at, pm_QV_at, pm_QR_at, pm_QR_at0, pm_QR_at1, Nat.reduceSub, Nat.reduceAdd, List.replicate_zero, List.replicate_succ]
      first | exact ⟨fun w => absurd w (by decide), fun _ => h⟩ | exact h
    · have z2 : ¬ k ≤ nI due := by lia
      try simp only [z2, y, reduceIte] at h
      try simp only [pm_WV, pm_WW, true_and, and_true, true_or, or_true, and_self, reduceIte, Nat.reduceEqDiff, Nat.reduceLT, Nat.reduceLeDiff, Nat.reduceMul, false_and, and_false, reduceCtorEq, false_or, or_false, not_true_eq_false, not_false_eq_true, true_implies, false_implies, implies_true, lf_10, eq_self, Int32.reduceLT, Int32.reduceLE, Int32.reduceAdd, Int32.reduceSub, pm_same, pm_i_wI, pm_l_wL, pm_l_wM, pm_oR_rf, pm_oQ_rf, nI_1, sw_e, LQ1, LQ2, pm_WI0, pm_WI1, pm_WI2, pm_WI3, pm_WI4, pm_WI5, pm_WV, pm_WW, pm_WX, pb_B8, pm_if, pm_QI_at, pm_QL_at, pm_QV_at, pm_QR_at, pm_QR_at0, pm_QR_at1, Nat.reduceSub, Nat.reduceAdd, List.replicate_zero, List.replicate_succ]
      first | exact ⟨fun _ => h, fun w => absurd rfl w⟩ | exact h
    · have z2 : k ≤ nI due := by lia
      try simp only [z2, reduceIte] at h
      exact h
  | some a =>
    obtain ⟨⟨a1, a2, a3⟩, ⟨f0, f1, f2, f3, f4⟩, _⟩ := hI.act.2.2.1 a (fa_f_lt hr)
    show pm_CI G d 8 [.ref (iv_m A m), .int k, .int (nI due), .ref (iv_a A a)] S q
    refine pm_goI 8 40 pb_c8 (by decide) (Nat.le_of_ble_eq_true rfl) rfl ?_
    try simp only [show pm_mL 8 = 4 from rfl, pm_WI0, pm_WI1, pm_WI2, pm_WI3, pm_WI4, pm_WI5, pm_WV, pm_WW, pm_WX, pb_B8, pm_if, pm_QI_at, pm_QL_at, pm_QV_at, pm_QR_at, pm_QR_at0, pm_QR_at1, Nat.reduceSub, Nat.reduceAdd, List.replicate_zero, List.replicate_succ, true_and, and_true, true_or, or_true, and_self, reduceIte, Nat.reduceEqDiff, Nat.reduceLT, Nat.reduceLeDiff, Nat.reduceMul, false_and, and_false, reduceCtorEq, false_or, or_false, not_true_eq_false, not_false_eq_true, true_implies, false_implies, implies_true, lf_10, eq_self, Int32.reduceLT, Int32.reduceLE, Int32.reduceAdd, Int32.reduceSub, pm_same, pm_i_wI, pm_l_wL, pm_l_wM, pm_oR_rf, pm_oQ_rf, nI_1, sw_e, LQ1, LQ2, a3, f1]
    refine ⟨fun z => ?_, fun z => ?_⟩
    all_goals first
      | (have z2 : nI due < pm_i S 77 a := by lia
         try simp only [z2, reduceIte] at h
         exact h)
      | (have z2 : ¬ nI due < pm_i S 77 a := by lia
         try simp only [z2, reduceIte] at h
         exact h)
theorem lf_24 {G : pm_G} {d : Nat} {S : pm_S} {x y : Int32} {n e k : Nat} {q : Int32 → pm_S → Prop} (hd : 3 ≤ d) (hS : Sh S) (hn : pm_i S 1 2 = nI n) (hn2 : n ≤ 20) (hx : x = nI e) (hy : y = nI k) (he : e < 2 ^ 20) (hk0 : k < 2 ^ 19) (h : q (nI (wd (pm_i S 2) n e k)) S) : pm_CI G d 24 [.ref 1, .int x, .int y] S q := by
  subst hx hy; exact dy_24 hd hS hn hn2 he hk0 h
theorem lf_164 {G : pm_G} {d : Nat} {S : pm_S} {x y : Int32} {n e k : Nat} {q : Int32 → pm_S → Prop} (hd : 3 ≤ d) (hS : Sh S) (hn : pm_i S 59 2 = nI n) (hn2 : n ≤ 20) (hx : x = nI e) (hy : y = nI k) (he : e < 2 ^ 20) (hk0 : k < 2 ^ 19) (h : q (nI (wd (pm_i S 60) n e k)) S) : pm_CI G d 164 [.ref 59, .int x, .int y] S q := by
  subst hx hy; exact dy_164 hd hS hn hn2 he hk0 h
theorem lw_far {A : iv_A} {S : pm_S} (hS : Sh S) (hL : iv_Law A S) {o : Option Nat} (ho : ∀ i, o = some i → i < iv_c S 31) {x j : Nat} (hx : x = lwp A o ∨ ∃ q, q < 6 ∧ x = lww A o q) : ¬ sc_q S x j := by
  obtain ⟨hc, _⟩ := lw_ok hS hL ho
  have key : (x = 16 ∨ (17 ≤ x ∧ x ≤ 22) ∨ x = 7 ∨ (8 ≤ x ∧ x ≤ 13) ∨ 114 ≤ x) ∧ ¬ pm_k S x = 7 := by
    cases o with
    | none =>
      rcases hx with rfl | ⟨q, hq, rfl⟩
      · exact ⟨Or.inl rfl, by rw [hc.1]; omega⟩
      · exact ⟨Or.inr (Or.inl ⟨Nat.le_add_right _ _, by show 17 + q ≤ 22; omega⟩), by rw [(hc.2 q hq).2.1]; omega⟩
    | some i =>
      obtain ⟨e1, e2, e3, e4, e5⟩ := hL.2.2.1 i (Nat.le_of_lt (ho i rfl))
      rcases hx with rfl | ⟨q, hq, rfl⟩
      · refine ⟨?_, by rw [hc.1]; omega⟩
        rcases e1 with z | z
        · exact Or.inr (Or.inr (Or.inr (Or.inr z)))
        · exact Or.inr (Or.inr (Or.inl z))
      · refine ⟨?_, by rw [(hc.2 q hq).2.1]; omega⟩
        rcases (e5 q hq).2.1 with z | z
        · exact Or.inr (Or.inr (Or.inr (Or.inr z)))
        · exact Or.inr (Or.inr (Or.inr (Or.inl z)))
  obtain ⟨k1, k2⟩ := key
  unfold sc_q
  omega
/-- an OWED more in the class's rows -/
theorem cwr_s {S T : pm_S} {m c : Nat} {k : Int32} {O : List Nat} {s due : Nat} {w t : Int32} (h : cwr S T m k O) (hs : s = owS S m c) (hd : due = owD S m c) (hw : w = owW S m k s due) (ht : t = owT S m k s due) : cwr S (pm_wI (pm_wI (pm_wI (pm_wI (pm_wI (pm_wI T 23 O.length (nI s)) 24 O.length (nI due)) 26 O.length (nI c)) 27 O.length t) 25 O.length w) 14 4 (nI (O.length + 1))) m k (O ++ [c]) := by
  subst hs hd hw ht
  obtain ⟨h1, h2⟩ := h
  refine ⟨by rw [pm_i_wI, if_pos ⟨rfl, rfl⟩]; simp, fun i hi => ?_⟩
  have e23 : ∀ i, pm_i (pm_wI (pm_wI (pm_wI (pm_wI (pm_wI (pm_wI T 23 O.length (nI (owS S m c))) 24 O.length (nI (owD S m c))) 26 O.length (nI c)) 27 O.length (owT S m k (owS S m c) (owD S m c))) 25 O.length (owW S m k (owS S m c) (owD S m c))) 14 4 (nI (O.length + 1))) 23 i = if i = O.length then nI (owS S m c) else pm_i T 23 i := fun i => by simp [pm_i_wI]
  have e24 : ∀ i, pm_i (pm_wI (pm_wI (pm_wI (pm_wI (pm_wI (pm_wI T 23 O.length (nI (owS S m c))) 24 O.length (nI (owD S m c))) 26 O.length (nI c)) 27 O.length (owT S m k (owS S m c) (owD S m c))) 25 O.length (owW S m k (owS S m c) (owD S m c))) 14 4 (nI (O.length + 1))) 24 i = if i = O.length then nI (owD S m c) else pm_i T 24 i := fun i => by simp [pm_i_wI]
  have e25 : ∀ i, pm_i (pm_wI (pm_wI (pm_wI (pm_wI (pm_wI (pm_wI T 23 O.length (nI (owS S m c))) 24 O.length (nI (owD S m c))) 26 O.length (nI c)) 27 O.length (owT S m k (owS S m c) (owD S m c))) 25 O.length (owW S m k (owS S m c) (owD S m c))) 14 4 (nI (O.length + 1))) 25 i = if i = O.length then owW S m k (owS S m c) (owD S m c) else pm_i T 25 i := fun i => by simp [pm_i_wI]
  have e26 : ∀ i, pm_i (pm_wI (pm_wI (pm_wI (pm_wI (pm_wI (pm_wI T 23 O.length (nI (owS S m c))) 24 O.length (nI (owD S m c))) 26 O.length (nI c)) 27 O.length (owT S m k (owS S m c) (owD S m c))) 25 O.length (owW S m k (owS S m c) (owD S m c))) 14 4 (nI (O.length + 1))) 26 i = if i = O.length then nI c else pm_i T 26 i := fun i => by simp [pm_i_wI]
  have e27 : ∀ i, pm_i (pm_wI (pm_wI (pm_wI (pm_wI (pm_wI (pm_wI T 23 O.length (nI (owS S m c))) 24 O.length (nI (owD S m c))) 26 O.length (nI c)) 27 O.length (owT S m k (owS S m c) (owD S m c))) 25 O.length (owW S m k (owS S m c) (owD S m c))) 14 4 (nI (O.length + 1))) 27 i = if i = O.length then owT S m k (owS S m c) (owD S m c) else pm_i T 27 i := fun i => by simp [pm_i_wI]
  rw [e23, e24, e25, e26, e27]
  by_cases hil : i = O.length
  · subst hil
    rw [if_pos rfl, if_pos rfl, if_pos rfl, if_pos rfl, if_pos rfl, gd_new]
    exact ⟨rfl, rfl, rfl, rfl, rfl⟩
  · have hi2 : i < O.length := by simp at hi; omega
    rw [if_neg hil, if_neg hil, if_neg hil, if_neg hil, if_neg hil, gd_app hi2]
    exact h2 i hi2
def cF (S T : pm_S) : Prop := (∀ p j, ¬ (p = 14 ∧ j = 4) → ¬ (23 ≤ p ∧ p ≤ 27) → pm_i T p j = pm_i S p j) ∧ pm_l T = pm_l S
theorem cF.rf {S : pm_S} : cF S S := ⟨fun _ _ _ _ => rfl, rfl⟩
theorem cF.tr {S T U : pm_S} (h : cF S T) (h' : cF T U) : cF S U := ⟨fun p j h1 h2 => (h'.1 p j h1 h2).trans (h.1 p j h1 h2), h'.2.trans h.2⟩
theorem cF.w {S T : pm_S} {p j : Nat} {v : Int32} (h : cF S T) (hq : (p = 14 ∧ j = 4) ∨ (23 ≤ p ∧ p ≤ 27)) : cF S (pm_wI T p j v) := ⟨fun p' j' h1 h2 => by rw [pm_i_wI, if_neg (fun z => by obtain ⟨z1, z2⟩ := z; subst z1 z2; omega)]; exact h.1 p' j' h1 h2, h.2⟩
set_option maxRecDepth 8000 in
theorem lf_7F {G : pm_G} {d : Nat} {A : iv_A} {S : pm_S} {m : Nat} {k : Int32} {q : Int32 → pm_S → Prop} (hd : 6 ≤ d) (hI : Inv A S) (hm : m < iv_c S 18) (h : ∀ T, sc S T → cF S T → cwr S T m k (owA S m k) → q (nI (owA S m k).length) T) : pm_CI G d 7 [.ref 14, .ref (iv_m A m), .int k] S q := by
  have hS := hI.sh
  have hw0 := hI.row hm
  have ho : ∀ i, lwo S (pm_i S 64 m) (pm_i S 66 m) = some i → i < iv_c S 31 := lw_of (A := A)
  obtain ⟨hc, hr⟩ := lw_ok hS hI.law ho
  have hwf := lawL_wf hI.mi (t := tv S m k) ho
  have hok := hI.ok hm
  have h66 := hok.1.2.2.2.2.1
  have n66 := iv_nn h66.1
  have l66 : (pm_i S 66 m).toNatClampNeg ≤ 9999 := iv_le (n := 9999) 9999 (by have := h66.2; have := hI.day.2.1.2; lia) (by decide)
  have hd2 := (iv_n20 hI.day)
  change gx_wf (tv S m k) (owL S m) 10 160 at hwf
  change iv_lrep S _ _ (owL S m) at hr
  have hl10 := hwf.1.1
  have far := fun x j hx => lw_far (x := x) (j := j) hS hI.law ho hx
  have key : ∀ r c T (v5 v6 : Value), c + r = (owL S m).1.length → sc S T → cF S T → cwr S T m k (owO S m k c) → pm_W G d 7 (pm_QI q) 21 [.ref 14, .ref (iv_m A m), .int k, .ref (lwp A (lwo S (pm_i S 64 m) (pm_i S 66 m))), .int (nI c), v5, v6] [] T 0 0 := by
    intro r
    induction r with
    | zero =>
      intro c T v5 v6 hcr hs hF hcw
      have hcn : c = (owL S m).1.length := by omega
      have hST := hs.sh hS
      have kP : pm_k T (lwp A (lwo S (pm_i S 64 m) (pm_i S 66 m))) = 5 := by rw [hs.k]; exact hc.1
      have p2 : pm_i T (lwp A (lwo S (pm_i S 64 m) (pm_i S 66 m))) 2 = nI (owL S m).1.length := by rw [hs.2.1 _ 2 (far _ 2 (Or.inl rfl))]; exact hr.1
      have hle : nI (owL S m).1.length ≤ nI c := nI_le (by omega) (by omega)
      refine pm_wb_ok pb_c7 2 21 0 _ _ _ _ _ ?_
      try simp only [pm_WI0, pm_WI1, pm_WI2, pm_WI3, pm_WI4, pm_WI5, pm_WV, pm_WW, pm_WX, pb_B7, pm_if, pm_QI_at, pm_QL_at, pm_QV_at, pm_QR_at, pm_QR_at0, pm_QR_at1, Nat.reduceSub, Nat.reduceAdd, List.replicate_zero, List.replicate_succ, true_and, and_true, true_or, or_true, and_self, reduceIte, Nat.reduceEqDiff, Nat.reduceLT, Nat.reduceLeDiff, Nat.reduceMul, false_and, and_false, reduceCtorEq, false_or, or_false, not_true_eq_false, not_false_eq_true, true_implies, false_implies, implies_true, lf_10, eq_self, Int32.reduceLT, Int32.reduceLE, Int32.reduceAdd, Int32.reduceSub, pm_same, pm_i_wI, pm_l_wL, pm_l_wM, pm_oR_rf, pm_oQ_rf, nI_1, sw_e, LQ1, LQ2, sh_k14 hST, kP, p2, hle, hcw.1]
      subst hcn
      exact h T hs hF hcw
    | succ r ih =>
      intro c T v5 v6 hcr hs hF hcw
      have hST := hs.sh hS
      have hIT := hI.sc hs
      have hme := hs.me
      have hmT : m < iv_c T 18 := by rw [hs.c (by omega)]; exact hm
      have hwT := hIT.row hmT
      have kP : pm_k T (lwp A (lwo S (pm_i S 64 m) (pm_i S 66 m))) = 5 := by rw [hs.k]; exact hc.1
      have kW0 : pm_k T (lww A (lwo S (pm_i S 64 m) (pm_i S 66 m)) 0) = 20 := by rw [hs.k]; exact (hc.2 0 (by omega)).2.1
      have kW1 : pm_k T (lww A (lwo S (pm_i S 64 m) (pm_i S 66 m)) 1) = 20 := by rw [hs.k]; exact (hc.2 1 (by omega)).2.1
      have zW0 : pm_z T (lww A (lwo S (pm_i S 64 m) (pm_i S 66 m)) 0) = 10 := by rw [hs.z]; exact (hc.2 0 (by omega)).2.2
      have zW1 : pm_z T (lww A (lwo S (pm_i S 64 m) (pm_i S 66 m)) 1) = 10 := by rw [hs.z]; exact (hc.2 1 (by omega)).2.2
      have rP0 : pm_r T (lwp A (lwo S (pm_i S 64 m) (pm_i S 66 m))) 3 = some (lww A (lwo S (pm_i S 64 m) (pm_i S 66 m)) 0) := by rw [hs.r]; exact (hc.2 0 (by omega)).1
      have rP1 : pm_r T (lwp A (lwo S (pm_i S 64 m) (pm_i S 66 m))) 4 = some (lww A (lwo S (pm_i S 64 m) (pm_i S 66 m)) 1) := by rw [hs.r]; exact (hc.2 1 (by omega)).1
      have p2 : pm_i T (lwp A (lwo S (pm_i S 64 m) (pm_i S 66 m))) 2 = nI (owL S m).1.length := by rw [hs.2.1 _ 2 (far _ 2 (Or.inl rfl))]; exact hr.1
      have hcl : c < (owL S m).1.length := by omega
      have hle : ¬ nI (owL S m).1.length ≤ nI c := nI_ge (by omega) (by omega)
      obtain ⟨r0, r1, r2, r3, r4⟩ := hr.2.2.2.2.2.1 c hcl
      have s0 : pm_i T (lww A (lwo S (pm_i S 64 m) (pm_i S 66 m)) 0) c = nI (owS S m c) := by rw [hs.2.1 _ c (far _ c (Or.inr ⟨0, by omega, rfl⟩))]; exact r0
      have s1 : pm_i T (lww A (lwo S (pm_i S 64 m) (pm_i S 66 m)) 1) c = nI ((owL S m).1.getD c gx_o0).2.1 := by rw [hs.2.1 _ c (far _ c (Or.inr ⟨1, by omega, rfl⟩))]; exact r1
      have hcc := nI_clamp (n := c) (by omega)
      have hvc := vp_in_nI (n := c) (N := 10) (by omega) (by decide)
      have elo : ∀ i, lwo S (pm_i S 64 m) (pm_i S 66 m) = some i → i < iv_c T 31 := fun i hi => by rw [hs.c (by omega)]; exact ho i hi
      have eL : lawL T (lwo S (pm_i S 64 m) (pm_i S 66 m)) = owL S m := by rw [lawL_me hme]; rfl
      have hmem : (owL S m).1.getD c gx_o0 ∈ (owL S m).1 := by
        rw [List.getD_eq_getElem?_getD, List.getElem?_eq_getElem hcl]; exact List.getElem_mem hcl
      have hok2 := hwf.2.1 _ hmem
      have hO := owO_s (S := S) (m := m) (c := c) (k := k)
      have hol := owO_le (S := S) (m := m) (c := c) (k := k)
      have h66T : pm_i T 66 m = nI (pm_i S 66 m).toNatClampNeg := by rw [hs.r66]; exact n66
      refine pm_wb_ok pb_c7 1 21 0 _ _ _ _ _ ?_
      try simp only [pm_WI0, pm_WI1, pm_WI2, pm_WI3, pm_WI4, pm_WI5, pm_WV, pm_WW, pm_WX, pb_B7, pm_if, pm_QI_at, pm_QL_at, pm_QV_at, pm_QR_at, pm_QR_at0, pm_QR_at1, Nat.reduceSub, Nat.reduceAdd, List.replicate_zero, List.replicate_succ, true_and, and_true, true_or, or_true, and_self, reduceIte, Nat.reduceEqDiff, Nat.reduceLT, Nat.reduceLeDiff, Nat.reduceMul, false_and, and_false, reduceCtorEq, false_or, or_false, not_true_eq_false, not_false_eq_true, true_implies, false_implies, implies_true, lf_10, eq_self, Int32.reduceLT, Int32.reduceLE, Int32.reduceAdd, Int32.reduceSub, pm_same, pm_i_wI, pm_l_wL, pm_l_wM, pm_oR_rf, pm_oQ_rf, nI_1, sw_e, LQ1, LQ2, sh_k14 hST, kP, p2, hle]
      refine ⟨by omega, lf_37 (o := lwo S (pm_i S 64 m) (pm_i S 66 m)) (by omega) hIT hmT elo (by rw [eL]; exact hcl) ?_⟩
      rw [tv_me hme, eL]
      have eH : lo_h (tv S m k) (owL S m).2.2 ((owL S m).1.getD c gx_o0) = owH S m k c := rfl
      rw [eH]
      have next : ∀ T2 v5 v6, sc S T2 → cF S T2 → cwr S T2 m k (owO S m k (c + 1)) → pm_W G d 7 (pm_QI q) 167 [.ref 14, .ref (iv_m A m), .int k, .ref (lwp A (lwo S (pm_i S 64 m) (pm_i S 66 m))), .int (nI c), v5, v6] [] T2 0 0 := by
        intro T2 v5 v6 hs2 hF2 hcw2
        refine pm_wb_ok pb_c7 1 167 0 _ _ _ _ _ ?_
        try simp only [pm_WI0, pm_WI1, pm_WI2, pm_WI3, pm_WI4, pm_WI5, pm_WV, pm_WW, pm_WX, pb_B7, pm_if, pm_QI_at, pm_QL_at, pm_QV_at, pm_QR_at, pm_QR_at0, pm_QR_at1, Nat.reduceSub, Nat.reduceAdd, List.replicate_zero, List.replicate_succ, true_and, and_true, true_or, or_true, and_self, reduceIte, Nat.reduceEqDiff, Nat.reduceLT, Nat.reduceLeDiff, Nat.reduceMul, false_and, and_false, reduceCtorEq, false_or, or_false, not_true_eq_false, not_false_eq_true, true_implies, false_implies, implies_true, lf_10, eq_self, Int32.reduceLT, Int32.reduceLE, Int32.reduceAdd, Int32.reduceSub, pm_same, pm_i_wI, pm_l_wL, pm_l_wM, pm_oR_rf, pm_oQ_rf, nI_1, sw_e, LQ1, LQ2]
        exact ih (c + 1) T2 v5 v6 (by omega) hs2 hF2 hcw2
      cases hH : owH S m k c with
      | false =>
        rw [hH] at hO
        exact ⟨fun _ => next T v5 v6 hs hF (by rw [hO]; exact hcw), fun z => absurd rfl z⟩
      | true =>
        rw [hH] at hO
        refine ⟨fun z => absurd z (by decide), fun _ => ?_⟩
        generalize hOl : owO S m k c = O at hcw hO hol
        have hO10 : O.length < 10 := by omega
        have cnt := hcw.1
        have hcnt := nI_clamp (n := O.length) (by omega)
        have hvO := vp_in_nI (n := O.length) (N := 10) hO10 (by decide)
        have e2 : pm_i T 2 = pm_i S 60 := by rw [hIT.e2, hs.r60]
        try simp only [pm_WV, pm_WW, true_and, and_true, true_or, or_true, and_self, reduceIte, Nat.reduceEqDiff, Nat.reduceLT, Nat.reduceLeDiff, Nat.reduceMul, false_and, and_false, reduceCtorEq, false_or, or_false, not_true_eq_false, not_false_eq_true, true_implies, false_implies, implies_true, lf_10, eq_self, Int32.reduceLT, Int32.reduceLE, Int32.reduceAdd, Int32.reduceSub, pm_same, pm_i_wI, pm_l_wL, pm_l_wM, pm_oR_rf, pm_oQ_rf, nI_1, sw_e, LQ1, LQ2, pm_WI0, pm_WI1, pm_WI2, pm_WI3, pm_WI4, pm_WI5, pm_WV, pm_WW, pm_WX, pb_B7, pm_if, pm_QI_at, pm_QL_at, pm_QV_at, pm_QR_at, pm_QR_at0, pm_QR_at1, Nat.reduceSub, Nat.reduceAdd, List.replicate_zero, List.replicate_succ, sh_k1 hST, sh_k14 hST, sh_r14_0 hST, kP, rP1, kW1, zW1, s1, hcc, hwT.k, hwT.f4]
        refine ⟨hvc, by omega, lf_24 (n := iv_c S 2) (e := (pm_i S 66 m).toNatClampNeg) (k := ((owL S m).1.getD c gx_o0).2.1) (by omega) hST (by rw [hIT.e1_2, hs.m2]; exact hd2.2) hd2.1 h66T rfl (by omega) (by have := hok2.2.1; omega) ?_⟩
        rw [e2]
        have eD : wd (pm_i S 60) (iv_c S 2) (pm_i S 66 m).toNatClampNeg ((owL S m).1.getD c gx_o0).2.1 = owD S m c := rfl
        rw [eD]
        try simp only [pm_WV, pm_WW, true_and, and_true, true_or, or_true, and_self, reduceIte, Nat.reduceEqDiff, Nat.reduceLT, Nat.reduceLeDiff, Nat.reduceMul, false_and, and_false, reduceCtorEq, false_or, or_false, not_true_eq_false, not_false_eq_true, true_implies, false_implies, implies_true, lf_10, eq_self, Int32.reduceLT, Int32.reduceLE, Int32.reduceAdd, Int32.reduceSub, pm_same, pm_i_wI, pm_l_wL, pm_l_wM, pm_oR_rf, pm_oQ_rf, nI_1, sw_e, LQ1, LQ2, pm_WI0, pm_WI1, pm_WI2, pm_WI3, pm_WI4, pm_WI5, pm_WV, pm_WW, pm_WX, pb_B7, pm_if, pm_QI_at, pm_QL_at, pm_QV_at, pm_QR_at, pm_QR_at0, pm_QR_at1, Nat.reduceSub, Nat.reduceAdd, List.replicate_zero, List.replicate_succ, sh_k14 hST, kP, rP0, kW0, zW0, s0, hcc, hwT.k]
        refine ⟨hvc, by omega, lf_59 hIT hmT ?_⟩
        rw [fa_f_me hme]
        cases ha : fa_f S m (nI (owS S m c)) k with
        | none =>
          have et : (0 : Int32) = owT S m k (owS S m c) (owD S m c) := by unfold owT; rw [ha]
          try simp only [pm_WV, pm_WW, true_and, and_true, true_or, or_true, and_self, reduceIte, Nat.reduceEqDiff, Nat.reduceLT, Nat.reduceLeDiff, Nat.reduceMul, false_and, and_false, reduceCtorEq, false_or, or_false, not_true_eq_false, not_false_eq_true, true_implies, false_implies, implies_true, lf_10, eq_self, Int32.reduceLT, Int32.reduceLE, Int32.reduceAdd, Int32.reduceSub, pm_same, pm_i_wI, pm_l_wL, pm_l_wM, pm_oR_rf, pm_oQ_rf, nI_1, sw_e, LQ1, LQ2, pm_WI0, pm_WI1, pm_WI2, pm_WI3, pm_WI4, pm_WI5, pm_WV, pm_WW, pm_WX, pb_B7, pm_if, pm_QI_at, pm_QL_at, pm_QV_at, pm_QR_at, pm_QR_at0, pm_QR_at1, Nat.reduceSub, Nat.reduceAdd, List.replicate_zero, List.replicate_succ, Option.map_none, sh_k14 hST, sh_r14_5 hST, sh_r14_6 hST, sh_r14_7 hST, sh_r14_8 hST, sh_r14_9 hST, sh_k23 hST, sh_z23 hST, sh_k24 hST, sh_z24 hST, sh_k25 hST, sh_z25 hST, sh_k26 hST, sh_z26 hST, sh_k27 hST, sh_z27 hST, cnt, hcnt, kP, rP0, kW0, zW0, s0, hcc]
          have hs4 : sc S (pm_wI (pm_wI (pm_wI (pm_wI T 23 O.length (nI (owS S m c))) 24 O.length (nI (owD S m c))) 26 O.length (nI c)) 27 O.length 0) := (((hs.wI (by unfold sc_q; omega)).wI (by unfold sc_q; omega)).wI (by unfold sc_q; omega)).wI (by unfold sc_q; omega)
          have hI4 := hI.sc hs4
          refine ⟨hvc, hvO, hvO, hvO, ?_⟩
          refine pm_wb_ok pb_c7 1 138 0 _ _ _ _ _ ?_
          try simp only [pm_WI0, pm_WI1, pm_WI2, pm_WI3, pm_WI4, pm_WI5, pm_WV, pm_WW, pm_WX, pb_B7, pm_if, pm_QI_at, pm_QL_at, pm_QV_at, pm_QR_at, pm_QR_at0, pm_QR_at1, Nat.reduceSub, Nat.reduceAdd, List.replicate_zero, List.replicate_succ, true_and, and_true, true_or, or_true, and_self, reduceIte, Nat.reduceEqDiff, Nat.reduceLT, Nat.reduceLeDiff, Nat.reduceMul, false_and, and_false, reduceCtorEq, false_or, or_false, not_true_eq_false, not_false_eq_true, true_implies, false_implies, implies_true, lf_10, eq_self, Int32.reduceLT, Int32.reduceLE, Int32.reduceAdd, Int32.reduceSub, pm_same, pm_i_wI, pm_l_wL, pm_l_wM, pm_oR_rf, pm_oQ_rf, nI_1, sw_e, LQ1, LQ2, sh_k14 hST, sh_r14_5 hST, sh_r14_6 hST, sh_r14_7 hST, sh_r14_8 hST, sh_r14_9 hST, sh_k23 hST, sh_z23 hST, sh_k24 hST, sh_z24 hST, sh_k25 hST, sh_z25 hST, sh_k26 hST, sh_z26 hST, sh_k27 hST, sh_z27 hST, cnt, hcnt]
          refine ⟨hvO, by omega, lf_8 (s := owS S m c) (r := none) (by omega) hI4 (by rw [hs4.c (by omega)]; exact hm) (by rw [fa_f_me hs4.me]; exact ha) ?_⟩
          have ew : owW (pm_wI (pm_wI (pm_wI (pm_wI T 23 O.length (nI (owS S m c))) 24 O.length (nI (owD S m c))) 26 O.length (nI c)) 27 O.length 0) m k (owS S m c) (owD S m c) = owW S m k (owS S m c) (owD S m c) := by
            unfold owW; rw [fa_f_me hs4.me, hs4.r77, hs4.r71]
          rw [ew]
          try simp only [pm_WV, pm_WW, true_and, and_true, true_or, or_true, and_self, reduceIte, Nat.reduceEqDiff, Nat.reduceLT, Nat.reduceLeDiff, Nat.reduceMul, false_and, and_false, reduceCtorEq, false_or, or_false, not_true_eq_false, not_false_eq_true, true_implies, false_implies, implies_true, lf_10, eq_self, Int32.reduceLT, Int32.reduceLE, Int32.reduceAdd, Int32.reduceSub, pm_same, pm_i_wI, pm_l_wL, pm_l_wM, pm_oR_rf, pm_oQ_rf, nI_1, sw_e, LQ1, LQ2, pm_WI0, pm_WI1, pm_WI2, pm_WI3, pm_WI4, pm_WI5, pm_WV, pm_WW, pm_WX, pb_B7, pm_if, pm_QI_at, pm_QL_at, pm_QV_at, pm_QR_at, pm_QR_at0, pm_QR_at1, Nat.reduceSub, Nat.reduceAdd, List.replicate_zero, List.replicate_succ, sh_k14 hST, sh_k25 hST, sh_z25 hST, cnt, hcnt]
          have fin := next _ (.int (nI (owD S m c))) .null ((hs4.wI (p := 25) (j := O.length) (v := owW S m k (owS S m c) (owD S m c)) (by unfold sc_q; omega)).wI (p := 14) (j := 4) (v := nI (O.length + 1)) (by unfold sc_q; omega)) ((((((hF.w (by omega)).w (by omega)).w (by omega)).w (by omega)).w (by omega)).w (by omega)) (by rw [hO]; exact cwr_s hcw rfl rfl rfl et)
          first | exact ⟨hvO, fin⟩ | exact fin | skip
        | some a =>
          obtain ⟨⟨a1, a2, a3⟩, ⟨f0, f1, f2, f3, f4⟩, _⟩ := hIT.act.2.2.1 a (by rw [hs.c (by omega)]; exact fa_f_lt ha)
          have f1' : pm_i T (iv_a A a) 1 = pm_i S 77 a := by rw [f1, hs.r77]
          have et : pm_i S 77 a - nI (owD S m c) = owT S m k (owS S m c) (owD S m c) := by unfold owT; rw [ha]
          have na : ∀ p, p < 114 → (iv_a A a = p) = False := fun p hp => eq_false (by omega)
          try simp only [pm_WV, pm_WW, true_and, and_true, true_or, or_true, and_self, reduceIte, Nat.reduceEqDiff, Nat.reduceLT, Nat.reduceLeDiff, Nat.reduceMul, false_and, and_false, reduceCtorEq, false_or, or_false, not_true_eq_false, not_false_eq_true, true_implies, false_implies, implies_true, lf_10, eq_self, Int32.reduceLT, Int32.reduceLE, Int32.reduceAdd, Int32.reduceSub, pm_same, pm_i_wI, pm_l_wL, pm_l_wM, pm_oR_rf, pm_oQ_rf, nI_1, sw_e, LQ1, LQ2, pm_WI0, pm_WI1, pm_WI2, pm_WI3, pm_WI4, pm_WI5, pm_WV, pm_WW, pm_WX, pb_B7, pm_if, pm_QI_at, pm_QL_at, pm_QV_at, pm_QR_at, pm_QR_at0, pm_QR_at1, Nat.reduceSub, Nat.reduceAdd, List.replicate_zero, List.replicate_succ, Option.map_some, sh_k14 hST, sh_r14_5 hST, sh_r14_6 hST, sh_r14_7 hST, sh_r14_8 hST, sh_r14_9 hST, sh_k23 hST, sh_z23 hST, sh_k24 hST, sh_z24 hST, sh_k25 hST, sh_z25 hST, sh_k26 hST, sh_z26 hST, sh_k27 hST, sh_z27 hST, cnt, hcnt, kP, rP0, kW0, zW0, s0, hcc, a3, f1', na 23 (by omega), na 24 (by omega), na 26 (by omega)]
          have hs4 : sc S (pm_wI (pm_wI (pm_wI (pm_wI T 23 O.length (nI (owS S m c))) 24 O.length (nI (owD S m c))) 26 O.length (nI c)) 27 O.length (pm_i S 77 a - nI (owD S m c))) := (((hs.wI (by unfold sc_q; omega)).wI (by unfold sc_q; omega)).wI (by unfold sc_q; omega)).wI (by unfold sc_q; omega)
          have hI4 := hI.sc hs4
          refine ⟨hvc, hvO, hvO, hvO, ?_⟩
          refine pm_wb_ok pb_c7 2 130 0 _ _ _ _ _ ?_
          try simp only [pm_WI0, pm_WI1, pm_WI2, pm_WI3, pm_WI4, pm_WI5, pm_WV, pm_WW, pm_WX, pb_B7, pm_if, pm_QI_at, pm_QL_at, pm_QV_at, pm_QR_at, pm_QR_at0, pm_QR_at1, Nat.reduceSub, Nat.reduceAdd, List.replicate_zero, List.replicate_succ, true_and, and_true, true_or, or_true, and_self, reduceIte, Nat.reduceEqDiff, Nat.reduceLT, Nat.reduceLeDiff, Nat.reduceMul, false_and, and_false, reduceCtorEq, false_or, or_false, not_true_eq_false, not_false_eq_true, true_implies, false_implies, implies_true, lf_10, eq_self, Int32.reduceLT, Int32.reduceLE, Int32.reduceAdd, Int32.reduceSub, pm_same, pm_i_wI, pm_l_wL, pm_l_wM, pm_oR_rf, pm_oQ_rf, nI_1, sw_e, LQ1, LQ2, sh_k14 hST, sh_r14_5 hST, sh_r14_6 hST, sh_r14_7 hST, sh_r14_8 hST, sh_r14_9 hST, sh_k23 hST, sh_z23 hST, sh_k24 hST, sh_z24 hST, sh_k25 hST, sh_z25 hST, sh_k26 hST, sh_z26 hST, sh_k27 hST, sh_z27 hST, cnt, hcnt, a3, f1', na 23 (by omega), na 24 (by omega), na 26 (by omega)]
          refine ⟨hvO, by omega, lf_8 (s := owS S m c) (r := some a) (by omega) hI4 (by rw [hs4.c (by omega)]; exact hm) (by rw [fa_f_me hs4.me]; exact ha) ?_⟩
          have ew : owW (pm_wI (pm_wI (pm_wI (pm_wI T 23 O.length (nI (owS S m c))) 24 O.length (nI (owD S m c))) 26 O.length (nI c)) 27 O.length (pm_i S 77 a - nI (owD S m c))) m k (owS S m c) (owD S m c) = owW S m k (owS S m c) (owD S m c) := by
            unfold owW; rw [fa_f_me hs4.me, hs4.r77, hs4.r71]
          rw [ew]
          try simp only [pm_WV, pm_WW, true_and, and_true, true_or, or_true, and_self, reduceIte, Nat.reduceEqDiff, Nat.reduceLT, Nat.reduceLeDiff, Nat.reduceMul, false_and, and_false, reduceCtorEq, false_or, or_false, not_true_eq_false, not_false_eq_true, true_implies, false_implies, implies_true, lf_10, eq_self, Int32.reduceLT, Int32.reduceLE, Int32.reduceAdd, Int32.reduceSub, pm_same, pm_i_wI, pm_l_wL, pm_l_wM, pm_oR_rf, pm_oQ_rf, nI_1, sw_e, LQ1, LQ2, pm_WI0, pm_WI1, pm_WI2, pm_WI3, pm_WI4, pm_WI5, pm_WV, pm_WW, pm_WX, pb_B7, pm_if, pm_QI_at, pm_QL_at, pm_QV_at, pm_QR_at, pm_QR_at0, pm_QR_at1, Nat.reduceSub, Nat.reduceAdd, List.replicate_zero, List.replicate_succ, sh_k14 hST, sh_k25 hST, sh_z25 hST, cnt, hcnt]
          have fin := next _ (.int (nI (owD S m c))) (.ref (iv_a A a)) ((hs4.wI (p := 25) (j := O.length) (v := owW S m k (owS S m c) (owD S m c)) (by unfold sc_q; omega)).wI (p := 14) (j := 4) (v := nI (O.length + 1)) (by unfold sc_q; omega)) ((((((hF.w (by omega)).w (by omega)).w (by omega)).w (by omega)).w (by omega)).w (by omega)) (by rw [hO]; exact cwr_s hcw rfl rfl rfl et)
          first | exact ⟨hvO, fin⟩ | exact fin | skip
  refine pm_goI 7 1 pb_c7 (by decide) (Nat.le_of_ble_eq_true rfl) rfl ?_
  try simp only [show pm_mL 7 = 7 from rfl, pm_WI0, pm_WI1, pm_WI2, pm_WI3, pm_WI4, pm_WI5, pm_WV, pm_WW, pm_WX, pb_B7, pm_if, pm_QI_at, pm_QL_at, pm_QV_at, pm_QR_at, pm_QR_at0, pm_QR_at1, Nat.reduceSub, Nat.reduceAdd, List.replicate_zero, List.replicate_succ, true_and, and_true, true_or, or_true, and_self, reduceIte, Nat.reduceEqDiff, Nat.reduceLT, Nat.reduceLeDiff, Nat.reduceMul, false_and, and_false, reduceCtorEq, false_or, or_false, not_true_eq_false, not_false_eq_true, true_implies, false_implies, implies_true, lf_10, eq_self, Int32.reduceLT, Int32.reduceLE, Int32.reduceAdd, Int32.reduceSub, pm_same, pm_i_wI, pm_l_wL, pm_l_wM, pm_oR_rf, pm_oQ_rf, nI_1, sw_e, LQ1, LQ2, hw0.k, hw0.f2, hw0.f4, sh_k14 hS]
  refine ⟨by omega, lf_3 (by omega) hS hI.law ?_⟩
  try simp only [pm_WV, pm_WW, true_and, and_true, true_or, or_true, and_self, reduceIte, Nat.reduceEqDiff, Nat.reduceLT, Nat.reduceLeDiff, Nat.reduceMul, false_and, and_false, reduceCtorEq, false_or, or_false, not_true_eq_false, not_false_eq_true, true_implies, false_implies, implies_true, lf_10, eq_self, Int32.reduceLT, Int32.reduceLE, Int32.reduceAdd, Int32.reduceSub, pm_same, pm_i_wI, pm_l_wL, pm_l_wM, pm_oR_rf, pm_oQ_rf, nI_1, sw_e, LQ1, LQ2, pm_WI0, pm_WI1, pm_WI2, pm_WI3, pm_WI4, pm_WI5, pm_WV, pm_WW, pm_WX, pb_B7, pm_if, pm_QI_at, pm_QL_at, pm_QV_at, pm_QR_at, pm_QR_at0, pm_QR_at1, Nat.reduceSub, Nat.reduceAdd, List.replicate_zero, List.replicate_succ, sh_k14 hS]
  refine key (owL S m).1.length 0 _ _ _ (by omega) (sc.rf.wI (by unfold sc_q; omega)) (cF.rf.w (by omega)) ⟨?_, fun i hi => absurd hi (by simp [owO])⟩
  rw [pm_i_wI, if_pos ⟨rfl, rfl⟩]; rfl
theorem lf_7 {G : pm_G} {d : Nat} {A : iv_A} {S : pm_S} {m : Nat} {k : Int32} {q : Int32 → pm_S → Prop} (hd : 6 ≤ d) (hI : Inv A S) (hm : m < iv_c S 18) (h : ∀ T, sc S T → cwr S T m k (owA S m k) → q (nI (owA S m k).length) T) : pm_CI G d 7 [.ref 14, .ref (iv_m A m), .int k] S q :=
  lf_7F hd hI hm (fun T hs _ hc => h T hs hc)
