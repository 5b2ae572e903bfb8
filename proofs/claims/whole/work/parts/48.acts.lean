/-! ACTS looked through -/
def ac_c (So E : Nat → Int32) (s k : Int32) (a : Nat) : Bool := decide (So a = s ∧ ¬ k < E a)
/-- a comes ahead of b: done later (or as late), done earlier -/
def ac_bt (D : Nat → Int32) (late : Bool) (a b : Nat) : Bool := if late then decide (¬ D a < D b) else decide (¬ D b ≤ D a)
def ac_ok (bt : Nat → Nat → Bool) (acc : Option Nat) (a : Nat) : Bool := match acc with
  | none => true
  | some b => bt a b
def ac_s (c : Nat → Bool) (bt : Nat → Nat → Bool) (acc : Option Nat) (a : Nat) : Option Nat := if c a && ac_ok bt acc a then some a else acc
def ac_f (c : Nat → Bool) (bt : Nat → Nat → Bool) (L : List Nat) (acc : Option Nat) : Option Nat := L.foldl (ac_s c bt) acc
theorem ac_f_filter (f c : Nat → Bool) (bt : Nat → Nat → Bool) : ∀ (L : List Nat) (acc : Option Nat), ac_f c bt (L.filter f) acc = ac_f (fun a => f a && c a) bt L acc
  | [], _ => rfl
  | a :: L, acc => by
    by_cases h : f a = true
    · rw [List.filter_cons_of_pos h]
      show ac_f c bt (L.filter f) (ac_s c bt acc a) = ac_f _ bt L (ac_s _ bt acc a)
      rw [ac_f_filter f c bt L]
      congr 1
      unfold ac_s; simp only [h, Bool.true_and]
    · rw [List.filter_cons_of_neg h]
      show _ = ac_f _ bt L (ac_s _ bt acc a)
      rw [ac_f_filter f c bt L]
      congr 1
      unfold ac_s
      have : f a = false := by simpa using h
      simp only [this, Bool.false_and]
      simp
theorem ac_s_none {c : Nat → Bool} {bt : Nat → Nat → Bool} {acc : Option Nat} {a : Nat} (h : c a = false) : ac_s c bt acc a = acc := by
  unfold ac_s; rw [h]; simp
theorem ac_f_in {c : Nat → Bool} {bt : Nat → Nat → Bool} : ∀ {L : List Nat} {acc : Option Nat} {b : Nat}, ac_f c bt L acc = some b → b ∈ L ∨ acc = some b
  | [], acc, b, h => Or.inr h
  | a :: L, acc, b, h => by
    have h' : ac_f c bt L (ac_s c bt acc a) = some b := h
    rcases ac_f_in h' with h1 | h1
    · exact Or.inl (List.mem_cons_of_mem _ h1)
    · unfold ac_s at h1
      split at h1
      · cases h1; exact Or.inl List.mem_cons_self
      · exact Or.inr h1
/-- the head of a chain -/
def ac_r (A : iv_A) (L : List Nat) : Option Nat := L.head?.map (iv_a A)
theorem iv_ch.r {A : iv_A} {S : pm_S} {r : Option Nat} {L : List Nat} (h : iv_ch A S r L) : r = ac_r A L := by
  cases L with
  | nil => exact h
  | cons a L => exact h.1
theorem iv_ch.tl {A : iv_A} {S : pm_S} {a : Nat} {L : List Nat} (h : iv_ch A S (ac_r A (a :: L)) (a :: L)) : iv_ch A S (ac_r A L) L ∧ pm_r S (iv_a A a) 5 = ac_r A L := by
  have := h.2
  have e := this.r
  rw [e] at this
  exact ⟨this, e⟩
theorem ac_59 {G : pm_G} {d : Nat} {A : iv_A} {S : pm_S} {m : Nat} {s k : Int32} {q : Option Nat → pm_S → Prop} (hI : Inv A S) (hm : m < iv_c S 18) (h : q ((ac_f (ac_c (pm_i S 76) (pm_i S 79) s k) (ac_bt (pm_i S 77) false) (iv_acts S m) none).map (iv_a A)) S) : pm_CR G d 59 [.ref (iv_m A m), .int s, .int k] S q := by
  have hk := (hI.row hm).k
  have hc := (hI.act.2.2.2 m hm).1
  refine pm_goR 59 40 pb_c59 (by decide) (Nat.le_of_ble_eq_true rfl) rfl ?_
  simp only [show pm_mL 59 = 5 from rfl, pm_WI0, pm_WI1, pm_WI2, pm_WI3, pm_WI4, pm_WI5, pm_WV, pm_WW, pm_WX, pb_B59, pm_if, pm_QI_at, pm_QL_at, pm_QV_at, pm_QR_at, pm_QR_at0, pm_QR_at1, Nat.reduceSub, Nat.reduceAdd, List.replicate_zero, List.replicate_succ, true_and, and_true, true_or, or_true, and_self, reduceIte, Nat.reduceEqDiff, Nat.reduceLT, Nat.reduceLeDiff, Nat.reduceMul, false_and, and_false, reduceCtorEq, false_or, or_false, not_true_eq_false, not_false_eq_true, true_implies, false_implies, implies_true, lf_10, eq_self, Int32.reduceLT, Int32.reduceLE, Int32.reduceAdd, Int32.reduceSub, pm_same, pm_i_wI, pm_l_wL, pm_l_wM, pm_oR_rf, pm_oQ_rf, hk, hc.r]
  refine pv_while (fun x : Option Nat × List Nat => [.ref (iv_m A m), .int s, .int k, va_rf (x.1.map (iv_a A)), va_rf (ac_r A x.2)]) (fun _ => S) (fun x => iv_ch A S (ac_r A x.2) x.2 ∧ (∀ a, a ∈ x.2 → a < iv_c S 24) ∧ (∀ b, x.1 = some b → b < iv_c S 24) ∧ ac_f (ac_c (pm_i S 76) (pm_i S 79) s k) (ac_bt (pm_i S 77) false) x.2 x.1 = ac_f (ac_c (pm_i S 76) (pm_i S 79) s k) (ac_bt (pm_i S 77) false) (iv_acts S m) none) (fun x => x.2.length) (fun x hx hk2 => ?_) (none, iv_acts S m) ⟨by rw [← hc.r]; exact hc, fun a ha => iv_acts_lt ha, fun b hb => (by cases hb), rfl⟩
  obtain ⟨acc, L⟩ := x
  obtain ⟨x1, x2, x3, x4⟩ := hx
  simp only at x1 x2 x3 x4 hk2 ⊢
  cases L with
  | nil =>
    rw [← x4] at h
    refine pm_wb_ok pb_c59 60 8 0 _ _ _ _ _ ?_
    simp only [pm_WI0, pm_WI1, pm_WI2, pm_WI3, pm_WI4, pm_WI5, pm_WV, pm_WW, pm_WX, pb_B59, pm_if, pm_QI_at, pm_QL_at, pm_QV_at, pm_QR_at, pm_QR_at0, pm_QR_at1, Nat.reduceSub, Nat.reduceAdd, List.replicate_zero, List.replicate_succ, true_and, and_true, true_or, or_true, and_self, reduceIte, Nat.reduceEqDiff, Nat.reduceLT, Nat.reduceLeDiff, Nat.reduceMul, false_and, and_false, reduceCtorEq, false_or, or_false, not_true_eq_false, not_false_eq_true, true_implies, false_implies, implies_true, lf_10, eq_self, Int32.reduceLT, Int32.reduceLE, Int32.reduceAdd, Int32.reduceSub, pm_same, pm_i_wI, pm_l_wL, pm_l_wM, pm_oR_rf, pm_oQ_rf, ac_r, List.head?_nil, Option.map_none]
    exact h
  | cons a L =>
    obtain ⟨y1, y2⟩ := x1.tl
    obtain ⟨⟨a1, a2, a3⟩, ⟨b0, b1, b2, b3, b4⟩, _⟩ := hI.act.2.2.1 a (x2 a List.mem_cons_self)
    have go : ∀ acc', acc' = ac_s (ac_c (pm_i S 76) (pm_i S 79) s k) (ac_bt (pm_i S 77) false) acc a → pm_W G d 59 (pm_QR q) 8 [.ref (iv_m A m), .int s, .int k, va_rf (acc'.map (iv_a A)), va_rf (ac_r A L)] [] S 0 0 := by
      intro acc' e
      refine hk2 (acc', L) ⟨y1, fun b hb => x2 b (List.mem_cons_of_mem _ hb), fun b hb => ?_, by rw [← x4, e]; rfl⟩ (Nat.lt_succ_self _)
      simp only at hb
      rw [e] at hb
      unfold ac_s at hb
      split at hb
      · rw [← Option.some.inj hb]; exact x2 a List.mem_cons_self
      · exact x3 b hb
    have no : ac_c (pm_i S 76) (pm_i S 79) s k a = false → pm_W G d 59 (pm_QR q) 8 [.ref (iv_m A m), .int s, .int k, va_rf (acc.map (iv_a A)), va_rf (ac_r A L)] [] S 0 0 := fun hf => go acc (ac_s_none hf).symm
    have hra : ac_r A (a :: L) = some (iv_a A a) := rfl
    refine pm_wb_ok pb_c59 60 8 0 _ _ _ _ _ ?_
    simp only [pm_WI0, pm_WI1, pm_WI2, pm_WI3, pm_WI4, pm_WI5, pm_WV, pm_WW, pm_WX, pb_B59, pm_if, pm_QI_at, pm_QL_at, pm_QV_at, pm_QR_at, pm_QR_at0, pm_QR_at1, Nat.reduceSub, Nat.reduceAdd, List.replicate_zero, List.replicate_succ, true_and, and_true, true_or, or_true, and_self, reduceIte, Nat.reduceEqDiff, Nat.reduceLT, Nat.reduceLeDiff, Nat.reduceMul, false_and, and_false, reduceCtorEq, false_or, or_false, not_true_eq_false, not_false_eq_true, true_implies, false_implies, implies_true, lf_10, eq_self, Int32.reduceLT, Int32.reduceLE, Int32.reduceAdd, Int32.reduceSub, pm_same, pm_i_wI, pm_l_wL, pm_l_wM, pm_oR_rf, pm_oQ_rf, hra, a3, b0, b1, b3, y2, pm_dem_rf, reduceCtorEq]
    refine ⟨fun c1 => ?_, fun c1 => ?_⟩
    · refine ⟨fun c2 => ?_, fun c2 => ?_⟩
      · exact no (by unfold ac_c; simp [c2])
      · have hyes : ac_c (pm_i S 76) (pm_i S 79) s k a = true := by unfold ac_c; simp [c1, c2]
        cases acc with
        | none =>
          simp only [Option.map_none, true_implies, not_true_eq_false, false_implies, and_true]
          exact go (some a) (by unfold ac_s ac_ok; rw [hyes]; rfl)
        | some b =>
          obtain ⟨⟨e1, e2, e3⟩, ⟨f0, f1, f2, f3, f4⟩, _⟩ := hI.act.2.2.1 b (x3 b rfl)
          simp only [Option.map_some, reduceCtorEq, false_implies, not_false_eq_true, true_implies, true_and, pm_WV, e3, f1]
          refine ⟨fun c3 => ?_, fun c3 => ?_⟩
          · exact go (some b) (by unfold ac_s ac_ok ac_bt; rw [hyes]; simp [c3])
          · exact go (some a) (by unfold ac_s ac_ok ac_bt; rw [hyes]; simp [c3])
    · exact no (by unfold ac_c; simp [c1])
theorem ac_60 {G : pm_G} {d : Nat} {A : iv_A} {S : pm_S} {m : Nat} {s k : Int32} {q : Option Nat → pm_S → Prop} (hI : Inv A S) (hm : m < iv_c S 18) (h : q ((ac_f (ac_c (pm_i S 76) (pm_i S 79) s k) (ac_bt (pm_i S 77) true) (iv_acts S m) none).map (iv_a A)) S) : pm_CR G d 60 [.ref (iv_m A m), .int s, .int k] S q := by
  have hk := (hI.row hm).k
  have hc := (hI.act.2.2.2 m hm).1
  refine pm_goR 60 40 pb_c60 (by decide) (Nat.le_of_ble_eq_true rfl) rfl ?_
  simp only [show pm_mL 60 = 5 from rfl, pm_WI0, pm_WI1, pm_WI2, pm_WI3, pm_WI4, pm_WI5, pm_WV, pm_WW, pm_WX, pb_B60, pm_if, pm_QI_at, pm_QL_at, pm_QV_at, pm_QR_at, pm_QR_at0, pm_QR_at1, Nat.reduceSub, Nat.reduceAdd, List.replicate_zero, List.replicate_succ, true_and, and_true, true_or, or_true, and_self, reduceIte, Nat.reduceEqDiff, Nat.reduceLT, Nat.reduceLeDiff, Nat.reduceMul, false_and, and_false, reduceCtorEq, false_or, or_false, not_true_eq_false, not_false_eq_true, true_implies, false_implies, implies_true, lf_10, eq_self, Int32.reduceLT, Int32.reduceLE, Int32.reduceAdd, Int32.reduceSub, pm_same, pm_i_wI, pm_l_wL, pm_l_wM, pm_oR_rf, pm_oQ_rf, hk, hc.r]
  refine pv_while (fun x : Option Nat × List Nat => [.ref (iv_m A m), .int s, .int k, va_rf (x.1.map (iv_a A)), va_rf (ac_r A x.2)]) (fun _ => S) (fun x => iv_ch A S (ac_r A x.2) x.2 ∧ (∀ a, a ∈ x.2 → a < iv_c S 24) ∧ (∀ b, x.1 = some b → b < iv_c S 24) ∧ ac_f (ac_c (pm_i S 76) (pm_i S 79) s k) (ac_bt (pm_i S 77) true) x.2 x.1 = ac_f (ac_c (pm_i S 76) (pm_i S 79) s k) (ac_bt (pm_i S 77) true) (iv_acts S m) none) (fun x => x.2.length) (fun x hx hk2 => ?_) (none, iv_acts S m) ⟨by rw [← hc.r]; exact hc, fun a ha => iv_acts_lt ha, fun b hb => (by cases hb), rfl⟩
  obtain ⟨acc, L⟩ := x
  obtain ⟨x1, x2, x3, x4⟩ := hx
  simp only at x1 x2 x3 x4 hk2 ⊢
  cases L with
  | nil =>
    rw [← x4] at h
    refine pm_wb_ok pb_c60 60 8 0 _ _ _ _ _ ?_
    simp only [pm_WI0, pm_WI1, pm_WI2, pm_WI3, pm_WI4, pm_WI5, pm_WV, pm_WW, pm_WX, pb_B60, pm_if, pm_QI_at, pm_QL_at, pm_QV_at, pm_QR_at, pm_QR_at0, pm_QR_at1, Nat.reduceSub, Nat.reduceAdd, List.replicate_zero, List.replicate_succ, true_and, and_true, true_or, or_true, and_self, reduceIte, Nat.reduceEqDiff, Nat.reduceLT, Nat.reduceLeDiff, Nat.reduceMul, false_and, and_false, reduceCtorEq, false_or, or_false, not_true_eq_false, not_false_eq_true, true_implies, false_implies, implies_true, lf_10, eq_self, Int32.reduceLT, Int32.reduceLE, Int32.reduceAdd, Int32.reduceSub, pm_same, pm_i_wI, pm_l_wL, pm_l_wM, pm_oR_rf, pm_oQ_rf, ac_r, List.head?_nil, Option.map_none]
    exact h
  | cons a L =>
    obtain ⟨y1, y2⟩ := x1.tl
    obtain ⟨⟨a1, a2, a3⟩, ⟨b0, b1, b2, b3, b4⟩, _⟩ := hI.act.2.2.1 a (x2 a List.mem_cons_self)
    have go : ∀ acc', acc' = ac_s (ac_c (pm_i S 76) (pm_i S 79) s k) (ac_bt (pm_i S 77) true) acc a → pm_W G d 60 (pm_QR q) 8 [.ref (iv_m A m), .int s, .int k, va_rf (acc'.map (iv_a A)), va_rf (ac_r A L)] [] S 0 0 := by
      intro acc' e
      refine hk2 (acc', L) ⟨y1, fun b hb => x2 b (List.mem_cons_of_mem _ hb), fun b hb => ?_, by rw [← x4, e]; rfl⟩ (Nat.lt_succ_self _)
      simp only at hb
      rw [e] at hb
      unfold ac_s at hb
      split at hb
      · rw [← Option.some.inj hb]; exact x2 a List.mem_cons_self
      · exact x3 b hb
    have no : ac_c (pm_i S 76) (pm_i S 79) s k a = false → pm_W G d 60 (pm_QR q) 8 [.ref (iv_m A m), .int s, .int k, va_rf (acc.map (iv_a A)), va_rf (ac_r A L)] [] S 0 0 := fun hf => go acc (ac_s_none hf).symm
    have hra : ac_r A (a :: L) = some (iv_a A a) := rfl
    refine pm_wb_ok pb_c60 60 8 0 _ _ _ _ _ ?_
    simp only [pm_WI0, pm_WI1, pm_WI2, pm_WI3, pm_WI4, pm_WI5, pm_WV, pm_WW, pm_WX, pb_B60, pm_if, pm_QI_at, pm_QL_at, pm_QV_at, pm_QR_at, pm_QR_at0, pm_QR_at1, Nat.reduceSub, Nat.reduceAdd, List.replicate_zero, List.replicate_succ, true_and, and_true, true_or, or_true, and_self, reduceIte, Nat.reduceEqDiff, Nat.reduceLT, Nat.reduceLeDiff, Nat.reduceMul, false_and, and_false, reduceCtorEq, false_or, or_false, not_true_eq_false, not_false_eq_true, true_implies, false_implies, implies_true, lf_10, eq_self, Int32.reduceLT, Int32.reduceLE, Int32.reduceAdd, Int32.reduceSub, pm_same, pm_i_wI, pm_l_wL, pm_l_wM, pm_oR_rf, pm_oQ_rf, hra, a3, b0, b1, b3, y2, pm_dem_rf, reduceCtorEq]
    refine ⟨fun c1 => ?_, fun c1 => ?_⟩
    · refine ⟨fun c2 => ?_, fun c2 => ?_⟩
      · exact no (by unfold ac_c; simp [c2])
      · have hyes : ac_c (pm_i S 76) (pm_i S 79) s k a = true := by unfold ac_c; simp [c1, c2]
        cases acc with
        | none =>
          simp only [Option.map_none, true_implies, not_true_eq_false, false_implies, and_true]
          exact go (some a) (by unfold ac_s ac_ok; rw [hyes]; rfl)
        | some b =>
          obtain ⟨⟨e1, e2, e3⟩, ⟨f0, f1, f2, f3, f4⟩, _⟩ := hI.act.2.2.1 b (x3 b rfl)
          simp only [Option.map_some, reduceCtorEq, false_implies, not_false_eq_true, true_implies, true_and, pm_WV, e3, f1]
          refine ⟨fun c3 => ?_, fun c3 => ?_⟩
          · exact go (some b) (by unfold ac_s ac_ok ac_bt; rw [hyes]; simp [c3])
          · exact go (some a) (by unfold ac_s ac_ok ac_bt; rw [hyes]; simp [c3])
    · exact no (by unfold ac_c; simp [c1])
