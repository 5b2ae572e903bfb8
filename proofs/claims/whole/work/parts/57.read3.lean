/-! THE TEXT read by the class into its draft D with rows W -/
def dl (S : pm_S) (D : Nat) (W : Nat → Nat) : Prop :=
  pm_r S 5 3 = some D ∧ pm_k S D = 5 ∧ (D = 7 ∨ 114 ≤ D) ∧ (∀ q, q < 6 → pm_r S D (iv_lf q) = some (W q) ∧ pm_k S (W q) = 20 ∧ pm_z S (W q) = (if q = 5 then 160 else 10) ∧ ((8 ≤ W q ∧ W q ≤ 13) ∨ 114 ≤ W q)) ∧ ∀ q r, q < 6 → r < 6 → W q = W r → q = r
/-- since S0 the reader's place, the draft and its rows alone were written; the place is p, the draft says L -/
def rs (S0 : pm_S) (D : Nat) (W : Nat → Nat) (n : Nat) (S : pm_S) (p : Nat) (L : gx_L) : Prop :=
  (pm_n S = pm_n S0 ∧ pm_k S = pm_k S0 ∧ pm_z S = pm_z S0 ∧ pm_r S = pm_r S0 ∧ pm_l S = pm_l S0) ∧ (∀ x j, ¬ (x = 5 ∧ j = 2) → x ≠ D → (∀ i, i < 6 → x ≠ W i) → pm_i S x j = pm_i S0 x j) ∧ rd S p n ∧ iv_lrep S D W L
section RS
variable {S0 S : pm_S} {D : Nat} {W : Nat → Nat} {n p : Nat} {L : gx_L}
theorem dl.same (h : dl S0 D W) (h2 : pm_k S = pm_k S0) (h3 : pm_z S = pm_z S0) (h4 : pm_r S = pm_r S0) : dl S D W := by
  unfold dl; rw [h2, h3, h4]; exact h
theorem dl.ne (h : dl S D W) {q : Nat} (hq : q < 6) : D ≠ W q := fun e => by
  have h1 := h.2.1
  have h2 := (h.2.2.2.1 q hq).2.1
  rw [← e, h1] at h2; omega
theorem dl.lo (h : dl S D W) {q x : Nat} (hq : q < 6) (hx : x < 114) (hx2 : ¬ (8 ≤ x ∧ x ≤ 13)) : x ≠ W q := fun e => by
  have := (h.2.2.2.1 q hq).2.2.2
  omega
theorem dl.loD (h : dl S D W) {x : Nat} (hx : x < 114) (hx2 : ¬ x = 7) : x ≠ D := fun e => by
  have := h.2.2.1
  omega
theorem rs.todl (h : rs S0 D W n S p L) (hd : dl S0 D W) : dl S D W := hd.same h.1.2.1 h.1.2.2.1 h.1.2.2.2.1
theorem rs.sh (h : rs S0 D W n S p L) (hS : Sh S0) : Sh S := hS.same h.1.1 h.1.2.1 h.1.2.2.1 h.1.2.2.2.1
theorem rs.text (h : rs S0 D W n S p L) (hd : dl S0 D W) : pm_i S 6 = pm_i S0 6 := funext (fun j => h.2.1 6 j (by omega) (hd.loD (by omega) (by omega)) (fun i hi => hd.lo hi (by omega) (by omega)))
theorem iv_lrep.cg1 (h : iv_lrep S D W L) {S' : pm_S} (h1 : pm_i S' D = pm_i S D) (h2 : ∀ q, q < 6 → pm_i S' (W q) = pm_i S (W q)) : iv_lrep S' D W L := h.cg h1 h2
/-- the place moves -/
theorem rs.mv (h : rs S0 D W n S p L) (hd : dl S0 D W) {q : Nat} (hq : q ≤ n) : rs S0 D W n (pm_wI S 5 2 (nI q)) q L := by
  have hD := hd.loD (x := 5) (by omega) (by omega)
  refine ⟨h.1, fun x j h1 h2 h3 => ?_, h.2.2.1.mv hq, h.2.2.2.cg (pm_i_wI_ne (fun e => hD e.symm)) (fun i hi => pm_i_wI_ne (fun e => hd.lo hi (by omega) (by omega) e.symm))⟩
  rw [pm_i_wI, if_neg (fun z => h1 ⟨z.1, z.2⟩)]; exact h.2.1 x j h1 h2 h3
/-- a step more -/
theorem rs.step (h : rs S0 D W n S p L) (hd : dl S0 D W) (hl : L.2.2.length < 160) {x : Nat} : rs S0 D W n (pm_wI (pm_wI S (W 5) L.2.2.length (nI x)) D 18 (nI (L.2.2.length + 1))) p (L.1, L.2.1, L.2.2 ++ [x]) := by
  have hW5 : D ≠ W 5 := hd.ne (by omega)
  have hne : ∀ q, q < 5 → W q ≠ W 5 := fun q hq e => by have := hd.2.2.2.2 q 5 (by omega) (by omega) e; omega
  have e5D : (5 : Nat) ≠ D := hd.loD (by omega) (by omega)
  have e5W : (5 : Nat) ≠ W 5 := hd.lo (by omega) (by omega) (by omega)
  have e6D : (6 : Nat) ≠ D := hd.loD (by omega) (by omega)
  have e6W : (6 : Nat) ≠ W 5 := hd.lo (by omega) (by omega) (by omega)
  obtain ⟨r1, r2, r3, r4, r5⟩ := h.2.2.1
  obtain ⟨l1, l2, l3, l4, l5, l6, l7⟩ := h.2.2.2
  refine ⟨h.1, fun y j h1 h2 h3 => ?_, ⟨?_, ?_, r3, r4, fun k hk => ?_⟩, ⟨?_, ?_, l3, ?_, fun f f1 f2 => ?_, fun k hk => ?_, fun k hk => ?_⟩⟩
  · rw [pm_i_wI_ne h2, pm_i_wI_ne (h3 5 (by omega))]; exact h.2.1 y j h1 h2 h3
  · rw [pm_i_wI_ne e5D, pm_i_wI_ne e5W]; exact r1
  · rw [pm_i_wI_ne e5D, pm_i_wI_ne e5W]; exact r2
  · rw [pm_i_wI_ne e6D, pm_i_wI_ne e6W]; exact r5 k hk
  · rw [pm_i_wI, if_neg (by omega), pm_i_wI_ne hW5]; exact l1
  · rw [pm_i_wI, if_pos ⟨rfl, rfl⟩]; simp
  · simp; omega
  · rw [pm_i_wI, if_neg (by omega), pm_i_wI_ne hW5]; exact l5 f f1 f2
  · have := l6 k hk
    rw [pm_i_wI_ne (hd.ne (q := 0) (by omega)).symm, pm_i_wI_ne (hne 0 (by omega)), pm_i_wI_ne (hd.ne (q := 1) (by omega)).symm, pm_i_wI_ne (hne 1 (by omega)), pm_i_wI_ne (hd.ne (q := 2) (by omega)).symm, pm_i_wI_ne (hne 2 (by omega)), pm_i_wI_ne (hd.ne (q := 3) (by omega)).symm, pm_i_wI_ne (hne 3 (by omega)), pm_i_wI_ne (hd.ne (q := 4) (by omega)).symm, pm_i_wI_ne (hne 4 (by omega))]
    exact this
  · rw [pm_i_wI_ne hW5.symm, pm_i_wI]
    by_cases hkl : k = L.2.2.length
    · subst hkl; rw [if_pos ⟨rfl, rfl⟩]; simp
    · rw [if_neg (fun z => hkl z.2)]
      have hk2 : k < L.2.2.length := by simp at hk; omega
      rw [l7 k hk2]; simp [List.getD_eq_getElem?_getD, List.getElem?_append_left hk2]
end RS
theorem fa_or3 {k s m : Nat} (hk : k < 16) (hs : s < 16) (hm : m < 10000) : (nI k ||| nI s <<< ((4 : Int32) &&& 31)) ||| nI m <<< ((8 : Int32) &&& 31) = nI (gx_st k s m) := by
  have e1 : nI s <<< ((4 : Int32) &&& 31) = nI (s * 2 ^ 4) := pk_shlN _ 4 (by decide) (by omega)
  have e2 : nI m <<< ((8 : Int32) &&& 31) = nI (m * 2 ^ 8) := pk_shlN _ 8 (by decide) (by omega)
  have or2 : ∀ a b : Nat, nI a ||| nI b = nI (a ||| b) := fun a b => by
    apply Int32.toBitVec_inj.mp
    show BitVec.ofNat 32 a ||| BitVec.ofNat 32 b = BitVec.ofNat 32 (a ||| b)
    exact (BitVec.ofNat_or ..).symm
  rw [e1, e2, or2, or2]
  have o1 : k ||| s * 2 ^ 4 = k + s * 2 ^ 4 := by
    rw [Nat.or_comm, Nat.mul_comm, ← Nat.two_pow_add_eq_or_of_lt (by omega : k < 2 ^ 4), Nat.add_comm]
  have o2 : (k + s * 2 ^ 4) ||| m * 2 ^ 8 = (k + s * 2 ^ 4) + m * 2 ^ 8 := by
    rw [Nat.or_comm, Nat.mul_comm m, ← Nat.two_pow_add_eq_or_of_lt (by omega : k + s * 2 ^ 4 < 2 ^ 8), Nat.add_comm]
  rw [o1, o2]
  unfold gx_st
  congr 1; omega
theorem rd_38 {G : pm_G} {d : Nat} {S0 S : pm_S} {D p n : Nat} {W : Nat → Nat} {L : gx_L} {k s m : Nat} {q : pm_S → Prop} (hd0 : dl S0 D W) (hr : rs S0 D W n S p L) (hl : L.2.2.length < 160) (hk : k < 16) (hs : s < 16) (hm : m < 10000) (h : ∀ S', rs S0 D W n S' p (L.1, L.2.1, L.2.2 ++ [gx_st k s m]) → q S') : pm_CV G d 38 [.ref D, .int (nI k), .int (nI s), .int (nI m)] S q := by
  have hd := hr.todl hd0
  have h5 : pm_r S D 17 = some (W 5) := (hd.2.2.2.1 5 (by omega)).1
  have hz : pm_z S (W 5) = 160 := (hd.2.2.2.1 5 (by omega)).2.2.1
  have hk5 : pm_k S (W 5) = 20 := (hd.2.2.2.1 5 (by omega)).2.1
  have h18 : pm_i S D 18 = nI L.2.2.length := hr.2.2.2.2.1
  have hDW : (D = W 5) = False := eq_false (hd.ne (by omega))
  refine pm_goV 38 40 pb_c38 (by decide) (Nat.le_of_ble_eq_true rfl) rfl ?_
  simp only [show pm_mL 38 = 4 from rfl, pm_WI0, pm_WI1, pm_WI2, pm_WI3, pm_WI4, pm_WI5, pm_WV, pm_WW, pm_WX, pb_B38, pm_if, pm_QI_at, pm_QL_at, pm_QV_at, pm_QR_at, pm_QR_at0, pm_QR_at1, Nat.reduceSub, Nat.reduceAdd, List.replicate_zero, List.replicate_succ, true_and, and_true, true_or, or_true, and_self, reduceIte, Nat.reduceEqDiff, Nat.reduceLT, Nat.reduceLeDiff, Nat.reduceMul, false_and, and_false, reduceCtorEq, false_or, or_false, not_true_eq_false, not_false_eq_true, true_implies, false_implies, implies_true, lf_10, eq_self, Int32.reduceLT, Int32.reduceLE, Int32.reduceAdd, Int32.reduceSub, pm_same, pm_i_wI, pm_l_wL, pm_l_wM, pm_oR_rf, pm_oQ_rf, hd.2.1, h5, hz, hk5, h18, hDW, nI_1]
  refine ⟨fun z => absurd z (nI_ge (b := 160) hl (by omega)), fun _ => ?_⟩
  rw [fa_or3 hk hs hm, nI_clamp (by omega)]
  exact ⟨vp_in_nI hl (by decide), h _ (hr.step hd0 hl)⟩
