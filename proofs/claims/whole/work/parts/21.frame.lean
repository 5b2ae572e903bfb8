/-! the invariant's modules with cells that calls make: what they read -/
theorem iv_lt {S : pm_S} {x : Int32} {f : Nat} (h0 : 0 ≤ x) (h1 : x < pm_i S 59 f) : x.toNatClampNeg < iv_c S f := by
  unfold iv_c Int32.toNatClampNeg
  simp only [Int32.lt_iff_toInt_lt, Int32.le_iff_toInt_le, Int32.reduceToInt] at h0 h1
  omega
theorem iv_le {x : Int32} {n : Nat} (z : Int32) (h1 : x ≤ z) (hz : z.toInt ≤ n) : x.toNatClampNeg ≤ n := by
  unfold Int32.toNatClampNeg
  simp only [Int32.le_iff_toInt_le] at h1
  omega
theorem iv_nn {x : Int32} (h0 : 0 ≤ x) : x = nI x.toNatClampNeg := by
  obtain ⟨j, hj, rfl⟩ := nI_of (show ¬ x < 0 by lia)
  rw [nI_clamp hj]
theorem iv_vp {x y : Int32} {N : Nat} (z : Int32) (h0 : 0 ≤ x) (h1 : x < y) (h2 : y ≤ z) (hz : z.toInt ≤ N) : vp_in x N := by
  refine vp_in_iff.mpr ?_
  simp only [Int32.lt_iff_toInt_lt, Int32.le_iff_toInt_le, Int32.reduceToInt] at h0 h1 h2
  omega
theorem iv_vq {x : Int32} {N : Nat} (z : Int32) (h0 : 0 ≤ x) (h1 : x ≤ z) (hz : z.toInt < N) : vp_in x N := by
  refine vp_in_iff.mpr ?_
  simp only [Int32.le_iff_toInt_le, Int32.reduceToInt] at h0 h1
  omega
def iv_rMat (S : pm_S) (p j : Nat) : Prop := (p = 0 ∧ j = 4) ∨ (p = 59 ∧ (j = 18 ∨ j = 0 ∨ j = 4 ∨ j = 24)) ∨ (62 ≤ p ∧ p ≤ 74) ∨ p = 88 ∨ (114 ≤ p ∧ pm_k S p = 7 ∧ j ≤ 13) ∨ (114 ≤ p ∧ pm_k S p = 20 ∧ pm_z S p = 6)
def iv_qMat (S : pm_S) (p j : Nat) : Prop := p = 4 ∨ (114 ≤ p ∧ pm_k S p = 7 ∧ j = 16)
theorem iv_f_in {f : Nat} (h1 : 1 ≤ f) (h2 : f ≤ 13) : 62 ≤ iv_f f ∧ iv_f f ≤ 74 := by
  have : ∀ f, f ≤ 13 → 1 ≤ f → 62 ≤ iv_f f ∧ iv_f f ≤ 74 := by decide
  exact this f h2 h1
theorem iv_Mat.cg {A : iv_A} {S S' : pm_S} (h : iv_Mat A S) (hn : pm_n S ≤ pm_n S') (hk : ∀ p, p < pm_n S → pm_k S' p = pm_k S p ∧ pm_z S' p = pm_z S p) (hr : ∀ p j, iv_qMat S p j → pm_r S' p j = pm_r S p j) (hi : ∀ p j, iv_rMat S p j → pm_i S' p j = pm_i S p j) : iv_Mat A S' := by
  have r1 : ∀ p, 62 ≤ p → p ≤ 74 → pm_i S' p = pm_i S p := fun p h1 h2 => funext (fun j => hi p j (by unfold iv_rMat; omega))
  have r2 : pm_i S' 88 = pm_i S 88 := funext (fun j => hi 88 j (by unfold iv_rMat; omega))
  have e0 : pm_i S' 59 0 = pm_i S 59 0 := hi _ _ (by unfold iv_rMat; omega)
  have e4 : pm_i S' 59 4 = pm_i S 59 4 := hi _ _ (by unfold iv_rMat; omega)
  have e18 : pm_i S' 59 18 = pm_i S 59 18 := hi _ _ (by unfold iv_rMat; omega)
  have e24 : pm_i S' 59 24 = pm_i S 59 24 := hi _ _ (by unfold iv_rMat; omega)
  have ec : iv_c S' 18 = iv_c S 18 := by unfold iv_c; rw [e18]
  obtain ⟨h1, h2, h3, h4⟩ := h
  refine ⟨by rw [hi 0 4 (by unfold iv_rMat; omega), e18]; exact h1, by rw [e18]; exact h2, fun a ha => ?_, fun a ha hb => ?_⟩
  · rw [ec] at ha
    obtain ⟨⟨⟨m1, m2⟩, ⟨m3, m4, m5, m6⟩, ⟨m7, m8, m9, m10⟩, m11, m12, m13⟩, hok⟩ := h3 a ha
    refine ⟨⟨⟨?_, ?_⟩, ⟨m3, by omega, m5, by omega⟩, ⟨?_, ?_, ?_, m10⟩, ?_, fun f f1 f2 => ?_, fun g hg => ?_⟩, ?_⟩
    · rw [hr 4 a (Or.inl rfl)]; exact m1
    · rw [hr _ 16 (Or.inr ⟨m3, m7, rfl⟩)]; exact m2
    · rw [(hk _ m4).1]; exact m7
    · rw [(hk _ m6).1]; exact m8
    · rw [(hk _ m6).2]; exact m9
    · rw [hi _ 0 (by unfold iv_rMat; omega)]; exact m11
    · rw [hi _ f (by unfold iv_rMat; omega), r1 _ (iv_f_in f1 f2).1 (iv_f_in f1 f2).2]; exact m12 f f1 f2
    · rw [hi _ g (by unfold iv_rMat; omega), r2]; exact m13 g hg
    · unfold iv_mok at hok ⊢
      rw [r1 62 (by omega) (by omega), r1 63 (by omega) (by omega), r1 64 (by omega) (by omega), r1 65 (by omega) (by omega), r1 66 (by omega) (by omega), r1 67 (by omega) (by omega), r1 68 (by omega) (by omega), r1 69 (by omega) (by omega), r1 70 (by omega) (by omega), r1 71 (by omega) (by omega), r1 73 (by omega) (by omega), r1 74 (by omega) (by omega), r2, e0, e4, e24]
      exact hok
  · have := h4 a (by rw [← ec]; exact ha) hb
    unfold iv_mnew at this ⊢
    rw [r1 72 (by omega) (by omega), r1 73 (by omega) (by omega), r1 74 (by omega) (by omega), r2]
    exact this
def iv_rAct (S : pm_S) (p j : Nat) : Prop := (p = 0 ∧ j = 5) ∨ (p = 59 ∧ (j = 24 ∨ j = 18 ∨ j = 0)) ∨ (75 ≤ p ∧ p ≤ 79) ∨ (114 ≤ p ∧ pm_k S p = 0 ∧ j ≤ 4)
def iv_qAct (S : pm_S) (p j : Nat) : Prop := (114 ≤ p ∧ pm_k S p = 7 ∧ (j = 14 ∨ j = 15)) ∨ (114 ≤ p ∧ pm_k S p = 0 ∧ j = 5)
theorem iv_ch.cg {A : iv_A} {S S' : pm_S} : ∀ {L : List Nat} {r : Option Nat}, iv_ch A S r L → (∀ a, a ∈ L → pm_r S' (iv_a A a) 5 = pm_r S (iv_a A a) 5) → iv_ch A S' r L
  | [], _, h, _ => h
  | a :: L, r, h, hL => ⟨h.1, by rw [hL a List.mem_cons_self]; exact iv_ch.cg h.2 (fun b hb => hL b (List.mem_cons_of_mem _ hb))⟩
theorem iv_acts_lt {S : pm_S} {m a : Nat} (h : a ∈ iv_acts S m) : a < iv_c S 24 := List.mem_range.mp (List.mem_filter.mp h).1
theorem iv_Act.cg {A : iv_A} {S S' : pm_S} (h : iv_Act A S) (hM : iv_Mat A S) (hn : pm_n S ≤ pm_n S') (hk : ∀ p, p < pm_n S → pm_k S' p = pm_k S p ∧ pm_z S' p = pm_z S p) (hr : ∀ p j, iv_qAct S p j → pm_r S' p j = pm_r S p j) (hi : ∀ p j, iv_rAct S p j → pm_i S' p j = pm_i S p j) : iv_Act A S' := by
  have r1 : ∀ p, 75 ≤ p → p ≤ 79 → pm_i S' p = pm_i S p := fun p h1 h2 => funext (fun j => hi p j (by unfold iv_rAct; omega))
  have e0 : pm_i S' 59 0 = pm_i S 59 0 := hi _ _ (by unfold iv_rAct; omega)
  have e18 : pm_i S' 59 18 = pm_i S 59 18 := hi _ _ (by unfold iv_rAct; omega)
  have e24 : pm_i S' 59 24 = pm_i S 59 24 := hi _ _ (by unfold iv_rAct; omega)
  have ec : iv_c S' 18 = iv_c S 18 := by unfold iv_c; rw [e18]
  have ed : iv_c S' 24 = iv_c S 24 := by unfold iv_c; rw [e24]
  have eA : iv_acts S' = iv_acts S := by funext m; unfold iv_acts; rw [ed, r1 75 (by omega) (by omega)]
  obtain ⟨h1, h2, h3, h4⟩ := h
  refine ⟨by rw [hi 0 5 (by unfold iv_rAct; omega), e24]; exact h1, by rw [e24]; exact h2, fun a ha => ?_, fun m hm => ?_⟩
  · rw [ed] at ha
    obtain ⟨⟨a1, a2, a3⟩, ⟨b0, b1, b2, b3, b4⟩, rest⟩ := h3 a ha
    refine ⟨⟨a1, by omega, by rw [(hk _ a2).1]; exact a3⟩, ⟨?_, ?_, ?_, ?_, ?_⟩, ?_⟩
    · rw [hi _ 0 (by unfold iv_rAct; omega), r1 76 (by omega) (by omega)]; exact b0
    · rw [hi _ 1 (by unfold iv_rAct; omega), r1 77 (by omega) (by omega)]; exact b1
    · rw [hi _ 2 (by unfold iv_rAct; omega), r1 78 (by omega) (by omega)]; exact b2
    · rw [hi _ 3 (by unfold iv_rAct; omega), r1 79 (by omega) (by omega)]; exact b3
    · rw [hi _ 4 (by unfold iv_rAct; omega)]; exact b4
    · rw [r1 75 (by omega) (by omega), r1 76 (by omega) (by omega), r1 77 (by omega) (by omega), r1 78 (by omega) (by omega), r1 79 (by omega) (by omega), e18, e0]; exact rest
  · rw [ec] at hm
    obtain ⟨⟨⟨m1, m2⟩, ⟨m3, m4, m5, m6⟩, ⟨m7, m8, m9, m10⟩, _⟩, _⟩ := hM.2.2.1 m hm
    rw [eA, hr _ 14 (by unfold iv_qAct; omega), hr _ 15 (by unfold iv_qAct; omega)]
    refine ⟨iv_ch.cg (h4 m hm).1 (fun a ha => hr _ 5 ?_), (h4 m hm).2⟩
    obtain ⟨⟨a1, a2, a3⟩, _⟩ := h3 a (iv_acts_lt ha)
    unfold iv_qAct; omega
def iv_rLaw (S : pm_S) (p j : Nat) : Prop := (p = 14 ∧ j = 2) ∨ (p = 59 ∧ j = 31) ∨ (81 ≤ p ∧ p ≤ 84) ∨ p = 16 ∨ (17 ≤ p ∧ p ≤ 22) ∨ (pm_k S p = 5 ∧ (114 ≤ p ∨ p = 7)) ∨ (pm_k S p = 20 ∧ ¬ pm_z S p = 6 ∧ (114 ≤ p ∨ (8 ≤ p ∧ p ≤ 13)))
def iv_qLaw (S : pm_S) (p j : Nat) : Prop := p = 15 ∨ (p = 5 ∧ j = 3) ∨ (pm_k S p = 5 ∧ (114 ≤ p ∨ p = 7))
theorem iv_lrep.cg {S S' : pm_S} {p : Nat} {wq : Nat → Nat} {L : gx_L} (h : iv_lrep S p wq L) (h1 : pm_i S' p = pm_i S p) (h2 : ∀ q, q < 6 → pm_i S' (wq q) = pm_i S (wq q)) : iv_lrep S' p wq L := by
  unfold iv_lrep at h ⊢
  rw [h1, h2 0 (by omega), h2 1 (by omega), h2 2 (by omega), h2 3 (by omega), h2 4 (by omega), h2 5 (by omega)]
  exact h
theorem iv_Law.cg {A : iv_A} {S S' : pm_S} (h : iv_Law A S) (hn : pm_n S ≤ pm_n S') (hk : ∀ p, p < pm_n S → pm_k S' p = pm_k S p ∧ pm_z S' p = pm_z S p) (hr : ∀ p j, iv_qLaw S p j → pm_r S' p j = pm_r S p j) (hi : ∀ p j, iv_rLaw S p j → pm_i S' p j = pm_i S p j) : iv_Law A S' := by
  have r1 : ∀ p, 81 ≤ p → p ≤ 84 → pm_i S' p = pm_i S p := fun p h1 h2 => funext (fun j => hi p j (by unfold iv_rLaw; omega))
  have e31 : pm_i S' 59 31 = pm_i S 59 31 := hi _ _ (by unfold iv_rLaw; omega)
  have ec : iv_c S' 31 = iv_c S 31 := by unfold iv_c; rw [e31]
  have et : iv_txt S' = iv_txt S := by funext l i; unfold iv_txt; rw [r1 81 (by omega) (by omega)]
  obtain ⟨h1, h2, h3, h4, h5, h6⟩ := h
  refine ⟨by rw [hi 14 2 (by unfold iv_rLaw; omega), e31]; exact h1, by rw [e31]; exact h2, fun l hl => ?_, fun l hl => ?_, ?_, ?_⟩
  · rw [ec] at hl
    obtain ⟨c1, c2, c3, c4, c5⟩ := h3 l hl
    refine ⟨c1, by omega, by rw [(hk _ c2).1]; exact c3, c4, fun q hq => ?_⟩
    obtain ⟨d1, d2, d3, d4, d5, d6⟩ := c5 q hq
    exact ⟨by rw [hr _ _ (by unfold iv_qLaw; omega)]; exact d1, d2, by omega, by rw [(hk _ d3).1]; exact d4, by rw [(hk _ d3).2]; exact d5, d6⟩
  · rw [ec] at hl
    obtain ⟨c1, c2, c3, c4, c5⟩ := h3 l (Nat.le_of_lt hl)
    obtain ⟨d1, d2, d3, d4, d5, d6, d7, p, L, d8, d9⟩ := h4 l hl
    have ei : pm_i S' (iv_l A l) = pm_i S (iv_l A l) := funext (fun j => hi _ j (by unfold iv_rLaw; omega))
    refine ⟨by rw [hr 15 l (Or.inl rfl)]; exact d1, by rw [ei, r1 83 (by omega) (by omega)]; exact d2, by rw [ei, r1 84 (by omega) (by omega)]; exact d3, by rw [r1 83 (by omega) (by omega)]; exact d4, by rw [r1 84 (by omega) (by omega)]; exact d5, by rw [r1 82 (by omega) (by omega)]; exact d6, by rw [et, r1 82 (by omega) (by omega)]; exact d7, p, L, by rw [et, r1 82 (by omega) (by omega)]; exact d8, d9.cg ei (fun q hq => funext (fun j => hi _ j ?_))⟩
    obtain ⟨z1, z2, z3, z4, z5, z6⟩ := c5 q hq
    have : ¬ pm_z S (iv_w A l q) = 6 := by rw [z5]; split <;> omega
    unfold iv_rLaw; omega
  · rw [hr 5 3 (by unfold iv_qLaw; omega), ec]; exact h5
  · refine h6.cg (funext (fun j => hi 16 j (by unfold iv_rLaw; omega))) (fun q hq => funext (fun j => hi _ j (by unfold iv_rLaw; omega)))
def iv_rTp (p j : Nat) : Prop := (47 ≤ p ∧ p ≤ 57) ∨ p = 92 ∨ p = 93
def iv_lTp (p : Nat) : Prop := (48 ≤ p ∧ p ≤ 58) ∨ p = 94
theorem iv_Tp.cg {S S' : pm_S} (h : iv_Tp S) (hi : ∀ p j, iv_rTp p j → pm_i S' p j = pm_i S p j) (hl : ∀ p, iv_lTp p → pm_l S' p = pm_l S p) : iv_Tp S' := by
  intro t ht
  have := h t ht
  rw [hi (47 + 2 * t) 0 (by unfold iv_rTp; omega), hi (47 + 2 * t) 1 (by unfold iv_rTp; omega), hi 92 t (by unfold iv_rTp; omega), hi 93 t (by unfold iv_rTp; omega), hl (48 + 2 * t) (by unfold iv_lTp; omega), hl 94 (by unfold iv_lTp; omega)]
  exact this
/-! single writes -/
section FR
variable {A : iv_A} {S : pm_S} {p j : Nat}
theorem iv_Mat.wI {v : Int32} (hp : ¬ iv_rMat S p j) (h : iv_Mat A S) : iv_Mat A (pm_wI S p j v) := h.cg (Nat.le_refl _) (fun _ _ => ⟨rfl, rfl⟩) (fun _ _ _ => rfl) (fun p' j' hr => by rw [pm_i_wI, if_neg (fun z => hp (by rw [← z.1, ← z.2]; exact hr))])
theorem iv_Mat.wL {v : Int64} (h : iv_Mat A S) : iv_Mat A (pm_wL S p j v) := h
theorem iv_Mat.wM {f : Nat → Int64} (h : iv_Mat A S) : iv_Mat A (pm_wM S p f) := h
theorem iv_Act.wI {v : Int32} (hM : iv_Mat A S) (hp : ¬ iv_rAct S p j) (h : iv_Act A S) : iv_Act A (pm_wI S p j v) := h.cg hM (Nat.le_refl _) (fun _ _ => ⟨rfl, rfl⟩) (fun _ _ _ => rfl) (fun p' j' hr => by rw [pm_i_wI, if_neg (fun z => hp (by rw [← z.1, ← z.2]; exact hr))])
theorem iv_Act.wL {v : Int64} (h : iv_Act A S) : iv_Act A (pm_wL S p j v) := by
  obtain ⟨h1, h2, h3, h4⟩ := h
  exact ⟨h1, h2, h3, fun m hm => ⟨iv_ch.cg (h4 m hm).1 (fun _ _ => rfl), (h4 m hm).2⟩⟩
theorem iv_Act.wM {f : Nat → Int64} (h : iv_Act A S) : iv_Act A (pm_wM S p f) := by
  obtain ⟨h1, h2, h3, h4⟩ := h
  exact ⟨h1, h2, h3, fun m hm => ⟨iv_ch.cg (h4 m hm).1 (fun _ _ => rfl), (h4 m hm).2⟩⟩
theorem iv_Law.wI {v : Int32} (hp : ¬ iv_rLaw S p j) (h : iv_Law A S) : iv_Law A (pm_wI S p j v) := h.cg (Nat.le_refl _) (fun _ _ => ⟨rfl, rfl⟩) (fun _ _ _ => rfl) (fun p' j' hr => by rw [pm_i_wI, if_neg (fun z => hp (by rw [← z.1, ← z.2]; exact hr))])
theorem iv_Law.wL {v : Int64} (h : iv_Law A S) : iv_Law A (pm_wL S p j v) := h
theorem iv_Law.wM {f : Nat → Int64} (h : iv_Law A S) : iv_Law A (pm_wM S p f) := h
theorem iv_Tp.wI {v : Int32} (hp : ¬ iv_rTp p j) (h : iv_Tp S) : iv_Tp (pm_wI S p j v) := h.cg (fun p' j' hr => by rw [pm_i_wI, if_neg (fun z => hp (by rw [← z.1, ← z.2]; exact hr))]) (fun _ _ => rfl)
theorem iv_Tp.wL {v : Int64} (hp : ¬ iv_lTp p) (h : iv_Tp S) : iv_Tp (pm_wL S p j v) := h.cg (fun _ _ _ => rfl) (fun p' hr => pm_l_wL_ne (fun z => hp (by rw [← z]; exact hr)))
theorem iv_Tp.wM {f : Nat → Int64} (hp : ¬ iv_lTp p) (h : iv_Tp S) : iv_Tp (pm_wM S p f) := h.cg (fun _ _ _ => rfl) (fun p' hr => by rw [pm_l_wM, if_neg (fun z => hp (by rw [← z]; exact hr))])
end FR
/-! the invariant's pieces by name -/
section IP
variable {A : iv_A} {S : pm_S}
theorem Inv.sh (h : Inv A S) : Sh S := h.1
theorem Inv.day (h : Inv A S) : iv_Day S := h.2.1
theorem Inv.per (h : Inv A S) : iv_Per S := h.2.2.1
theorem Inv.mat (h : Inv A S) : iv_Mat A S := h.2.2.2.1
theorem Inv.act (h : Inv A S) : iv_Act A S := h.2.2.2.2.1
theorem Inv.txt (h : Inv A S) : iv_Txt S := h.2.2.2.2.2.1
theorem Inv.law (h : Inv A S) : iv_Law A S := h.2.2.2.2.2.2.1
theorem Inv.cau (h : Inv A S) : iv_Cau S := h.2.2.2.2.2.2.2.1
theorem Inv.red (h : Inv A S) : iv_Red S := h.2.2.2.2.2.2.2.2.1
theorem Inv.rep (h : Inv A S) : iv_Rep S := h.2.2.2.2.2.2.2.2.2.1
theorem Inv.wk (h : Inv A S) : iv_Wk S := h.2.2.2.2.2.2.2.2.2.2.1
theorem Inv.tp (h : Inv A S) : iv_Tp S := h.2.2.2.2.2.2.2.2.2.2.2.1
theorem Inv.tr (h : Inv A S) : iv_Tr S := h.2.2.2.2.2.2.2.2.2.2.2.2
theorem Inv.e1_0 (h : Inv A S) : pm_i S 1 0 = pm_i S 59 0 := h.day.1
theorem Inv.e2 (h : Inv A S) : pm_i S 2 = pm_i S 60 := h.day.2.2.1
theorem Inv.e1_2 (h : Inv A S) : pm_i S 1 2 = pm_i S 59 2 := h.day.2.2.2.1
theorem Inv.e0_2 (h : Inv A S) : pm_i S 0 2 = pm_i S 59 4 := h.per.1
theorem Inv.e3 (h : Inv A S) : pm_i S 3 = pm_i S 61 := h.per.2.2.1
theorem Inv.e0_4 (h : Inv A S) : pm_i S 0 4 = pm_i S 59 18 := h.mat.1
theorem Inv.e0_5 (h : Inv A S) : pm_i S 0 5 = pm_i S 59 24 := h.act.1
theorem Inv.e5_1 (h : Inv A S) : pm_i S 5 1 = pm_i S 59 26 := h.txt.1
theorem Inv.e6 (h : Inv A S) : pm_i S 6 = pm_i S 80 := h.txt.2.2.1
theorem Inv.e14_2 (h : Inv A S) : pm_i S 14 2 = pm_i S 59 31 := h.law.1
theorem Inv.e28_0 (h : Inv A S) : pm_i S 28 0 = pm_i S 59 35 := h.cau.1
theorem Inv.e29 (h : Inv A S) : pm_i S 29 = pm_i S 85 := h.cau.2.2.1.1
theorem Inv.e30 (h : Inv A S) : pm_i S 30 = pm_i S 86 := h.cau.2.2.1.2.1
theorem Inv.e31 (h : Inv A S) : pm_i S 31 = pm_i S 87 := h.cau.2.2.1.2.2
theorem Inv.e0_10 (h : Inv A S) : pm_i S 0 10 = pm_i S 59 37 := h.red
theorem Inv.e33_0 (h : Inv A S) : pm_i S 33 0 = pm_i S 59 79 := h.rep.1
theorem Inv.e38_0 (h : Inv A S) : pm_i S 38 0 = pm_i S 59 41 := h.wk.1
theorem Inv.e39 (h : Inv A S) : pm_i S 39 = pm_i S 89 := h.wk.2.2.1.1
theorem Inv.e40 (h : Inv A S) : pm_i S 40 = pm_i S 90 := h.wk.2.2.1.2.1
theorem Inv.e41 (h : Inv A S) : pm_i S 41 = pm_i S 91 := h.wk.2.2.1.2.2
theorem Inv.e44_0 (h : Inv A S) : pm_i S 44 0 = pm_i S 59 85 := h.tr.1
theorem Inv.e45 (h : Inv A S) : pm_i S 45 = pm_i S 112 := h.tr.2.2
theorem Inv.b18 (h : Inv A S) : 0 ≤ pm_i S 59 18 ∧ pm_i S 59 18 ≤ 40 := h.mat.2.1
theorem Inv.row (h : Inv A S) {a : Nat} (ha : a < iv_c S 18) : iv_mrow A S a := (h.mat.2.2.1 a ha).1
theorem Inv.ok (h : Inv A S) {a : Nat} (ha : a < iv_c S 18) : iv_mok S a := (h.mat.2.2.1 a ha).2
theorem iv_mrow.r {a : Nat} (h : iv_mrow A S a) : pm_r S 4 a = some (iv_m A a) := h.1.1
theorem iv_mrow.rg {a : Nat} (h : iv_mrow A S a) : pm_r S (iv_m A a) 16 = some (iv_g A a) := h.1.2
theorem iv_mrow.lo {a : Nat} (h : iv_mrow A S a) : 114 ≤ iv_m A a := h.2.1.1
theorem iv_mrow.ne {a : Nat} (h : iv_mrow A S a) {q : Nat} (hq : q < 114) : (q = iv_m A a) = False := eq_false (fun e => by have := h.2.1.1; omega)
theorem iv_mrow.en {a : Nat} (h : iv_mrow A S a) {q : Nat} (hq : q < 114) : (iv_m A a = q) = False := eq_false (fun e => by have := h.2.1.1; omega)
theorem iv_mrow.k {a : Nat} (h : iv_mrow A S a) : pm_k S (iv_m A a) = 7 := h.2.2.1.1
theorem iv_mrow.kg {a : Nat} (h : iv_mrow A S a) : pm_k S (iv_g A a) = 20 := h.2.2.1.2.1
theorem iv_mrow.zg {a : Nat} (h : iv_mrow A S a) : pm_z S (iv_g A a) = 6 := h.2.2.1.2.2.1
theorem iv_mrow.f0 {a : Nat} (h : iv_mrow A S a) : pm_i S (iv_m A a) 0 = nI a := h.2.2.2.1
theorem iv_mrow.f1 {a : Nat} (h : iv_mrow A S a) : pm_i S (iv_m A a) 1 = pm_i S 63 a := h.2.2.2.2.1 1 (by omega) (by omega)
theorem iv_mrow.f2 {a : Nat} (h : iv_mrow A S a) : pm_i S (iv_m A a) 2 = pm_i S 64 a := h.2.2.2.2.1 2 (by omega) (by omega)
theorem iv_mrow.f3 {a : Nat} (h : iv_mrow A S a) : pm_i S (iv_m A a) 3 = pm_i S 65 a := h.2.2.2.2.1 3 (by omega) (by omega)
theorem iv_mrow.f4 {a : Nat} (h : iv_mrow A S a) : pm_i S (iv_m A a) 4 = pm_i S 66 a := h.2.2.2.2.1 4 (by omega) (by omega)
theorem iv_mrow.f5 {a : Nat} (h : iv_mrow A S a) : pm_i S (iv_m A a) 5 = pm_i S 67 a := h.2.2.2.2.1 5 (by omega) (by omega)
theorem iv_mrow.f6 {a : Nat} (h : iv_mrow A S a) : pm_i S (iv_m A a) 6 = pm_i S 62 a := h.2.2.2.2.1 6 (by omega) (by omega)
theorem iv_mrow.f7 {a : Nat} (h : iv_mrow A S a) : pm_i S (iv_m A a) 7 = pm_i S 68 a := h.2.2.2.2.1 7 (by omega) (by omega)
theorem iv_mrow.f8 {a : Nat} (h : iv_mrow A S a) : pm_i S (iv_m A a) 8 = pm_i S 69 a := h.2.2.2.2.1 8 (by omega) (by omega)
theorem iv_mrow.f9 {a : Nat} (h : iv_mrow A S a) : pm_i S (iv_m A a) 9 = pm_i S 70 a := h.2.2.2.2.1 9 (by omega) (by omega)
theorem iv_mrow.f10 {a : Nat} (h : iv_mrow A S a) : pm_i S (iv_m A a) 10 = pm_i S 71 a := h.2.2.2.2.1 10 (by omega) (by omega)
theorem iv_mrow.f11 {a : Nat} (h : iv_mrow A S a) : pm_i S (iv_m A a) 11 = pm_i S 72 a := h.2.2.2.2.1 11 (by omega) (by omega)
theorem iv_mrow.f12 {a : Nat} (h : iv_mrow A S a) : pm_i S (iv_m A a) 12 = pm_i S 73 a := h.2.2.2.2.1 12 (by omega) (by omega)
theorem iv_mrow.f13 {a : Nat} (h : iv_mrow A S a) : pm_i S (iv_m A a) 13 = pm_i S 74 a := h.2.2.2.2.1 13 (by omega) (by omega)
theorem iv_mrow.gr {a : Nat} (h : iv_mrow A S a) {g : Nat} (hg : g < 6) : pm_i S (iv_g A a) g = pm_i S 88 (40 * g + a) := h.2.2.2.2.2 g hg
end IP
/-- a pair of calls: both answer alike, and the invariant stands -/
def pv_end (A : iv_A) (r r' : Int32) (S : pm_S) : Prop := r' = r ∧ ∃ A', Inv A' S
def pv_endL (A : iv_A) (r r' : Int64) (S : pm_S) : Prop := r' = r ∧ ∃ A', Inv A' S
