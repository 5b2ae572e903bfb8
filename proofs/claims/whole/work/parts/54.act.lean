theorem lf_108x {G : pm_G} {d : Nat} {A : iv_A} {S S' : pm_S} {v : Int32} {q : Option Nat → pm_S → Prop} (hI : Inv A S) (hS : Sh S') (e1 : pm_i S' 0 4 = pm_i S 59 18) (e2 : pm_r S' 4 = pm_r S 4) (h1 : 0 ≤ v ∧ v < pm_i S 59 18 → v.toNatClampNeg < iv_c S 18 → iv_mrow A S v.toNatClampNeg → q (some (iv_m A v.toNatClampNeg)) S') (h0 : ¬ (0 ≤ v ∧ v < pm_i S 59 18) → q none S') : pm_CR G d 108 [.ref 0, .int v] S' q := by
  obtain ⟨b1, b2⟩ := hI.b18
  refine pm_goR 108 40 pb_c108 (by decide) (Nat.le_of_ble_eq_true rfl) rfl ?_
  simp only [show pm_mL 108 = 2 from rfl, pm_WI0, pm_WI1, pm_WI2, pm_WI3, pm_WI4, pm_WI5, pm_WV, pm_WW, pm_WX, pb_B108, pm_if, pm_QI_at, pm_QL_at, pm_QV_at, pm_QR_at, pm_QR_at0, pm_QR_at1, Nat.reduceSub, Nat.reduceAdd, List.replicate_zero, List.replicate_succ, true_and, and_true, true_or, or_true, and_self, reduceIte, Nat.reduceEqDiff, Nat.reduceLT, Nat.reduceLeDiff, Nat.reduceMul, false_and, and_false, reduceCtorEq, false_or, or_false, not_true_eq_false, not_false_eq_true, true_implies, false_implies, implies_true, lf_10, eq_self, Int32.reduceLT, Int32.reduceLE, Int32.reduceAdd, Int32.reduceSub, pm_same, pm_i_wI, pm_l_wL, pm_l_wM, pm_oR_rf, pm_oQ_rf, sh_k0 hS, sh_r0_3 hS, sh_k4 hS, sh_z4 hS, e1]
  repeat' (first | with_reducible refine ⟨fun _ => ?_, fun _ => ?_⟩ | with_reducible refine ⟨?_, ?_⟩ | fail)
  all_goals first | omega | exact iv_vp 40 (by lia) (by lia) b2 (by decide) | (refine h0 ?_; lia) | skip
  · have hv : 0 ≤ v ∧ v < pm_i S 59 18 := by lia
    have ha := iv_lt hv.1 hv.2
    rw [e2, (hI.row ha).r]
    exact h1 hv ha (hI.row ha)
theorem pm_wI_comm {S : pm_S} {p q j k : Nat} {v u : Int32} (h : ¬ (p = q ∧ j = k)) : pm_wI (pm_wI S p j v) q k u = pm_wI (pm_wI S q k u) p j v := by
  unfold pm_wI
  have : va_up (va_up S.2.2.2.1 p (va_up (S.2.2.2.1 p) j v)) q (va_up (va_up S.2.2.2.1 p (va_up (S.2.2.2.1 p) j v) q) k u) = va_up (va_up S.2.2.2.1 q (va_up (S.2.2.2.1 q) k u)) p (va_up (va_up S.2.2.2.1 q (va_up (S.2.2.2.1 q) k u) p) j v) := by
    funext x y
    simp only [va_up]
    by_cases hx : x = p
    · subst hx
      by_cases hxq : x = q
      · subst hxq
        have hjk : ¬ j = k := fun e => h ⟨rfl, e⟩
        have hkj : ¬ k = j := fun e => h ⟨rfl, e.symm⟩
        by_cases hy : y = j
        · subst hy; simp [va_up, hjk]
        · by_cases hyk : y = k
          · subst hyk; simp [va_up, hkj]
          · simp [va_up, hy, hyk]
      · have hqx : ¬ q = x := fun e => hxq e.symm
        simp [va_up, hxq, hqx]
    · have hpx : ¬ p = x := fun e => hx e.symm
      by_cases hxq : x = q
      · subst hxq; simp [va_up, hx, hpx]
      · simp [va_up, hx, hxq]
  simp only [this]
/-- the state behind an act() -/
def dq_T (S : pm_S) (m : Int32) (L : List Int32) : pm_S := dq_R (pm_wI (dq_R S 44 0 45 L) 59 86 m) 59 85 112 L
theorem dq_T_i {S : pm_S} {m : Int32} {L : List Int32} {p j : Nat} (h1 : ¬ (p = 44 ∧ j = 0)) (h2 : p ≠ 45) (h3 : ¬ (p = 59 ∧ (j = 85 ∨ j = 86))) (h4 : p ≠ 112) : pm_i (dq_T S m L) p j = pm_i S p j := by
  unfold dq_T
  have e1 : pm_i (dq_R (pm_wI (dq_R S 44 0 45 L) 59 86 m) 59 85 112 L) p j = pm_i (dq_R S 44 0 45 L) p j := by
    by_cases hp : p = 59
    · subst hp
      rw [dq_j (by omega) (by decide), pm_i_wI, if_neg (by omega)]
    · rw [dq_i hp h4, pm_i_wI_ne hp]
  rw [e1]
  by_cases hp : p = 44
  · subst hp; rw [dq_j (by omega) (by decide)]
  · rw [dq_i hp h2]
theorem iv_act {A : iv_A} {S : pm_S} {m : Int32} {L : List Int32} (hl : L.length ≤ 100) (hI : Inv A S) : Inv A (dq_T S m L) := by
  have hn : pm_n (dq_T S m L) = pm_n S := (dq_n L).trans (dq_n L)
  have hk : pm_k (dq_T S m L) = pm_k S := (dq_k L).trans (dq_k L)
  have hz : pm_z (dq_T S m L) = pm_z S := (dq_z L).trans (dq_z L)
  have hr : pm_r (dq_T S m L) = pm_r S := (dq_r L).trans (dq_r L)
  have hL : pm_l (dq_T S m L) = pm_l S := (dq_l L).trans (dq_l L)
  have n1 : pm_n S ≤ pm_n (dq_T S m L) := by rw [hn]; exact Nat.le_refl _
  have n2 : ∀ p, p < pm_n S → pm_k (dq_T S m L) p = pm_k S p ∧ pm_z (dq_T S m L) p = pm_z S p := fun p _ => by rw [hk, hz]; exact ⟨rfl, rfl⟩
  have n3 : ∀ p j, pm_r (dq_T S m L) p j = pm_r S p j := fun p j => by rw [hr]
  refine ⟨hI.sh.same hn hk hz hr, ?_, ?_, ?_, ?_, ?_, ?_, ?_, ?_, ?_, ?_, ?_, ?_⟩
  · exact hI.day.cg (fun p j hr => dq_T_i (by unfold iv_rDay at hr; omega) (by unfold iv_rDay at hr; omega) (by unfold iv_rDay at hr; omega) (by unfold iv_rDay at hr; omega))
  · exact hI.per.cg (fun p j hr => dq_T_i (by unfold iv_rPer at hr; omega) (by unfold iv_rPer at hr; omega) (by unfold iv_rPer at hr; omega) (by unfold iv_rPer at hr; omega))
  · exact hI.mat.cg n1 n2 (fun p j _ => n3 p j) (fun p j hr => dq_T_i (by unfold iv_rMat at hr; omega) (by unfold iv_rMat at hr; omega) (by unfold iv_rMat at hr; omega) (by unfold iv_rMat at hr; omega))
  · exact hI.act.cg hI.mat n1 n2 (fun p j _ => n3 p j) (fun p j hr => dq_T_i (by unfold iv_rAct at hr; omega) (by unfold iv_rAct at hr; omega) (by unfold iv_rAct at hr; omega) (by unfold iv_rAct at hr; omega))
  · exact hI.txt.cg (fun p j hr => dq_T_i (by unfold iv_rTxt at hr; omega) (by unfold iv_rTxt at hr; omega) (by unfold iv_rTxt at hr; omega) (by unfold iv_rTxt at hr; omega))
  · exact hI.law.cg n1 n2 (fun p j _ => n3 p j) (fun p j hr => dq_T_i (by unfold iv_rLaw at hr; omega) (by unfold iv_rLaw at hr; omega) (by unfold iv_rLaw at hr; omega) (by unfold iv_rLaw at hr; omega))
  · exact hI.cau.cg (fun p j hr => dq_T_i (by unfold iv_rCau at hr; omega) (by unfold iv_rCau at hr; omega) (by unfold iv_rCau at hr; omega) (by unfold iv_rCau at hr; omega))
  · exact hI.red.cg (fun p j hr => dq_T_i (by unfold iv_rRed at hr; omega) (by unfold iv_rRed at hr; omega) (by unfold iv_rRed at hr; omega) (by unfold iv_rRed at hr; omega))
  · exact hI.rep.cg (fun p j hr => dq_T_i (by unfold iv_rRep at hr; omega) (by unfold iv_rRep at hr; omega) (by unfold iv_rRep at hr; omega) (by unfold iv_rRep at hr; omega))
  · exact hI.wk.cg (fun p j hr => dq_T_i (by unfold iv_rWk at hr; omega) (by unfold iv_rWk at hr; omega) (by unfold iv_rWk at hr; omega) (by unfold iv_rWk at hr; omega))
  · exact hI.tp.cg (fun p j hr => dq_T_i (by unfold iv_rTp at hr; omega) (by unfold iv_rTp at hr; omega) (by unfold iv_rTp at hr; omega) (by unfold iv_rTp at hr; omega)) (fun p _ => by rw [hL])
  · have e44 : pm_i (dq_T S m L) 44 0 = nI L.length := by
      unfold dq_T; rw [dq_i (by decide) (by decide), pm_i_wI_ne (by decide)]; exact dq_f (by decide) L
    have e85 : pm_i (dq_T S m L) 59 85 = nI L.length := dq_f (by decide) L
    have e45 : pm_i (dq_T S m L) 45 = pm_i (dq_R S 44 0 45 L) 45 := by
      unfold dq_T; rw [dq_i (by decide) (by decide), pm_i_wI_ne (by decide)]
    refine ⟨by rw [e44, e85], ?_, ?_⟩
    · rw [e85]; exact ⟨nI_pos' (by omega), nI_le (b := 1000) (by omega) (by omega)⟩
    · rw [e45]
      exact (dq_row 0 85 (r := 45) (o := 44) (S := S) (by decide) (by decide) (by rw [pm_i_wI_ne (by decide), dq_i (by decide) (by decide)]; exact hI.e45.symm) L).symm
theorem da_27 {G : pm_G} {d p : Nat} {S : pm_S} {k x : Int32} {q : Int32 → pm_S → Prop} (hd : 38 ≤ d) (hS : Sh S) (hp : 114 ≤ p) (hk : pm_k S p = 7) (hk8 : 0 ≤ k ∧ k ≤ 6) (h : q (ws_v (pm_i S p 0) (pm_i S p 2) k x) (dq_R S 44 0 45 (ws_l k ++ []))) : pm_CI G d 27 [.ref 44, .ref p, .int k, .int x] (pm_wI S 44 0 0) q :=
  dw_27 (R := []) (by omega) hS hp hk hk8 (by simp) h
theorem da_252 {G : pm_G} {d : Nat} {S T : pm_S} {m k x : Int32} {q : Int32 → pm_S → Prop} (hd : 38 ≤ d) (hS : Sh T) (hm : vp_in m 40) (h62 : pm_i T 62 = pm_i S 62) (h64 : pm_i T 64 = pm_i S 64) (h65 : pm_i T 65 = pm_i S 65) (hk8 : 0 ≤ k ∧ k ≤ 6) (h : q (ws_v m (pm_i S 64 m.toNatClampNeg) k x) (dq_R (pm_wI T 59 86 m) 59 85 112 (ws_l k ++ []))) : pm_CI G d 252 [.ref 59, .int k, .int x] (pm_wI (pm_wI T 59 85 0) 59 86 m) q := by
  rw [pm_wI_comm (by decide)]
  have e86 : pm_i (pm_wI T 59 86 m) 59 86 = m := by rw [pm_i_wI]; simp
  have e62 : pm_i (pm_wI T 59 86 m) 62 = pm_i S 62 := by rw [pm_i_wI_ne (by decide)]; exact h62
  have e64 : pm_i (pm_wI T 59 86 m) 64 = pm_i S 64 := by rw [pm_i_wI_ne (by decide)]; exact h64
  have e65 : pm_i (pm_wI T 59 86 m) 65 = pm_i S 65 := by rw [pm_i_wI_ne (by decide)]; exact h65
  refine dw_252 (S := pm_wI T 59 86 m) (R := []) (by omega) hS (by rw [e86]; exact hm) hk8 (by simp) ?_
  rw [e86, e64]
  exact h
theorem da_29 {G : pm_G} {d p : Nat} {S : pm_S} {k x : Int32} {q : Int32 → pm_S → Prop} (hd : 38 ≤ d) (hS : Sh S) (hp : 114 ≤ p) (hk : pm_k S p = 7) (hk7 : 0 ≤ pm_i S p 6 ∧ pm_i S p 6 ≤ 6) (hk8 : 0 ≤ k ∧ k ≤ 6) (h : q (bs_v (pm_i S p 0) (pm_i S p 2) (pm_i S p 6) k x) (dq_R S 44 0 45 (bs_l (pm_i S p 6) k ++ []))) : pm_CI G d 29 [.ref 44, .ref p, .int k, .int x] (pm_wI S 44 0 0) q :=
  db_29 (R := []) (by omega) hS hp hk hk7 hk8 (by simp) h
theorem da_255 {G : pm_G} {d : Nat} {S T : pm_S} {m k x : Int32} {q : Int32 → pm_S → Prop} (hd : 38 ≤ d) (hS : Sh T) (hm : vp_in m 40) (h62 : pm_i T 62 = pm_i S 62) (h64 : pm_i T 64 = pm_i S 64) (h65 : pm_i T 65 = pm_i S 65) (hk7 : 0 ≤ (pm_i S 62 m.toNatClampNeg) ∧ (pm_i S 62 m.toNatClampNeg) ≤ 6) (hk8 : 0 ≤ k ∧ k ≤ 6) (h : q (bs_v m (pm_i S 64 m.toNatClampNeg) (pm_i S 62 m.toNatClampNeg) k x) (dq_R (pm_wI T 59 86 m) 59 85 112 (bs_l (pm_i S 62 m.toNatClampNeg) k ++ []))) : pm_CI G d 255 [.ref 59, .int k, .int x] (pm_wI (pm_wI T 59 85 0) 59 86 m) q := by
  rw [pm_wI_comm (by decide)]
  have e86 : pm_i (pm_wI T 59 86 m) 59 86 = m := by rw [pm_i_wI]; simp
  have e62 : pm_i (pm_wI T 59 86 m) 62 = pm_i S 62 := by rw [pm_i_wI_ne (by decide)]; exact h62
  have e64 : pm_i (pm_wI T 59 86 m) 64 = pm_i S 64 := by rw [pm_i_wI_ne (by decide)]; exact h64
  have e65 : pm_i (pm_wI T 59 86 m) 65 = pm_i S 65 := by rw [pm_i_wI_ne (by decide)]; exact h65
  refine db_255 (S := pm_wI T 59 86 m) (R := []) (by omega) hS (by rw [e86]; exact hm) (by rw [e86, e62]; exact hk7) hk8 (by simp) ?_
  rw [e86, e64, e62]
  exact h
theorem da_30 {G : pm_G} {d p : Nat} {S : pm_S} {k x : Int32} {q : Int32 → pm_S → Prop} (hd : 38 ≤ d) (hS : Sh S) (hp : 114 ≤ p) (hk : pm_k S p = 7) (hk7 : 0 ≤ pm_i S p 6 ∧ pm_i S p 6 ≤ 6) (hk8 : 0 ≤ k ∧ k ≤ 6) (h : q (ss_v (pm_i S p 0) (pm_i S p 2) (pm_i S p 3) (pm_i S p 6) k x) (dq_R S 44 0 45 (ss_l (pm_i S p 6) k ++ []))) : pm_CI G d 30 [.ref 44, .ref p, .int k, .int x] (pm_wI S 44 0 0) q :=
  ds_30 (R := []) (by omega) hS hp hk hk7 hk8 (by simp) h
theorem da_256 {G : pm_G} {d : Nat} {S T : pm_S} {m k x : Int32} {q : Int32 → pm_S → Prop} (hd : 38 ≤ d) (hS : Sh T) (hm : vp_in m 40) (h62 : pm_i T 62 = pm_i S 62) (h64 : pm_i T 64 = pm_i S 64) (h65 : pm_i T 65 = pm_i S 65) (hk7 : 0 ≤ (pm_i S 62 m.toNatClampNeg) ∧ (pm_i S 62 m.toNatClampNeg) ≤ 6) (hk8 : 0 ≤ k ∧ k ≤ 6) (h : q (ss_v m (pm_i S 64 m.toNatClampNeg) (pm_i S 65 m.toNatClampNeg) (pm_i S 62 m.toNatClampNeg) k x) (dq_R (pm_wI T 59 86 m) 59 85 112 (ss_l (pm_i S 62 m.toNatClampNeg) k ++ []))) : pm_CI G d 256 [.ref 59, .int k, .int x] (pm_wI (pm_wI T 59 85 0) 59 86 m) q := by
  rw [pm_wI_comm (by decide)]
  have e86 : pm_i (pm_wI T 59 86 m) 59 86 = m := by rw [pm_i_wI]; simp
  have e62 : pm_i (pm_wI T 59 86 m) 62 = pm_i S 62 := by rw [pm_i_wI_ne (by decide)]; exact h62
  have e64 : pm_i (pm_wI T 59 86 m) 64 = pm_i S 64 := by rw [pm_i_wI_ne (by decide)]; exact h64
  have e65 : pm_i (pm_wI T 59 86 m) 65 = pm_i S 65 := by rw [pm_i_wI_ne (by decide)]; exact h65
  refine ds_256 (S := pm_wI T 59 86 m) (R := []) (by omega) hS (by rw [e86]; exact hm) (by rw [e86, e62]; exact hk7) hk8 (by simp) ?_
  rw [e86, e64, e65, e62]
  exact h
