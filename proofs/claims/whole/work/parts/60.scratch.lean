/-! SCRATCH: cells that no later call reads -/
def sc_q (S : pm_S) (p j : Nat) : Prop := (p = 5 ∧ j = 2) ∨ (p = 14 ∧ j = 4) ∨ (23 ≤ p ∧ p ≤ 27) ∨ p = 37 ∨ p = 42 ∨ (114 ≤ p ∧ pm_k S p = 7 ∧ j = 17) ∨ (p = 59 ∧ ((45 ≤ j ∧ j ≤ 63) ∨ (68 ≤ j ∧ j ≤ 70) ∨ j = 82 ∨ j = 83 ∨ j = 86)) ∨ (95 ≤ p ∧ p ≤ 102) ∨ p = 107 ∨ p = 108 ∨ p = 110 ∨ p = 111
def sc_l (p : Nat) : Prop := p = 32 ∨ p = 43 ∨ p = 113
def sc (S S' : pm_S) : Prop := (pm_n S' = pm_n S ∧ pm_k S' = pm_k S ∧ pm_z S' = pm_z S ∧ pm_r S' = pm_r S) ∧ (∀ p j, ¬ sc_q S p j → pm_i S' p j = pm_i S p j) ∧ ∀ p, ¬ sc_l p → pm_l S' p = pm_l S p
section SCS
variable {S T U : pm_S}
theorem sc.rf : sc S S := ⟨⟨rfl, rfl, rfl, rfl⟩, fun _ _ _ => rfl, fun _ _ => rfl⟩
theorem sc_q_k (h : pm_k T = pm_k S) {p j : Nat} : sc_q T p j ↔ sc_q S p j := by unfold sc_q; rw [h]
theorem sc.tr (h : sc S T) (h' : sc T U) : sc S U :=
  ⟨⟨h'.1.1.trans h.1.1, h'.1.2.1.trans h.1.2.1, h'.1.2.2.1.trans h.1.2.2.1, h'.1.2.2.2.trans h.1.2.2.2⟩,
    fun p j hq => (h'.2.1 p j (fun z => hq ((sc_q_k h.1.2.1).mp z))).trans (h.2.1 p j hq), fun p hp => (h'.2.2 p hp).trans (h.2.2 p hp)⟩
theorem sc.wI {p j : Nat} {v : Int32} (h : sc S T) (hq : sc_q S p j) : sc S (pm_wI T p j v) :=
  ⟨h.1, fun p' j' hq' => by rw [pm_i_wI, if_neg (fun z => hq' (by rw [z.1, z.2]; exact hq))]; exact h.2.1 p' j' hq', h.2.2⟩
theorem sc.wL {p j : Nat} {v : Int64} (h : sc S T) (hq : sc_l p) : sc S (pm_wL T p j v) :=
  ⟨h.1, h.2.1, fun p' hp => by rw [pm_l_wL_ne (fun e => hp (by rw [e]; exact hq))]; exact h.2.2 p' hp⟩
theorem sc.cI {p j : Nat} {v : Int32} (h : sc S T) : sc (pm_wI S p j v) (pm_wI T p j v) :=
  ⟨h.1, fun p' j' hq => by
    rw [pm_i_wI, pm_i_wI]
    split
    · rfl
    · exact h.2.1 p' j' hq, h.2.2⟩
theorem sc.cL {p j : Nat} {v : Int64} (h : sc S T) : sc (pm_wL S p j v) (pm_wL T p j v) :=
  ⟨h.1, h.2.1, fun p' hp => by
    by_cases e : p' = p
    · subst e; rw [pm_l_wL_eq, pm_l_wL_eq, h.2.2 p' hp]
    · rw [pm_l_wL_ne e, pm_l_wL_ne e]; exact h.2.2 p' hp⟩
theorem sc.cR {p j : Nat} {v : Option Nat} (h : sc S T) : sc (pm_wR S p j v) (pm_wR T p j v) := by
  refine ⟨⟨h.1.1, h.1.2.1, h.1.2.2.1, ?_⟩, h.2.1, h.2.2⟩
  funext p' j'
  rw [pm_r_wR, pm_r_wR, h.1.2.2.2]
theorem sc.n (h : sc S T) : pm_n T = pm_n S := h.1.1
theorem sc.k (h : sc S T) : pm_k T = pm_k S := h.1.2.1
theorem sc.z (h : sc S T) : pm_z T = pm_z S := h.1.2.2.1
theorem sc.r (h : sc S T) : pm_r T = pm_r S := h.1.2.2.2
theorem sc.row (h : sc S T) {p : Nat} (hp : ∀ j, ¬ sc_q S p j) : pm_i T p = pm_i S p := funext (fun j => h.2.1 p j (hp j))
theorem sc.sh (h : sc S T) (hS : Sh S) : Sh T := hS.same h.n h.k h.z h.r
theorem Inv.sc {A : iv_A} (hI : Inv A S) (h : sc S T) : Inv A T := by
  have hn : pm_n S ≤ pm_n T := by rw [h.n]; exact Nat.le_refl _
  have hk : ∀ p, p < pm_n S → pm_k T p = pm_k S p ∧ pm_z T p = pm_z S p := fun p _ => by rw [h.k, h.z]; exact ⟨rfl, rfl⟩
  have hr : ∀ p j, pm_r T p j = pm_r S p j := fun p j => by rw [h.r]
  refine ⟨h.sh hI.sh, ?_, ?_, ?_, ?_, ?_, ?_, ?_, ?_, ?_, ?_, ?_, ?_⟩
  · exact hI.day.cg (fun p j hr => h.2.1 p j (by unfold iv_rDay at hr; unfold sc_q; omega))
  · exact hI.per.cg (fun p j hr => h.2.1 p j (by unfold iv_rPer at hr; unfold sc_q; omega))
  · exact hI.mat.cg hn hk (fun p j _ => hr p j) (fun p j hr => h.2.1 p j (by unfold iv_rMat at hr; unfold sc_q; omega))
  · exact hI.act.cg hI.mat hn hk (fun p j _ => hr p j) (fun p j hr => h.2.1 p j (by unfold iv_rAct at hr; unfold sc_q; omega))
  · exact hI.txt.cg (fun p j hr => h.2.1 p j (by unfold iv_rTxt at hr; unfold sc_q; omega))
  · exact hI.law.cg hn hk (fun p j _ => hr p j) (fun p j hr => h.2.1 p j (by unfold iv_rLaw at hr; unfold sc_q; omega))
  · exact hI.cau.cg (fun p j hr => h.2.1 p j (by unfold iv_rCau at hr; unfold sc_q; omega))
  · exact hI.red.cg (fun p j hr => h.2.1 p j (by unfold iv_rRed at hr; unfold sc_q; omega))
  · exact hI.rep.cg (fun p j hr => h.2.1 p j (by unfold iv_rRep at hr; unfold sc_q; omega))
  · exact hI.wk.cg (fun p j hr => h.2.1 p j (by unfold iv_rWk at hr; unfold sc_q; omega))
  · exact hI.tp.cg (fun p j hr => h.2.1 p j (by unfold iv_rTp at hr; unfold sc_q; omega)) (fun p hp => h.2.2 p (by unfold iv_lTp at hp; unfold sc_l; omega))
  · exact hI.tr.cg (fun p j hr => h.2.1 p j (by unfold iv_rTr at hr; unfold sc_q; omega))
theorem sc.r0 (h : sc S T) : pm_i T 0 = pm_i S 0 := h.row (fun j => by unfold sc_q; omega)
theorem sc.r2 (h : sc S T) : pm_i T 2 = pm_i S 2 := h.row (fun j => by unfold sc_q; omega)
theorem sc.r3 (h : sc S T) : pm_i T 3 = pm_i S 3 := h.row (fun j => by unfold sc_q; omega)
theorem sc.r6 (h : sc S T) : pm_i T 6 = pm_i S 6 := h.row (fun j => by unfold sc_q; omega)
theorem sc.r28 (h : sc S T) : pm_i T 28 = pm_i S 28 := h.row (fun j => by unfold sc_q; omega)
theorem sc.r29 (h : sc S T) : pm_i T 29 = pm_i S 29 := h.row (fun j => by unfold sc_q; omega)
theorem sc.r30 (h : sc S T) : pm_i T 30 = pm_i S 30 := h.row (fun j => by unfold sc_q; omega)
theorem sc.r31 (h : sc S T) : pm_i T 31 = pm_i S 31 := h.row (fun j => by unfold sc_q; omega)
theorem sc.r34 (h : sc S T) : pm_i T 34 = pm_i S 34 := h.row (fun j => by unfold sc_q; omega)
theorem sc.r35 (h : sc S T) : pm_i T 35 = pm_i S 35 := h.row (fun j => by unfold sc_q; omega)
theorem sc.r36 (h : sc S T) : pm_i T 36 = pm_i S 36 := h.row (fun j => by unfold sc_q; omega)
theorem sc.r39 (h : sc S T) : pm_i T 39 = pm_i S 39 := h.row (fun j => by unfold sc_q; omega)
theorem sc.r40 (h : sc S T) : pm_i T 40 = pm_i S 40 := h.row (fun j => by unfold sc_q; omega)
theorem sc.r41 (h : sc S T) : pm_i T 41 = pm_i S 41 := h.row (fun j => by unfold sc_q; omega)
theorem sc.r44 (h : sc S T) : pm_i T 44 = pm_i S 44 := h.row (fun j => by unfold sc_q; omega)
theorem sc.r45 (h : sc S T) : pm_i T 45 = pm_i S 45 := h.row (fun j => by unfold sc_q; omega)
theorem sc.r60 (h : sc S T) : pm_i T 60 = pm_i S 60 := h.row (fun j => by unfold sc_q; omega)
theorem sc.r61 (h : sc S T) : pm_i T 61 = pm_i S 61 := h.row (fun j => by unfold sc_q; omega)
theorem sc.r62 (h : sc S T) : pm_i T 62 = pm_i S 62 := h.row (fun j => by unfold sc_q; omega)
theorem sc.r63 (h : sc S T) : pm_i T 63 = pm_i S 63 := h.row (fun j => by unfold sc_q; omega)
theorem sc.r64 (h : sc S T) : pm_i T 64 = pm_i S 64 := h.row (fun j => by unfold sc_q; omega)
theorem sc.r65 (h : sc S T) : pm_i T 65 = pm_i S 65 := h.row (fun j => by unfold sc_q; omega)
theorem sc.r66 (h : sc S T) : pm_i T 66 = pm_i S 66 := h.row (fun j => by unfold sc_q; omega)
theorem sc.r67 (h : sc S T) : pm_i T 67 = pm_i S 67 := h.row (fun j => by unfold sc_q; omega)
theorem sc.r68 (h : sc S T) : pm_i T 68 = pm_i S 68 := h.row (fun j => by unfold sc_q; omega)
theorem sc.r69 (h : sc S T) : pm_i T 69 = pm_i S 69 := h.row (fun j => by unfold sc_q; omega)
theorem sc.r70 (h : sc S T) : pm_i T 70 = pm_i S 70 := h.row (fun j => by unfold sc_q; omega)
theorem sc.r71 (h : sc S T) : pm_i T 71 = pm_i S 71 := h.row (fun j => by unfold sc_q; omega)
theorem sc.r72 (h : sc S T) : pm_i T 72 = pm_i S 72 := h.row (fun j => by unfold sc_q; omega)
theorem sc.r73 (h : sc S T) : pm_i T 73 = pm_i S 73 := h.row (fun j => by unfold sc_q; omega)
theorem sc.r74 (h : sc S T) : pm_i T 74 = pm_i S 74 := h.row (fun j => by unfold sc_q; omega)
theorem sc.r75 (h : sc S T) : pm_i T 75 = pm_i S 75 := h.row (fun j => by unfold sc_q; omega)
theorem sc.r76 (h : sc S T) : pm_i T 76 = pm_i S 76 := h.row (fun j => by unfold sc_q; omega)
theorem sc.r77 (h : sc S T) : pm_i T 77 = pm_i S 77 := h.row (fun j => by unfold sc_q; omega)
theorem sc.r78 (h : sc S T) : pm_i T 78 = pm_i S 78 := h.row (fun j => by unfold sc_q; omega)
theorem sc.r79 (h : sc S T) : pm_i T 79 = pm_i S 79 := h.row (fun j => by unfold sc_q; omega)
theorem sc.r80 (h : sc S T) : pm_i T 80 = pm_i S 80 := h.row (fun j => by unfold sc_q; omega)
theorem sc.r81 (h : sc S T) : pm_i T 81 = pm_i S 81 := h.row (fun j => by unfold sc_q; omega)
theorem sc.r82 (h : sc S T) : pm_i T 82 = pm_i S 82 := h.row (fun j => by unfold sc_q; omega)
theorem sc.r83 (h : sc S T) : pm_i T 83 = pm_i S 83 := h.row (fun j => by unfold sc_q; omega)
theorem sc.r84 (h : sc S T) : pm_i T 84 = pm_i S 84 := h.row (fun j => by unfold sc_q; omega)
theorem sc.r85 (h : sc S T) : pm_i T 85 = pm_i S 85 := h.row (fun j => by unfold sc_q; omega)
theorem sc.r86 (h : sc S T) : pm_i T 86 = pm_i S 86 := h.row (fun j => by unfold sc_q; omega)
theorem sc.r87 (h : sc S T) : pm_i T 87 = pm_i S 87 := h.row (fun j => by unfold sc_q; omega)
theorem sc.r88 (h : sc S T) : pm_i T 88 = pm_i S 88 := h.row (fun j => by unfold sc_q; omega)
theorem sc.r89 (h : sc S T) : pm_i T 89 = pm_i S 89 := h.row (fun j => by unfold sc_q; omega)
theorem sc.r90 (h : sc S T) : pm_i T 90 = pm_i S 90 := h.row (fun j => by unfold sc_q; omega)
theorem sc.r91 (h : sc S T) : pm_i T 91 = pm_i S 91 := h.row (fun j => by unfold sc_q; omega)
theorem sc.r92 (h : sc S T) : pm_i T 92 = pm_i S 92 := h.row (fun j => by unfold sc_q; omega)
theorem sc.r93 (h : sc S T) : pm_i T 93 = pm_i S 93 := h.row (fun j => by unfold sc_q; omega)
theorem sc.r94 (h : sc S T) : pm_i T 94 = pm_i S 94 := h.row (fun j => by unfold sc_q; omega)
theorem sc.r103 (h : sc S T) : pm_i T 103 = pm_i S 103 := h.row (fun j => by unfold sc_q; omega)
theorem sc.r104 (h : sc S T) : pm_i T 104 = pm_i S 104 := h.row (fun j => by unfold sc_q; omega)
theorem sc.r105 (h : sc S T) : pm_i T 105 = pm_i S 105 := h.row (fun j => by unfold sc_q; omega)
theorem sc.r106 (h : sc S T) : pm_i T 106 = pm_i S 106 := h.row (fun j => by unfold sc_q; omega)
theorem sc.r109 (h : sc S T) : pm_i T 109 = pm_i S 109 := h.row (fun j => by unfold sc_q; omega)
theorem sc.r112 (h : sc S T) : pm_i T 112 = pm_i S 112 := h.row (fun j => by unfold sc_q; omega)
theorem sc.m0 (h : sc S T) : pm_i T 59 0 = pm_i S 59 0 := h.2.1 59 0 (by unfold sc_q; omega)
theorem sc.m1 (h : sc S T) : pm_i T 59 1 = pm_i S 59 1 := h.2.1 59 1 (by unfold sc_q; omega)
theorem sc.m2 (h : sc S T) : pm_i T 59 2 = pm_i S 59 2 := h.2.1 59 2 (by unfold sc_q; omega)
theorem sc.m3 (h : sc S T) : pm_i T 59 3 = pm_i S 59 3 := h.2.1 59 3 (by unfold sc_q; omega)
theorem sc.m4 (h : sc S T) : pm_i T 59 4 = pm_i S 59 4 := h.2.1 59 4 (by unfold sc_q; omega)
theorem sc.m5 (h : sc S T) : pm_i T 59 5 = pm_i S 59 5 := h.2.1 59 5 (by unfold sc_q; omega)
theorem sc.m6 (h : sc S T) : pm_i T 59 6 = pm_i S 59 6 := h.2.1 59 6 (by unfold sc_q; omega)
theorem sc.m7 (h : sc S T) : pm_i T 59 7 = pm_i S 59 7 := h.2.1 59 7 (by unfold sc_q; omega)
theorem sc.m8 (h : sc S T) : pm_i T 59 8 = pm_i S 59 8 := h.2.1 59 8 (by unfold sc_q; omega)
theorem sc.m9 (h : sc S T) : pm_i T 59 9 = pm_i S 59 9 := h.2.1 59 9 (by unfold sc_q; omega)
theorem sc.m10 (h : sc S T) : pm_i T 59 10 = pm_i S 59 10 := h.2.1 59 10 (by unfold sc_q; omega)
theorem sc.m11 (h : sc S T) : pm_i T 59 11 = pm_i S 59 11 := h.2.1 59 11 (by unfold sc_q; omega)
theorem sc.m12 (h : sc S T) : pm_i T 59 12 = pm_i S 59 12 := h.2.1 59 12 (by unfold sc_q; omega)
theorem sc.m13 (h : sc S T) : pm_i T 59 13 = pm_i S 59 13 := h.2.1 59 13 (by unfold sc_q; omega)
theorem sc.m14 (h : sc S T) : pm_i T 59 14 = pm_i S 59 14 := h.2.1 59 14 (by unfold sc_q; omega)
theorem sc.m15 (h : sc S T) : pm_i T 59 15 = pm_i S 59 15 := h.2.1 59 15 (by unfold sc_q; omega)
theorem sc.m16 (h : sc S T) : pm_i T 59 16 = pm_i S 59 16 := h.2.1 59 16 (by unfold sc_q; omega)
theorem sc.m17 (h : sc S T) : pm_i T 59 17 = pm_i S 59 17 := h.2.1 59 17 (by unfold sc_q; omega)
theorem sc.m18 (h : sc S T) : pm_i T 59 18 = pm_i S 59 18 := h.2.1 59 18 (by unfold sc_q; omega)
theorem sc.m19 (h : sc S T) : pm_i T 59 19 = pm_i S 59 19 := h.2.1 59 19 (by unfold sc_q; omega)
theorem sc.m20 (h : sc S T) : pm_i T 59 20 = pm_i S 59 20 := h.2.1 59 20 (by unfold sc_q; omega)
theorem sc.m21 (h : sc S T) : pm_i T 59 21 = pm_i S 59 21 := h.2.1 59 21 (by unfold sc_q; omega)
theorem sc.m22 (h : sc S T) : pm_i T 59 22 = pm_i S 59 22 := h.2.1 59 22 (by unfold sc_q; omega)
theorem sc.m23 (h : sc S T) : pm_i T 59 23 = pm_i S 59 23 := h.2.1 59 23 (by unfold sc_q; omega)
theorem sc.m24 (h : sc S T) : pm_i T 59 24 = pm_i S 59 24 := h.2.1 59 24 (by unfold sc_q; omega)
theorem sc.m25 (h : sc S T) : pm_i T 59 25 = pm_i S 59 25 := h.2.1 59 25 (by unfold sc_q; omega)
theorem sc.m26 (h : sc S T) : pm_i T 59 26 = pm_i S 59 26 := h.2.1 59 26 (by unfold sc_q; omega)
theorem sc.m27 (h : sc S T) : pm_i T 59 27 = pm_i S 59 27 := h.2.1 59 27 (by unfold sc_q; omega)
theorem sc.m28 (h : sc S T) : pm_i T 59 28 = pm_i S 59 28 := h.2.1 59 28 (by unfold sc_q; omega)
theorem sc.m29 (h : sc S T) : pm_i T 59 29 = pm_i S 59 29 := h.2.1 59 29 (by unfold sc_q; omega)
theorem sc.m30 (h : sc S T) : pm_i T 59 30 = pm_i S 59 30 := h.2.1 59 30 (by unfold sc_q; omega)
theorem sc.m31 (h : sc S T) : pm_i T 59 31 = pm_i S 59 31 := h.2.1 59 31 (by unfold sc_q; omega)
theorem sc.m32 (h : sc S T) : pm_i T 59 32 = pm_i S 59 32 := h.2.1 59 32 (by unfold sc_q; omega)
theorem sc.m33 (h : sc S T) : pm_i T 59 33 = pm_i S 59 33 := h.2.1 59 33 (by unfold sc_q; omega)
theorem sc.m34 (h : sc S T) : pm_i T 59 34 = pm_i S 59 34 := h.2.1 59 34 (by unfold sc_q; omega)
theorem sc.m35 (h : sc S T) : pm_i T 59 35 = pm_i S 59 35 := h.2.1 59 35 (by unfold sc_q; omega)
theorem sc.m36 (h : sc S T) : pm_i T 59 36 = pm_i S 59 36 := h.2.1 59 36 (by unfold sc_q; omega)
theorem sc.m37 (h : sc S T) : pm_i T 59 37 = pm_i S 59 37 := h.2.1 59 37 (by unfold sc_q; omega)
theorem sc.m38 (h : sc S T) : pm_i T 59 38 = pm_i S 59 38 := h.2.1 59 38 (by unfold sc_q; omega)
theorem sc.m39 (h : sc S T) : pm_i T 59 39 = pm_i S 59 39 := h.2.1 59 39 (by unfold sc_q; omega)
theorem sc.m40 (h : sc S T) : pm_i T 59 40 = pm_i S 59 40 := h.2.1 59 40 (by unfold sc_q; omega)
theorem sc.m41 (h : sc S T) : pm_i T 59 41 = pm_i S 59 41 := h.2.1 59 41 (by unfold sc_q; omega)
theorem sc.m42 (h : sc S T) : pm_i T 59 42 = pm_i S 59 42 := h.2.1 59 42 (by unfold sc_q; omega)
theorem sc.m43 (h : sc S T) : pm_i T 59 43 = pm_i S 59 43 := h.2.1 59 43 (by unfold sc_q; omega)
theorem sc.m44 (h : sc S T) : pm_i T 59 44 = pm_i S 59 44 := h.2.1 59 44 (by unfold sc_q; omega)
theorem sc.m79 (h : sc S T) : pm_i T 59 79 = pm_i S 59 79 := h.2.1 59 79 (by unfold sc_q; omega)
theorem sc.m85 (h : sc S T) : pm_i T 59 85 = pm_i S 59 85 := h.2.1 59 85 (by unfold sc_q; omega)
theorem sc.c1_0 (h : sc S T) : pm_i T 1 0 = pm_i S 1 0 := h.2.1 1 0 (by unfold sc_q; omega)
theorem sc.c1_2 (h : sc S T) : pm_i T 1 2 = pm_i S 1 2 := h.2.1 1 2 (by unfold sc_q; omega)
theorem sc.c14_2 (h : sc S T) : pm_i T 14 2 = pm_i S 14 2 := h.2.1 14 2 (by unfold sc_q; omega)
theorem sc.c5_1 (h : sc S T) : pm_i T 5 1 = pm_i S 5 1 := h.2.1 5 1 (by unfold sc_q; omega)
theorem sc.c33_0 (h : sc S T) : pm_i T 33 0 = pm_i S 33 0 := h.2.1 33 0 (by unfold sc_q; omega)
theorem sc.c38_0 (h : sc S T) : pm_i T 38 0 = pm_i S 38 0 := h.2.1 38 0 (by unfold sc_q; omega)
theorem sc.c (h : sc S T) {f : Nat} (hf : f < 45) : iv_c T f = iv_c S f := by unfold iv_c; rw [h.2.1 59 f (by unfold sc_q; omega)]
/-- the model's own cells -/
def me (S T : pm_S) : Prop := ∀ p j, 59 ≤ p → p ≤ 94 → ¬ (p = 59 ∧ 45 ≤ j) → pm_i T p j = pm_i S p j
theorem sc.me (h : sc S T) : me S T := fun p j h1 h2 h3 => h.2.1 p j (by unfold sc_q; omega)
theorem me.rf : me S S := fun _ _ _ _ _ => rfl
theorem me.tr (h : me S T) (h' : me T U) : me S U := fun p j h1 h2 h3 => (h' p j h1 h2 h3).trans (h p j h1 h2 h3)
theorem me.lo {p j : Nat} {v : Int32} (h : me S T) (hp : p < 59 ∨ 94 < p ∨ (p = 59 ∧ 45 ≤ j)) : me S (pm_wI T p j v) := fun p' j' h1 h2 h3 => by
  rw [pm_i_wI, if_neg (by omega)]; exact h p' j' h1 h2 h3
theorem me.row (h : me S T) {p : Nat} (h1 : 60 ≤ p) (h2 : p ≤ 94) : pm_i T p = pm_i S p := funext (fun j => h p j (by omega) h2 (by omega))
theorem me.f (h : me S T) {j : Nat} (hj : j < 45) : pm_i T 59 j = pm_i S 59 j := h 59 j (by omega) (by omega) (by omega)
theorem me.c (h : me S T) {f : Nat} (hf : f < 45) : iv_c T f = iv_c S f := by unfold iv_c; rw [h.f hf]
def iv_MI (S : pm_S) : Prop := Sh S ∧ (iv_in (pm_i S 59 0) 0 9999 ∧ iv_in (pm_i S 59 2) 0 20 ∧ (∀ k, k < iv_c S 2 → iv_in (pm_i S 60 k) 0 9999 ∧ (pm_i S 60 k).toNatClampNeg % 7 < 5) ∧ (∀ k j, k < j → j < iv_c S 2 → pm_i S 60 k ≠ pm_i S 60 j)) ∧
  (iv_in (pm_i S 59 18) 0 40 ∧ ∀ a, a < iv_c S 18 → iv_mok S a) ∧
  (iv_in (pm_i S 59 24) 0 150 ∧ ∀ a, a < iv_c S 24 → (0 ≤ pm_i S 75 a ∧ pm_i S 75 a < pm_i S 59 18) ∧ iv_in (pm_i S 76 a) 1 9 ∧ iv_in (pm_i S 77 a) 0 (pm_i S 59 0) ∧ iv_in (pm_i S 78 a) (-99) 99 ∧ iv_in (pm_i S 79 a) 0 (pm_i S 59 0)) ∧
  (iv_in (pm_i S 59 31) 0 12 ∧ ∀ l, l < iv_c S 31 → iv_in (pm_i S 83 l) (-1) 5 ∧ iv_in (pm_i S 84 l) 0 9999 ∧ iv_in (pm_i S 82 l) 0 160 ∧ (∀ k, k < (pm_i S 82 l).toNatClampNeg → iv_in (iv_txt S l k) 0 255) ∧ ∃ p L, gx_read (iv_txt S l) (pm_i S 82 l).toNatClampNeg = (p, some L)) ∧
  (iv_in (pm_i S 59 26) 0 160 ∧ ∀ k, iv_in (pm_i S 80 k) 0 255)
theorem Inv.mi {A : iv_A} (hI : Inv A S) : iv_MI S := by
  refine ⟨hI.sh, ⟨hI.day.2.1, hI.day.2.2.2.2.1, hI.day.2.2.2.2.2.1, hI.day.2.2.2.2.2.2⟩, ⟨hI.mat.2.1, fun a ha => hI.ok ha⟩, ⟨hI.act.2.1, fun a ha => (hI.act.2.2.1 a ha).2.2⟩, ⟨hI.law.2.1, fun l hl => ?_⟩, hI.txt.2.1, hI.txt.2.2.2⟩
  obtain ⟨d1, d2, d3, d4, d5, d6, d7, p, L, d8, d9⟩ := hI.law.2.2.2.1 l hl
  exact ⟨d4, d5, d6, d7, p, L, d8⟩
theorem iv_MI.cg (h : iv_MI S) (hS : Sh T) (hi : me S T) : iv_MI T := by
  obtain ⟨h0, ⟨a1, a2, a3, a4⟩, ⟨b1, b2⟩, ⟨c1, c2⟩, ⟨d1, d2⟩, e1, e2⟩ := h
  have r : ∀ p, 60 ≤ p → p ≤ 94 → pm_i T p = pm_i S p := fun p h1 h2 => hi.row h1 h2
  have et : iv_txt T = iv_txt S := by funext l i; unfold iv_txt; rw [r 81 (by omega) (by omega)]
  have ek : ∀ a, iv_mok S a → iv_mok T a := fun a hok => by
    unfold iv_mok at hok ⊢
    rw [r 62 (by omega) (by omega), r 63 (by omega) (by omega), r 64 (by omega) (by omega), r 65 (by omega) (by omega), r 66 (by omega) (by omega), r 67 (by omega) (by omega), r 68 (by omega) (by omega), r 69 (by omega) (by omega), r 70 (by omega) (by omega), r 71 (by omega) (by omega), r 73 (by omega) (by omega), r 74 (by omega) (by omega), r 88 (by omega) (by omega), hi.f (j := 0) (by omega), hi.f (j := 4) (by omega), hi.f (j := 24) (by omega)]
    exact hok
  refine ⟨hS, ?_, ?_, ?_, ?_, ?_⟩
  · rw [hi.f (j := 0) (by omega), hi.f (j := 2) (by omega), hi.c (f := 2) (by omega), r 60 (by omega) (by omega)]; exact ⟨a1, a2, a3, a4⟩
  · rw [hi.f (j := 18) (by omega), hi.c (f := 18) (by omega)]; exact ⟨b1, fun a ha => ek a (b2 a ha)⟩
  · rw [hi.f (j := 24) (by omega), hi.c (f := 24) (by omega), hi.f (j := 0) (by omega), hi.f (j := 18) (by omega), r 75 (by omega) (by omega), r 76 (by omega) (by omega), r 77 (by omega) (by omega), r 78 (by omega) (by omega), r 79 (by omega) (by omega)]; exact ⟨c1, c2⟩
  · rw [hi.f (j := 31) (by omega), hi.c (f := 31) (by omega), r 82 (by omega) (by omega), r 83 (by omega) (by omega), r 84 (by omega) (by omega), et]; exact ⟨d1, d2⟩
  · rw [hi.f (j := 26) (by omega), r 80 (by omega) (by omega)]; exact ⟨e1, e2⟩
theorem iv_MI.scr (h : iv_MI S) (hs : sc S T) : iv_MI T := h.cg (hs.sh h.1) hs.me
end SCS
