/-! a MATTER -/
def mt_A (A : iv_A) (c p : Nat) : iv_A := (fun x => if x = c then p else A.1 x, fun x => if x = c then p + 1 else A.2.1 x, A.2.2.1, A.2.2.2.1, A.2.2.2.2.1, fun x => if x = p + 1 then c else A.2.2.2.2.2 x)
theorem mt_m {A : iv_A} {c p x : Nat} (h : x ≠ c) : iv_m (mt_A A c p) x = iv_m A x := if_neg h
theorem mt_mc {A : iv_A} {c p : Nat} : iv_m (mt_A A c p) c = p := if_pos rfl
theorem mt_g {A : iv_A} {c p x : Nat} (h : x ≠ c) : iv_g (mt_A A c p) x = iv_g A x := if_neg h
theorem mt_gc {A : iv_A} {c p : Nat} : iv_g (mt_A A c p) c = p + 1 := if_pos rfl
theorem mt_t {A : iv_A} {c p x : Nat} (h : x ≠ p + 1) : iv_t (mt_A A c p) x = iv_t A x := if_neg h
theorem mt_tc {A : iv_A} {c p : Nat} : iv_t (mt_A A c p) (p + 1) = c := if_pos rfl
theorem iv_matter0 {A : iv_A} {S S' : pm_S} {pe b t dd l : Int32} (hI : Inv A S) (free : ∀ p, pm_n S ≤ p → pm_k S p = 99) (hc : iv_c S 18 < 40) (hpe : 0 ≤ pe ∧ pe < pm_i S 59 4) (hb : iv_in b 0 5) (ht : iv_in t 0 9) (hdd : iv_in dd 0 (pm_i S 59 0)) (hl : iv_in l 0 9999)
    (e1 : pm_n S' = pm_n S + 2) (n2 : ∀ p, p < pm_n S → pm_k S' p = pm_k S p ∧ pm_z S' p = pm_z S p) (kp : pm_k S' (pm_n S) = 7) (kg : pm_k S' (pm_n S + 1) = 20) (zg : pm_z S' (pm_n S + 1) = 6) (el : ∀ p, p < 114 → pm_l S' p = pm_l S p)
    (hi : ∀ q j, q ≠ pm_n S → q ≠ pm_n S + 1 → ¬ (62 ≤ q ∧ q ≤ 71 ∧ j = iv_c S 18) → ¬ (q = 59 ∧ j = 18) → ¬ (q = 0 ∧ j = 4) → pm_i S' q j = pm_i S q j)
    (b62 : pm_i S' 62 (iv_c S 18) = 0) (b63 : pm_i S' 63 (iv_c S 18) = pe) (b64 : pm_i S' 64 (iv_c S 18) = b) (b65 : pm_i S' 65 (iv_c S 18) = t) (b66 : pm_i S' 66 (iv_c S 18) = dd) (b67 : pm_i S' 67 (iv_c S 18) = l) (b68 : pm_i S' 68 (iv_c S 18) = -1) (b69 : pm_i S' 69 (iv_c S 18) = -1) (b70 : pm_i S' 70 (iv_c S 18) = -1) (b71 : pm_i S' 71 (iv_c S 18) = -1)
    (n18 : pm_i S' 59 18 = nI (iv_c S 18 + 1)) (n4 : pm_i S' 0 4 = nI (iv_c S 18 + 1))
    (f0 : pm_i S' (pm_n S) 0 = nI (iv_c S 18)) (f1 : pm_i S' (pm_n S) 1 = pe) (f2 : pm_i S' (pm_n S) 2 = b) (f3 : pm_i S' (pm_n S) 3 = t) (f4 : pm_i S' (pm_n S) 4 = dd) (f5 : pm_i S' (pm_n S) 5 = l) (f6 : pm_i S' (pm_n S) 6 = 0) (f7 : pm_i S' (pm_n S) 7 = -1) (f8 : pm_i S' (pm_n S) 8 = -1) (f9 : pm_i S' (pm_n S) 9 = -1) (f10 : pm_i S' (pm_n S) 10 = -1) (f11 : pm_i S' (pm_n S) 11 = 0) (f12 : pm_i S' (pm_n S) 12 = 0) (f13 : pm_i S' (pm_n S) 13 = 0)
    (gr : ∀ h, h < 6 → pm_i S' (pm_n S + 1) h = -1)
    (hr : ∀ q j, q ≠ pm_n S → q ≠ pm_n S + 1 → ¬ (q = 4 ∧ j = iv_c S 18) → pm_r S' q j = pm_r S q j) (r4 : pm_r S' 4 (iv_c S 18) = some (pm_n S)) (r16 : pm_r S' (pm_n S) 16 = some (pm_n S + 1)) (r14 : pm_r S' (pm_n S) 14 = none) (r15 : pm_r S' (pm_n S) 15 = none) :
    Inv (mt_A A (iv_c S 18) (pm_n S)) S' := by
  have h114 := hI.sh.1
  obtain ⟨n40, hn⟩ := MI.c18 hI.mi
  have n1 : pm_n S ≤ pm_n S' := by omega
  have k99 := free (pm_n S) (Nat.le_refl _)
  have k99' := free (pm_n S + 1) (Nat.le_succ _)
  have c1 : iv_c S' 18 = iv_c S 18 + 1 := by unfold iv_c at n18 ⊢; rw [n18]; exact nI_clamp (by unfold iv_c at hc; omega)
  have hlo : ∀ q j, q < 114 → ¬ (62 ≤ q ∧ q ≤ 71) → ¬ (q = 59 ∧ j = 18) → ¬ (q = 0 ∧ j = 4) → pm_i S' q j = pm_i S q j := fun q j h1 h2 h3 h4 => hi q j (by omega) (by omega) (by omega) h3 h4
  have le18 : pm_i S 59 18 ≤ pm_i S' 59 18 := by rw [n18, hn]; exact nI_le (by omega) (by omega)
  refine ⟨⟨by omega, fun p hp => by rw [(n2 p (by omega)).1, (n2 p (by omega)).2]; exact hI.sh.2.1 p hp, fun e he => ?_⟩, ?_, ?_, ?_, ?_, ?_, ?_, ?_, ?_, ?_, ?_, ?_, ?_⟩
  · have h3 : ∀ e, e ∈ sh_rr → e.1 < 114 ∧ e.1 ≠ 4 := by decide
    have := h3 e he
    rw [hr _ _ (by omega) (by omega) (fun z => this.2 z.1)]; exact hI.sh.2.2 e he
  · exact hI.day.cg (fun p j hr' => hi p j (fun z => by subst z; unfold iv_rDay at hr'; omega) (fun z => by subst z; unfold iv_rDay at hr'; omega) (fun z => by unfold iv_rDay at hr'; omega) (fun z => by unfold iv_rDay at hr'; omega) (fun z => by unfold iv_rDay at hr'; omega))
  · exact hI.per.cg (fun p j hr' => hi p j (fun z => by subst z; unfold iv_rPer at hr'; omega) (fun z => by subst z; unfold iv_rPer at hr'; omega) (fun z => by unfold iv_rPer at hr'; omega) (fun z => by unfold iv_rPer at hr'; omega) (fun z => by unfold iv_rPer at hr'; omega))
  · obtain ⟨h1, h2, h3, h4⟩ := hI.mat
    have r1 : ∀ p x, 72 ≤ p → p ≤ 74 → pm_i S' p x = pm_i S p x := fun p x p1 p2 => hi p x (by omega) (by omega) (by omega) (by omega) (by omega)
    have r2 : ∀ p x, 62 ≤ p → p ≤ 71 → x ≠ iv_c S 18 → pm_i S' p x = pm_i S p x := fun p x p1 p2 hx => hi p x (by omega) (by omega) (by omega) (by omega) (by omega)
    have r88 : ∀ x, pm_i S' 88 x = pm_i S 88 x := fun x => hi 88 x (by omega) (by omega) (by omega) (by omega) (by omega)
    have e0 : pm_i S' 59 0 = pm_i S 59 0 := hlo 59 0 (by omega) (by omega) (by omega) (by omega)
    have e4 : pm_i S' 59 4 = pm_i S 59 4 := hlo 59 4 (by omega) (by omega) (by omega) (by omega)
    have e24 : pm_i S' 59 24 = pm_i S 59 24 := hlo 59 24 (by omega) (by omega) (by omega) (by omega)
    have hnew := h4 (iv_c S 18) (Nat.le_refl _) hc
    refine ⟨by rw [n4, n18], ⟨by rw [n18]; exact nI_pos' (by omega), by rw [n18]; exact nI_le (b := 40) (by omega) (by decide)⟩, fun a ha => ?_, fun a ha hb' => ?_⟩
    · rw [c1] at ha
      by_cases hac : a = iv_c S 18
      · subst hac
        refine ⟨⟨⟨by rw [mt_mc]; exact r4, by rw [mt_mc, mt_gc]; exact r16⟩, ⟨by rw [mt_mc]; exact h114, by rw [mt_mc]; omega, by rw [mt_gc]; omega, by rw [mt_gc]; omega⟩, ⟨by rw [mt_mc]; exact kp, by rw [mt_gc]; exact kg, by rw [mt_gc]; exact zg, by rw [mt_gc]; exact mt_tc⟩, by rw [mt_mc]; exact f0, fun f g1 g2 => ?_, fun h hh => ?_⟩, ?_⟩
        · rw [mt_mc]
          have : f = 1 ∨ f = 2 ∨ f = 3 ∨ f = 4 ∨ f = 5 ∨ f = 6 ∨ f = 7 ∨ f = 8 ∨ f = 9 ∨ f = 10 ∨ f = 11 ∨ f = 12 ∨ f = 13 := by omega
          rcases this with rfl | rfl | rfl | rfl | rfl | rfl | rfl | rfl | rfl | rfl | rfl | rfl | rfl
          · exact f1.trans b63.symm
          · exact f2.trans b64.symm
          · exact f3.trans b65.symm
          · exact f4.trans b66.symm
          · exact f5.trans b67.symm
          · exact f6.trans b62.symm
          · exact f7.trans b68.symm
          · exact f8.trans b69.symm
          · exact f9.trans b70.symm
          · exact f10.trans b71.symm
          · exact f11.trans ((r1 72 _ (by omega) (by omega)).trans hnew.1.1).symm
          · exact f12.trans ((r1 73 _ (by omega) (by omega)).trans hnew.1.2.1).symm
          · exact f13.trans ((r1 74 _ (by omega) (by omega)).trans hnew.1.2.2).symm
        · rw [mt_gc, r88, gr h hh]; exact (hnew.2 h hh).symm
        · unfold iv_mok
          rw [b62, b63, b64, b65, b66, b67, b68, b69, b70, b71, e0, e4, e24, r1 73 _ (by omega) (by omega), r1 74 _ (by omega) (by omega), hnew.1.2.1, hnew.1.2.2]
          have d0 := hI.day.2.1
          have a0 := hI.act.2.1
          unfold iv_in at d0 a0 ⊢
          refine ⟨⟨⟨by decide, by decide⟩, hpe, hb, ht, hdd, hl⟩, ⟨⟨by decide, by lia⟩, ⟨by decide, by decide⟩, by decide, ⟨by decide, by lia⟩⟩, fun z => absurd z (by decide), ⟨by decide, by decide⟩, ⟨by decide, a0.1⟩, fun h hh => ?_⟩
          rw [r88, hnew.2 h hh]; exact ⟨by decide, by decide⟩
      · have ha2 : a < iv_c S 18 := by omega
        obtain ⟨⟨⟨m1, m2⟩, ⟨m3, m4, m5, m6⟩, ⟨m7, m8, m9, m10⟩, m11, m12, m13⟩, hok⟩ := h3 a ha2
        refine ⟨⟨⟨?_, ?_⟩, ⟨by rw [mt_m hac]; exact m3, by rw [mt_m hac]; omega, by rw [mt_g hac]; exact m5, by rw [mt_g hac]; omega⟩, ⟨?_, ?_, ?_, ?_⟩, ?_, fun f g1 g2 => ?_, fun h hh => ?_⟩, ?_⟩
        · rw [mt_m hac, hr 4 a (by omega) (by omega) (by omega)]; exact m1
        · rw [mt_m hac, mt_g hac, hr _ 16 (by omega) (by omega) (by omega)]; exact m2
        · rw [mt_m hac, (n2 _ m4).1]; exact m7
        · rw [mt_g hac, (n2 _ m6).1]; exact m8
        · rw [mt_g hac, (n2 _ m6).2]; exact m9
        · rw [mt_g hac, mt_t (by omega)]; exact m10
        · rw [mt_m hac, hi _ 0 (by omega) (by omega) (by omega) (by omega) (by omega)]; exact m11
        · rw [mt_m hac, hi _ f (by omega) (by omega) (by omega) (by omega) (by omega), m12 f g1 g2]
          have hq := iv_f_in g1 g2
          by_cases h71 : iv_f f ≤ 71
          · exact (r2 _ a hq.1 h71 hac).symm
          · exact (r1 _ a (by omega) hq.2).symm
        · rw [mt_g hac, hi _ h (by omega) (by omega) (by omega) (by omega) (by omega), r88]; exact m13 h hh
        · unfold iv_mok at hok ⊢
          rw [r2 62 a (by omega) (by omega) hac, r2 63 a (by omega) (by omega) hac, r2 64 a (by omega) (by omega) hac, r2 65 a (by omega) (by omega) hac, r2 66 a (by omega) (by omega) hac, r2 67 a (by omega) (by omega) hac, r2 68 a (by omega) (by omega) hac, r2 69 a (by omega) (by omega) hac, r2 70 a (by omega) (by omega) hac, r2 71 a (by omega) (by omega) hac, r1 73 a (by omega) (by omega), r1 74 a (by omega) (by omega), e0, e4, e24]
          obtain ⟨q1, q2, q3, q4, q5, q6⟩ := hok
          exact ⟨q1, q2, q3, q4, q5, fun h hh => by rw [r88]; exact q6 h hh⟩
    · rw [c1] at ha
      have := h4 a (by omega) hb'
      unfold iv_mnew at this ⊢
      rw [r1 72 a (by omega) (by omega), r1 73 a (by omega) (by omega), r1 74 a (by omega) (by omega)]
      exact ⟨this.1, fun h hh => by rw [r88]; exact this.2 h hh⟩
  · obtain ⟨h1, h2, h3, h4⟩ := hI.act
    have r1 : ∀ p, 75 ≤ p → p ≤ 79 → pm_i S' p = pm_i S p := fun p p1 p2 => funext (fun j => hi p j (by omega) (by omega) (by omega) (by omega) (by omega))
    have e24 : pm_i S' 59 24 = pm_i S 59 24 := hlo 59 24 (by omega) (by omega) (by omega) (by omega)
    have e0 : pm_i S' 59 0 = pm_i S 59 0 := hlo 59 0 (by omega) (by omega) (by omega) (by omega)
    have c24 : iv_c S' 24 = iv_c S 24 := by unfold iv_c; rw [e24]
    have eA : iv_acts S' = iv_acts S := by funext m; unfold iv_acts; rw [c24, r1 75 (by omega) (by omega)]
    refine ⟨by rw [hlo 0 5 (by omega) (by omega) (by omega) (by omega), e24]; exact h1, by rw [e24]; exact h2, fun a ha => ?_, fun m hm => ?_⟩
    · rw [c24] at ha
      obtain ⟨⟨a1, a2, a3⟩, ⟨y0, y1, y2, y3, y4⟩, rest⟩ := h3 a ha
      refine ⟨⟨a1, show iv_a A a < _ by omega, by show pm_k S' (iv_a A a) = 0; rw [(n2 _ a2).1]; exact a3⟩, ?_, ?_⟩
      · show pm_i S' (iv_a A a) 0 = _ ∧ pm_i S' (iv_a A a) 1 = _ ∧ pm_i S' (iv_a A a) 2 = _ ∧ pm_i S' (iv_a A a) 3 = _ ∧ pm_i S' (iv_a A a) 4 = _
        rw [hi _ 0 (by omega) (by omega) (by omega) (by omega) (by omega), hi _ 1 (by omega) (by omega) (by omega) (by omega) (by omega), hi _ 2 (by omega) (by omega) (by omega) (by omega) (by omega), hi _ 3 (by omega) (by omega) (by omega) (by omega) (by omega), hi _ 4 (by omega) (by omega) (by omega) (by omega) (by omega), r1 76 (by omega) (by omega), r1 77 (by omega) (by omega), r1 78 (by omega) (by omega), r1 79 (by omega) (by omega)]
        exact ⟨y0, y1, y2, y3, y4⟩
      · rw [r1 75 (by omega) (by omega), r1 76 (by omega) (by omega), r1 77 (by omega) (by omega), r1 78 (by omega) (by omega), r1 79 (by omega) (by omega), e0]
        exact ⟨⟨rest.1.1, by have := rest.1.2; lia⟩, rest.2⟩
    · rw [c1] at hm
      rw [eA]
      by_cases hmc : m = iv_c S 18
      · subst hmc
        have enil : iv_acts S (iv_c S 18) = [] := by
          rcases l_snoc (iv_acts S (iv_c S 18)) with h | ⟨L, x, h⟩
          · exact h
          · exfalso
            have hx : x ∈ iv_acts S (iv_c S 18) := by rw [h]; simp
            obtain ⟨q1, q2⟩ := iv_acts_mem'.mp hx
            have := (h3 x q1).2.2.1.2
            rw [q2, hn] at this
            exact absurd ((nI_ltI (by omega) (by omega)).mp this) (by omega)
        rw [enil, mt_mc]
        exact ⟨r14, r15⟩
      · have hm2 : m < iv_c S 18 := by omega
        have hwm := hI.row hm2
        have mhi : iv_m A m < pm_n S := hwm.2.1.2.1
        have mlo := hwm.lo
        rw [mt_m hmc, hr _ 14 (by omega) (by omega) (by omega), hr _ 15 (by omega) (by omega) (by omega)]
        refine ⟨ch_same (A := A) (A' := mt_A A (iv_c S 18) (pm_n S)) _ _ (h4 m hm2).1 (fun a ha => ?_) (fun a ha => rfl), (h4 m hm2).2⟩
        obtain ⟨⟨a1, a2, a3⟩, _⟩ := h3 a (iv_acts_mem'.mp ha).1
        exact hr _ 5 (by omega) (by omega) (by omega)
  · exact hI.txt.cg (fun p j hr' => hi p j (fun z => by subst z; unfold iv_rTxt at hr'; omega) (fun z => by subst z; unfold iv_rTxt at hr'; omega) (fun z => by unfold iv_rTxt at hr'; omega) (fun z => by unfold iv_rTxt at hr'; omega) (fun z => by unfold iv_rTxt at hr'; omega))
  · obtain ⟨h1, h2, h3, h4, h5, h6⟩ := hI.law
    have key : iv_Law A S' := hI.law.cg n1 n2 (fun p j hq => hr p j (fun z => by subst z; unfold iv_qLaw at hq; omega) (fun z => by subst z; unfold iv_qLaw at hq; omega) (fun z => by unfold iv_qLaw at hq; have := hI.sh.2.1 4 (by omega); have k4 := sh_k4 hI.sh; obtain ⟨z1, z2⟩ := z; subst z1; omega)) (fun p j hr' => hi p j (fun z => by subst z; unfold iv_rLaw at hr'; omega) (fun z => by subst z; unfold iv_rLaw at hr'; omega) (fun z => by unfold iv_rLaw at hr'; omega) (fun z => by unfold iv_rLaw at hr'; omega) (fun z => by unfold iv_rLaw at hr'; omega))
    obtain ⟨g1, g2, g3, g4, g5, g6⟩ := key
    have e31 : iv_c S' 31 = iv_c S 31 := by unfold iv_c; rw [hlo 59 31 (by omega) (by omega) (by omega) (by omega)]
    refine ⟨g1, g2, fun x hx => ?_, g4, g5, g6⟩
    obtain ⟨x1, x2, x3, x4, x5⟩ := g3 x hx
    have y := h3 x (by rw [← e31]; exact hx)
    refine ⟨x1, x2, x3, ?_, fun q hq => ?_⟩
    · show iv_t (mt_A A (iv_c S 18) (pm_n S)) (iv_l A x) = _
      rw [mt_t (by have := y.2.1; omega)]; exact x4
    · obtain ⟨w1, w2, w3, w4, w5, w6⟩ := x5 q hq
      have yw := (y.2.2.2.2 q hq).2.2.1
      refine ⟨w1, w2, w3, w4, w5, ?_⟩
      show iv_t (mt_A A (iv_c S 18) (pm_n S)) (iv_w A x q) = _
      rw [mt_t (by omega)]; exact w6
  · exact hI.cau.cg (fun p j hr' => hi p j (fun z => by subst z; unfold iv_rCau at hr'; omega) (fun z => by subst z; unfold iv_rCau at hr'; omega) (fun z => by unfold iv_rCau at hr'; omega) (fun z => by unfold iv_rCau at hr'; omega) (fun z => by unfold iv_rCau at hr'; omega))
  · exact hI.red.cg (fun p j hr' => hi p j (fun z => by subst z; unfold iv_rRed at hr'; omega) (fun z => by subst z; unfold iv_rRed at hr'; omega) (fun z => by unfold iv_rRed at hr'; omega) (fun z => by unfold iv_rRed at hr'; omega) (fun z => by unfold iv_rRed at hr'; omega))
  · exact hI.rep.cg (fun p j hr' => hi p j (fun z => by subst z; unfold iv_rRep at hr'; omega) (fun z => by subst z; unfold iv_rRep at hr'; omega) (fun z => by unfold iv_rRep at hr'; omega) (fun z => by unfold iv_rRep at hr'; omega) (fun z => by unfold iv_rRep at hr'; omega))
  · obtain ⟨h1, h2, h3, h4⟩ := hI.wk
    have e41 : pm_i S' 59 41 = pm_i S 59 41 := hlo 59 41 (by omega) (by omega) (by omega) (by omega)
    have c41 : iv_c S' 41 = iv_c S 41 := by unfold iv_c; rw [e41]
    have r1 : ∀ p, p = 39 ∨ p = 40 ∨ p = 41 ∨ p = 89 ∨ p = 90 ∨ p = 91 → pm_i S' p = pm_i S p := fun p hp => funext (fun j => hlo p j (by omega) (by omega) (by omega) (by omega))
    refine ⟨by rw [hlo 38 0 (by omega) (by omega) (by omega) (by omega), e41]; exact h1, by rw [e41]; exact h2, by rw [r1 39 (by omega), r1 40 (by omega), r1 41 (by omega), r1 89 (by omega), r1 90 (by omega), r1 91 (by omega)]; exact h3, fun k hk => ?_⟩
    rw [c41] at hk
    have := h4 k hk
    rw [r1 89 (by omega), r1 90 (by omega), r1 91 (by omega)]
    exact ⟨⟨this.1.1, by have := this.1.2; lia⟩, this.2⟩
  · exact hI.tp.cg (fun p j hr' => hi p j (fun z => by subst z; unfold iv_rTp at hr'; omega) (fun z => by subst z; unfold iv_rTp at hr'; omega) (fun z => by unfold iv_rTp at hr'; omega) (fun z => by unfold iv_rTp at hr'; omega) (fun z => by unfold iv_rTp at hr'; omega)) (fun p hp => el p (by unfold iv_lTp at hp; omega))
  · exact hI.tr.cg (fun p j hr' => hi p j (fun z => by subst z; unfold iv_rTr at hr'; omega) (fun z => by subst z; unfold iv_rTr at hr'; omega) (fun z => by unfold iv_rTr at hr'; omega) (fun z => by unfold iv_rTr at hr'; omega) (fun z => by unfold iv_rTr at hr'; omega))
