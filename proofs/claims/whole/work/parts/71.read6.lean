theorem LQ3 : (((97 : Int32) = Int32.ofNat 97) = True) ∧ (((97 : Int32) = Int32.ofNat 98) = False) ∧ (((97 : Int32) = Int32.ofNat 99) = False) ∧ (((97 : Int32) = Int32.ofNat 100) = False) ∧ (((97 : Int32) = Int32.ofNat 101) = False) ∧ (((97 : Int32) = Int32.ofNat 102) = False) ∧ (((97 : Int32) = Int32.ofNat 103) = False) ∧ (((97 : Int32) = Int32.ofNat 104) = False) ∧ (((97 : Int32) = Int32.ofNat 105) = False) ∧ (((97 : Int32) = Int32.ofNat 106) = False) ∧ (((97 : Int32) = Int32.ofNat 107) = False) ∧ (((97 : Int32) = Int32.ofNat 108) = False) ∧ (((97 : Int32) = Int32.ofNat 109) = False) ∧ (((97 : Int32) = Int32.ofNat 110) = False) ∧ (((97 : Int32) = Int32.ofNat 111) = False) ∧ (((97 : Int32) = Int32.ofNat 112) = False) ∧ (((97 : Int32) = Int32.ofNat 113) = False) ∧ (((97 : Int32) = Int32.ofNat 114) = False) ∧ (((97 : Int32) = Int32.ofNat 115) = False) ∧ (((99 : Int32) = Int32.ofNat 97) = False) ∧ (((99 : Int32) = Int32.ofNat 98) = False) ∧ (((99 : Int32) = Int32.ofNat 99) = True) ∧ (((99 : Int32) = Int32.ofNat 100) = False) ∧ (((99 : Int32) = Int32.ofNat 101) = False) ∧ (((99 : Int32) = Int32.ofNat 102) = False) ∧ (((99 : Int32) = Int32.ofNat 103) = False) ∧ (((99 : Int32) = Int32.ofNat 104) = False) ∧ (((99 : Int32) = Int32.ofNat 105) = False) ∧ (((99 : Int32) = Int32.ofNat 106) = False) ∧ (((99 : Int32) = Int32.ofNat 107) = False) ∧ (((99 : Int32) = Int32.ofNat 108) = False) ∧ (((99 : Int32) = Int32.ofNat 109) = False) ∧ (((99 : Int32) = Int32.ofNat 110) = False) ∧ (((99 : Int32) = Int32.ofNat 111) = False) ∧ (((99 : Int32) = Int32.ofNat 112) = False) ∧ (((99 : Int32) = Int32.ofNat 113) = False) ∧ (((99 : Int32) = Int32.ofNat 114) = False) ∧ (((99 : Int32) = Int32.ofNat 115) = False) ∧ (((102 : Int32) = Int32.ofNat 97) = False) ∧ (((102 : Int32) = Int32.ofNat 98) = False) ∧ (((102 : Int32) = Int32.ofNat 99) = False) ∧ (((102 : Int32) = Int32.ofNat 100) = False) ∧ (((102 : Int32) = Int32.ofNat 101) = False) ∧ (((102 : Int32) = Int32.ofNat 102) = True) ∧ (((102 : Int32) = Int32.ofNat 103) = False) ∧ (((102 : Int32) = Int32.ofNat 104) = False) ∧ (((102 : Int32) = Int32.ofNat 105) = False) ∧ (((102 : Int32) = Int32.ofNat 106) = False) ∧ (((102 : Int32) = Int32.ofNat 107) = False) ∧ (((102 : Int32) = Int32.ofNat 108) = False) ∧ (((102 : Int32) = Int32.ofNat 109) = False) ∧ (((102 : Int32) = Int32.ofNat 110) = False) ∧ (((102 : Int32) = Int32.ofNat 111) = False) ∧ (((102 : Int32) = Int32.ofNat 112) = False) ∧ (((102 : Int32) = Int32.ofNat 113) = False) ∧ (((102 : Int32) = Int32.ofNat 114) = False) ∧ (((102 : Int32) = Int32.ofNat 115) = False) ∧ (((108 : Int32) = Int32.ofNat 97) = False) ∧ (((108 : Int32) = Int32.ofNat 98) = False) ∧ (((108 : Int32) = Int32.ofNat 99) = False) ∧ (((108 : Int32) = Int32.ofNat 100) = False) ∧ (((108 : Int32) = Int32.ofNat 101) = False) ∧ (((108 : Int32) = Int32.ofNat 102) = False) ∧ (((108 : Int32) = Int32.ofNat 103) = False) ∧ (((108 : Int32) = Int32.ofNat 104) = False) ∧ (((108 : Int32) = Int32.ofNat 105) = False) ∧ (((108 : Int32) = Int32.ofNat 106) = False) ∧ (((108 : Int32) = Int32.ofNat 107) = False) ∧ (((108 : Int32) = Int32.ofNat 108) = True) ∧ (((108 : Int32) = Int32.ofNat 109) = False) ∧ (((108 : Int32) = Int32.ofNat 110) = False) ∧ (((108 : Int32) = Int32.ofNat 111) = False) ∧ (((108 : Int32) = Int32.ofNat 112) = False) ∧ (((108 : Int32) = Int32.ofNat 113) = False) ∧ (((108 : Int32) = Int32.ofNat 114) = False) ∧ (((108 : Int32) = Int32.ofNat 115) = False) ∧ (((111 : Int32) = Int32.ofNat 97) = False) ∧ (((111 : Int32) = Int32.ofNat 98) = False) ∧ (((111 : Int32) = Int32.ofNat 99) = False) ∧ (((111 : Int32) = Int32.ofNat 100) = False) ∧ (((111 : Int32) = Int32.ofNat 101) = False) ∧ (((111 : Int32) = Int32.ofNat 102) = False) ∧ (((111 : Int32) = Int32.ofNat 103) = False) ∧ (((111 : Int32) = Int32.ofNat 104) = False) ∧ (((111 : Int32) = Int32.ofNat 105) = False) ∧ (((111 : Int32) = Int32.ofNat 106) = False) ∧ (((111 : Int32) = Int32.ofNat 107) = False) ∧ (((111 : Int32) = Int32.ofNat 108) = False) ∧ (((111 : Int32) = Int32.ofNat 109) = False) ∧ (((111 : Int32) = Int32.ofNat 110) = False) ∧ (((111 : Int32) = Int32.ofNat 111) = True) ∧ (((111 : Int32) = Int32.ofNat 112) = False) ∧ (((111 : Int32) = Int32.ofNat 113) = False) ∧ (((111 : Int32) = Int32.ofNat 114) = False) ∧ (((111 : Int32) = Int32.ofNat 115) = False) ∧ (((114 : Int32) = Int32.ofNat 97) = False) ∧ (((114 : Int32) = Int32.ofNat 98) = False) ∧ (((114 : Int32) = Int32.ofNat 99) = False) ∧ (((114 : Int32) = Int32.ofNat 100) = False) ∧ (((114 : Int32) = Int32.ofNat 101) = False) ∧ (((114 : Int32) = Int32.ofNat 102) = False) ∧ (((114 : Int32) = Int32.ofNat 103) = False) ∧ (((114 : Int32) = Int32.ofNat 104) = False) ∧ (((114 : Int32) = Int32.ofNat 105) = False) ∧ (((114 : Int32) = Int32.ofNat 106) = False) ∧ (((114 : Int32) = Int32.ofNat 107) = False) ∧ (((114 : Int32) = Int32.ofNat 108) = False) ∧ (((114 : Int32) = Int32.ofNat 109) = False) ∧ (((114 : Int32) = Int32.ofNat 110) = False) ∧ (((114 : Int32) = Int32.ofNat 111) = False) ∧ (((114 : Int32) = Int32.ofNat 112) = False) ∧ (((114 : Int32) = Int32.ofNat 113) = False) ∧ (((114 : Int32) = Int32.ofNat 114) = True) ∧ (((114 : Int32) = Int32.ofNat 115) = False) ∧ (((115 : Int32) = Int32.ofNat 97) = False) ∧ (((115 : Int32) = Int32.ofNat 98) = False) ∧ (((115 : Int32) = Int32.ofNat 99) = False) ∧ (((115 : Int32) = Int32.ofNat 100) = False) ∧ (((115 : Int32) = Int32.ofNat 101) = False) ∧ (((115 : Int32) = Int32.ofNat 102) = False) ∧ (((115 : Int32) = Int32.ofNat 103) = False) ∧ (((115 : Int32) = Int32.ofNat 104) = False) ∧ (((115 : Int32) = Int32.ofNat 105) = False) ∧ (((115 : Int32) = Int32.ofNat 106) = False) ∧ (((115 : Int32) = Int32.ofNat 107) = False) ∧ (((115 : Int32) = Int32.ofNat 108) = False) ∧ (((115 : Int32) = Int32.ofNat 109) = False) ∧ (((115 : Int32) = Int32.ofNat 110) = False) ∧ (((115 : Int32) = Int32.ofNat 111) = False) ∧ (((115 : Int32) = Int32.ofNat 112) = False) ∧ (((115 : Int32) = Int32.ofNat 113) = False) ∧ (((115 : Int32) = Int32.ofNat 114) = False) ∧ (((115 : Int32) = Int32.ofNat 115) = True) := ⟨eq_true (by decide), eq_false (by decide), eq_false (by decide), eq_false (by decide), eq_false (by decide), eq_false (by decide), eq_false (by decide), eq_false (by decide), eq_false (by decide), eq_false (by decide), eq_false (by decide), eq_false (by decide), eq_false (by decide), eq_false (by decide), eq_false (by decide), eq_false (by decide), eq_false (by decide), eq_false (by decide), eq_false (by decide), eq_false (by decide), eq_false (by decide), eq_true (by decide), eq_false (by decide), eq_false (by decide), eq_false (by decide), eq_false (by decide), eq_false (by decide), eq_false (by decide), eq_false (by decide), eq_false (by decide), eq_false (by decide), eq_false (by decide), eq_false (by decide), eq_false (by decide), eq_false (by decide), eq_false (by decide), eq_false (by decide), eq_false (by decide), eq_false (by decide), eq_false (by decide), eq_false (by decide), eq_false (by decide), eq_false (by decide), eq_true (by decide), eq_false (by decide), eq_false (by decide), eq_false (by decide), eq_false (by decide), eq_false (by decide), eq_false (by decide), eq_false (by decide), eq_false (by decide), eq_false (by decide), eq_false (by decide), eq_false (by decide), eq_false (by decide), eq_false (by decide), eq_false (by decide), eq_false (by decide), eq_false (by decide), eq_false (by decide), eq_false (by decide), eq_false (by decide), eq_false (by decide), eq_false (by decide), eq_false (by decide), eq_false (by decide), eq_false (by decide), eq_true (by decide), eq_false (by decide), eq_false (by decide), eq_false (by decide), eq_false (by decide), eq_false (by decide), eq_false (by decide), eq_false (by decide), eq_false (by decide), eq_false (by decide), eq_false (by decide), eq_false (by decide), eq_false (by decide), eq_false (by decide), eq_false (by decide), eq_false (by decide), eq_false (by decide), eq_false (by decide), eq_false (by decide), eq_false (by decide), eq_false (by decide), eq_false (by decide), eq_true (by decide), eq_false (by decide), eq_false (by decide), eq_false (by decide), eq_false (by decide), eq_false (by decide), eq_false (by decide), eq_false (by decide), eq_false (by decide), eq_false (by decide), eq_false (by decide), eq_false (by decide), eq_false (by decide), eq_false (by decide), eq_false (by decide), eq_false (by decide), eq_false (by decide), eq_false (by decide), eq_false (by decide), eq_false (by decide), eq_false (by decide), eq_false (by decide), eq_true (by decide), eq_false (by decide), eq_false (by decide), eq_false (by decide), eq_false (by decide), eq_false (by decide), eq_false (by decide), eq_false (by decide), eq_false (by decide), eq_false (by decide), eq_false (by decide), eq_false (by decide), eq_false (by decide), eq_false (by decide), eq_false (by decide), eq_false (by decide), eq_false (by decide), eq_false (by decide), eq_false (by decide), eq_false (by decide), eq_true (by decide)⟩
/-! THE TEXT's LAW read by the class -/
/-- of a fault: the place alone -/
def rq (S0 : pm_S) (D : Nat) (W : Nat → Nat) (n : Nat) (S : pm_S) (p : Nat) : Prop :=
  (pm_n S = pm_n S0 ∧ pm_k S = pm_k S0 ∧ pm_z S = pm_z S0 ∧ pm_r S = pm_r S0 ∧ pm_l S = pm_l S0) ∧ (∀ x j, ¬ (x = 5 ∧ j = 2) → x ≠ D → (∀ i, i < 6 → x ≠ W i) → pm_i S x j = pm_i S0 x j) ∧ rd S p n
section CRL
variable {G : pm_G} {S0 : pm_S} {D n : Nat} {W : Nat → Nat}
theorem rs.q {S : pm_S} {p : Nat} {L : gx_L} (h : rs S0 D W n S p L) : rq S0 D W n S p := ⟨h.1, h.2.1, h.2.2.1⟩
theorem rd.wD {S : pm_S} {p n x j : Nat} {v : Int32} (h : rd S p n) (h5 : 5 ≠ x) (h6 : 6 ≠ x) : rd (pm_wI S x j v) p n := by
  obtain ⟨r1, r2, r3, r4, r5⟩ := h
  exact ⟨by rw [pm_i_wI_ne h5]; exact r1, by rw [pm_i_wI_ne h5]; exact r2, r3, r4, fun k hk => by rw [pm_i_wI_ne h6]; exact r5 k hk⟩
theorem rq.wD (hd : dl S0 D W) {S : pm_S} {p j : Nat} {v : Int32} (h : rq S0 D W n S p) : rq S0 D W n (pm_wI S D j v) p :=
  ⟨h.1, fun x j' h1 h2 h3 => by rw [pm_i_wI_ne h2]; exact h.2.1 x j' h1 h2 h3, h.2.2.wD (hd.loD (by omega) (by omega)) (hd.loD (by omega) (by omega))⟩
/-- a number of the draft -/
theorem rs.num (hd : dl S0 D W) {S : pm_S} {p f v : Nat} {L : gx_L} (h : rs S0 D W n S p L) (h8 : 8 ≤ f) (h16 : f ≤ 16) : rs S0 D W n (pm_wI S D f (nI v)) p (L.1, va_up L.2.1 f v, L.2.2) := by
  have hq := h.q.wD hd (j := f) (v := nI v)
  obtain ⟨l1, l2, l3, l4, l5, l6, l7⟩ := h.2.2.2
  refine ⟨hq.1, hq.2.1, hq.2.2, ?_, ?_, l3, l4, fun f' f1 f2 => ?_, fun k hk => ?_, fun k hk => ?_⟩
  · rw [pm_i_wI, if_neg (by omega)]; exact l1
  · rw [pm_i_wI, if_neg (by omega)]; exact l2
  · rw [pm_i_wI]
    by_cases e : f' = f
    · subst e; rw [if_pos ⟨rfl, rfl⟩]; simp [va_up]
    · rw [if_neg (by omega), l5 f' f1 f2]; simp [va_up, e]
  · have := l6 k hk
    rw [pm_i_wI_ne (hd.ne (q := 0) (by omega)).symm, pm_i_wI_ne (hd.ne (q := 1) (by omega)).symm, pm_i_wI_ne (hd.ne (q := 2) (by omega)).symm, pm_i_wI_ne (hd.ne (q := 3) (by omega)).symm, pm_i_wI_ne (hd.ne (q := 4) (by omega)).symm]
    exact this
  · rw [pm_i_wI_ne (hd.ne (q := 5) (by omega)).symm]; exact l7 k hk
/-- a clause owe more -/
theorem rs.owe (hd : dl S0 D W) {S : pm_S} {p s m wn a : Nat} {L : gx_L} (h : rs S0 D W n S p L) (hc : L.1.length < 10) : rs S0 D W n (pm_wI (pm_wI (pm_wI (pm_wI (pm_wI (pm_wI S (W 0) L.1.length (nI s)) (W 1) L.1.length (nI m)) (W 2) L.1.length (nI wn)) (W 3) L.1.length (nI a)) (W 4) L.1.length (nI L.2.2.length)) D 2 (nI (L.1.length + 1))) p (L.1 ++ [(s, m, wn, a, L.2.2.length)], L.2.1, L.2.2) := by
  have n01 : ∀ i j, i < 6 → j < 6 → i ≠ j → W i ≠ W j := fun i j hi hj hij e => hij (hd.2.2.2.2 i j hi hj e)
  have nD : ∀ i, i < 6 → D ≠ W i := fun i hi => hd.ne hi
  have n5 : ∀ i, i < 6 → 5 ≠ W i := fun i hi => hd.lo hi (by omega) (by omega)
  have n6 : ∀ i, i < 6 → 6 ≠ W i := fun i hi => hd.lo hi (by omega) (by omega)
  have d5 : 5 ≠ D := hd.loD (by omega) (by omega)
  have d6 : 6 ≠ D := hd.loD (by omega) (by omega)
  obtain ⟨l1, l2, l3, l4, l5, l6, l7⟩ := h.2.2.2
  have gD : ∀ j v, pm_i (pm_wI (pm_wI (pm_wI (pm_wI (pm_wI (pm_wI S (W 0) L.1.length (nI s)) (W 1) L.1.length (nI m)) (W 2) L.1.length (nI wn)) (W 3) L.1.length (nI a)) (W 4) L.1.length (nI L.2.2.length)) D 2 v) D j = if j = 2 then v else pm_i S D j := fun j v => by
    rw [pm_i_wI]
    by_cases hj : j = 2
    · rw [if_pos ⟨rfl, hj⟩, if_pos hj]
    · rw [if_neg (fun z => hj z.2), if_neg hj, pm_i_wI_ne (nD 4 (by omega)), pm_i_wI_ne (nD 3 (by omega)), pm_i_wI_ne (nD 2 (by omega)), pm_i_wI_ne (nD 1 (by omega)), pm_i_wI_ne (nD 0 (by omega))]
  have rest : ∀ x, x ≠ D → (∀ i, i < 6 → x ≠ W i) → ∀ v, pm_i (pm_wI (pm_wI (pm_wI (pm_wI (pm_wI (pm_wI S (W 0) L.1.length (nI s)) (W 1) L.1.length (nI m)) (W 2) L.1.length (nI wn)) (W 3) L.1.length (nI a)) (W 4) L.1.length (nI L.2.2.length)) D 2 v) x = pm_i S x := fun x hx hw v => by
    rw [pm_i_wI_ne hx, pm_i_wI_ne (hw 4 (by omega)), pm_i_wI_ne (hw 3 (by omega)), pm_i_wI_ne (hw 2 (by omega)), pm_i_wI_ne (hw 1 (by omega)), pm_i_wI_ne (hw 0 (by omega))]
  have row : ∀ i, i < 5 → ∀ v k, pm_i (pm_wI (pm_wI (pm_wI (pm_wI (pm_wI (pm_wI S (W 0) L.1.length (nI s)) (W 1) L.1.length (nI m)) (W 2) L.1.length (nI wn)) (W 3) L.1.length (nI a)) (W 4) L.1.length (nI L.2.2.length)) D 2 v) (W i) k = if k = L.1.length then (match i with | 0 => nI s | 1 => nI m | 2 => nI wn | 3 => nI a | _ => nI L.2.2.length) else pm_i S (W i) k := by
    intro i hi v k
    rw [pm_i_wI_ne (nD i (by omega)).symm]
    have : i = 0 ∨ i = 1 ∨ i = 2 ∨ i = 3 ∨ i = 4 := by omega
    rcases this with rfl | rfl | rfl | rfl | rfl
    · rw [pm_i_wI_ne (n01 0 4 (by omega) (by omega) (by omega)), pm_i_wI_ne (n01 0 3 (by omega) (by omega) (by omega)), pm_i_wI_ne (n01 0 2 (by omega) (by omega) (by omega)), pm_i_wI_ne (n01 0 1 (by omega) (by omega) (by omega)), pm_i_wI]; simp
    · rw [pm_i_wI_ne (n01 1 4 (by omega) (by omega) (by omega)), pm_i_wI_ne (n01 1 3 (by omega) (by omega) (by omega)), pm_i_wI_ne (n01 1 2 (by omega) (by omega) (by omega)), pm_i_wI, pm_i_wI_ne (n01 1 0 (by omega) (by omega) (by omega))]; simp
    · rw [pm_i_wI_ne (n01 2 4 (by omega) (by omega) (by omega)), pm_i_wI_ne (n01 2 3 (by omega) (by omega) (by omega)), pm_i_wI, pm_i_wI_ne (n01 2 1 (by omega) (by omega) (by omega)), pm_i_wI_ne (n01 2 0 (by omega) (by omega) (by omega))]; simp
    · rw [pm_i_wI_ne (n01 3 4 (by omega) (by omega) (by omega)), pm_i_wI, pm_i_wI_ne (n01 3 2 (by omega) (by omega) (by omega)), pm_i_wI_ne (n01 3 1 (by omega) (by omega) (by omega)), pm_i_wI_ne (n01 3 0 (by omega) (by omega) (by omega))]; simp
    · rw [pm_i_wI, pm_i_wI_ne (n01 4 3 (by omega) (by omega) (by omega)), pm_i_wI_ne (n01 4 2 (by omega) (by omega) (by omega)), pm_i_wI_ne (n01 4 1 (by omega) (by omega) (by omega)), pm_i_wI_ne (n01 4 0 (by omega) (by omega) (by omega))]; simp
  obtain ⟨r1, r2, r3, r4, r5⟩ := h.2.2.1
  refine ⟨h.1, fun x j h1 h2 h3 => ?_, ⟨?_, ?_, r3, r4, fun k hk => ?_⟩, ?_, ?_, ?_, l4, fun f f1 f2 => ?_, fun k hk => ?_, fun k hk => ?_⟩
  · rw [rest x h2 h3]; exact h.2.1 x j h1 h2 h3
  · rw [rest 5 d5 n5]; exact r1
  · rw [rest 5 d5 n5]; exact r2
  · rw [rest 6 d6 n6]; exact r5 k hk
  · rw [gD, if_pos rfl]; simp
  · rw [gD, if_neg (by omega)]; exact l2
  · simp; omega
  · rw [gD, if_neg (by omega)]; exact l5 f f1 f2
  · rw [row 0 (by omega), row 1 (by omega), row 2 (by omega), row 3 (by omega), row 4 (by omega)]
    by_cases hkl : k = L.1.length
    · subst hkl
      have : (L.1 ++ [(s, m, wn, a, L.2.2.length)]).getD L.1.length (0, 0, 0, 0, 0) = (s, m, wn, a, L.2.2.length) := by
        rw [List.getD_eq_getElem?_getD, List.getElem?_append_right (Nat.le_refl _)]; simp
      try simp only [this, if_pos]
      exact ⟨trivial, trivial, trivial, trivial, trivial⟩
    · have hk2 : k < L.1.length := by simp at hk; omega
      have : (L.1 ++ [(s, m, wn, a, L.2.2.length)]).getD k (0, 0, 0, 0, 0) = L.1.getD k (0, 0, 0, 0, 0) := by
        rw [List.getD_eq_getElem?_getD, List.getElem?_append_left hk2, List.getD_eq_getElem?_getD]
      try simp only [this, if_neg hkl]
      exact l6 k hk2
  · rw [pm_i_wI_ne (nD 5 (by omega)).symm, pm_i_wI_ne (n01 5 4 (by omega) (by omega) (by omega)), pm_i_wI_ne (n01 5 3 (by omega) (by omega) (by omega)), pm_i_wI_ne (n01 5 2 (by omega) (by omega) (by omega)), pm_i_wI_ne (n01 5 1 (by omega) (by omega) (by omega)), pm_i_wI_ne (n01 5 0 (by omega) (by omega) (by omega))]; exact l7 k hk
theorem rd_55 (hS0 : Sh S0) (hd0 : dl S0 D W) {d i : Nat} (hd : 7 ≤ d) (hi : i < 10) {S : pm_S} {p : Nat} {L : gx_L} {q : Int32 → pm_S → Prop} (hr : rs S0 D W n S p L) (h1 : ∀ x v S', gx_bd (gx_w (gx_b (pm_i S0 6) n) (wb i) p) (fun _ r => gx_num (gx_b (pm_i S0 6) n) 0 4 r) = (x, some v) → v < 10000 → rs S0 D W n S' x L → q (nI v) S') (h0 : ∀ x S', gx_bd (gx_w (gx_b (pm_i S0 6) n) (wb i) p) (fun _ r => gx_num (gx_b (pm_i S0 6) n) 0 4 r) = (x, none) → rs S0 D W n S' x L → q (-1) S') : pm_CI G d 55 [.ref 5, .retAddr i] S q := by
  have hS := hr.sh hS0
  have hdl := hr.todl hd0
  have ht := hr.text hd0
  have hr3 := hr.2.2.1
  have hn := hr3.2.2.2.1
  have hpn := hr3.2.2.1
  have hr5 : pm_r S 5 3 = some D := hdl.1
  have hkD : pm_k S D = 5 := hdl.2.1
  have rB : gx_b (pm_i S 6) n = gx_b (pm_i S0 6) n := by rw [ht]
  refine pm_goI 55 4 pb_c55 (by decide) (Nat.le_of_ble_eq_true rfl) rfl ?_
  try simp only [show pm_mL 55 = 2 from rfl, pm_WI0, pm_WI1, pm_WI2, pm_WI3, pm_WI4, pm_WI5, pm_WV, pm_WW, pm_WX, pb_B55, pm_if, pm_QI_at, pm_QL_at, pm_QV_at, pm_QR_at, pm_QR_at0, pm_QR_at1, Nat.reduceSub, Nat.reduceAdd, List.replicate_zero, List.replicate_succ, true_and, and_true, true_or, or_true, and_self, reduceIte, Nat.reduceEqDiff, Nat.reduceLT, Nat.reduceLeDiff, Nat.reduceMul, false_and, and_false, reduceCtorEq, false_or, or_false, not_true_eq_false, not_false_eq_true, true_implies, false_implies, implies_true, lf_10, eq_self, Int32.reduceLT, Int32.reduceLE, Int32.reduceAdd, Int32.reduceSub, Int32.reduceDiv, Int32.reduceMul, pm_same, pm_i_wI, pm_l_wL, pm_l_wM, pm_oR_rf, pm_oQ_rf, sh_k5 hS, nI_1, sw_e, LQ1, LQ2, LQ3]
  refine ⟨by omega, rd_45 (n := n) (p := p) (by omega) hS hr3 hi (fun x ex hx => ?_) (fun x ex hx => ?_)⟩ <;> rw [rB] at ex
  · have hr2 := hr.mv hd0 (q := x) hx
    have hS2 := hr2.sh hS0
    have rB2 : gx_b (pm_i (pm_wI S 5 2 (nI x)) 6) n = gx_b (pm_i S0 6) n := by rw [rd_B, rB]
    rw [gx_bd_some ex] at h1 h0
    try simp only [pm_WV, pm_WW, true_and, and_true, true_or, or_true, and_self, reduceIte, Nat.reduceEqDiff, Nat.reduceLT, Nat.reduceLeDiff, Nat.reduceMul, false_and, and_false, reduceCtorEq, false_or, or_false, not_true_eq_false, not_false_eq_true, true_implies, false_implies, implies_true, lf_10, eq_self, Int32.reduceLT, Int32.reduceLE, Int32.reduceAdd, Int32.reduceSub, Int32.reduceDiv, Int32.reduceMul, pm_same, pm_i_wI, pm_l_wL, pm_l_wM, pm_oR_rf, pm_oQ_rf, sh_k5 hS, nI_1, sw_e, LQ1, LQ2, LQ3, pm_WI0, pm_WI1, pm_WI2, pm_WI3, pm_WI4, pm_WI5, pm_WV, pm_WW, pm_WX, pb_B55, pm_if, pm_QI_at, pm_QL_at, pm_QV_at, pm_QR_at, pm_QR_at0, pm_QR_at1, Nat.reduceSub, Nat.reduceAdd, List.replicate_zero, List.replicate_succ]
    try (refine ⟨fun z => absurd z (by decide), fun _ => ?_⟩)
    refine ⟨by omega, rd_48_04 (n := n) hS2 hr2.2.2.1 (fun y v e1 e2 e3 e4 => ?_) (fun e1 => ?_)⟩ <;> rw [rB2] at e1
    · rw [pm_wI_wI]; exact h1 y v _ e1 e4 (hr.mv hd0 e3)
    · exact h0 x _ e1 hr2
  · rw [gx_bd_none ex] at h0
    try simp only [pm_WV, pm_WW, true_and, and_true, true_or, or_true, and_self, reduceIte, Nat.reduceEqDiff, Nat.reduceLT, Nat.reduceLeDiff, Nat.reduceMul, false_and, and_false, reduceCtorEq, false_or, or_false, not_true_eq_false, not_false_eq_true, true_implies, false_implies, implies_true, lf_10, eq_self, Int32.reduceLT, Int32.reduceLE, Int32.reduceAdd, Int32.reduceSub, Int32.reduceDiv, Int32.reduceMul, pm_same, pm_i_wI, pm_l_wL, pm_l_wM, pm_oR_rf, pm_oQ_rf, sh_k5 hS, nI_1, sw_e, LQ1, LQ2, LQ3, pm_WI0, pm_WI1, pm_WI2, pm_WI3, pm_WI4, pm_WI5, pm_WV, pm_WW, pm_WX, pb_B55, pm_if, pm_QI_at, pm_QL_at, pm_QV_at, pm_QR_at, pm_QR_at0, pm_QR_at1, Nat.reduceSub, Nat.reduceAdd, List.replicate_zero, List.replicate_succ]
    first | exact h0 x _ rfl (hr.mv hd0 hx) | exact ⟨fun _ => h0 x _ rfl (hr.mv hd0 hx), fun z => absurd rfl z⟩
theorem wb_is : wb 0 = [111, 119, 101, 32] ∧ wb 1 = [105, 102, 32] ∧ wb 2 = [117, 110, 108, 101, 115, 115, 32] ∧ wb 3 = [97, 116, 101, 32] ∧ wb 4 = [101, 97, 99, 104, 32] ∧ wb 5 = [115, 99, 97, 108, 101, 32] ∧ wb 6 = [108, 105, 109, 105, 116, 32] ∧ wb 7 = [97, 110, 115, 119, 101, 114, 32] ∧ wb 8 = [99, 97, 112, 32] ∧ wb 9 = [102, 101, 119, 32] := by decide
theorem gx_one_eq {B : Nat → Nat} {L : gx_L} {f p : Nat} {ws : List Nat} : gx_one B L f ws p = gx_bd (gx_bd (gx_w B ws p) (fun _ r => gx_num B 0 4 r)) (fun v q => (q, some (L.1, va_up L.2.1 f v, L.2.2))) := by
  unfold gx_one; rw [gx_bd_assoc]
theorem rs.rowD (hd : dl S0 D W) {S : pm_S} {p : Nat} {L : gx_L} (h : rs S0 D W n S p L) : pm_r S 5 3 = some D ∧ pm_k S D = 5 ∧ pm_k S 5 = pm_k S0 5 := ⟨(h.todl hd).1, (h.todl hd).2.1, by rw [h.1.2.1]⟩
theorem rq.todl (hd : dl S0 D W) {S : pm_S} {p : Nat} (h : rq S0 D W n S p) : dl S D W := hd.same h.1.2.1 h.1.2.2.1 h.1.2.2.2.1
theorem rd43_108 (hS0 : Sh S0) (hd0 : dl S0 D W) {d : Nat} (hd : 21 ≤ d) {S : pm_S} {p : Nat} {L : gx_L} {q : Int32 → pm_S → Prop} (hr : rs S0 D W n S p L) (hl : L.2.2.length ≤ p) (hc : L.1.length < 10) (y : gx_b (pm_i S0 6) n p = 108) (h1 : ∀ x L' S', gx_clause (gx_b (pm_i S0 6) n) L p = (x, some L') → rs S0 D W n S' x L' → q 1 S') (h0 : ∀ x S', gx_clause (gx_b (pm_i S0 6) n) L p = (x, none) → rq S0 D W n S' x → q 0 S') : pm_CI G d 43 [.ref 5] S q := by
  have hS := hr.sh hS0
  have hdl := hr.todl hd0
  have ht := hr.text hd0
  have hr3 := hr.2.2.1
  have hn := hr3.2.2.2.1
  have hpn := hr3.2.2.1
  have hr5 : pm_r S 5 3 = some D := hdl.1
  have hkD : pm_k S D = 5 := hdl.2.1
  have rB : gx_b (pm_i S 6) n = gx_b (pm_i S0 6) n := by rw [ht]
  have es : sg (gx_b (pm_i S0 6) n p) = 108 := by rw [y]; rfl
  have ec : gx_clause (gx_b (pm_i S0 6) n) L p = gx_one (gx_b (pm_i S0 6) n) L 10 [108, 105, 109, 105, 116, 32] p := by
    unfold gx_clause; rw [if_neg (by omega), if_neg (by omega), if_neg (by omega), if_pos y]
  rw [gx_one_eq] at ec
  have hwb : wb 6 = [108, 105, 109, 105, 116, 32] := by decide
  refine pm_goI 43 1 pb_c43 (by decide) (Nat.le_of_ble_eq_true rfl) rfl ?_
  try simp only [show pm_mL 43 = 1 from rfl, pm_WI0, pm_WI1, pm_WI2, pm_WI3, pm_WI4, pm_WI5, pm_WV, pm_WW, pm_WX, pb_B43, pm_if, pm_QI_at, pm_QL_at, pm_QV_at, pm_QR_at, pm_QR_at0, pm_QR_at1, Nat.reduceSub, Nat.reduceAdd, List.replicate_zero, List.replicate_succ, true_and, and_true, true_or, or_true, and_self, reduceIte, Nat.reduceEqDiff, Nat.reduceLT, Nat.reduceLeDiff, Nat.reduceMul, false_and, and_false, reduceCtorEq, false_or, or_false, not_true_eq_false, not_false_eq_true, true_implies, false_implies, implies_true, lf_10, eq_self, Int32.reduceLT, Int32.reduceLE, Int32.reduceAdd, Int32.reduceSub, Int32.reduceDiv, Int32.reduceMul, pm_same, pm_i_wI, pm_l_wL, pm_l_wM, pm_oR_rf, pm_oQ_rf, sh_k5 hS, nI_1, sw_e, LQ1, LQ2, LQ3]
  refine ⟨by omega, rd_44 hS hr3 ?_⟩
  rw [rB, es]
  try simp only [pm_WV, pm_WW, true_and, and_true, true_or, or_true, and_self, reduceIte, Nat.reduceEqDiff, Nat.reduceLT, Nat.reduceLeDiff, Nat.reduceMul, false_and, and_false, reduceCtorEq, false_or, or_false, not_true_eq_false, not_false_eq_true, true_implies, false_implies, implies_true, lf_10, eq_self, Int32.reduceLT, Int32.reduceLE, Int32.reduceAdd, Int32.reduceSub, Int32.reduceDiv, Int32.reduceMul, pm_same, pm_i_wI, pm_l_wL, pm_l_wM, pm_oR_rf, pm_oQ_rf, sh_k5 hS, nI_1, sw_e, LQ1, LQ2, LQ3, pm_WI0, pm_WI1, pm_WI2, pm_WI3, pm_WI4, pm_WI5, pm_WV, pm_WW, pm_WX, pb_B43, pm_if, pm_QI_at, pm_QL_at, pm_QV_at, pm_QR_at, pm_QR_at0, pm_QR_at1, Nat.reduceSub, Nat.reduceAdd, List.replicate_zero, List.replicate_succ, hr5, hkD]
  refine pm_wb_ok pb_c43 3 128 0 _ _ _ _ _ ?_
  try simp only [pm_WI0, pm_WI1, pm_WI2, pm_WI3, pm_WI4, pm_WI5, pm_WV, pm_WW, pm_WX, pb_B43, pm_if, pm_QI_at, pm_QL_at, pm_QV_at, pm_QR_at, pm_QR_at0, pm_QR_at1, Nat.reduceSub, Nat.reduceAdd, List.replicate_zero, List.replicate_succ, true_and, and_true, true_or, or_true, and_self, reduceIte, Nat.reduceEqDiff, Nat.reduceLT, Nat.reduceLeDiff, Nat.reduceMul, false_and, and_false, reduceCtorEq, false_or, or_false, not_true_eq_false, not_false_eq_true, true_implies, false_implies, implies_true, lf_10, eq_self, Int32.reduceLT, Int32.reduceLE, Int32.reduceAdd, Int32.reduceSub, Int32.reduceDiv, Int32.reduceMul, pm_same, pm_i_wI, pm_l_wL, pm_l_wM, pm_oR_rf, pm_oQ_rf, sh_k5 hS, nI_1, sw_e, LQ1, LQ2, LQ3, hr5, hkD]
  refine ⟨by omega, rd_55 (i := 6) hS0 hd0 (by omega) (by omega) hr (fun x v S' e hv hS' => ?_) (fun x S' e hS' => ?_)⟩ <;> rw [hwb] at e
  · obtain ⟨z1, z2, z3⟩ := hS'.rowD hd0
    have hge : ¬ nI v < 0 := nI_pos (by omega)
    have hk5 : pm_k S' 5 = 6 := sh_k5 (hS'.sh hS0)
    try simp only [pm_WV, pm_WW, true_and, and_true, true_or, or_true, and_self, reduceIte, Nat.reduceEqDiff, Nat.reduceLT, Nat.reduceLeDiff, Nat.reduceMul, false_and, and_false, reduceCtorEq, false_or, or_false, not_true_eq_false, not_false_eq_true, true_implies, false_implies, implies_true, lf_10, eq_self, Int32.reduceLT, Int32.reduceLE, Int32.reduceAdd, Int32.reduceSub, Int32.reduceDiv, Int32.reduceMul, pm_same, pm_i_wI, pm_l_wL, pm_l_wM, pm_oR_rf, pm_oQ_rf, sh_k5 hS, nI_1, sw_e, LQ1, LQ2, LQ3, pm_WI0, pm_WI1, pm_WI2, pm_WI3, pm_WI4, pm_WI5, pm_WV, pm_WW, pm_WX, pb_B43, pm_if, pm_QI_at, pm_QL_at, pm_QV_at, pm_QR_at, pm_QR_at0, pm_QR_at1, Nat.reduceSub, Nat.reduceAdd, List.replicate_zero, List.replicate_succ, z1, z2, hk5, hge]
    exact h1 x _ _ (by rw [ec, gx_bd_some e]) (hS'.num hd0 (by omega) (by omega))
  · obtain ⟨z1, z2, z3⟩ := hS'.rowD hd0
    have hk5 : pm_k S' 5 = 6 := sh_k5 (hS'.sh hS0)
    try simp only [pm_WV, pm_WW, true_and, and_true, true_or, or_true, and_self, reduceIte, Nat.reduceEqDiff, Nat.reduceLT, Nat.reduceLeDiff, Nat.reduceMul, false_and, and_false, reduceCtorEq, false_or, or_false, not_true_eq_false, not_false_eq_true, true_implies, false_implies, implies_true, lf_10, eq_self, Int32.reduceLT, Int32.reduceLE, Int32.reduceAdd, Int32.reduceSub, Int32.reduceDiv, Int32.reduceMul, pm_same, pm_i_wI, pm_l_wL, pm_l_wM, pm_oR_rf, pm_oQ_rf, sh_k5 hS, nI_1, sw_e, LQ1, LQ2, LQ3, pm_WI0, pm_WI1, pm_WI2, pm_WI3, pm_WI4, pm_WI5, pm_WV, pm_WW, pm_WX, pb_B43, pm_if, pm_QI_at, pm_QL_at, pm_QV_at, pm_QR_at, pm_QR_at0, pm_QR_at1, Nat.reduceSub, Nat.reduceAdd, List.replicate_zero, List.replicate_succ, z1, z2, hk5]
    exact h0 x _ (by rw [ec, gx_bd_none e]) (hS'.q.wD hd0)
theorem rd43_97 (hS0 : Sh S0) (hd0 : dl S0 D W) {d : Nat} (hd : 21 ≤ d) {S : pm_S} {p : Nat} {L : gx_L} {q : Int32 → pm_S → Prop} (hr : rs S0 D W n S p L) (hl : L.2.2.length ≤ p) (hc : L.1.length < 10) (y : gx_b (pm_i S0 6) n p = 97) (h1 : ∀ x L' S', gx_clause (gx_b (pm_i S0 6) n) L p = (x, some L') → rs S0 D W n S' x L' → q 1 S') (h0 : ∀ x S', gx_clause (gx_b (pm_i S0 6) n) L p = (x, none) → rq S0 D W n S' x → q 0 S') : pm_CI G d 43 [.ref 5] S q := by
  have hS := hr.sh hS0
  have hdl := hr.todl hd0
  have ht := hr.text hd0
  have hr3 := hr.2.2.1
  have hn := hr3.2.2.2.1
  have hpn := hr3.2.2.1
  have hr5 : pm_r S 5 3 = some D := hdl.1
  have hkD : pm_k S D = 5 := hdl.2.1
  have rB : gx_b (pm_i S 6) n = gx_b (pm_i S0 6) n := by rw [ht]
  have es : sg (gx_b (pm_i S0 6) n p) = 97 := by rw [y]; rfl
  have ec : gx_clause (gx_b (pm_i S0 6) n) L p = gx_one (gx_b (pm_i S0 6) n) L 11 [97, 110, 115, 119, 101, 114, 32] p := by
    unfold gx_clause; rw [if_neg (by omega), if_neg (by omega), if_neg (by omega), if_neg (by omega), if_pos y]
  rw [gx_one_eq] at ec
  have hwb : wb 7 = [97, 110, 115, 119, 101, 114, 32] := by decide
  refine pm_goI 43 1 pb_c43 (by decide) (Nat.le_of_ble_eq_true rfl) rfl ?_
  try simp only [show pm_mL 43 = 1 from rfl, pm_WI0, pm_WI1, pm_WI2, pm_WI3, pm_WI4, pm_WI5, pm_WV, pm_WW, pm_WX, pb_B43, pm_if, pm_QI_at, pm_QL_at, pm_QV_at, pm_QR_at, pm_QR_at0, pm_QR_at1, Nat.reduceSub, Nat.reduceAdd, List.replicate_zero, List.replicate_succ, true_and, and_true, true_or, or_true, and_self, reduceIte, Nat.reduceEqDiff, Nat.reduceLT, Nat.reduceLeDiff, Nat.reduceMul, false_and, and_false, reduceCtorEq, false_or, or_false, not_true_eq_false, not_false_eq_true, true_implies, false_implies, implies_true, lf_10, eq_self, Int32.reduceLT, Int32.reduceLE, Int32.reduceAdd, Int32.reduceSub, Int32.reduceDiv, Int32.reduceMul, pm_same, pm_i_wI, pm_l_wL, pm_l_wM, pm_oR_rf, pm_oQ_rf, sh_k5 hS, nI_1, sw_e, LQ1, LQ2, LQ3]
  refine ⟨by omega, rd_44 hS hr3 ?_⟩
  rw [rB, es]
  try simp only [pm_WV, pm_WW, true_and, and_true, true_or, or_true, and_self, reduceIte, Nat.reduceEqDiff, Nat.reduceLT, Nat.reduceLeDiff, Nat.reduceMul, false_and, and_false, reduceCtorEq, false_or, or_false, not_true_eq_false, not_false_eq_true, true_implies, false_implies, implies_true, lf_10, eq_self, Int32.reduceLT, Int32.reduceLE, Int32.reduceAdd, Int32.reduceSub, Int32.reduceDiv, Int32.reduceMul, pm_same, pm_i_wI, pm_l_wL, pm_l_wM, pm_oR_rf, pm_oQ_rf, sh_k5 hS, nI_1, sw_e, LQ1, LQ2, LQ3, pm_WI0, pm_WI1, pm_WI2, pm_WI3, pm_WI4, pm_WI5, pm_WV, pm_WW, pm_WX, pb_B43, pm_if, pm_QI_at, pm_QL_at, pm_QV_at, pm_QR_at, pm_QR_at0, pm_QR_at1, Nat.reduceSub, Nat.reduceAdd, List.replicate_zero, List.replicate_succ, hr5, hkD]
  refine pm_wb_ok pb_c43 3 157 0 _ _ _ _ _ ?_
  try simp only [pm_WI0, pm_WI1, pm_WI2, pm_WI3, pm_WI4, pm_WI5, pm_WV, pm_WW, pm_WX, pb_B43, pm_if, pm_QI_at, pm_QL_at, pm_QV_at, pm_QR_at, pm_QR_at0, pm_QR_at1, Nat.reduceSub, Nat.reduceAdd, List.replicate_zero, List.replicate_succ, true_and, and_true, true_or, or_true, and_self, reduceIte, Nat.reduceEqDiff, Nat.reduceLT, Nat.reduceLeDiff, Nat.reduceMul, false_and, and_false, reduceCtorEq, false_or, or_false, not_true_eq_false, not_false_eq_true, true_implies, false_implies, implies_true, lf_10, eq_self, Int32.reduceLT, Int32.reduceLE, Int32.reduceAdd, Int32.reduceSub, Int32.reduceDiv, Int32.reduceMul, pm_same, pm_i_wI, pm_l_wL, pm_l_wM, pm_oR_rf, pm_oQ_rf, sh_k5 hS, nI_1, sw_e, LQ1, LQ2, LQ3, hr5, hkD]
  refine ⟨by omega, rd_55 (i := 7) hS0 hd0 (by omega) (by omega) hr (fun x v S' e hv hS' => ?_) (fun x S' e hS' => ?_)⟩ <;> rw [hwb] at e
  · obtain ⟨z1, z2, z3⟩ := hS'.rowD hd0
    have hge : ¬ nI v < 0 := nI_pos (by omega)
    have hk5 : pm_k S' 5 = 6 := sh_k5 (hS'.sh hS0)
    try simp only [pm_WV, pm_WW, true_and, and_true, true_or, or_true, and_self, reduceIte, Nat.reduceEqDiff, Nat.reduceLT, Nat.reduceLeDiff, Nat.reduceMul, false_and, and_false, reduceCtorEq, false_or, or_false, not_true_eq_false, not_false_eq_true, true_implies, false_implies, implies_true, lf_10, eq_self, Int32.reduceLT, Int32.reduceLE, Int32.reduceAdd, Int32.reduceSub, Int32.reduceDiv, Int32.reduceMul, pm_same, pm_i_wI, pm_l_wL, pm_l_wM, pm_oR_rf, pm_oQ_rf, sh_k5 hS, nI_1, sw_e, LQ1, LQ2, LQ3, pm_WI0, pm_WI1, pm_WI2, pm_WI3, pm_WI4, pm_WI5, pm_WV, pm_WW, pm_WX, pb_B43, pm_if, pm_QI_at, pm_QL_at, pm_QV_at, pm_QR_at, pm_QR_at0, pm_QR_at1, Nat.reduceSub, Nat.reduceAdd, List.replicate_zero, List.replicate_succ, z1, z2, hk5, hge]
    exact h1 x _ _ (by rw [ec, gx_bd_some e]) (hS'.num hd0 (by omega) (by omega))
  · obtain ⟨z1, z2, z3⟩ := hS'.rowD hd0
    have hk5 : pm_k S' 5 = 6 := sh_k5 (hS'.sh hS0)
    try simp only [pm_WV, pm_WW, true_and, and_true, true_or, or_true, and_self, reduceIte, Nat.reduceEqDiff, Nat.reduceLT, Nat.reduceLeDiff, Nat.reduceMul, false_and, and_false, reduceCtorEq, false_or, or_false, not_true_eq_false, not_false_eq_true, true_implies, false_implies, implies_true, lf_10, eq_self, Int32.reduceLT, Int32.reduceLE, Int32.reduceAdd, Int32.reduceSub, Int32.reduceDiv, Int32.reduceMul, pm_same, pm_i_wI, pm_l_wL, pm_l_wM, pm_oR_rf, pm_oQ_rf, sh_k5 hS, nI_1, sw_e, LQ1, LQ2, LQ3, pm_WI0, pm_WI1, pm_WI2, pm_WI3, pm_WI4, pm_WI5, pm_WV, pm_WW, pm_WX, pb_B43, pm_if, pm_QI_at, pm_QL_at, pm_QV_at, pm_QR_at, pm_QR_at0, pm_QR_at1, Nat.reduceSub, Nat.reduceAdd, List.replicate_zero, List.replicate_succ, z1, z2, hk5]
    exact h0 x _ (by rw [ec, gx_bd_none e]) (hS'.q.wD hd0)
theorem rd43_99 (hS0 : Sh S0) (hd0 : dl S0 D W) {d : Nat} (hd : 21 ≤ d) {S : pm_S} {p : Nat} {L : gx_L} {q : Int32 → pm_S → Prop} (hr : rs S0 D W n S p L) (hl : L.2.2.length ≤ p) (hc : L.1.length < 10) (y : gx_b (pm_i S0 6) n p = 99) (h1 : ∀ x L' S', gx_clause (gx_b (pm_i S0 6) n) L p = (x, some L') → rs S0 D W n S' x L' → q 1 S') (h0 : ∀ x S', gx_clause (gx_b (pm_i S0 6) n) L p = (x, none) → rq S0 D W n S' x → q 0 S') : pm_CI G d 43 [.ref 5] S q := by
  have hS := hr.sh hS0
  have hdl := hr.todl hd0
  have ht := hr.text hd0
  have hr3 := hr.2.2.1
  have hn := hr3.2.2.2.1
  have hpn := hr3.2.2.1
  have hr5 : pm_r S 5 3 = some D := hdl.1
  have hkD : pm_k S D = 5 := hdl.2.1
  have rB : gx_b (pm_i S 6) n = gx_b (pm_i S0 6) n := by rw [ht]
  have es : sg (gx_b (pm_i S0 6) n p) = 99 := by rw [y]; rfl
  have ec : gx_clause (gx_b (pm_i S0 6) n) L p = gx_one (gx_b (pm_i S0 6) n) L 14 [99, 97, 112, 32] p := by
    unfold gx_clause; rw [if_neg (by omega), if_neg (by omega), if_neg (by omega), if_neg (by omega), if_neg (by omega), if_pos y]
  rw [gx_one_eq] at ec
  have hwb : wb 8 = [99, 97, 112, 32] := by decide
  refine pm_goI 43 1 pb_c43 (by decide) (Nat.le_of_ble_eq_true rfl) rfl ?_
  try simp only [show pm_mL 43 = 1 from rfl, pm_WI0, pm_WI1, pm_WI2, pm_WI3, pm_WI4, pm_WI5, pm_WV, pm_WW, pm_WX, pb_B43, pm_if, pm_QI_at, pm_QL_at, pm_QV_at, pm_QR_at, pm_QR_at0, pm_QR_at1, Nat.reduceSub, Nat.reduceAdd, List.replicate_zero, List.replicate_succ, true_and, and_true, true_or, or_true, and_self, reduceIte, Nat.reduceEqDiff, Nat.reduceLT, Nat.reduceLeDiff, Nat.reduceMul, false_and, and_false, reduceCtorEq, false_or, or_false, not_true_eq_false, not_false_eq_true, true_implies, false_implies, implies_true, lf_10, eq_self, Int32.reduceLT, Int32.reduceLE, Int32.reduceAdd, Int32.reduceSub, Int32.reduceDiv, Int32.reduceMul, pm_same, pm_i_wI, pm_l_wL, pm_l_wM, pm_oR_rf, pm_oQ_rf, sh_k5 hS, nI_1, sw_e, LQ1, LQ2, LQ3]
  refine ⟨by omega, rd_44 hS hr3 ?_⟩
  rw [rB, es]
  try simp only [pm_WV, pm_WW, true_and, and_true, true_or, or_true, and_self, reduceIte, Nat.reduceEqDiff, Nat.reduceLT, Nat.reduceLeDiff, Nat.reduceMul, false_and, and_false, reduceCtorEq, false_or, or_false, not_true_eq_false, not_false_eq_true, true_implies, false_implies, implies_true, lf_10, eq_self, Int32.reduceLT, Int32.reduceLE, Int32.reduceAdd, Int32.reduceSub, Int32.reduceDiv, Int32.reduceMul, pm_same, pm_i_wI, pm_l_wL, pm_l_wM, pm_oR_rf, pm_oQ_rf, sh_k5 hS, nI_1, sw_e, LQ1, LQ2, LQ3, pm_WI0, pm_WI1, pm_WI2, pm_WI3, pm_WI4, pm_WI5, pm_WV, pm_WW, pm_WX, pb_B43, pm_if, pm_QI_at, pm_QL_at, pm_QV_at, pm_QR_at, pm_QR_at0, pm_QR_at1, Nat.reduceSub, Nat.reduceAdd, List.replicate_zero, List.replicate_succ, hr5, hkD]
  refine pm_wb_ok pb_c43 3 186 0 _ _ _ _ _ ?_
  try simp only [pm_WI0, pm_WI1, pm_WI2, pm_WI3, pm_WI4, pm_WI5, pm_WV, pm_WW, pm_WX, pb_B43, pm_if, pm_QI_at, pm_QL_at, pm_QV_at, pm_QR_at, pm_QR_at0, pm_QR_at1, Nat.reduceSub, Nat.reduceAdd, List.replicate_zero, List.replicate_succ, true_and, and_true, true_or, or_true, and_self, reduceIte, Nat.reduceEqDiff, Nat.reduceLT, Nat.reduceLeDiff, Nat.reduceMul, false_and, and_false, reduceCtorEq, false_or, or_false, not_true_eq_false, not_false_eq_true, true_implies, false_implies, implies_true, lf_10, eq_self, Int32.reduceLT, Int32.reduceLE, Int32.reduceAdd, Int32.reduceSub, Int32.reduceDiv, Int32.reduceMul, pm_same, pm_i_wI, pm_l_wL, pm_l_wM, pm_oR_rf, pm_oQ_rf, sh_k5 hS, nI_1, sw_e, LQ1, LQ2, LQ3, hr5, hkD]
  refine ⟨by omega, rd_55 (i := 8) hS0 hd0 (by omega) (by omega) hr (fun x v S' e hv hS' => ?_) (fun x S' e hS' => ?_)⟩ <;> rw [hwb] at e
  · obtain ⟨z1, z2, z3⟩ := hS'.rowD hd0
    have hge : ¬ nI v < 0 := nI_pos (by omega)
    have hk5 : pm_k S' 5 = 6 := sh_k5 (hS'.sh hS0)
    try simp only [pm_WV, pm_WW, true_and, and_true, true_or, or_true, and_self, reduceIte, Nat.reduceEqDiff, Nat.reduceLT, Nat.reduceLeDiff, Nat.reduceMul, false_and, and_false, reduceCtorEq, false_or, or_false, not_true_eq_false, not_false_eq_true, true_implies, false_implies, implies_true, lf_10, eq_self, Int32.reduceLT, Int32.reduceLE, Int32.reduceAdd, Int32.reduceSub, Int32.reduceDiv, Int32.reduceMul, pm_same, pm_i_wI, pm_l_wL, pm_l_wM, pm_oR_rf, pm_oQ_rf, sh_k5 hS, nI_1, sw_e, LQ1, LQ2, LQ3, pm_WI0, pm_WI1, pm_WI2, pm_WI3, pm_WI4, pm_WI5, pm_WV, pm_WW, pm_WX, pb_B43, pm_if, pm_QI_at, pm_QL_at, pm_QV_at, pm_QR_at, pm_QR_at0, pm_QR_at1, Nat.reduceSub, Nat.reduceAdd, List.replicate_zero, List.replicate_succ, z1, z2, hk5, hge]
    exact h1 x _ _ (by rw [ec, gx_bd_some e]) (hS'.num hd0 (by omega) (by omega))
  · obtain ⟨z1, z2, z3⟩ := hS'.rowD hd0
    have hk5 : pm_k S' 5 = 6 := sh_k5 (hS'.sh hS0)
    try simp only [pm_WV, pm_WW, true_and, and_true, true_or, or_true, and_self, reduceIte, Nat.reduceEqDiff, Nat.reduceLT, Nat.reduceLeDiff, Nat.reduceMul, false_and, and_false, reduceCtorEq, false_or, or_false, not_true_eq_false, not_false_eq_true, true_implies, false_implies, implies_true, lf_10, eq_self, Int32.reduceLT, Int32.reduceLE, Int32.reduceAdd, Int32.reduceSub, Int32.reduceDiv, Int32.reduceMul, pm_same, pm_i_wI, pm_l_wL, pm_l_wM, pm_oR_rf, pm_oQ_rf, sh_k5 hS, nI_1, sw_e, LQ1, LQ2, LQ3, pm_WI0, pm_WI1, pm_WI2, pm_WI3, pm_WI4, pm_WI5, pm_WV, pm_WW, pm_WX, pb_B43, pm_if, pm_QI_at, pm_QL_at, pm_QV_at, pm_QR_at, pm_QR_at0, pm_QR_at1, Nat.reduceSub, Nat.reduceAdd, List.replicate_zero, List.replicate_succ, z1, z2, hk5]
    exact h0 x _ (by rw [ec, gx_bd_none e]) (hS'.q.wD hd0)
theorem rd43_102 (hS0 : Sh S0) (hd0 : dl S0 D W) {d : Nat} (hd : 21 ≤ d) {S : pm_S} {p : Nat} {L : gx_L} {q : Int32 → pm_S → Prop} (hr : rs S0 D W n S p L) (hl : L.2.2.length ≤ p) (hc : L.1.length < 10) (y : gx_b (pm_i S0 6) n p = 102) (h1 : ∀ x L' S', gx_clause (gx_b (pm_i S0 6) n) L p = (x, some L') → rs S0 D W n S' x L' → q 1 S') (h0 : ∀ x S', gx_clause (gx_b (pm_i S0 6) n) L p = (x, none) → rq S0 D W n S' x → q 0 S') : pm_CI G d 43 [.ref 5] S q := by
  have hS := hr.sh hS0
  have hdl := hr.todl hd0
  have ht := hr.text hd0
  have hr3 := hr.2.2.1
  have hn := hr3.2.2.2.1
  have hpn := hr3.2.2.1
  have hr5 : pm_r S 5 3 = some D := hdl.1
  have hkD : pm_k S D = 5 := hdl.2.1
  have rB : gx_b (pm_i S 6) n = gx_b (pm_i S0 6) n := by rw [ht]
  have es : sg (gx_b (pm_i S0 6) n p) = 102 := by rw [y]; rfl
  have ec : gx_clause (gx_b (pm_i S0 6) n) L p = gx_one (gx_b (pm_i S0 6) n) L 16 [102, 101, 119, 32] p := by
    unfold gx_clause; rw [if_neg (by omega), if_neg (by omega), if_neg (by omega), if_neg (by omega), if_neg (by omega), if_neg (by omega), if_pos y]
  rw [gx_one_eq] at ec
  have hwb : wb 9 = [102, 101, 119, 32] := by decide
  refine pm_goI 43 1 pb_c43 (by decide) (Nat.le_of_ble_eq_true rfl) rfl ?_
  try simp only [show pm_mL 43 = 1 from rfl, pm_WI0, pm_WI1, pm_WI2, pm_WI3, pm_WI4, pm_WI5, pm_WV, pm_WW, pm_WX, pb_B43, pm_if, pm_QI_at, pm_QL_at, pm_QV_at, pm_QR_at, pm_QR_at0, pm_QR_at1, Nat.reduceSub, Nat.reduceAdd, List.replicate_zero, List.replicate_succ, true_and, and_true, true_or, or_true, and_self, reduceIte, Nat.reduceEqDiff, Nat.reduceLT, Nat.reduceLeDiff, Nat.reduceMul, false_and, and_false, reduceCtorEq, false_or, or_false, not_true_eq_false, not_false_eq_true, true_implies, false_implies, implies_true, lf_10, eq_self, Int32.reduceLT, Int32.reduceLE, Int32.reduceAdd, Int32.reduceSub, Int32.reduceDiv, Int32.reduceMul, pm_same, pm_i_wI, pm_l_wL, pm_l_wM, pm_oR_rf, pm_oQ_rf, sh_k5 hS, nI_1, sw_e, LQ1, LQ2, LQ3]
  refine ⟨by omega, rd_44 hS hr3 ?_⟩
  rw [rB, es]
  try simp only [pm_WV, pm_WW, true_and, and_true, true_or, or_true, and_self, reduceIte, Nat.reduceEqDiff, Nat.reduceLT, Nat.reduceLeDiff, Nat.reduceMul, false_and, and_false, reduceCtorEq, false_or, or_false, not_true_eq_false, not_false_eq_true, true_implies, false_implies, implies_true, lf_10, eq_self, Int32.reduceLT, Int32.reduceLE, Int32.reduceAdd, Int32.reduceSub, Int32.reduceDiv, Int32.reduceMul, pm_same, pm_i_wI, pm_l_wL, pm_l_wM, pm_oR_rf, pm_oQ_rf, sh_k5 hS, nI_1, sw_e, LQ1, LQ2, LQ3, pm_WI0, pm_WI1, pm_WI2, pm_WI3, pm_WI4, pm_WI5, pm_WV, pm_WW, pm_WX, pb_B43, pm_if, pm_QI_at, pm_QL_at, pm_QV_at, pm_QR_at, pm_QR_at0, pm_QR_at1, Nat.reduceSub, Nat.reduceAdd, List.replicate_zero, List.replicate_succ, hr5, hkD]
  refine pm_wb_ok pb_c43 3 215 0 _ _ _ _ _ ?_
  try simp only [pm_WI0, pm_WI1, pm_WI2, pm_WI3, pm_WI4, pm_WI5, pm_WV, pm_WW, pm_WX, pb_B43, pm_if, pm_QI_at, pm_QL_at, pm_QV_at, pm_QR_at, pm_QR_at0, pm_QR_at1, Nat.reduceSub, Nat.reduceAdd, List.replicate_zero, List.replicate_succ, true_and, and_true, true_or, or_true, and_self, reduceIte, Nat.reduceEqDiff, Nat.reduceLT, Nat.reduceLeDiff, Nat.reduceMul, false_and, and_false, reduceCtorEq, false_or, or_false, not_true_eq_false, not_false_eq_true, true_implies, false_implies, implies_true, lf_10, eq_self, Int32.reduceLT, Int32.reduceLE, Int32.reduceAdd, Int32.reduceSub, Int32.reduceDiv, Int32.reduceMul, pm_same, pm_i_wI, pm_l_wL, pm_l_wM, pm_oR_rf, pm_oQ_rf, sh_k5 hS, nI_1, sw_e, LQ1, LQ2, LQ3, hr5, hkD]
  refine ⟨by omega, rd_55 (i := 9) hS0 hd0 (by omega) (by omega) hr (fun x v S' e hv hS' => ?_) (fun x S' e hS' => ?_)⟩ <;> rw [hwb] at e
  · obtain ⟨z1, z2, z3⟩ := hS'.rowD hd0
    have hge : ¬ nI v < 0 := nI_pos (by omega)
    have hk5 : pm_k S' 5 = 6 := sh_k5 (hS'.sh hS0)
    try simp only [pm_WV, pm_WW, true_and, and_true, true_or, or_true, and_self, reduceIte, Nat.reduceEqDiff, Nat.reduceLT, Nat.reduceLeDiff, Nat.reduceMul, false_and, and_false, reduceCtorEq, false_or, or_false, not_true_eq_false, not_false_eq_true, true_implies, false_implies, implies_true, lf_10, eq_self, Int32.reduceLT, Int32.reduceLE, Int32.reduceAdd, Int32.reduceSub, Int32.reduceDiv, Int32.reduceMul, pm_same, pm_i_wI, pm_l_wL, pm_l_wM, pm_oR_rf, pm_oQ_rf, sh_k5 hS, nI_1, sw_e, LQ1, LQ2, LQ3, pm_WI0, pm_WI1, pm_WI2, pm_WI3, pm_WI4, pm_WI5, pm_WV, pm_WW, pm_WX, pb_B43, pm_if, pm_QI_at, pm_QL_at, pm_QV_at, pm_QR_at, pm_QR_at0, pm_QR_at1, Nat.reduceSub, Nat.reduceAdd, List.replicate_zero, List.replicate_succ, z1, z2, hk5, hge]
    exact h1 x _ _ (by rw [ec, gx_bd_some e]) (hS'.num hd0 (by omega) (by omega))
  · obtain ⟨z1, z2, z3⟩ := hS'.rowD hd0
    have hk5 : pm_k S' 5 = 6 := sh_k5 (hS'.sh hS0)
    try simp only [pm_WV, pm_WW, true_and, and_true, true_or, or_true, and_self, reduceIte, Nat.reduceEqDiff, Nat.reduceLT, Nat.reduceLeDiff, Nat.reduceMul, false_and, and_false, reduceCtorEq, false_or, or_false, not_true_eq_false, not_false_eq_true, true_implies, false_implies, implies_true, lf_10, eq_self, Int32.reduceLT, Int32.reduceLE, Int32.reduceAdd, Int32.reduceSub, Int32.reduceDiv, Int32.reduceMul, pm_same, pm_i_wI, pm_l_wL, pm_l_wM, pm_oR_rf, pm_oQ_rf, sh_k5 hS, nI_1, sw_e, LQ1, LQ2, LQ3, pm_WI0, pm_WI1, pm_WI2, pm_WI3, pm_WI4, pm_WI5, pm_WV, pm_WW, pm_WX, pb_B43, pm_if, pm_QI_at, pm_QL_at, pm_QV_at, pm_QR_at, pm_QR_at0, pm_QR_at1, Nat.reduceSub, Nat.reduceAdd, List.replicate_zero, List.replicate_succ, z1, z2, hk5]
    exact h0 x _ (by rw [ec, gx_bd_none e]) (hS'.q.wD hd0)
theorem rd_39 (hd0 : dl S0 D W) {d : Nat} {S : pm_S} {p s m wn a : Nat} {L : gx_L} {q : pm_S → Prop} (hr : rs S0 D W n S p L) (hc : L.1.length < 10) (h : ∀ S', rs S0 D W n S' p (L.1 ++ [(s, m, wn, a, L.2.2.length)], L.2.1, L.2.2) → q S') : pm_CV G d 39 [.ref D, .int (nI s), .int (nI m), .int (nI wn), .int (nI a)] S q := by
  have hd := hr.todl hd0
  have rw0 := hd.2.2.2.1 0 (by omega)
  have rw1 := hd.2.2.2.1 1 (by omega)
  have rw2 := hd.2.2.2.1 2 (by omega)
  have rw3 := hd.2.2.2.1 3 (by omega)
  have rw4 := hd.2.2.2.1 4 (by omega)
  have a0 : pm_r S D 3 = some (W 0) := rw0.1
  have a1 : pm_r S D 4 = some (W 1) := rw1.1
  have a2 : pm_r S D 5 = some (W 2) := rw2.1
  have a3 : pm_r S D 6 = some (W 3) := rw3.1
  have a4 : pm_r S D 7 = some (W 4) := rw4.1
  have b0 : pm_z S (W 0) = 10 := rw0.2.2.1
  have b1 : pm_z S (W 1) = 10 := rw1.2.2.1
  have b2 : pm_z S (W 2) = 10 := rw2.2.2.1
  have b3 : pm_z S (W 3) = 10 := rw3.2.2.1
  have b4 : pm_z S (W 4) = 10 := rw4.2.2.1
  have hle : ¬ (10 : Int32) ≤ nI L.1.length := nI_ge (b := 10) hc (by omega)
  have hD2 : pm_i S D 2 = nI L.1.length := hr.2.2.2.1
  have hD18 : pm_i S D 18 = nI L.2.2.length := hr.2.2.2.2.1
  have n0 : (D = W 0) = False := eq_false (hd.ne (by omega))
  have n1 : (D = W 1) = False := eq_false (hd.ne (by omega))
  have n2 : (D = W 2) = False := eq_false (hd.ne (by omega))
  have n3 : (D = W 3) = False := eq_false (hd.ne (by omega))
  have n4 : (D = W 4) = False := eq_false (hd.ne (by omega))
  have hcl := nI_clamp (n := L.1.length) (by omega)
  refine pm_goV 39 4 pb_c39 (by decide) (Nat.le_of_ble_eq_true rfl) rfl ?_
  try simp only [show pm_mL 39 = 5 from rfl, pm_WI0, pm_WI1, pm_WI2, pm_WI3, pm_WI4, pm_WI5, pm_WV, pm_WW, pm_WX, pb_B39, pm_if, pm_QI_at, pm_QL_at, pm_QV_at, pm_QR_at, pm_QR_at0, pm_QR_at1, Nat.reduceSub, Nat.reduceAdd, List.replicate_zero, List.replicate_succ, true_and, and_true, true_or, or_true, and_self, reduceIte, Nat.reduceEqDiff, Nat.reduceLT, Nat.reduceLeDiff, Nat.reduceMul, false_and, and_false, reduceCtorEq, false_or, or_false, not_true_eq_false, not_false_eq_true, true_implies, false_implies, implies_true, lf_10, eq_self, Int32.reduceLT, Int32.reduceLE, Int32.reduceAdd, Int32.reduceSub, pm_same, pm_i_wI, pm_l_wL, pm_l_wM, pm_oR_rf, pm_oQ_rf, hd.2.1, a0, a1, a2, a3, a4, b0, b1, b2, b3, b4, rw0.2.1, rw1.2.1, rw2.2.1, rw3.2.1, rw4.2.1, hle, hD2, hD18, n0, n1, n2, n3, n4, hcl, nI_1]
  have hv := vp_in_nI (n := L.1.length) (N := 10) hc (by decide)
  exact ⟨hv, hv, hv, hv, hv, h _ (hr.owe hd0 hc)⟩
theorem rd_47 (hS0 : Sh S0) (hd0 : dl S0 D W) {d : Nat} (hd : 21 ≤ d) {S : pm_S} {p0 p : Nat} {L : gx_L} {q : Int32 → pm_S → Prop} (hr : rs S0 D W n S p L) (hl : L.2.2.length ≤ p) (hc : L.1.length < 10) (ew : gx_w (gx_b (pm_i S0 6) n) [111, 119, 101, 32] p0 = (p, some ())) (h1 : ∀ x L' S', gx_owe (gx_b (pm_i S0 6) n) L p0 = (x, some L') → rs S0 D W n S' x L' → q 1 S') (h0 : ∀ x S', gx_owe (gx_b (pm_i S0 6) n) L p0 = (x, none) → rq S0 D W n S' x → q 0 S') : pm_CI G d 47 [.ref 5] S q := by
  have hS := hr.sh hS0
  have hdl := hr.todl hd0
  have ht := hr.text hd0
  have hr3 := hr.2.2.1
  have hn := hr3.2.2.2.1
  have hpn := hr3.2.2.1
  have hr5 : pm_r S 5 3 = some D := hdl.1
  have hkD : pm_k S D = 5 := hdl.2.1
  have rB : gx_b (pm_i S 6) n = gx_b (pm_i S0 6) n := by rw [ht]
  have eo : gx_owe (gx_b (pm_i S0 6) n) L p0 = gx_bd (gx_num (gx_b (pm_i S0 6) n) 1 1 p) (fun s q => gx_bd (gx_w (gx_b (pm_i S0 6) n) [32] q) (fun _ q => gx_bd (gx_num (gx_b (pm_i S0 6) n) 0 4 q) (fun m q => go_k (gx_b (pm_i S0 6) n) L s m q))) := by
    unfold gx_owe; rw [gx_bd_some ew]; rfl
  refine pm_goI 47 1 pb_c47 (by decide) (Nat.le_of_ble_eq_true rfl) rfl ?_
  try simp only [show pm_mL 47 = 5 from rfl, pm_WI0, pm_WI1, pm_WI2, pm_WI3, pm_WI4, pm_WI5, pm_WV, pm_WW, pm_WX, pb_B47, pm_if, pm_QI_at, pm_QL_at, pm_QV_at, pm_QR_at, pm_QR_at0, pm_QR_at1, Nat.reduceSub, Nat.reduceAdd, List.replicate_zero, List.replicate_succ, true_and, and_true, true_or, or_true, and_self, reduceIte, Nat.reduceEqDiff, Nat.reduceLT, Nat.reduceLeDiff, Nat.reduceMul, false_and, and_false, reduceCtorEq, false_or, or_false, not_true_eq_false, not_false_eq_true, true_implies, false_implies, implies_true, lf_10, eq_self, Int32.reduceLT, Int32.reduceLE, Int32.reduceAdd, Int32.reduceSub, Int32.reduceDiv, Int32.reduceMul, pm_same, pm_i_wI, pm_l_wL, pm_l_wM, pm_oR_rf, pm_oQ_rf, sh_k5 hS, nI_1, sw_e, LQ1, LQ2, LQ3]
  refine ⟨by omega, rd_48_11 (n := n) hS hr3 (fun x s ex e2 e3 e4 => ?_) (fun ex => ?_)⟩ <;> rw [rB] at ex
  rotate_left
  · rw [gx_bd_none ex] at eo
    have fin := h0 p S eo hr.q
    first
      | exact fin
      | exact ⟨fun _ => fin, fun z => absurd (by decide) z⟩
      | exact ⟨fun z => absurd z (by decide), fun _ => fin⟩
      | (refine pm_wb_ok pb_c47 1 20 0 _ _ _ _ _ ?_; simp only [pm_WI0, pm_WI1, pm_WI2, pm_WI3, pm_WI4, pm_WI5, pm_WV, pm_WW, pm_WX, pb_B47, pm_if, pm_QI_at, pm_QL_at, pm_QV_at, pm_QR_at, pm_QR_at0, pm_QR_at1, Nat.reduceSub, Nat.reduceAdd, List.replicate_zero, List.replicate_succ, true_and, and_true, true_or, or_true, and_self, reduceIte, Nat.reduceEqDiff, Nat.reduceLT, Nat.reduceLeDiff, Nat.reduceMul, false_and, and_false, reduceCtorEq, false_or, or_false, not_true_eq_false, not_false_eq_true, true_implies, false_implies, implies_true, lf_10, eq_self, Int32.reduceLT, Int32.reduceLE, Int32.reduceAdd, Int32.reduceSub, Int32.reduceDiv, Int32.reduceMul, pm_same, pm_i_wI, pm_l_wL, pm_l_wM, pm_oR_rf, pm_oQ_rf, sh_k5 hS, nI_1, sw_e, LQ1, LQ2, LQ3]; exact fin)
      | (refine ⟨fun _ => ?_, fun z => absurd (by decide) z⟩; refine pm_wb_ok pb_c47 1 20 0 _ _ _ _ _ ?_; simp only [pm_WI0, pm_WI1, pm_WI2, pm_WI3, pm_WI4, pm_WI5, pm_WV, pm_WW, pm_WX, pb_B47, pm_if, pm_QI_at, pm_QL_at, pm_QV_at, pm_QR_at, pm_QR_at0, pm_QR_at1, Nat.reduceSub, Nat.reduceAdd, List.replicate_zero, List.replicate_succ, true_and, and_true, true_or, or_true, and_self, reduceIte, Nat.reduceEqDiff, Nat.reduceLT, Nat.reduceLeDiff, Nat.reduceMul, false_and, and_false, reduceCtorEq, false_or, or_false, not_true_eq_false, not_false_eq_true, true_implies, false_implies, implies_true, lf_10, eq_self, Int32.reduceLT, Int32.reduceLE, Int32.reduceAdd, Int32.reduceSub, Int32.reduceDiv, Int32.reduceMul, pm_same, pm_i_wI, pm_l_wL, pm_l_wM, pm_oR_rf, pm_oQ_rf, sh_k5 hS, nI_1, sw_e, LQ1, LQ2, LQ3]; exact fin)
      | (refine ⟨fun z => absurd z (by decide), fun _ => ?_⟩; refine pm_wb_ok pb_c47 1 20 0 _ _ _ _ _ ?_; simp only [pm_WI0, pm_WI1, pm_WI2, pm_WI3, pm_WI4, pm_WI5, pm_WV, pm_WW, pm_WX, pb_B47, pm_if, pm_QI_at, pm_QL_at, pm_QV_at, pm_QR_at, pm_QR_at0, pm_QR_at1, Nat.reduceSub, Nat.reduceAdd, List.replicate_zero, List.replicate_succ, true_and, and_true, true_or, or_true, and_self, reduceIte, Nat.reduceEqDiff, Nat.reduceLT, Nat.reduceLeDiff, Nat.reduceMul, false_and, and_false, reduceCtorEq, false_or, or_false, not_true_eq_false, not_false_eq_true, true_implies, false_implies, implies_true, lf_10, eq_self, Int32.reduceLT, Int32.reduceLE, Int32.reduceAdd, Int32.reduceSub, Int32.reduceDiv, Int32.reduceMul, pm_same, pm_i_wI, pm_l_wL, pm_l_wM, pm_oR_rf, pm_oQ_rf, sh_k5 hS, nI_1, sw_e, LQ1, LQ2, LQ3]; exact fin)
  rw [gx_bd_some ex] at eo
  have hs0 : ¬ nI s < 0 := nI_pos (by omega)
  have hs1 : (0 : Int32) ≤ nI s := nI_pos' (by omega)
  have hr2 := hr.mv hd0 (q := x) e3
  have hS2 := hr2.sh hS0
  have rB2 : gx_b (pm_i (pm_wI S 5 2 (nI x)) 6) n = gx_b (pm_i S0 6) n := by rw [rd_B, rB]
  try simp only [pm_WV, pm_WW, true_and, and_true, true_or, or_true, and_self, reduceIte, Nat.reduceEqDiff, Nat.reduceLT, Nat.reduceLeDiff, Nat.reduceMul, false_and, and_false, reduceCtorEq, false_or, or_false, not_true_eq_false, not_false_eq_true, true_implies, false_implies, implies_true, lf_10, eq_self, Int32.reduceLT, Int32.reduceLE, Int32.reduceAdd, Int32.reduceSub, Int32.reduceDiv, Int32.reduceMul, pm_same, pm_i_wI, pm_l_wL, pm_l_wM, pm_oR_rf, pm_oQ_rf, sh_k5 hS, nI_1, sw_e, LQ1, LQ2, LQ3, pm_WI0, pm_WI1, pm_WI2, pm_WI3, pm_WI4, pm_WI5, pm_WV, pm_WW, pm_WX, pb_B47, pm_if, pm_QI_at, pm_QL_at, pm_QV_at, pm_QR_at, pm_QR_at0, pm_QR_at1, Nat.reduceSub, Nat.reduceAdd, List.replicate_zero, List.replicate_succ, hs0, hs1]
  refine ⟨by omega, rd_46 (c := 32) (n := n) hS2 hr2.2.2.1 (by omega) (fun y => ?_) (fun y => ?_)⟩ <;> rw [rB2] at y
  rotate_left
  · have ew2 : gx_w (gx_b (pm_i S0 6) n) [32] x = (x, none) := by simp only [gx_w]; rw [if_neg y]
    rw [gx_bd_none ew2] at eo
    have fin := h0 x _ eo hr2.q
    first
      | exact fin
      | exact ⟨fun _ => fin, fun z => absurd (by decide) z⟩
      | exact ⟨fun z => absurd z (by decide), fun _ => fin⟩
      | (refine pm_wb_ok pb_c47 1 20 0 _ _ _ _ _ ?_; simp only [pm_WI0, pm_WI1, pm_WI2, pm_WI3, pm_WI4, pm_WI5, pm_WV, pm_WW, pm_WX, pb_B47, pm_if, pm_QI_at, pm_QL_at, pm_QV_at, pm_QR_at, pm_QR_at0, pm_QR_at1, Nat.reduceSub, Nat.reduceAdd, List.replicate_zero, List.replicate_succ, true_and, and_true, true_or, or_true, and_self, reduceIte, Nat.reduceEqDiff, Nat.reduceLT, Nat.reduceLeDiff, Nat.reduceMul, false_and, and_false, reduceCtorEq, false_or, or_false, not_true_eq_false, not_false_eq_true, true_implies, false_implies, implies_true, lf_10, eq_self, Int32.reduceLT, Int32.reduceLE, Int32.reduceAdd, Int32.reduceSub, Int32.reduceDiv, Int32.reduceMul, pm_same, pm_i_wI, pm_l_wL, pm_l_wM, pm_oR_rf, pm_oQ_rf, sh_k5 hS, nI_1, sw_e, LQ1, LQ2, LQ3]; exact fin)
      | (refine ⟨fun _ => ?_, fun z => absurd (by decide) z⟩; refine pm_wb_ok pb_c47 1 20 0 _ _ _ _ _ ?_; simp only [pm_WI0, pm_WI1, pm_WI2, pm_WI3, pm_WI4, pm_WI5, pm_WV, pm_WW, pm_WX, pb_B47, pm_if, pm_QI_at, pm_QL_at, pm_QV_at, pm_QR_at, pm_QR_at0, pm_QR_at1, Nat.reduceSub, Nat.reduceAdd, List.replicate_zero, List.replicate_succ, true_and, and_true, true_or, or_true, and_self, reduceIte, Nat.reduceEqDiff, Nat.reduceLT, Nat.reduceLeDiff, Nat.reduceMul, false_and, and_false, reduceCtorEq, false_or, or_false, not_true_eq_false, not_false_eq_true, true_implies, false_implies, implies_true, lf_10, eq_self, Int32.reduceLT, Int32.reduceLE, Int32.reduceAdd, Int32.reduceSub, Int32.reduceDiv, Int32.reduceMul, pm_same, pm_i_wI, pm_l_wL, pm_l_wM, pm_oR_rf, pm_oQ_rf, sh_k5 hS, nI_1, sw_e, LQ1, LQ2, LQ3]; exact fin)
      | (refine ⟨fun z => absurd z (by decide), fun _ => ?_⟩; refine pm_wb_ok pb_c47 1 20 0 _ _ _ _ _ ?_; simp only [pm_WI0, pm_WI1, pm_WI2, pm_WI3, pm_WI4, pm_WI5, pm_WV, pm_WW, pm_WX, pb_B47, pm_if, pm_QI_at, pm_QL_at, pm_QV_at, pm_QR_at, pm_QR_at0, pm_QR_at1, Nat.reduceSub, Nat.reduceAdd, List.replicate_zero, List.replicate_succ, true_and, and_true, true_or, or_true, and_self, reduceIte, Nat.reduceEqDiff, Nat.reduceLT, Nat.reduceLeDiff, Nat.reduceMul, false_and, and_false, reduceCtorEq, false_or, or_false, not_true_eq_false, not_false_eq_true, true_implies, false_implies, implies_true, lf_10, eq_self, Int32.reduceLT, Int32.reduceLE, Int32.reduceAdd, Int32.reduceSub, Int32.reduceDiv, Int32.reduceMul, pm_same, pm_i_wI, pm_l_wL, pm_l_wM, pm_oR_rf, pm_oQ_rf, sh_k5 hS, nI_1, sw_e, LQ1, LQ2, LQ3]; exact fin)
  have hlt := gx_lt gx_b_eof y (by omega)
  have ew2 : gx_w (gx_b (pm_i S0 6) n) [32] x = (x + 1, some ()) := by simp only [gx_w]; rw [if_pos y]
  rw [gx_bd_some ew2] at eo
  have hr4 := hr.mv hd0 (q := x + 1) (by omega)
  rw [pm_wI_wI]
  have hS4 := hr4.sh hS0
  have rB4 : gx_b (pm_i (pm_wI S 5 2 (nI (x + 1))) 6) n = gx_b (pm_i S0 6) n := by rw [rd_B, rB]
  try (refine ⟨fun z => absurd z (by decide), fun _ => ?_⟩)
  try refine pm_wb_ok pb_c47 1 22 0 _ _ _ _ _ ?_
  try simp only [pm_WI0, pm_WI1, pm_WI2, pm_WI3, pm_WI4, pm_WI5, pm_WV, pm_WW, pm_WX, pb_B47, pm_if, pm_QI_at, pm_QL_at, pm_QV_at, pm_QR_at, pm_QR_at0, pm_QR_at1, Nat.reduceSub, Nat.reduceAdd, List.replicate_zero, List.replicate_succ, true_and, and_true, true_or, or_true, and_self, reduceIte, Nat.reduceEqDiff, Nat.reduceLT, Nat.reduceLeDiff, Nat.reduceMul, false_and, and_false, reduceCtorEq, false_or, or_false, not_true_eq_false, not_false_eq_true, true_implies, false_implies, implies_true, lf_10, eq_self, Int32.reduceLT, Int32.reduceLE, Int32.reduceAdd, Int32.reduceSub, Int32.reduceDiv, Int32.reduceMul, pm_same, pm_i_wI, pm_l_wL, pm_l_wM, pm_oR_rf, pm_oQ_rf, sh_k5 hS, nI_1, sw_e, LQ1, LQ2, LQ3]
  refine ⟨by omega, rd_48_04 (n := n) hS4 hr4.2.2.1 (fun z m ez f2 f3 f4 => ?_) (fun ez => ?_)⟩ <;> rw [rB4] at ez
  rotate_left
  · rw [gx_bd_none ez] at eo
    have fin := h0 _ _ eo hr4.q
    try simp only [pm_WV, pm_WW, true_and, and_true, true_or, or_true, and_self, reduceIte, Nat.reduceEqDiff, Nat.reduceLT, Nat.reduceLeDiff, Nat.reduceMul, false_and, and_false, reduceCtorEq, false_or, or_false, not_true_eq_false, not_false_eq_true, true_implies, false_implies, implies_true, lf_10, eq_self, Int32.reduceLT, Int32.reduceLE, Int32.reduceAdd, Int32.reduceSub, Int32.reduceDiv, Int32.reduceMul, pm_same, pm_i_wI, pm_l_wL, pm_l_wM, pm_oR_rf, pm_oQ_rf, sh_k5 hS, nI_1, sw_e, LQ1, LQ2, LQ3, pm_WI0, pm_WI1, pm_WI2, pm_WI3, pm_WI4, pm_WI5, pm_WV, pm_WW, pm_WX, pb_B47, pm_if, pm_QI_at, pm_QL_at, pm_QV_at, pm_QR_at, pm_QR_at0, pm_QR_at1, Nat.reduceSub, Nat.reduceAdd, List.replicate_zero, List.replicate_succ]
    first
      | exact fin
      | exact ⟨fun _ => fin, fun z => absurd (by decide) z⟩
      | exact ⟨fun z => absurd z (by decide), fun _ => fin⟩
      | (refine pm_wb_ok pb_c47 1 20 0 _ _ _ _ _ ?_; simp only [pm_WI0, pm_WI1, pm_WI2, pm_WI3, pm_WI4, pm_WI5, pm_WV, pm_WW, pm_WX, pb_B47, pm_if, pm_QI_at, pm_QL_at, pm_QV_at, pm_QR_at, pm_QR_at0, pm_QR_at1, Nat.reduceSub, Nat.reduceAdd, List.replicate_zero, List.replicate_succ, true_and, and_true, true_or, or_true, and_self, reduceIte, Nat.reduceEqDiff, Nat.reduceLT, Nat.reduceLeDiff, Nat.reduceMul, false_and, and_false, reduceCtorEq, false_or, or_false, not_true_eq_false, not_false_eq_true, true_implies, false_implies, implies_true, lf_10, eq_self, Int32.reduceLT, Int32.reduceLE, Int32.reduceAdd, Int32.reduceSub, Int32.reduceDiv, Int32.reduceMul, pm_same, pm_i_wI, pm_l_wL, pm_l_wM, pm_oR_rf, pm_oQ_rf, sh_k5 hS, nI_1, sw_e, LQ1, LQ2, LQ3]; exact fin)
      | (refine ⟨fun _ => ?_, fun z => absurd (by decide) z⟩; refine pm_wb_ok pb_c47 1 20 0 _ _ _ _ _ ?_; simp only [pm_WI0, pm_WI1, pm_WI2, pm_WI3, pm_WI4, pm_WI5, pm_WV, pm_WW, pm_WX, pb_B47, pm_if, pm_QI_at, pm_QL_at, pm_QV_at, pm_QR_at, pm_QR_at0, pm_QR_at1, Nat.reduceSub, Nat.reduceAdd, List.replicate_zero, List.replicate_succ, true_and, and_true, true_or, or_true, and_self, reduceIte, Nat.reduceEqDiff, Nat.reduceLT, Nat.reduceLeDiff, Nat.reduceMul, false_and, and_false, reduceCtorEq, false_or, or_false, not_true_eq_false, not_false_eq_true, true_implies, false_implies, implies_true, lf_10, eq_self, Int32.reduceLT, Int32.reduceLE, Int32.reduceAdd, Int32.reduceSub, Int32.reduceDiv, Int32.reduceMul, pm_same, pm_i_wI, pm_l_wL, pm_l_wM, pm_oR_rf, pm_oQ_rf, sh_k5 hS, nI_1, sw_e, LQ1, LQ2, LQ3]; exact fin)
      | (refine ⟨fun z => absurd z (by decide), fun _ => ?_⟩; refine pm_wb_ok pb_c47 1 20 0 _ _ _ _ _ ?_; simp only [pm_WI0, pm_WI1, pm_WI2, pm_WI3, pm_WI4, pm_WI5, pm_WV, pm_WW, pm_WX, pb_B47, pm_if, pm_QI_at, pm_QL_at, pm_QV_at, pm_QR_at, pm_QR_at0, pm_QR_at1, Nat.reduceSub, Nat.reduceAdd, List.replicate_zero, List.replicate_succ, true_and, and_true, true_or, or_true, and_self, reduceIte, Nat.reduceEqDiff, Nat.reduceLT, Nat.reduceLeDiff, Nat.reduceMul, false_and, and_false, reduceCtorEq, false_or, or_false, not_true_eq_false, not_false_eq_true, true_implies, false_implies, implies_true, lf_10, eq_self, Int32.reduceLT, Int32.reduceLE, Int32.reduceAdd, Int32.reduceSub, Int32.reduceDiv, Int32.reduceMul, pm_same, pm_i_wI, pm_l_wL, pm_l_wM, pm_oR_rf, pm_oQ_rf, sh_k5 hS, nI_1, sw_e, LQ1, LQ2, LQ3]; exact fin)
  rw [gx_bd_some ez] at eo
  rw [pm_wI_wI]
  have hr5' := hr.mv hd0 (q := z) f3
  have hS5 := hr5'.sh hS0
  obtain ⟨z1, z2, z3⟩ := hr5'.rowD hd0
  have hk5 : pm_k (pm_wI S 5 2 (nI z)) 5 = 6 := sh_k5 hS5
  have rB5 : gx_b (pm_i (pm_wI S 5 2 (nI z)) 6) n = gx_b (pm_i S0 6) n := by rw [rd_B, rB]
  have hm0 : ¬ nI m < 0 := nI_pos (by omega)
  have hm1 : (0 : Int32) ≤ nI m := nI_pos' (by omega)
  have h18 : pm_i (pm_wI S 5 2 (nI z)) D 18 = nI L.2.2.length := hr5'.2.2.2.2.1
  have h18s : pm_i S D 18 = nI L.2.2.length := hr.2.2.2.2.1
  try simp only [pm_WV, pm_WW, true_and, and_true, true_or, or_true, and_self, reduceIte, Nat.reduceEqDiff, Nat.reduceLT, Nat.reduceLeDiff, Nat.reduceMul, false_and, and_false, reduceCtorEq, false_or, or_false, not_true_eq_false, not_false_eq_true, true_implies, false_implies, implies_true, lf_10, eq_self, Int32.reduceLT, Int32.reduceLE, Int32.reduceAdd, Int32.reduceSub, Int32.reduceDiv, Int32.reduceMul, pm_same, pm_i_wI, pm_l_wL, pm_l_wM, pm_oR_rf, pm_oQ_rf, sh_k5 hS, nI_1, sw_e, LQ1, LQ2, LQ3, pm_WI0, pm_WI1, pm_WI2, pm_WI3, pm_WI4, pm_WI5, pm_WV, pm_WW, pm_WX, pb_B47, pm_if, pm_QI_at, pm_QL_at, pm_QV_at, pm_QR_at, pm_QR_at0, pm_QR_at1, Nat.reduceSub, Nat.reduceAdd, List.replicate_zero, List.replicate_succ, hm0, hm1]
  try refine pm_wb_ok pb_c47 6 35 0 _ _ _ _ _ ?_
  try simp only [pm_WI0, pm_WI1, pm_WI2, pm_WI3, pm_WI4, pm_WI5, pm_WV, pm_WW, pm_WX, pb_B47, pm_if, pm_QI_at, pm_QL_at, pm_QV_at, pm_QR_at, pm_QR_at0, pm_QR_at1, Nat.reduceSub, Nat.reduceAdd, List.replicate_zero, List.replicate_succ, true_and, and_true, true_or, or_true, and_self, reduceIte, Nat.reduceEqDiff, Nat.reduceLT, Nat.reduceLeDiff, Nat.reduceMul, false_and, and_false, reduceCtorEq, false_or, or_false, not_true_eq_false, not_false_eq_true, true_implies, false_implies, implies_true, lf_10, eq_self, Int32.reduceLT, Int32.reduceLE, Int32.reduceAdd, Int32.reduceSub, Int32.reduceDiv, Int32.reduceMul, pm_same, pm_i_wI, pm_l_wL, pm_l_wM, pm_oR_rf, pm_oQ_rf, sh_k5 hS, nI_1, sw_e, LQ1, LQ2, LQ3, z1, z2, hk5, h18, hr5, hkD, h18s]
  try simp only [z1, z2, hk5, h18, hr5, hkD, h18s, pm_WV, pm_WW, true_and, and_true, true_or, or_true, and_self, reduceIte, Nat.reduceEqDiff, Nat.reduceLT, Nat.reduceLeDiff, Nat.reduceMul, false_and, and_false, reduceCtorEq, false_or, or_false, not_true_eq_false, not_false_eq_true, true_implies, false_implies, implies_true, lf_10, eq_self, Int32.reduceLT, Int32.reduceLE, Int32.reduceAdd, Int32.reduceSub, Int32.reduceDiv, Int32.reduceMul, pm_same, pm_i_wI, pm_l_wL, pm_l_wM, pm_oR_rf, pm_oQ_rf, sh_k5 hS, nI_1, sw_e, LQ1, LQ2, LQ3, pm_WI0, pm_WI1, pm_WI2, pm_WI3, pm_WI4, pm_WI5, pm_WV, pm_WW, pm_WX, pb_B47, pm_if, pm_QI_at, pm_QL_at, pm_QV_at, pm_QR_at, pm_QR_at0, pm_QR_at1, Nat.reduceSub, Nat.reduceAdd, List.replicate_zero, List.replicate_succ]
  refine ⟨by omega, rd_46 (c := 32) (n := n) hS5 hr5'.2.2.1 (by omega) (fun y5 => ?_) (fun y5 => ?_)⟩ <;> rw [rB5] at y5
  rotate_left
  · have ek : go_k (gx_b (pm_i S0 6) n) L s m z = (z, some (L.1 ++ [(s, m, 0, L.2.2.length, L.2.2.length)], L.2.1, L.2.2)) := by unfold go_k; rw [if_neg y5]
    rw [ek] at eo
    try simp only [pm_WV, pm_WW, true_and, and_true, true_or, or_true, and_self, reduceIte, Nat.reduceEqDiff, Nat.reduceLT, Nat.reduceLeDiff, Nat.reduceMul, false_and, and_false, reduceCtorEq, false_or, or_false, not_true_eq_false, not_false_eq_true, true_implies, false_implies, implies_true, lf_10, eq_self, Int32.reduceLT, Int32.reduceLE, Int32.reduceAdd, Int32.reduceSub, Int32.reduceDiv, Int32.reduceMul, pm_same, pm_i_wI, pm_l_wL, pm_l_wM, pm_oR_rf, pm_oQ_rf, sh_k5 hS, nI_1, sw_e, LQ1, LQ2, LQ3, pm_WI0, pm_WI1, pm_WI2, pm_WI3, pm_WI4, pm_WI5, pm_WV, pm_WW, pm_WX, pb_B47, pm_if, pm_QI_at, pm_QL_at, pm_QV_at, pm_QR_at, pm_QR_at0, pm_QR_at1, Nat.reduceSub, Nat.reduceAdd, List.replicate_zero, List.replicate_succ]
    try (refine ⟨fun _ => ?_, fun z => absurd rfl z⟩)
    try refine pm_wb_ok pb_c47 1 99 0 _ _ _ _ _ ?_
    try simp only [pm_WI0, pm_WI1, pm_WI2, pm_WI3, pm_WI4, pm_WI5, pm_WV, pm_WW, pm_WX, pb_B47, pm_if, pm_QI_at, pm_QL_at, pm_QV_at, pm_QR_at, pm_QR_at0, pm_QR_at1, Nat.reduceSub, Nat.reduceAdd, List.replicate_zero, List.replicate_succ, true_and, and_true, true_or, or_true, and_self, reduceIte, Nat.reduceEqDiff, Nat.reduceLT, Nat.reduceLeDiff, Nat.reduceMul, false_and, and_false, reduceCtorEq, false_or, or_false, not_true_eq_false, not_false_eq_true, true_implies, false_implies, implies_true, lf_10, eq_self, Int32.reduceLT, Int32.reduceLE, Int32.reduceAdd, Int32.reduceSub, Int32.reduceDiv, Int32.reduceMul, pm_same, pm_i_wI, pm_l_wL, pm_l_wM, pm_oR_rf, pm_oQ_rf, sh_k5 hS, nI_1, sw_e, LQ1, LQ2, LQ3, z1, z2, hk5, hr5, hkD]
    try simp only [z1, z2, hk5, hr5, hkD, pm_WV, pm_WW, true_and, and_true, true_or, or_true, and_self, reduceIte, Nat.reduceEqDiff, Nat.reduceLT, Nat.reduceLeDiff, Nat.reduceMul, false_and, and_false, reduceCtorEq, false_or, or_false, not_true_eq_false, not_false_eq_true, true_implies, false_implies, implies_true, lf_10, eq_self, Int32.reduceLT, Int32.reduceLE, Int32.reduceAdd, Int32.reduceSub, Int32.reduceDiv, Int32.reduceMul, pm_same, pm_i_wI, pm_l_wL, pm_l_wM, pm_oR_rf, pm_oQ_rf, sh_k5 hS, nI_1, sw_e, LQ1, LQ2, LQ3, pm_WI0, pm_WI1, pm_WI2, pm_WI3, pm_WI4, pm_WI5, pm_WV, pm_WW, pm_WX, pb_B47, pm_if, pm_QI_at, pm_QL_at, pm_QV_at, pm_QR_at, pm_QR_at0, pm_QR_at1, Nat.reduceSub, Nat.reduceAdd, List.replicate_zero, List.replicate_succ]
    exact ⟨by omega, rd_39 (wn := 0) hd0 hr5' hc (fun S' hS' => h1 z _ S' eo hS')⟩
  have hlt5 := gx_lt gx_b_eof y5 (by omega)
  rw [pm_wI_wI]
  have hr6 := hr.mv hd0 (q := z + 1) (by omega)
  have hS6 := hr6.sh hS0
  have rB6 : gx_b (pm_i (pm_wI S 5 2 (nI (z + 1))) 6) n = gx_b (pm_i S0 6) n := by rw [rd_B, rB]
  have ek : go_k (gx_b (pm_i S0 6) n) L s m z = gx_bd (go_w (gx_b (pm_i S0 6) n) z) (fun _ r => gx_bd (gx_e (gx_b (pm_i S0 6) n) r) (fun e r => (r, some (L.1 ++ [(s, m, if gx_b (pm_i S0 6) n (z + 1) = 105 then 1 else 2, L.2.2.length, L.2.2.length + e.length)], L.2.1, L.2.2 ++ e)))) := by unfold go_k; rw [if_pos y5]
  rw [ek] at eo
  have tail : ∀ (wn x : Nat) (Q : Int32 → pm_S → Prop), x ≤ n → z + 1 ≤ x → go_w (gx_b (pm_i S0 6) n) z = (x, some ()) → wn = (if gx_b (pm_i S0 6) n (z + 1) = 105 then 1 else 2) → (∀ S', pm_k S' D = 5 → pm_k S' 5 = 6 → pm_r S' 5 3 = some D → pm_CV G (d - 1) 39 [.ref D, .int (nI s), .int (nI m), .int (nI wn), .int (nI L.2.2.length)] S' (fun S2 => q 1 S2) → Q 1 S') → (∀ S', q 0 S' → Q 0 S') → pm_CI G (d - 1) 49 [.ref 5, .int 0] (pm_wI S 5 2 (nI x)) Q := by
    intro wn x Q hx hzx egw hwn hy hn
    rw [gx_bd_some egw, ← hwn] at eo
    have hr7 := hr.mv hd0 (q := x) hx
    refine rd_e hS0 hd0 (by omega) hr7 (by omega) (fun x2 e S' he hS' => ?_) (fun x2 e S' he hS' hle => ?_)
    · rw [gx_bd_some he] at eo
      obtain ⟨w1, w2, w3⟩ := hS'.rowD hd0
      refine hy S' w2 (sh_k5 (hS'.sh hS0)) w1 (rd_39 hd0 hS' hc (fun S2 hS2 => h1 x2 _ S2 eo (hS2.L ?_)))
      simp
    · rw [gx_bd_none he] at eo
      exact hn S' (h0 x2 S' eo hS'.q)
  try simp only [pm_WV, pm_WW, true_and, and_true, true_or, or_true, and_self, reduceIte, Nat.reduceEqDiff, Nat.reduceLT, Nat.reduceLeDiff, Nat.reduceMul, false_and, and_false, reduceCtorEq, false_or, or_false, not_true_eq_false, not_false_eq_true, true_implies, false_implies, implies_true, lf_10, eq_self, Int32.reduceLT, Int32.reduceLE, Int32.reduceAdd, Int32.reduceSub, Int32.reduceDiv, Int32.reduceMul, pm_same, pm_i_wI, pm_l_wL, pm_l_wM, pm_oR_rf, pm_oQ_rf, sh_k5 hS, nI_1, sw_e, LQ1, LQ2, LQ3, pm_WI0, pm_WI1, pm_WI2, pm_WI3, pm_WI4, pm_WI5, pm_WV, pm_WW, pm_WX, pb_B47, pm_if, pm_QI_at, pm_QL_at, pm_QV_at, pm_QR_at, pm_QR_at0, pm_QR_at1, Nat.reduceSub, Nat.reduceAdd, List.replicate_zero, List.replicate_succ]
  try (refine ⟨fun z => absurd z (by decide), fun _ => ?_⟩)
  refine ⟨by omega, rd_44 hS6 hr6.2.2.1 ?_⟩
  rw [rB6]
  by_cases yi : gx_b (pm_i S0 6) n (z + 1) = 105
  · have es : sg (gx_b (pm_i S0 6) n (z + 1)) = 105 := by rw [yi]; rfl
    have hwb : wb 1 = [105, 102, 32] := by decide
    have egw : go_w (gx_b (pm_i S0 6) n) z = gx_w (gx_b (pm_i S0 6) n) [105, 102, 32] (z + 1) := by unfold go_w; rw [if_pos yi]
    try simp only [pm_WV, pm_WW, true_and, and_true, true_or, or_true, and_self, reduceIte, Nat.reduceEqDiff, Nat.reduceLT, Nat.reduceLeDiff, Nat.reduceMul, false_and, and_false, reduceCtorEq, false_or, or_false, not_true_eq_false, not_false_eq_true, true_implies, false_implies, implies_true, lf_10, eq_self, Int32.reduceLT, Int32.reduceLE, Int32.reduceAdd, Int32.reduceSub, Int32.reduceDiv, Int32.reduceMul, pm_same, pm_i_wI, pm_l_wL, pm_l_wM, pm_oR_rf, pm_oQ_rf, sh_k5 hS, nI_1, sw_e, LQ1, LQ2, LQ3, pm_WI0, pm_WI1, pm_WI2, pm_WI3, pm_WI4, pm_WI5, pm_WV, pm_WW, pm_WX, pb_B47, pm_if, pm_QI_at, pm_QL_at, pm_QV_at, pm_QR_at, pm_QR_at0, pm_QR_at1, Nat.reduceSub, Nat.reduceAdd, List.replicate_zero, List.replicate_succ, es]
    try (refine ⟨fun _ => ?_, fun z => absurd rfl z⟩)
    refine ⟨by omega, rd_45 (n := n) (i := 1) (p := z + 1) (by omega) hS6 hr6.2.2.1 (by omega) (fun x ex hx => ?_) (fun x ex hx => ?_)⟩ <;> rw [rB6, hwb] at ex <;> rw [pm_wI_wI]
    · have hzx := (gx_w_ok gx_b_eof (by omega) (by decide) ex).1
      try simp only [pm_WV, pm_WW, true_and, and_true, true_or, or_true, and_self, reduceIte, Nat.reduceEqDiff, Nat.reduceLT, Nat.reduceLeDiff, Nat.reduceMul, false_and, and_false, reduceCtorEq, false_or, or_false, not_true_eq_false, not_false_eq_true, true_implies, false_implies, implies_true, lf_10, eq_self, Int32.reduceLT, Int32.reduceLE, Int32.reduceAdd, Int32.reduceSub, Int32.reduceDiv, Int32.reduceMul, pm_same, pm_i_wI, pm_l_wL, pm_l_wM, pm_oR_rf, pm_oQ_rf, sh_k5 hS, nI_1, sw_e, LQ1, LQ2, LQ3, pm_WI0, pm_WI1, pm_WI2, pm_WI3, pm_WI4, pm_WI5, pm_WV, pm_WW, pm_WX, pb_B47, pm_if, pm_QI_at, pm_QL_at, pm_QV_at, pm_QR_at, pm_QR_at0, pm_QR_at1, Nat.reduceSub, Nat.reduceAdd, List.replicate_zero, List.replicate_succ]
      try (refine ⟨fun z => absurd z (by decide), fun _ => ?_⟩)
      refine ⟨by omega, tail 1 x _ hx hzx (by rw [egw, ex]) (by rw [if_pos yi]) (fun S' k1 k2 k3 w => ?_) (fun S' w => ?_)⟩
      · try simp only [pm_WV, pm_WW, true_and, and_true, true_or, or_true, and_self, reduceIte, Nat.reduceEqDiff, Nat.reduceLT, Nat.reduceLeDiff, Nat.reduceMul, false_and, and_false, reduceCtorEq, false_or, or_false, not_true_eq_false, not_false_eq_true, true_implies, false_implies, implies_true, lf_10, eq_self, Int32.reduceLT, Int32.reduceLE, Int32.reduceAdd, Int32.reduceSub, Int32.reduceDiv, Int32.reduceMul, pm_same, pm_i_wI, pm_l_wL, pm_l_wM, pm_oR_rf, pm_oQ_rf, sh_k5 hS, nI_1, sw_e, LQ1, LQ2, LQ3, pm_WI0, pm_WI1, pm_WI2, pm_WI3, pm_WI4, pm_WI5, pm_WV, pm_WW, pm_WX, pb_B47, pm_if, pm_QI_at, pm_QL_at, pm_QV_at, pm_QR_at, pm_QR_at0, pm_QR_at1, Nat.reduceSub, Nat.reduceAdd, List.replicate_zero, List.replicate_succ, k1, k2, k3]
        try (refine ⟨fun z => absurd z (by decide), fun _ => ?_⟩)
        try refine pm_wb_ok pb_c47 1 99 0 _ _ _ _ _ ?_
        try simp only [pm_WI0, pm_WI1, pm_WI2, pm_WI3, pm_WI4, pm_WI5, pm_WV, pm_WW, pm_WX, pb_B47, pm_if, pm_QI_at, pm_QL_at, pm_QV_at, pm_QR_at, pm_QR_at0, pm_QR_at1, Nat.reduceSub, Nat.reduceAdd, List.replicate_zero, List.replicate_succ, true_and, and_true, true_or, or_true, and_self, reduceIte, Nat.reduceEqDiff, Nat.reduceLT, Nat.reduceLeDiff, Nat.reduceMul, false_and, and_false, reduceCtorEq, false_or, or_false, not_true_eq_false, not_false_eq_true, true_implies, false_implies, implies_true, lf_10, eq_self, Int32.reduceLT, Int32.reduceLE, Int32.reduceAdd, Int32.reduceSub, Int32.reduceDiv, Int32.reduceMul, pm_same, pm_i_wI, pm_l_wL, pm_l_wM, pm_oR_rf, pm_oQ_rf, sh_k5 hS, nI_1, sw_e, LQ1, LQ2, LQ3, k1, k2, k3]
        exact ⟨by omega, w⟩
      · try simp only [pm_WV, pm_WW, true_and, and_true, true_or, or_true, and_self, reduceIte, Nat.reduceEqDiff, Nat.reduceLT, Nat.reduceLeDiff, Nat.reduceMul, false_and, and_false, reduceCtorEq, false_or, or_false, not_true_eq_false, not_false_eq_true, true_implies, false_implies, implies_true, lf_10, eq_self, Int32.reduceLT, Int32.reduceLE, Int32.reduceAdd, Int32.reduceSub, Int32.reduceDiv, Int32.reduceMul, pm_same, pm_i_wI, pm_l_wL, pm_l_wM, pm_oR_rf, pm_oQ_rf, sh_k5 hS, nI_1, sw_e, LQ1, LQ2, LQ3, pm_WI0, pm_WI1, pm_WI2, pm_WI3, pm_WI4, pm_WI5, pm_WV, pm_WW, pm_WX, pb_B47, pm_if, pm_QI_at, pm_QL_at, pm_QV_at, pm_QR_at, pm_QR_at0, pm_QR_at1, Nat.reduceSub, Nat.reduceAdd, List.replicate_zero, List.replicate_succ]
        first
          | exact w
          | exact ⟨fun _ => w, fun z => absurd (by decide) z⟩
          | exact ⟨fun z => absurd z (by decide), fun _ => w⟩
          | (refine pm_wb_ok pb_c47 1 97 0 _ _ _ _ _ ?_; simp only [pm_WI0, pm_WI1, pm_WI2, pm_WI3, pm_WI4, pm_WI5, pm_WV, pm_WW, pm_WX, pb_B47, pm_if, pm_QI_at, pm_QL_at, pm_QV_at, pm_QR_at, pm_QR_at0, pm_QR_at1, Nat.reduceSub, Nat.reduceAdd, List.replicate_zero, List.replicate_succ, true_and, and_true, true_or, or_true, and_self, reduceIte, Nat.reduceEqDiff, Nat.reduceLT, Nat.reduceLeDiff, Nat.reduceMul, false_and, and_false, reduceCtorEq, false_or, or_false, not_true_eq_false, not_false_eq_true, true_implies, false_implies, implies_true, lf_10, eq_self, Int32.reduceLT, Int32.reduceLE, Int32.reduceAdd, Int32.reduceSub, Int32.reduceDiv, Int32.reduceMul, pm_same, pm_i_wI, pm_l_wL, pm_l_wM, pm_oR_rf, pm_oQ_rf, sh_k5 hS, nI_1, sw_e, LQ1, LQ2, LQ3]; exact w)
          | (refine ⟨fun _ => ?_, fun z => absurd (by decide) z⟩; refine pm_wb_ok pb_c47 1 97 0 _ _ _ _ _ ?_; simp only [pm_WI0, pm_WI1, pm_WI2, pm_WI3, pm_WI4, pm_WI5, pm_WV, pm_WW, pm_WX, pb_B47, pm_if, pm_QI_at, pm_QL_at, pm_QV_at, pm_QR_at, pm_QR_at0, pm_QR_at1, Nat.reduceSub, Nat.reduceAdd, List.replicate_zero, List.replicate_succ, true_and, and_true, true_or, or_true, and_self, reduceIte, Nat.reduceEqDiff, Nat.reduceLT, Nat.reduceLeDiff, Nat.reduceMul, false_and, and_false, reduceCtorEq, false_or, or_false, not_true_eq_false, not_false_eq_true, true_implies, false_implies, implies_true, lf_10, eq_self, Int32.reduceLT, Int32.reduceLE, Int32.reduceAdd, Int32.reduceSub, Int32.reduceDiv, Int32.reduceMul, pm_same, pm_i_wI, pm_l_wL, pm_l_wM, pm_oR_rf, pm_oQ_rf, sh_k5 hS, nI_1, sw_e, LQ1, LQ2, LQ3]; exact w)
          | (refine ⟨fun z => absurd z (by decide), fun _ => ?_⟩; refine pm_wb_ok pb_c47 1 97 0 _ _ _ _ _ ?_; simp only [pm_WI0, pm_WI1, pm_WI2, pm_WI3, pm_WI4, pm_WI5, pm_WV, pm_WW, pm_WX, pb_B47, pm_if, pm_QI_at, pm_QL_at, pm_QV_at, pm_QR_at, pm_QR_at0, pm_QR_at1, Nat.reduceSub, Nat.reduceAdd, List.replicate_zero, List.replicate_succ, true_and, and_true, true_or, or_true, and_self, reduceIte, Nat.reduceEqDiff, Nat.reduceLT, Nat.reduceLeDiff, Nat.reduceMul, false_and, and_false, reduceCtorEq, false_or, or_false, not_true_eq_false, not_false_eq_true, true_implies, false_implies, implies_true, lf_10, eq_self, Int32.reduceLT, Int32.reduceLE, Int32.reduceAdd, Int32.reduceSub, Int32.reduceDiv, Int32.reduceMul, pm_same, pm_i_wI, pm_l_wL, pm_l_wM, pm_oR_rf, pm_oQ_rf, sh_k5 hS, nI_1, sw_e, LQ1, LQ2, LQ3]; exact w)
    · have fin := h0 x _ (by rw [eo, gx_bd_none (by rw [egw, ex])]) (hr.mv hd0 hx).q
      try simp only [pm_WV, pm_WW, true_and, and_true, true_or, or_true, and_self, reduceIte, Nat.reduceEqDiff, Nat.reduceLT, Nat.reduceLeDiff, Nat.reduceMul, false_and, and_false, reduceCtorEq, false_or, or_false, not_true_eq_false, not_false_eq_true, true_implies, false_implies, implies_true, lf_10, eq_self, Int32.reduceLT, Int32.reduceLE, Int32.reduceAdd, Int32.reduceSub, Int32.reduceDiv, Int32.reduceMul, pm_same, pm_i_wI, pm_l_wL, pm_l_wM, pm_oR_rf, pm_oQ_rf, sh_k5 hS, nI_1, sw_e, LQ1, LQ2, LQ3, pm_WI0, pm_WI1, pm_WI2, pm_WI3, pm_WI4, pm_WI5, pm_WV, pm_WW, pm_WX, pb_B47, pm_if, pm_QI_at, pm_QL_at, pm_QV_at, pm_QR_at, pm_QR_at0, pm_QR_at1, Nat.reduceSub, Nat.reduceAdd, List.replicate_zero, List.replicate_succ]
      first
        | exact fin
        | exact ⟨fun _ => fin, fun z => absurd (by decide) z⟩
        | exact ⟨fun z => absurd z (by decide), fun _ => fin⟩
        | (refine pm_wb_ok pb_c47 1 97 0 _ _ _ _ _ ?_; simp only [pm_WI0, pm_WI1, pm_WI2, pm_WI3, pm_WI4, pm_WI5, pm_WV, pm_WW, pm_WX, pb_B47, pm_if, pm_QI_at, pm_QL_at, pm_QV_at, pm_QR_at, pm_QR_at0, pm_QR_at1, Nat.reduceSub, Nat.reduceAdd, List.replicate_zero, List.replicate_succ, true_and, and_true, true_or, or_true, and_self, reduceIte, Nat.reduceEqDiff, Nat.reduceLT, Nat.reduceLeDiff, Nat.reduceMul, false_and, and_false, reduceCtorEq, false_or, or_false, not_true_eq_false, not_false_eq_true, true_implies, false_implies, implies_true, lf_10, eq_self, Int32.reduceLT, Int32.reduceLE, Int32.reduceAdd, Int32.reduceSub, Int32.reduceDiv, Int32.reduceMul, pm_same, pm_i_wI, pm_l_wL, pm_l_wM, pm_oR_rf, pm_oQ_rf, sh_k5 hS, nI_1, sw_e, LQ1, LQ2, LQ3]; exact fin)
        | (refine ⟨fun _ => ?_, fun z => absurd (by decide) z⟩; refine pm_wb_ok pb_c47 1 97 0 _ _ _ _ _ ?_; simp only [pm_WI0, pm_WI1, pm_WI2, pm_WI3, pm_WI4, pm_WI5, pm_WV, pm_WW, pm_WX, pb_B47, pm_if, pm_QI_at, pm_QL_at, pm_QV_at, pm_QR_at, pm_QR_at0, pm_QR_at1, Nat.reduceSub, Nat.reduceAdd, List.replicate_zero, List.replicate_succ, true_and, and_true, true_or, or_true, and_self, reduceIte, Nat.reduceEqDiff, Nat.reduceLT, Nat.reduceLeDiff, Nat.reduceMul, false_and, and_false, reduceCtorEq, false_or, or_false, not_true_eq_false, not_false_eq_true, true_implies, false_implies, implies_true, lf_10, eq_self, Int32.reduceLT, Int32.reduceLE, Int32.reduceAdd, Int32.reduceSub, Int32.reduceDiv, Int32.reduceMul, pm_same, pm_i_wI, pm_l_wL, pm_l_wM, pm_oR_rf, pm_oQ_rf, sh_k5 hS, nI_1, sw_e, LQ1, LQ2, LQ3]; exact fin)
        | (refine ⟨fun z => absurd z (by decide), fun _ => ?_⟩; refine pm_wb_ok pb_c47 1 97 0 _ _ _ _ _ ?_; simp only [pm_WI0, pm_WI1, pm_WI2, pm_WI3, pm_WI4, pm_WI5, pm_WV, pm_WW, pm_WX, pb_B47, pm_if, pm_QI_at, pm_QL_at, pm_QV_at, pm_QR_at, pm_QR_at0, pm_QR_at1, Nat.reduceSub, Nat.reduceAdd, List.replicate_zero, List.replicate_succ, true_and, and_true, true_or, or_true, and_self, reduceIte, Nat.reduceEqDiff, Nat.reduceLT, Nat.reduceLeDiff, Nat.reduceMul, false_and, and_false, reduceCtorEq, false_or, or_false, not_true_eq_false, not_false_eq_true, true_implies, false_implies, implies_true, lf_10, eq_self, Int32.reduceLT, Int32.reduceLE, Int32.reduceAdd, Int32.reduceSub, Int32.reduceDiv, Int32.reduceMul, pm_same, pm_i_wI, pm_l_wL, pm_l_wM, pm_oR_rf, pm_oQ_rf, sh_k5 hS, nI_1, sw_e, LQ1, LQ2, LQ3]; exact fin)
  · have es : ¬ sg (gx_b (pm_i S0 6) n (z + 1)) = 105 := fun e => yi ((sg_is (gx_b_le hr6.2.2.1 (z + 1) |> fun h => by rw [rB6] at h; exact h) (by omega)).mp e)
    have hwb : wb 2 = [117, 110, 108, 101, 115, 115, 32] := by decide
    have egw : go_w (gx_b (pm_i S0 6) n) z = gx_w (gx_b (pm_i S0 6) n) [117, 110, 108, 101, 115, 115, 32] (z + 1) := by unfold go_w; rw [if_neg yi]
    try simp only [pm_WV, pm_WW, true_and, and_true, true_or, or_true, and_self, reduceIte, Nat.reduceEqDiff, Nat.reduceLT, Nat.reduceLeDiff, Nat.reduceMul, false_and, and_false, reduceCtorEq, false_or, or_false, not_true_eq_false, not_false_eq_true, true_implies, false_implies, implies_true, lf_10, eq_self, Int32.reduceLT, Int32.reduceLE, Int32.reduceAdd, Int32.reduceSub, Int32.reduceDiv, Int32.reduceMul, pm_same, pm_i_wI, pm_l_wL, pm_l_wM, pm_oR_rf, pm_oQ_rf, sh_k5 hS, nI_1, sw_e, LQ1, LQ2, LQ3, pm_WI0, pm_WI1, pm_WI2, pm_WI3, pm_WI4, pm_WI5, pm_WV, pm_WW, pm_WX, pb_B47, pm_if, pm_QI_at, pm_QL_at, pm_QV_at, pm_QR_at, pm_QR_at0, pm_QR_at1, Nat.reduceSub, Nat.reduceAdd, List.replicate_zero, List.replicate_succ, es]
    try (refine ⟨fun _ => ?_, fun z => absurd rfl z⟩)
    refine ⟨by omega, rd_45 (n := n) (i := 2) (p := z + 1) (by omega) hS6 hr6.2.2.1 (by omega) (fun x ex hx => ?_) (fun x ex hx => ?_)⟩ <;> rw [rB6, hwb] at ex <;> rw [pm_wI_wI]
    · have hzx := (gx_w_ok gx_b_eof (by omega) (by decide) ex).1
      try simp only [pm_WV, pm_WW, true_and, and_true, true_or, or_true, and_self, reduceIte, Nat.reduceEqDiff, Nat.reduceLT, Nat.reduceLeDiff, Nat.reduceMul, false_and, and_false, reduceCtorEq, false_or, or_false, not_true_eq_false, not_false_eq_true, true_implies, false_implies, implies_true, lf_10, eq_self, Int32.reduceLT, Int32.reduceLE, Int32.reduceAdd, Int32.reduceSub, Int32.reduceDiv, Int32.reduceMul, pm_same, pm_i_wI, pm_l_wL, pm_l_wM, pm_oR_rf, pm_oQ_rf, sh_k5 hS, nI_1, sw_e, LQ1, LQ2, LQ3, pm_WI0, pm_WI1, pm_WI2, pm_WI3, pm_WI4, pm_WI5, pm_WV, pm_WW, pm_WX, pb_B47, pm_if, pm_QI_at, pm_QL_at, pm_QV_at, pm_QR_at, pm_QR_at0, pm_QR_at1, Nat.reduceSub, Nat.reduceAdd, List.replicate_zero, List.replicate_succ]
      try (refine ⟨fun z => absurd z (by decide), fun _ => ?_⟩)
      refine ⟨by omega, tail 2 x _ hx hzx (by rw [egw, ex]) (by rw [if_neg yi]) (fun S' k1 k2 k3 w => ?_) (fun S' w => ?_)⟩
      · try simp only [pm_WV, pm_WW, true_and, and_true, true_or, or_true, and_self, reduceIte, Nat.reduceEqDiff, Nat.reduceLT, Nat.reduceLeDiff, Nat.reduceMul, false_and, and_false, reduceCtorEq, false_or, or_false, not_true_eq_false, not_false_eq_true, true_implies, false_implies, implies_true, lf_10, eq_self, Int32.reduceLT, Int32.reduceLE, Int32.reduceAdd, Int32.reduceSub, Int32.reduceDiv, Int32.reduceMul, pm_same, pm_i_wI, pm_l_wL, pm_l_wM, pm_oR_rf, pm_oQ_rf, sh_k5 hS, nI_1, sw_e, LQ1, LQ2, LQ3, pm_WI0, pm_WI1, pm_WI2, pm_WI3, pm_WI4, pm_WI5, pm_WV, pm_WW, pm_WX, pb_B47, pm_if, pm_QI_at, pm_QL_at, pm_QV_at, pm_QR_at, pm_QR_at0, pm_QR_at1, Nat.reduceSub, Nat.reduceAdd, List.replicate_zero, List.replicate_succ, k1, k2, k3]
        try (refine ⟨fun z => absurd z (by decide), fun _ => ?_⟩)
        try refine pm_wb_ok pb_c47 1 99 0 _ _ _ _ _ ?_
        try simp only [pm_WI0, pm_WI1, pm_WI2, pm_WI3, pm_WI4, pm_WI5, pm_WV, pm_WW, pm_WX, pb_B47, pm_if, pm_QI_at, pm_QL_at, pm_QV_at, pm_QR_at, pm_QR_at0, pm_QR_at1, Nat.reduceSub, Nat.reduceAdd, List.replicate_zero, List.replicate_succ, true_and, and_true, true_or, or_true, and_self, reduceIte, Nat.reduceEqDiff, Nat.reduceLT, Nat.reduceLeDiff, Nat.reduceMul, false_and, and_false, reduceCtorEq, false_or, or_false, not_true_eq_false, not_false_eq_true, true_implies, false_implies, implies_true, lf_10, eq_self, Int32.reduceLT, Int32.reduceLE, Int32.reduceAdd, Int32.reduceSub, Int32.reduceDiv, Int32.reduceMul, pm_same, pm_i_wI, pm_l_wL, pm_l_wM, pm_oR_rf, pm_oQ_rf, sh_k5 hS, nI_1, sw_e, LQ1, LQ2, LQ3, k1, k2, k3]
        exact ⟨by omega, w⟩
      · try simp only [pm_WV, pm_WW, true_and, and_true, true_or, or_true, and_self, reduceIte, Nat.reduceEqDiff, Nat.reduceLT, Nat.reduceLeDiff, Nat.reduceMul, false_and, and_false, reduceCtorEq, false_or, or_false, not_true_eq_false, not_false_eq_true, true_implies, false_implies, implies_true, lf_10, eq_self, Int32.reduceLT, Int32.reduceLE, Int32.reduceAdd, Int32.reduceSub, Int32.reduceDiv, Int32.reduceMul, pm_same, pm_i_wI, pm_l_wL, pm_l_wM, pm_oR_rf, pm_oQ_rf, sh_k5 hS, nI_1, sw_e, LQ1, LQ2, LQ3, pm_WI0, pm_WI1, pm_WI2, pm_WI3, pm_WI4, pm_WI5, pm_WV, pm_WW, pm_WX, pb_B47, pm_if, pm_QI_at, pm_QL_at, pm_QV_at, pm_QR_at, pm_QR_at0, pm_QR_at1, Nat.reduceSub, Nat.reduceAdd, List.replicate_zero, List.replicate_succ]
        first
          | exact w
          | exact ⟨fun _ => w, fun z => absurd (by decide) z⟩
          | exact ⟨fun z => absurd z (by decide), fun _ => w⟩
          | (refine pm_wb_ok pb_c47 1 97 0 _ _ _ _ _ ?_; simp only [pm_WI0, pm_WI1, pm_WI2, pm_WI3, pm_WI4, pm_WI5, pm_WV, pm_WW, pm_WX, pb_B47, pm_if, pm_QI_at, pm_QL_at, pm_QV_at, pm_QR_at, pm_QR_at0, pm_QR_at1, Nat.reduceSub, Nat.reduceAdd, List.replicate_zero, List.replicate_succ, true_and, and_true, true_or, or_true, and_self, reduceIte, Nat.reduceEqDiff, Nat.reduceLT, Nat.reduceLeDiff, Nat.reduceMul, false_and, and_false, reduceCtorEq, false_or, or_false, not_true_eq_false, not_false_eq_true, true_implies, false_implies, implies_true, lf_10, eq_self, Int32.reduceLT, Int32.reduceLE, Int32.reduceAdd, Int32.reduceSub, Int32.reduceDiv, Int32.reduceMul, pm_same, pm_i_wI, pm_l_wL, pm_l_wM, pm_oR_rf, pm_oQ_rf, sh_k5 hS, nI_1, sw_e, LQ1, LQ2, LQ3]; exact w)
          | (refine ⟨fun _ => ?_, fun z => absurd (by decide) z⟩; refine pm_wb_ok pb_c47 1 97 0 _ _ _ _ _ ?_; simp only [pm_WI0, pm_WI1, pm_WI2, pm_WI3, pm_WI4, pm_WI5, pm_WV, pm_WW, pm_WX, pb_B47, pm_if, pm_QI_at, pm_QL_at, pm_QV_at, pm_QR_at, pm_QR_at0, pm_QR_at1, Nat.reduceSub, Nat.reduceAdd, List.replicate_zero, List.replicate_succ, true_and, and_true, true_or, or_true, and_self, reduceIte, Nat.reduceEqDiff, Nat.reduceLT, Nat.reduceLeDiff, Nat.reduceMul, false_and, and_false, reduceCtorEq, false_or, or_false, not_true_eq_false, not_false_eq_true, true_implies, false_implies, implies_true, lf_10, eq_self, Int32.reduceLT, Int32.reduceLE, Int32.reduceAdd, Int32.reduceSub, Int32.reduceDiv, Int32.reduceMul, pm_same, pm_i_wI, pm_l_wL, pm_l_wM, pm_oR_rf, pm_oQ_rf, sh_k5 hS, nI_1, sw_e, LQ1, LQ2, LQ3]; exact w)
          | (refine ⟨fun z => absurd z (by decide), fun _ => ?_⟩; refine pm_wb_ok pb_c47 1 97 0 _ _ _ _ _ ?_; simp only [pm_WI0, pm_WI1, pm_WI2, pm_WI3, pm_WI4, pm_WI5, pm_WV, pm_WW, pm_WX, pb_B47, pm_if, pm_QI_at, pm_QL_at, pm_QV_at, pm_QR_at, pm_QR_at0, pm_QR_at1, Nat.reduceSub, Nat.reduceAdd, List.replicate_zero, List.replicate_succ, true_and, and_true, true_or, or_true, and_self, reduceIte, Nat.reduceEqDiff, Nat.reduceLT, Nat.reduceLeDiff, Nat.reduceMul, false_and, and_false, reduceCtorEq, false_or, or_false, not_true_eq_false, not_false_eq_true, true_implies, false_implies, implies_true, lf_10, eq_self, Int32.reduceLT, Int32.reduceLE, Int32.reduceAdd, Int32.reduceSub, Int32.reduceDiv, Int32.reduceMul, pm_same, pm_i_wI, pm_l_wL, pm_l_wM, pm_oR_rf, pm_oQ_rf, sh_k5 hS, nI_1, sw_e, LQ1, LQ2, LQ3]; exact w)
    · have fin := h0 x _ (by rw [eo, gx_bd_none (by rw [egw, ex])]) (hr.mv hd0 hx).q
      try simp only [pm_WV, pm_WW, true_and, and_true, true_or, or_true, and_self, reduceIte, Nat.reduceEqDiff, Nat.reduceLT, Nat.reduceLeDiff, Nat.reduceMul, false_and, and_false, reduceCtorEq, false_or, or_false, not_true_eq_false, not_false_eq_true, true_implies, false_implies, implies_true, lf_10, eq_self, Int32.reduceLT, Int32.reduceLE, Int32.reduceAdd, Int32.reduceSub, Int32.reduceDiv, Int32.reduceMul, pm_same, pm_i_wI, pm_l_wL, pm_l_wM, pm_oR_rf, pm_oQ_rf, sh_k5 hS, nI_1, sw_e, LQ1, LQ2, LQ3, pm_WI0, pm_WI1, pm_WI2, pm_WI3, pm_WI4, pm_WI5, pm_WV, pm_WW, pm_WX, pb_B47, pm_if, pm_QI_at, pm_QL_at, pm_QV_at, pm_QR_at, pm_QR_at0, pm_QR_at1, Nat.reduceSub, Nat.reduceAdd, List.replicate_zero, List.replicate_succ]
      first
        | exact fin
        | exact ⟨fun _ => fin, fun z => absurd (by decide) z⟩
        | exact ⟨fun z => absurd z (by decide), fun _ => fin⟩
        | (refine pm_wb_ok pb_c47 1 97 0 _ _ _ _ _ ?_; simp only [pm_WI0, pm_WI1, pm_WI2, pm_WI3, pm_WI4, pm_WI5, pm_WV, pm_WW, pm_WX, pb_B47, pm_if, pm_QI_at, pm_QL_at, pm_QV_at, pm_QR_at, pm_QR_at0, pm_QR_at1, Nat.reduceSub, Nat.reduceAdd, List.replicate_zero, List.replicate_succ, true_and, and_true, true_or, or_true, and_self, reduceIte, Nat.reduceEqDiff, Nat.reduceLT, Nat.reduceLeDiff, Nat.reduceMul, false_and, and_false, reduceCtorEq, false_or, or_false, not_true_eq_false, not_false_eq_true, true_implies, false_implies, implies_true, lf_10, eq_self, Int32.reduceLT, Int32.reduceLE, Int32.reduceAdd, Int32.reduceSub, Int32.reduceDiv, Int32.reduceMul, pm_same, pm_i_wI, pm_l_wL, pm_l_wM, pm_oR_rf, pm_oQ_rf, sh_k5 hS, nI_1, sw_e, LQ1, LQ2, LQ3]; exact fin)
        | (refine ⟨fun _ => ?_, fun z => absurd (by decide) z⟩; refine pm_wb_ok pb_c47 1 97 0 _ _ _ _ _ ?_; simp only [pm_WI0, pm_WI1, pm_WI2, pm_WI3, pm_WI4, pm_WI5, pm_WV, pm_WW, pm_WX, pb_B47, pm_if, pm_QI_at, pm_QL_at, pm_QV_at, pm_QR_at, pm_QR_at0, pm_QR_at1, Nat.reduceSub, Nat.reduceAdd, List.replicate_zero, List.replicate_succ, true_and, and_true, true_or, or_true, and_self, reduceIte, Nat.reduceEqDiff, Nat.reduceLT, Nat.reduceLeDiff, Nat.reduceMul, false_and, and_false, reduceCtorEq, false_or, or_false, not_true_eq_false, not_false_eq_true, true_implies, false_implies, implies_true, lf_10, eq_self, Int32.reduceLT, Int32.reduceLE, Int32.reduceAdd, Int32.reduceSub, Int32.reduceDiv, Int32.reduceMul, pm_same, pm_i_wI, pm_l_wL, pm_l_wM, pm_oR_rf, pm_oQ_rf, sh_k5 hS, nI_1, sw_e, LQ1, LQ2, LQ3]; exact fin)
        | (refine ⟨fun z => absurd z (by decide), fun _ => ?_⟩; refine pm_wb_ok pb_c47 1 97 0 _ _ _ _ _ ?_; simp only [pm_WI0, pm_WI1, pm_WI2, pm_WI3, pm_WI4, pm_WI5, pm_WV, pm_WW, pm_WX, pb_B47, pm_if, pm_QI_at, pm_QL_at, pm_QV_at, pm_QR_at, pm_QR_at0, pm_QR_at1, Nat.reduceSub, Nat.reduceAdd, List.replicate_zero, List.replicate_succ, true_and, and_true, true_or, or_true, and_self, reduceIte, Nat.reduceEqDiff, Nat.reduceLT, Nat.reduceLeDiff, Nat.reduceMul, false_and, and_false, reduceCtorEq, false_or, or_false, not_true_eq_false, not_false_eq_true, true_implies, false_implies, implies_true, lf_10, eq_self, Int32.reduceLT, Int32.reduceLE, Int32.reduceAdd, Int32.reduceSub, Int32.reduceDiv, Int32.reduceMul, pm_same, pm_i_wI, pm_l_wL, pm_l_wM, pm_oR_rf, pm_oQ_rf, sh_k5 hS, nI_1, sw_e, LQ1, LQ2, LQ3]; exact fin)
theorem rd_54 (hS0 : Sh S0) (hd0 : dl S0 D W) {d : Nat} (hd : 21 ≤ d) {S : pm_S} {p : Nat} {L : gx_L} {q : Int32 → pm_S → Prop} (hr : rs S0 D W n S p L) (hl : L.2.2.length ≤ p) (y : gx_b (pm_i S0 6) n p = 114) (h1 : ∀ x L' S', gx_clause (gx_b (pm_i S0 6) n) L p = (x, some L') → rs S0 D W n S' x L' → q 1 S') (h0 : ∀ x S', gx_clause (gx_b (pm_i S0 6) n) L p = (x, none) → rq S0 D W n S' x → q 0 S') : pm_CI G d 54 [.ref 5] S q := by
  have hS := hr.sh hS0
  have hdl := hr.todl hd0
  have ht := hr.text hd0
  have hr3 := hr.2.2.1
  have hn := hr3.2.2.2.1
  have hpn := hr3.2.2.1
  have hr5 : pm_r S 5 3 = some D := hdl.1
  have hkD : pm_k S D = 5 := hdl.2.1
  have rB : gx_b (pm_i S 6) n = gx_b (pm_i S0 6) n := by rw [ht]
  have hlt : p < n := gx_lt gx_b_eof y (by omega)
  have hr2 := hr.mv hd0 (q := p + 1) (by omega)
  have hS2 := hr2.sh hS0
  have rB2 : gx_b (pm_i (pm_wI S 5 2 (nI (p + 1))) 6) n = gx_b (pm_i S0 6) n := by rw [rd_B, rB]
  obtain ⟨z1, z2, z3⟩ := hr2.rowD hd0
  have hk5 : pm_k (pm_wI S 5 2 (nI (p + 1))) 5 = 6 := sh_k5 hS2
  have h18 : pm_i (pm_wI S 5 2 (nI (p + 1))) D 18 = nI L.2.2.length := hr2.2.2.2.2.1
  have h18s : pm_i S D 18 = nI L.2.2.length := hr.2.2.2.2.1
  refine pm_goI 54 1 pb_c54 (by decide) (Nat.le_of_ble_eq_true rfl) rfl ?_
  try simp only [show pm_mL 54 = 1 from rfl, pm_WI0, pm_WI1, pm_WI2, pm_WI3, pm_WI4, pm_WI5, pm_WV, pm_WW, pm_WX, pb_B54, pm_if, pm_QI_at, pm_QL_at, pm_QV_at, pm_QR_at, pm_QR_at0, pm_QR_at1, Nat.reduceSub, Nat.reduceAdd, List.replicate_zero, List.replicate_succ, true_and, and_true, true_or, or_true, and_self, reduceIte, Nat.reduceEqDiff, Nat.reduceLT, Nat.reduceLeDiff, Nat.reduceMul, false_and, and_false, reduceCtorEq, false_or, or_false, not_true_eq_false, not_false_eq_true, true_implies, false_implies, implies_true, lf_10, eq_self, Int32.reduceLT, Int32.reduceLE, Int32.reduceAdd, Int32.reduceSub, Int32.reduceDiv, Int32.reduceMul, pm_same, pm_i_wI, pm_l_wL, pm_l_wM, pm_oR_rf, pm_oQ_rf, sh_k5 hS, nI_1, sw_e, LQ1, LQ2, LQ3]
  refine ⟨by omega, rd_46 (c := 114) (n := n) hS hr3 (by omega) (fun y2 => ?_) (fun y2 => ?_)⟩ <;> rw [rB] at y2
  rotate_left
  · exact absurd y y2
  refine ⟨fun z => absurd z (by decide), fun _ => ?_⟩
  refine pm_wb_ok pb_c54 4 11 0 _ _ _ _ _ ?_
  try simp only [pm_WI0, pm_WI1, pm_WI2, pm_WI3, pm_WI4, pm_WI5, pm_WV, pm_WW, pm_WX, pb_B54, pm_if, pm_QI_at, pm_QL_at, pm_QV_at, pm_QR_at, pm_QR_at0, pm_QR_at1, Nat.reduceSub, Nat.reduceAdd, List.replicate_zero, List.replicate_succ, true_and, and_true, true_or, or_true, and_self, reduceIte, Nat.reduceEqDiff, Nat.reduceLT, Nat.reduceLeDiff, Nat.reduceMul, false_and, and_false, reduceCtorEq, false_or, or_false, not_true_eq_false, not_false_eq_true, true_implies, false_implies, implies_true, lf_10, eq_self, Int32.reduceLT, Int32.reduceLE, Int32.reduceAdd, Int32.reduceSub, Int32.reduceDiv, Int32.reduceMul, pm_same, pm_i_wI, pm_l_wL, pm_l_wM, pm_oR_rf, pm_oQ_rf, sh_k5 hS, nI_1, sw_e, LQ1, LQ2, LQ3, hk5, z1, z2, h18, hr5, hkD, h18s]
  refine ⟨by omega, rd_44 hS2 hr2.2.2.1 ?_⟩
  rw [rB2]
  by_cases ya : gx_b (pm_i S0 6) n (p + 1) = 97
  · have es : sg (gx_b (pm_i S0 6) n (p + 1)) = 97 := by rw [ya]; rfl
    have ec : gx_clause (gx_b (pm_i S0 6) n) L p = gx_one (gx_b (pm_i S0 6) n) L 15 [97, 116, 101, 32] (p + 1) := by
      unfold gx_clause; rw [if_neg (by omega), if_pos y, if_pos ya]
    rw [gx_one_eq] at ec
    have hwb : wb 3 = [97, 116, 101, 32] := by decide
    rw [es]
    try simp only [pm_WV, pm_WW, true_and, and_true, true_or, or_true, and_self, reduceIte, Nat.reduceEqDiff, Nat.reduceLT, Nat.reduceLeDiff, Nat.reduceMul, false_and, and_false, reduceCtorEq, false_or, or_false, not_true_eq_false, not_false_eq_true, true_implies, false_implies, implies_true, lf_10, eq_self, Int32.reduceLT, Int32.reduceLE, Int32.reduceAdd, Int32.reduceSub, Int32.reduceDiv, Int32.reduceMul, pm_same, pm_i_wI, pm_l_wL, pm_l_wM, pm_oR_rf, pm_oQ_rf, sh_k5 hS, nI_1, sw_e, LQ1, LQ2, LQ3, pm_WI0, pm_WI1, pm_WI2, pm_WI3, pm_WI4, pm_WI5, pm_WV, pm_WW, pm_WX, pb_B54, pm_if, pm_QI_at, pm_QL_at, pm_QV_at, pm_QR_at, pm_QR_at0, pm_QR_at1, Nat.reduceSub, Nat.reduceAdd, List.replicate_zero, List.replicate_succ, hk5, z1, z2, hr5, hkD, h18s]
    refine ⟨by omega, rd_55 (i := 3) hS0 hd0 (by omega) (by omega) hr2 (fun x v S' e hv hS' => ?_) (fun x S' e hS' => ?_)⟩ <;> rw [hwb] at e
    · obtain ⟨w1, w2, w3⟩ := hS'.rowD hd0
      have hge : ¬ nI v < 0 := nI_pos (by omega)
      have hk5' : pm_k S' 5 = 6 := sh_k5 (hS'.sh hS0)
      try simp only [pm_WV, pm_WW, true_and, and_true, true_or, or_true, and_self, reduceIte, Nat.reduceEqDiff, Nat.reduceLT, Nat.reduceLeDiff, Nat.reduceMul, false_and, and_false, reduceCtorEq, false_or, or_false, not_true_eq_false, not_false_eq_true, true_implies, false_implies, implies_true, lf_10, eq_self, Int32.reduceLT, Int32.reduceLE, Int32.reduceAdd, Int32.reduceSub, Int32.reduceDiv, Int32.reduceMul, pm_same, pm_i_wI, pm_l_wL, pm_l_wM, pm_oR_rf, pm_oQ_rf, sh_k5 hS, nI_1, sw_e, LQ1, LQ2, LQ3, pm_WI0, pm_WI1, pm_WI2, pm_WI3, pm_WI4, pm_WI5, pm_WV, pm_WW, pm_WX, pb_B54, pm_if, pm_QI_at, pm_QL_at, pm_QV_at, pm_QR_at, pm_QR_at0, pm_QR_at1, Nat.reduceSub, Nat.reduceAdd, List.replicate_zero, List.replicate_succ, w1, w2, hk5', hge]
      exact h1 x _ _ (by rw [ec, gx_bd_some e]) (hS'.num hd0 (by omega) (by omega))
    · obtain ⟨w1, w2, w3⟩ := hS'.rowD hd0
      have hk5' : pm_k S' 5 = 6 := sh_k5 (hS'.sh hS0)
      try simp only [pm_WV, pm_WW, true_and, and_true, true_or, or_true, and_self, reduceIte, Nat.reduceEqDiff, Nat.reduceLT, Nat.reduceLeDiff, Nat.reduceMul, false_and, and_false, reduceCtorEq, false_or, or_false, not_true_eq_false, not_false_eq_true, true_implies, false_implies, implies_true, lf_10, eq_self, Int32.reduceLT, Int32.reduceLE, Int32.reduceAdd, Int32.reduceSub, Int32.reduceDiv, Int32.reduceMul, pm_same, pm_i_wI, pm_l_wL, pm_l_wM, pm_oR_rf, pm_oQ_rf, sh_k5 hS, nI_1, sw_e, LQ1, LQ2, LQ3, pm_WI0, pm_WI1, pm_WI2, pm_WI3, pm_WI4, pm_WI5, pm_WV, pm_WW, pm_WX, pb_B54, pm_if, pm_QI_at, pm_QL_at, pm_QV_at, pm_QR_at, pm_QR_at0, pm_QR_at1, Nat.reduceSub, Nat.reduceAdd, List.replicate_zero, List.replicate_succ, w1, w2, hk5']
      exact h0 x _ (by rw [ec, gx_bd_none e]) (hS'.q.wD hd0)
  · have es : ¬ sg (gx_b (pm_i S0 6) n (p + 1)) = 97 := fun e => ya ((sg_is (gx_b_le hr2.2.2.1 (p + 1) |> fun h => by rw [rB2] at h; exact h) (by omega)).mp e)
    have ec : gx_clause (gx_b (pm_i S0 6) n) L p = gx_reach (gx_b (pm_i S0 6) n) L (p + 1) := by
      unfold gx_clause; rw [if_neg (by omega), if_pos y, if_neg ya]
    unfold gx_reach at ec
    have hwb : wb 4 = [101, 97, 99, 104, 32] := by decide
    have hr3' := hr2.num hd0 (f := 8) (v := L.2.2.length) (by omega) (by omega)
    have hS3 := hr3'.sh hS0
    have rB3 : gx_b (pm_i (pm_wI (pm_wI S 5 2 (nI (p + 1))) D 8 (nI L.2.2.length)) 6) n = gx_b (pm_i S0 6) n := by rw [hr3'.text hd0]
    have hk53 : pm_k (pm_wI (pm_wI S 5 2 (nI (p + 1))) D 8 (nI L.2.2.length)) 5 = 6 := sh_k5 hS3
    try simp only [pm_WV, pm_WW, true_and, and_true, true_or, or_true, and_self, reduceIte, Nat.reduceEqDiff, Nat.reduceLT, Nat.reduceLeDiff, Nat.reduceMul, false_and, and_false, reduceCtorEq, false_or, or_false, not_true_eq_false, not_false_eq_true, true_implies, false_implies, implies_true, lf_10, eq_self, Int32.reduceLT, Int32.reduceLE, Int32.reduceAdd, Int32.reduceSub, Int32.reduceDiv, Int32.reduceMul, pm_same, pm_i_wI, pm_l_wL, pm_l_wM, pm_oR_rf, pm_oQ_rf, sh_k5 hS, nI_1, sw_e, LQ1, LQ2, LQ3, pm_WI0, pm_WI1, pm_WI2, pm_WI3, pm_WI4, pm_WI5, pm_WV, pm_WW, pm_WX, pb_B54, pm_if, pm_QI_at, pm_QL_at, pm_QV_at, pm_QR_at, pm_QR_at0, pm_QR_at1, Nat.reduceSub, Nat.reduceAdd, List.replicate_zero, List.replicate_succ, es]
    try refine pm_wb_ok pb_c54 1 49 0 _ _ _ _ _ ?_
    try simp only [pm_WI0, pm_WI1, pm_WI2, pm_WI3, pm_WI4, pm_WI5, pm_WV, pm_WW, pm_WX, pb_B54, pm_if, pm_QI_at, pm_QL_at, pm_QV_at, pm_QR_at, pm_QR_at0, pm_QR_at1, Nat.reduceSub, Nat.reduceAdd, List.replicate_zero, List.replicate_succ, true_and, and_true, true_or, or_true, and_self, reduceIte, Nat.reduceEqDiff, Nat.reduceLT, Nat.reduceLeDiff, Nat.reduceMul, false_and, and_false, reduceCtorEq, false_or, or_false, not_true_eq_false, not_false_eq_true, true_implies, false_implies, implies_true, lf_10, eq_self, Int32.reduceLT, Int32.reduceLE, Int32.reduceAdd, Int32.reduceSub, Int32.reduceDiv, Int32.reduceMul, pm_same, pm_i_wI, pm_l_wL, pm_l_wM, pm_oR_rf, pm_oQ_rf, sh_k5 hS, nI_1, sw_e, LQ1, LQ2, LQ3, z1, z2, hk5, h18, hk53, hr5, hkD, h18s]
    try simp only [pm_WV, pm_WW, true_and, and_true, true_or, or_true, and_self, reduceIte, Nat.reduceEqDiff, Nat.reduceLT, Nat.reduceLeDiff, Nat.reduceMul, false_and, and_false, reduceCtorEq, false_or, or_false, not_true_eq_false, not_false_eq_true, true_implies, false_implies, implies_true, lf_10, eq_self, Int32.reduceLT, Int32.reduceLE, Int32.reduceAdd, Int32.reduceSub, Int32.reduceDiv, Int32.reduceMul, pm_same, pm_i_wI, pm_l_wL, pm_l_wM, pm_oR_rf, pm_oQ_rf, sh_k5 hS, nI_1, sw_e, LQ1, LQ2, LQ3, pm_WI0, pm_WI1, pm_WI2, pm_WI3, pm_WI4, pm_WI5, pm_WV, pm_WW, pm_WX, pb_B54, pm_if, pm_QI_at, pm_QL_at, pm_QV_at, pm_QR_at, pm_QR_at0, pm_QR_at1, Nat.reduceSub, Nat.reduceAdd, List.replicate_zero, List.replicate_succ, hk5, z1, z2, h18, hk53, hr5, hkD, h18s]
    refine ⟨by omega, rd_45 (n := n) (i := 4) (p := p + 1) (by omega) hS3 hr3'.2.2.1 (by omega) (fun x ex hx => ?_) (fun x ex hx => ?_)⟩ <;> rw [rB3, hwb] at ex
    · have hzx := (gx_w_ok gx_b_eof (by omega) (by decide) ex).1
      rw [gx_bd_some ex] at ec
      have hr4 := hr3'.mv hd0 (q := x) hx
      have hk54 : pm_k (pm_wI (pm_wI (pm_wI S 5 2 (nI (p + 1))) D 8 (nI L.2.2.length)) 5 2 (nI x)) 5 = 6 := sh_k5 (hr4.sh hS0)
      try simp only [pm_WV, pm_WW, true_and, and_true, true_or, or_true, and_self, reduceIte, Nat.reduceEqDiff, Nat.reduceLT, Nat.reduceLeDiff, Nat.reduceMul, false_and, and_false, reduceCtorEq, false_or, or_false, not_true_eq_false, not_false_eq_true, true_implies, false_implies, implies_true, lf_10, eq_self, Int32.reduceLT, Int32.reduceLE, Int32.reduceAdd, Int32.reduceSub, Int32.reduceDiv, Int32.reduceMul, pm_same, pm_i_wI, pm_l_wL, pm_l_wM, pm_oR_rf, pm_oQ_rf, sh_k5 hS, nI_1, sw_e, LQ1, LQ2, LQ3, pm_WI0, pm_WI1, pm_WI2, pm_WI3, pm_WI4, pm_WI5, pm_WV, pm_WW, pm_WX, pb_B54, pm_if, pm_QI_at, pm_QL_at, pm_QV_at, pm_QR_at, pm_QR_at0, pm_QR_at1, Nat.reduceSub, Nat.reduceAdd, List.replicate_zero, List.replicate_succ, hk54]
      first
        | refine ⟨fun z => absurd z (by decide), fun _ => ⟨by omega, ?_⟩⟩
        | refine ⟨by omega, ?_⟩
        | skip
      refine rd_e hS0 hd0 (by omega) hr4 (by show L.2.2.length ≤ x; omega) (fun x2 e S' he hS' => ?_) (fun x2 e S' he hS' hle => ?_)
      · rw [gx_bd_some he] at ec
        obtain ⟨w1, w2, w3⟩ := hS'.rowD hd0
        have hk5' : pm_k S' 5 = 6 := sh_k5 (hS'.sh hS0)
        have w18 : pm_i S' D 18 = nI (L.2.2 ++ e).length := hS'.2.2.2.2.1
        have fin := h1 x2 _ _ ec ((hS'.num hd0 (f := 9) (v := (L.2.2 ++ e).length) (by omega) (by omega)).L (by simp))
        first
          | refine ⟨fun z => absurd z (by decide), fun _ => ?_⟩
          | skip
        try refine pm_wb_ok pb_c54 1 82 0 _ _ _ _ _ ?_
        try simp only [pm_WI0, pm_WI1, pm_WI2, pm_WI3, pm_WI4, pm_WI5, pm_WV, pm_WW, pm_WX, pb_B54, pm_if, pm_QI_at, pm_QL_at, pm_QV_at, pm_QR_at, pm_QR_at0, pm_QR_at1, Nat.reduceSub, Nat.reduceAdd, List.replicate_zero, List.replicate_succ, true_and, and_true, true_or, or_true, and_self, reduceIte, Nat.reduceEqDiff, Nat.reduceLT, Nat.reduceLeDiff, Nat.reduceMul, false_and, and_false, reduceCtorEq, false_or, or_false, not_true_eq_false, not_false_eq_true, true_implies, false_implies, implies_true, lf_10, eq_self, Int32.reduceLT, Int32.reduceLE, Int32.reduceAdd, Int32.reduceSub, Int32.reduceDiv, Int32.reduceMul, pm_same, pm_i_wI, pm_l_wL, pm_l_wM, pm_oR_rf, pm_oQ_rf, sh_k5 hS, nI_1, sw_e, LQ1, LQ2, LQ3, w1, w2, hk5', w18]
        try simp only [pm_WV, pm_WW, true_and, and_true, true_or, or_true, and_self, reduceIte, Nat.reduceEqDiff, Nat.reduceLT, Nat.reduceLeDiff, Nat.reduceMul, false_and, and_false, reduceCtorEq, false_or, or_false, not_true_eq_false, not_false_eq_true, true_implies, false_implies, implies_true, lf_10, eq_self, Int32.reduceLT, Int32.reduceLE, Int32.reduceAdd, Int32.reduceSub, Int32.reduceDiv, Int32.reduceMul, pm_same, pm_i_wI, pm_l_wL, pm_l_wM, pm_oR_rf, pm_oQ_rf, sh_k5 hS, nI_1, sw_e, LQ1, LQ2, LQ3, pm_WI0, pm_WI1, pm_WI2, pm_WI3, pm_WI4, pm_WI5, pm_WV, pm_WW, pm_WX, pb_B54, pm_if, pm_QI_at, pm_QL_at, pm_QV_at, pm_QR_at, pm_QR_at0, pm_QR_at1, Nat.reduceSub, Nat.reduceAdd, List.replicate_zero, List.replicate_succ, w1, w2, hk5', w18]
        exact fin
      · rw [gx_bd_none he] at ec
        first
          | refine ⟨fun _ => ?_, fun z => absurd rfl z⟩
          | skip
        try simp only [pm_WV, pm_WW, true_and, and_true, true_or, or_true, and_self, reduceIte, Nat.reduceEqDiff, Nat.reduceLT, Nat.reduceLeDiff, Nat.reduceMul, false_and, and_false, reduceCtorEq, false_or, or_false, not_true_eq_false, not_false_eq_true, true_implies, false_implies, implies_true, lf_10, eq_self, Int32.reduceLT, Int32.reduceLE, Int32.reduceAdd, Int32.reduceSub, Int32.reduceDiv, Int32.reduceMul, pm_same, pm_i_wI, pm_l_wL, pm_l_wM, pm_oR_rf, pm_oQ_rf, sh_k5 hS, nI_1, sw_e, LQ1, LQ2, LQ3, pm_WI0, pm_WI1, pm_WI2, pm_WI3, pm_WI4, pm_WI5, pm_WV, pm_WW, pm_WX, pb_B54, pm_if, pm_QI_at, pm_QL_at, pm_QV_at, pm_QR_at, pm_QR_at0, pm_QR_at1, Nat.reduceSub, Nat.reduceAdd, List.replicate_zero, List.replicate_succ]
        exact h0 x2 S' ec hS'.q
    · rw [gx_bd_none ex] at ec
      try simp only [pm_WV, pm_WW, true_and, and_true, true_or, or_true, and_self, reduceIte, Nat.reduceEqDiff, Nat.reduceLT, Nat.reduceLeDiff, Nat.reduceMul, false_and, and_false, reduceCtorEq, false_or, or_false, not_true_eq_false, not_false_eq_true, true_implies, false_implies, implies_true, lf_10, eq_self, Int32.reduceLT, Int32.reduceLE, Int32.reduceAdd, Int32.reduceSub, Int32.reduceDiv, Int32.reduceMul, pm_same, pm_i_wI, pm_l_wL, pm_l_wM, pm_oR_rf, pm_oQ_rf, sh_k5 hS, nI_1, sw_e, LQ1, LQ2, LQ3, pm_WI0, pm_WI1, pm_WI2, pm_WI3, pm_WI4, pm_WI5, pm_WV, pm_WW, pm_WX, pb_B54, pm_if, pm_QI_at, pm_QL_at, pm_QV_at, pm_QR_at, pm_QR_at0, pm_QR_at1, Nat.reduceSub, Nat.reduceAdd, List.replicate_zero, List.replicate_succ]
      first
        | exact ⟨fun _ => h0 x _ ec (hr3'.mv hd0 hx).q, fun z => absurd rfl z⟩
        | exact h0 x _ ec (hr3'.mv hd0 hx).q
theorem rd_56 (hS0 : Sh S0) (hd0 : dl S0 D W) {d : Nat} (hd : 8 ≤ d) {S : pm_S} {p : Nat} {L : gx_L} {q : Int32 → pm_S → Prop} (hr : rs S0 D W n S p L) (y : gx_b (pm_i S0 6) n p = 115) (h1 : ∀ x L' S', gx_clause (gx_b (pm_i S0 6) n) L p = (x, some L') → rs S0 D W n S' x L' → q 1 S') (h0 : ∀ x S', gx_clause (gx_b (pm_i S0 6) n) L p = (x, none) → rq S0 D W n S' x → q 0 S') : pm_CI G d 56 [.ref 5] S q := by
  have hS := hr.sh hS0
  have hdl := hr.todl hd0
  have ht := hr.text hd0
  have hr3 := hr.2.2.1
  have hn := hr3.2.2.2.1
  have hpn := hr3.2.2.1
  have hr5 : pm_r S 5 3 = some D := hdl.1
  have hkD : pm_k S D = 5 := hdl.2.1
  have rB : gx_b (pm_i S 6) n = gx_b (pm_i S0 6) n := by rw [ht]
  have ec : gx_clause (gx_b (pm_i S0 6) n) L p = gx_bd (gx_bd (gx_w (gx_b (pm_i S0 6) n) [115, 99, 97, 108, 101, 32] p) (fun _ r => gx_num (gx_b (pm_i S0 6) n) 0 4 r)) (fun v q => gx_bd (gx_w (gx_b (pm_i S0 6) n) [32] q) (fun _ q => gx_bd (gx_num (gx_b (pm_i S0 6) n) 1 4 q) (fun m q => (q, some (L.1, va_up (va_up L.2.1 12 v) 13 m, L.2.2))))) := by
    unfold gx_clause; rw [if_neg (by omega), if_neg (by omega), if_pos y]
    unfold gx_scale; rw [gx_bd_assoc]
  have hwb : wb 5 = [115, 99, 97, 108, 101, 32] := by decide
  refine pm_goI 56 1 pb_c56 (by decide) (Nat.le_of_ble_eq_true rfl) rfl ?_
  try simp only [show pm_mL 56 = 1 from rfl, pm_WI0, pm_WI1, pm_WI2, pm_WI3, pm_WI4, pm_WI5, pm_WV, pm_WW, pm_WX, pb_B56, pm_if, pm_QI_at, pm_QL_at, pm_QV_at, pm_QR_at, pm_QR_at0, pm_QR_at1, Nat.reduceSub, Nat.reduceAdd, List.replicate_zero, List.replicate_succ, true_and, and_true, true_or, or_true, and_self, reduceIte, Nat.reduceEqDiff, Nat.reduceLT, Nat.reduceLeDiff, Nat.reduceMul, false_and, and_false, reduceCtorEq, false_or, or_false, not_true_eq_false, not_false_eq_true, true_implies, false_implies, implies_true, lf_10, eq_self, Int32.reduceLT, Int32.reduceLE, Int32.reduceAdd, Int32.reduceSub, Int32.reduceDiv, Int32.reduceMul, pm_same, pm_i_wI, pm_l_wL, pm_l_wM, pm_oR_rf, pm_oQ_rf, sh_k5 hS, nI_1, sw_e, LQ1, LQ2, LQ3, hr5, hkD]
  refine ⟨by omega, rd_55 (i := 5) hS0 hd0 (by omega) (by omega) hr (fun x v S' e hv hS' => ?_) (fun x S' e hS' => ?_)⟩ <;> rw [hwb] at e
  · rw [gx_bd_some e] at ec
    obtain ⟨w1, w2, w3⟩ := hS'.rowD hd0
    have hge : ¬ nI v < 0 := nI_pos (by omega)
    have hr6 := hS'.num hd0 (f := 12) (v := v) (by omega) (by omega)
    have hS6 := hr6.sh hS0
    have hk5' : pm_k S' 5 = 6 := sh_k5 (hS'.sh hS0)
    have hk6' : pm_k (pm_wI S' D 12 (nI v)) 5 = 6 := hk5'
    have rB6 : gx_b (pm_i (pm_wI S' D 12 (nI v)) 6) n = gx_b (pm_i S0 6) n := by rw [hr6.text hd0]
    have hx6 := hr6.2.2.1.2.2.1
    try simp only [pm_WV, pm_WW, true_and, and_true, true_or, or_true, and_self, reduceIte, Nat.reduceEqDiff, Nat.reduceLT, Nat.reduceLeDiff, Nat.reduceMul, false_and, and_false, reduceCtorEq, false_or, or_false, not_true_eq_false, not_false_eq_true, true_implies, false_implies, implies_true, lf_10, eq_self, Int32.reduceLT, Int32.reduceLE, Int32.reduceAdd, Int32.reduceSub, Int32.reduceDiv, Int32.reduceMul, pm_same, pm_i_wI, pm_l_wL, pm_l_wM, pm_oR_rf, pm_oQ_rf, sh_k5 hS, nI_1, sw_e, LQ1, LQ2, LQ3, pm_WI0, pm_WI1, pm_WI2, pm_WI3, pm_WI4, pm_WI5, pm_WV, pm_WW, pm_WX, pb_B56, pm_if, pm_QI_at, pm_QL_at, pm_QV_at, pm_QR_at, pm_QR_at0, pm_QR_at1, Nat.reduceSub, Nat.reduceAdd, List.replicate_zero, List.replicate_succ, w1, w2, hk5', hge]
    refine ⟨by omega, rd_46 (c := 32) (n := n) hS6 hr6.2.2.1 (by omega) (fun y2 => ?_) (fun y2 => ?_)⟩ <;> rw [rB6] at y2
    rotate_left
    · have ew : gx_w (gx_b (pm_i S0 6) n) [32] x = (x, none) := by simp only [gx_w]; rw [if_neg y2]
      rw [gx_bd_none ew] at ec
      try simp only [pm_WV, pm_WW, true_and, and_true, true_or, or_true, and_self, reduceIte, Nat.reduceEqDiff, Nat.reduceLT, Nat.reduceLeDiff, Nat.reduceMul, false_and, and_false, reduceCtorEq, false_or, or_false, not_true_eq_false, not_false_eq_true, true_implies, false_implies, implies_true, lf_10, eq_self, Int32.reduceLT, Int32.reduceLE, Int32.reduceAdd, Int32.reduceSub, Int32.reduceDiv, Int32.reduceMul, pm_same, pm_i_wI, pm_l_wL, pm_l_wM, pm_oR_rf, pm_oQ_rf, sh_k5 hS, nI_1, sw_e, LQ1, LQ2, LQ3, pm_WI0, pm_WI1, pm_WI2, pm_WI3, pm_WI4, pm_WI5, pm_WV, pm_WW, pm_WX, pb_B56, pm_if, pm_QI_at, pm_QL_at, pm_QV_at, pm_QR_at, pm_QR_at0, pm_QR_at1, Nat.reduceSub, Nat.reduceAdd, List.replicate_zero, List.replicate_succ]
      have fin := h0 x _ ec hr6.q
      first
        | exact fin
        | exact ⟨fun _ => fin, fun z => absurd (by decide) z⟩
        | exact ⟨fun z => absurd z (by decide), fun _ => fin⟩
        | (refine pm_wb_ok pb_c56 1 32 0 _ _ _ _ _ ?_; simp only [pm_WI0, pm_WI1, pm_WI2, pm_WI3, pm_WI4, pm_WI5, pm_WV, pm_WW, pm_WX, pb_B56, pm_if, pm_QI_at, pm_QL_at, pm_QV_at, pm_QR_at, pm_QR_at0, pm_QR_at1, Nat.reduceSub, Nat.reduceAdd, List.replicate_zero, List.replicate_succ, true_and, and_true, true_or, or_true, and_self, reduceIte, Nat.reduceEqDiff, Nat.reduceLT, Nat.reduceLeDiff, Nat.reduceMul, false_and, and_false, reduceCtorEq, false_or, or_false, not_true_eq_false, not_false_eq_true, true_implies, false_implies, implies_true, lf_10, eq_self, Int32.reduceLT, Int32.reduceLE, Int32.reduceAdd, Int32.reduceSub, Int32.reduceDiv, Int32.reduceMul, pm_same, pm_i_wI, pm_l_wL, pm_l_wM, pm_oR_rf, pm_oQ_rf, sh_k5 hS, nI_1, sw_e, LQ1, LQ2, LQ3]; exact fin)
        | (refine ⟨fun _ => ?_, fun z => absurd (by decide) z⟩; refine pm_wb_ok pb_c56 1 32 0 _ _ _ _ _ ?_; simp only [pm_WI0, pm_WI1, pm_WI2, pm_WI3, pm_WI4, pm_WI5, pm_WV, pm_WW, pm_WX, pb_B56, pm_if, pm_QI_at, pm_QL_at, pm_QV_at, pm_QR_at, pm_QR_at0, pm_QR_at1, Nat.reduceSub, Nat.reduceAdd, List.replicate_zero, List.replicate_succ, true_and, and_true, true_or, or_true, and_self, reduceIte, Nat.reduceEqDiff, Nat.reduceLT, Nat.reduceLeDiff, Nat.reduceMul, false_and, and_false, reduceCtorEq, false_or, or_false, not_true_eq_false, not_false_eq_true, true_implies, false_implies, implies_true, lf_10, eq_self, Int32.reduceLT, Int32.reduceLE, Int32.reduceAdd, Int32.reduceSub, Int32.reduceDiv, Int32.reduceMul, pm_same, pm_i_wI, pm_l_wL, pm_l_wM, pm_oR_rf, pm_oQ_rf, sh_k5 hS, nI_1, sw_e, LQ1, LQ2, LQ3]; exact fin)
        | (refine ⟨fun z => absurd z (by decide), fun _ => ?_⟩; refine pm_wb_ok pb_c56 1 32 0 _ _ _ _ _ ?_; simp only [pm_WI0, pm_WI1, pm_WI2, pm_WI3, pm_WI4, pm_WI5, pm_WV, pm_WW, pm_WX, pb_B56, pm_if, pm_QI_at, pm_QL_at, pm_QV_at, pm_QR_at, pm_QR_at0, pm_QR_at1, Nat.reduceSub, Nat.reduceAdd, List.replicate_zero, List.replicate_succ, true_and, and_true, true_or, or_true, and_self, reduceIte, Nat.reduceEqDiff, Nat.reduceLT, Nat.reduceLeDiff, Nat.reduceMul, false_and, and_false, reduceCtorEq, false_or, or_false, not_true_eq_false, not_false_eq_true, true_implies, false_implies, implies_true, lf_10, eq_self, Int32.reduceLT, Int32.reduceLE, Int32.reduceAdd, Int32.reduceSub, Int32.reduceDiv, Int32.reduceMul, pm_same, pm_i_wI, pm_l_wL, pm_l_wM, pm_oR_rf, pm_oQ_rf, sh_k5 hS, nI_1, sw_e, LQ1, LQ2, LQ3]; exact fin)
    have hlt := gx_lt gx_b_eof y2 (by omega)
    have ew : gx_w (gx_b (pm_i S0 6) n) [32] x = (x + 1, some ()) := by simp only [gx_w]; rw [if_pos y2]
    rw [gx_bd_some ew] at ec
    have hr7 := hr6.mv hd0 (q := x + 1) (by omega)
    have hS7 := hr7.sh hS0
    obtain ⟨v1, v2, v3⟩ := hr7.rowD hd0
    have hk7 : pm_k (pm_wI (pm_wI S' D 12 (nI v)) 5 2 (nI (x + 1))) 5 = 6 := sh_k5 hS7
    have rB7 : gx_b (pm_i (pm_wI (pm_wI S' D 12 (nI v)) 5 2 (nI (x + 1))) 6) n = gx_b (pm_i S0 6) n := by rw [hr7.text hd0]
    try simp only [pm_WV, pm_WW, true_and, and_true, true_or, or_true, and_self, reduceIte, Nat.reduceEqDiff, Nat.reduceLT, Nat.reduceLeDiff, Nat.reduceMul, false_and, and_false, reduceCtorEq, false_or, or_false, not_true_eq_false, not_false_eq_true, true_implies, false_implies, implies_true, lf_10, eq_self, Int32.reduceLT, Int32.reduceLE, Int32.reduceAdd, Int32.reduceSub, Int32.reduceDiv, Int32.reduceMul, pm_same, pm_i_wI, pm_l_wL, pm_l_wM, pm_oR_rf, pm_oQ_rf, sh_k5 hS, nI_1, sw_e, LQ1, LQ2, LQ3, pm_WI0, pm_WI1, pm_WI2, pm_WI3, pm_WI4, pm_WI5, pm_WV, pm_WW, pm_WX, pb_B56, pm_if, pm_QI_at, pm_QL_at, pm_QV_at, pm_QR_at, pm_QR_at0, pm_QR_at1, Nat.reduceSub, Nat.reduceAdd, List.replicate_zero, List.replicate_succ]
    first
      | refine ⟨fun z => absurd z (by decide), fun _ => ?_⟩
      | skip
    try refine pm_wb_ok pb_c56 3 34 0 _ _ _ _ _ ?_
    try simp only [pm_WI0, pm_WI1, pm_WI2, pm_WI3, pm_WI4, pm_WI5, pm_WV, pm_WW, pm_WX, pb_B56, pm_if, pm_QI_at, pm_QL_at, pm_QV_at, pm_QR_at, pm_QR_at0, pm_QR_at1, Nat.reduceSub, Nat.reduceAdd, List.replicate_zero, List.replicate_succ, true_and, and_true, true_or, or_true, and_self, reduceIte, Nat.reduceEqDiff, Nat.reduceLT, Nat.reduceLeDiff, Nat.reduceMul, false_and, and_false, reduceCtorEq, false_or, or_false, not_true_eq_false, not_false_eq_true, true_implies, false_implies, implies_true, lf_10, eq_self, Int32.reduceLT, Int32.reduceLE, Int32.reduceAdd, Int32.reduceSub, Int32.reduceDiv, Int32.reduceMul, pm_same, pm_i_wI, pm_l_wL, pm_l_wM, pm_oR_rf, pm_oQ_rf, sh_k5 hS, nI_1, sw_e, LQ1, LQ2, LQ3, v1, v2, hk7, w1, w2, hk5']
    try simp only [pm_WV, pm_WW, true_and, and_true, true_or, or_true, and_self, reduceIte, Nat.reduceEqDiff, Nat.reduceLT, Nat.reduceLeDiff, Nat.reduceMul, false_and, and_false, reduceCtorEq, false_or, or_false, not_true_eq_false, not_false_eq_true, true_implies, false_implies, implies_true, lf_10, eq_self, Int32.reduceLT, Int32.reduceLE, Int32.reduceAdd, Int32.reduceSub, Int32.reduceDiv, Int32.reduceMul, pm_same, pm_i_wI, pm_l_wL, pm_l_wM, pm_oR_rf, pm_oQ_rf, sh_k5 hS, nI_1, sw_e, LQ1, LQ2, LQ3, pm_WI0, pm_WI1, pm_WI2, pm_WI3, pm_WI4, pm_WI5, pm_WV, pm_WW, pm_WX, pb_B56, pm_if, pm_QI_at, pm_QL_at, pm_QV_at, pm_QR_at, pm_QR_at0, pm_QR_at1, Nat.reduceSub, Nat.reduceAdd, List.replicate_zero, List.replicate_succ, v1, v2, hk7, w1, w2, hk5']
    refine ⟨by omega, rd_48_14 (n := n) hS7 hr7.2.2.1 (fun z m ez f2 f3 f4 => ?_) (fun ez => ?_)⟩ <;> rw [rB7] at ez
    · rw [gx_bd_some ez] at ec
      have hr8 := (hr6.mv hd0 (q := z) f3).num hd0 (f := 13) (v := m) (by omega) (by omega)
      rw [pm_wI_wI]
      obtain ⟨u1, u2, u3⟩ := (hr6.mv hd0 (q := z) f3).rowD hd0
      have hk8 : pm_k (pm_wI (pm_wI S' D 12 (nI v)) 5 2 (nI z)) 5 = 6 := sh_k5 ((hr6.mv hd0 (q := z) f3).sh hS0)
      have hge : ¬ nI m < 0 := nI_pos (by omega)
      try simp only [pm_WV, pm_WW, true_and, and_true, true_or, or_true, and_self, reduceIte, Nat.reduceEqDiff, Nat.reduceLT, Nat.reduceLeDiff, Nat.reduceMul, false_and, and_false, reduceCtorEq, false_or, or_false, not_true_eq_false, not_false_eq_true, true_implies, false_implies, implies_true, lf_10, eq_self, Int32.reduceLT, Int32.reduceLE, Int32.reduceAdd, Int32.reduceSub, Int32.reduceDiv, Int32.reduceMul, pm_same, pm_i_wI, pm_l_wL, pm_l_wM, pm_oR_rf, pm_oQ_rf, sh_k5 hS, nI_1, sw_e, LQ1, LQ2, LQ3, pm_WI0, pm_WI1, pm_WI2, pm_WI3, pm_WI4, pm_WI5, pm_WV, pm_WW, pm_WX, pb_B56, pm_if, pm_QI_at, pm_QL_at, pm_QV_at, pm_QR_at, pm_QR_at0, pm_QR_at1, Nat.reduceSub, Nat.reduceAdd, List.replicate_zero, List.replicate_succ, u1, u2, hk8, hge, w1, w2, hk5']
      exact h1 z _ _ ec hr8
    · rw [gx_bd_none ez] at ec
      try simp only [pm_WV, pm_WW, true_and, and_true, true_or, or_true, and_self, reduceIte, Nat.reduceEqDiff, Nat.reduceLT, Nat.reduceLeDiff, Nat.reduceMul, false_and, and_false, reduceCtorEq, false_or, or_false, not_true_eq_false, not_false_eq_true, true_implies, false_implies, implies_true, lf_10, eq_self, Int32.reduceLT, Int32.reduceLE, Int32.reduceAdd, Int32.reduceSub, Int32.reduceDiv, Int32.reduceMul, pm_same, pm_i_wI, pm_l_wL, pm_l_wM, pm_oR_rf, pm_oQ_rf, sh_k5 hS, nI_1, sw_e, LQ1, LQ2, LQ3, pm_WI0, pm_WI1, pm_WI2, pm_WI3, pm_WI4, pm_WI5, pm_WV, pm_WW, pm_WX, pb_B56, pm_if, pm_QI_at, pm_QL_at, pm_QV_at, pm_QR_at, pm_QR_at0, pm_QR_at1, Nat.reduceSub, Nat.reduceAdd, List.replicate_zero, List.replicate_succ, v1, v2, hk7, w1, w2, hk5']
      exact h0 _ _ ec (hr7.q.wD hd0)
  · rw [gx_bd_none e] at ec
    obtain ⟨w1, w2, w3⟩ := hS'.rowD hd0
    have hk5' : pm_k S' 5 = 6 := sh_k5 (hS'.sh hS0)
    try simp only [pm_WV, pm_WW, true_and, and_true, true_or, or_true, and_self, reduceIte, Nat.reduceEqDiff, Nat.reduceLT, Nat.reduceLeDiff, Nat.reduceMul, false_and, and_false, reduceCtorEq, false_or, or_false, not_true_eq_false, not_false_eq_true, true_implies, false_implies, implies_true, lf_10, eq_self, Int32.reduceLT, Int32.reduceLE, Int32.reduceAdd, Int32.reduceSub, Int32.reduceDiv, Int32.reduceMul, pm_same, pm_i_wI, pm_l_wL, pm_l_wM, pm_oR_rf, pm_oQ_rf, sh_k5 hS, nI_1, sw_e, LQ1, LQ2, LQ3, pm_WI0, pm_WI1, pm_WI2, pm_WI3, pm_WI4, pm_WI5, pm_WV, pm_WW, pm_WX, pb_B56, pm_if, pm_QI_at, pm_QL_at, pm_QV_at, pm_QR_at, pm_QR_at0, pm_QR_at1, Nat.reduceSub, Nat.reduceAdd, List.replicate_zero, List.replicate_succ, w1, w2, hk5']
    have fin := h0 x _ ec (hS'.q.wD hd0 (j := 12) (v := -1))
    first
      | exact fin
      | exact ⟨fun _ => fin, fun z => absurd (by decide) z⟩
      | exact ⟨fun z => absurd z (by decide), fun _ => fin⟩
      | (refine pm_wb_ok pb_c56 1 32 0 _ _ _ _ _ ?_; simp only [pm_WI0, pm_WI1, pm_WI2, pm_WI3, pm_WI4, pm_WI5, pm_WV, pm_WW, pm_WX, pb_B56, pm_if, pm_QI_at, pm_QL_at, pm_QV_at, pm_QR_at, pm_QR_at0, pm_QR_at1, Nat.reduceSub, Nat.reduceAdd, List.replicate_zero, List.replicate_succ, true_and, and_true, true_or, or_true, and_self, reduceIte, Nat.reduceEqDiff, Nat.reduceLT, Nat.reduceLeDiff, Nat.reduceMul, false_and, and_false, reduceCtorEq, false_or, or_false, not_true_eq_false, not_false_eq_true, true_implies, false_implies, implies_true, lf_10, eq_self, Int32.reduceLT, Int32.reduceLE, Int32.reduceAdd, Int32.reduceSub, Int32.reduceDiv, Int32.reduceMul, pm_same, pm_i_wI, pm_l_wL, pm_l_wM, pm_oR_rf, pm_oQ_rf, sh_k5 hS, nI_1, sw_e, LQ1, LQ2, LQ3]; exact fin)
      | (refine ⟨fun _ => ?_, fun z => absurd (by decide) z⟩; refine pm_wb_ok pb_c56 1 32 0 _ _ _ _ _ ?_; simp only [pm_WI0, pm_WI1, pm_WI2, pm_WI3, pm_WI4, pm_WI5, pm_WV, pm_WW, pm_WX, pb_B56, pm_if, pm_QI_at, pm_QL_at, pm_QV_at, pm_QR_at, pm_QR_at0, pm_QR_at1, Nat.reduceSub, Nat.reduceAdd, List.replicate_zero, List.replicate_succ, true_and, and_true, true_or, or_true, and_self, reduceIte, Nat.reduceEqDiff, Nat.reduceLT, Nat.reduceLeDiff, Nat.reduceMul, false_and, and_false, reduceCtorEq, false_or, or_false, not_true_eq_false, not_false_eq_true, true_implies, false_implies, implies_true, lf_10, eq_self, Int32.reduceLT, Int32.reduceLE, Int32.reduceAdd, Int32.reduceSub, Int32.reduceDiv, Int32.reduceMul, pm_same, pm_i_wI, pm_l_wL, pm_l_wM, pm_oR_rf, pm_oQ_rf, sh_k5 hS, nI_1, sw_e, LQ1, LQ2, LQ3]; exact fin)
      | (refine ⟨fun z => absurd z (by decide), fun _ => ?_⟩; refine pm_wb_ok pb_c56 1 32 0 _ _ _ _ _ ?_; simp only [pm_WI0, pm_WI1, pm_WI2, pm_WI3, pm_WI4, pm_WI5, pm_WV, pm_WW, pm_WX, pb_B56, pm_if, pm_QI_at, pm_QL_at, pm_QV_at, pm_QR_at, pm_QR_at0, pm_QR_at1, Nat.reduceSub, Nat.reduceAdd, List.replicate_zero, List.replicate_succ, true_and, and_true, true_or, or_true, and_self, reduceIte, Nat.reduceEqDiff, Nat.reduceLT, Nat.reduceLeDiff, Nat.reduceMul, false_and, and_false, reduceCtorEq, false_or, or_false, not_true_eq_false, not_false_eq_true, true_implies, false_implies, implies_true, lf_10, eq_self, Int32.reduceLT, Int32.reduceLE, Int32.reduceAdd, Int32.reduceSub, Int32.reduceDiv, Int32.reduceMul, pm_same, pm_i_wI, pm_l_wL, pm_l_wM, pm_oR_rf, pm_oQ_rf, sh_k5 hS, nI_1, sw_e, LQ1, LQ2, LQ3]; exact fin)
theorem rd_43 (hS0 : Sh S0) (hd0 : dl S0 D W) {d : Nat} (hd : 22 ≤ d) {S : pm_S} {p : Nat} {L : gx_L} {q : Int32 → pm_S → Prop} (hr : rs S0 D W n S p L) (hl : L.2.2.length ≤ p) (hc : L.1.length < 10) (h1 : ∀ x L' S', gx_clause (gx_b (pm_i S0 6) n) L p = (x, some L') → rs S0 D W n S' x L' → q 1 S') (h0 : ∀ x S', gx_clause (gx_b (pm_i S0 6) n) L p = (x, none) → rq S0 D W n S' x → q 0 S') : pm_CI G d 43 [.ref 5] S q := by
  have hS := hr.sh hS0
  have hdl := hr.todl hd0
  have ht := hr.text hd0
  have hr3 := hr.2.2.1
  have hn := hr3.2.2.2.1
  have hpn := hr3.2.2.1
  have hr5 : pm_r S 5 3 = some D := hdl.1
  have hkD : pm_k S D = 5 := hdl.2.1
  have rB : gx_b (pm_i S 6) n = gx_b (pm_i S0 6) n := by rw [ht]
  have hle := gx_b_le hr3 p
  rw [rB] at hle
  by_cases y108 : gx_b (pm_i S0 6) n p = 108
  · exact rd43_108 hS0 hd0 (by omega) hr hl hc y108 h1 h0
  by_cases y97 : gx_b (pm_i S0 6) n p = 97
  · exact rd43_97 hS0 hd0 (by omega) hr hl hc y97 h1 h0
  by_cases y99 : gx_b (pm_i S0 6) n p = 99
  · exact rd43_99 hS0 hd0 (by omega) hr hl hc y99 h1 h0
  by_cases y102 : gx_b (pm_i S0 6) n p = 102
  · exact rd43_102 hS0 hd0 (by omega) hr hl hc y102 h1 h0
  by_cases y114 : gx_b (pm_i S0 6) n p = 114
  · have es : sg (gx_b (pm_i S0 6) n p) = 114 := by rw [y114]; rfl
    refine pm_goI 43 1 pb_c43 (by decide) (Nat.le_of_ble_eq_true rfl) rfl ?_
    try simp only [show pm_mL 43 = 1 from rfl, pm_WI0, pm_WI1, pm_WI2, pm_WI3, pm_WI4, pm_WI5, pm_WV, pm_WW, pm_WX, pb_B43, pm_if, pm_QI_at, pm_QL_at, pm_QV_at, pm_QR_at, pm_QR_at0, pm_QR_at1, Nat.reduceSub, Nat.reduceAdd, List.replicate_zero, List.replicate_succ, true_and, and_true, true_or, or_true, and_self, reduceIte, Nat.reduceEqDiff, Nat.reduceLT, Nat.reduceLeDiff, Nat.reduceMul, false_and, and_false, reduceCtorEq, false_or, or_false, not_true_eq_false, not_false_eq_true, true_implies, false_implies, implies_true, lf_10, eq_self, Int32.reduceLT, Int32.reduceLE, Int32.reduceAdd, Int32.reduceSub, Int32.reduceDiv, Int32.reduceMul, pm_same, pm_i_wI, pm_l_wL, pm_l_wM, pm_oR_rf, pm_oQ_rf, sh_k5 hS, nI_1, sw_e, LQ1, LQ2, LQ3]
    refine ⟨by omega, rd_44 hS hr3 ?_⟩
    rw [rB, es]
    try simp only [pm_WV, pm_WW, true_and, and_true, true_or, or_true, and_self, reduceIte, Nat.reduceEqDiff, Nat.reduceLT, Nat.reduceLeDiff, Nat.reduceMul, false_and, and_false, reduceCtorEq, false_or, or_false, not_true_eq_false, not_false_eq_true, true_implies, false_implies, implies_true, lf_10, eq_self, Int32.reduceLT, Int32.reduceLE, Int32.reduceAdd, Int32.reduceSub, Int32.reduceDiv, Int32.reduceMul, pm_same, pm_i_wI, pm_l_wL, pm_l_wM, pm_oR_rf, pm_oQ_rf, sh_k5 hS, nI_1, sw_e, LQ1, LQ2, LQ3, pm_WI0, pm_WI1, pm_WI2, pm_WI3, pm_WI4, pm_WI5, pm_WV, pm_WW, pm_WX, pb_B43, pm_if, pm_QI_at, pm_QL_at, pm_QV_at, pm_QR_at, pm_QR_at0, pm_QR_at1, Nat.reduceSub, Nat.reduceAdd, List.replicate_zero, List.replicate_succ, sh_k5 hS]
    refine pm_wb_ok pb_c43 1 118 0 _ _ _ _ _ ?_
    try simp only [pm_WI0, pm_WI1, pm_WI2, pm_WI3, pm_WI4, pm_WI5, pm_WV, pm_WW, pm_WX, pb_B43, pm_if, pm_QI_at, pm_QL_at, pm_QV_at, pm_QR_at, pm_QR_at0, pm_QR_at1, Nat.reduceSub, Nat.reduceAdd, List.replicate_zero, List.replicate_succ, true_and, and_true, true_or, or_true, and_self, reduceIte, Nat.reduceEqDiff, Nat.reduceLT, Nat.reduceLeDiff, Nat.reduceMul, false_and, and_false, reduceCtorEq, false_or, or_false, not_true_eq_false, not_false_eq_true, true_implies, false_implies, implies_true, lf_10, eq_self, Int32.reduceLT, Int32.reduceLE, Int32.reduceAdd, Int32.reduceSub, Int32.reduceDiv, Int32.reduceMul, pm_same, pm_i_wI, pm_l_wL, pm_l_wM, pm_oR_rf, pm_oQ_rf, sh_k5 hS, nI_1, sw_e, LQ1, LQ2, LQ3]
    first
      | exact ⟨by omega, rd_54 hS0 hd0 (by omega) hr hl y114 (fun x L' S' e hS' => ⟨Or.inr rfl, h1 x L' S' e hS'⟩) (fun x S' e hS' => ⟨Or.inl rfl, h0 x S' e hS'⟩)⟩
      | exact ⟨by omega, rd_54 hS0 hd0 (by omega) hr hl y114 h1 h0⟩
      | exact ⟨by omega, rd_54 hS0 hd0 (by omega) hr hl y114 (fun x L' S' e hS' => by simpa using h1 x L' S' e hS') (fun x S' e hS' => by simpa using h0 x S' e hS')⟩
  by_cases y115 : gx_b (pm_i S0 6) n p = 115
  · have es : sg (gx_b (pm_i S0 6) n p) = 115 := by rw [y115]; rfl
    refine pm_goI 43 1 pb_c43 (by decide) (Nat.le_of_ble_eq_true rfl) rfl ?_
    try simp only [show pm_mL 43 = 1 from rfl, pm_WI0, pm_WI1, pm_WI2, pm_WI3, pm_WI4, pm_WI5, pm_WV, pm_WW, pm_WX, pb_B43, pm_if, pm_QI_at, pm_QL_at, pm_QV_at, pm_QR_at, pm_QR_at0, pm_QR_at1, Nat.reduceSub, Nat.reduceAdd, List.replicate_zero, List.replicate_succ, true_and, and_true, true_or, or_true, and_self, reduceIte, Nat.reduceEqDiff, Nat.reduceLT, Nat.reduceLeDiff, Nat.reduceMul, false_and, and_false, reduceCtorEq, false_or, or_false, not_true_eq_false, not_false_eq_true, true_implies, false_implies, implies_true, lf_10, eq_self, Int32.reduceLT, Int32.reduceLE, Int32.reduceAdd, Int32.reduceSub, Int32.reduceDiv, Int32.reduceMul, pm_same, pm_i_wI, pm_l_wL, pm_l_wM, pm_oR_rf, pm_oQ_rf, sh_k5 hS, nI_1, sw_e, LQ1, LQ2, LQ3]
    refine ⟨by omega, rd_44 hS hr3 ?_⟩
    rw [rB, es]
    try simp only [pm_WV, pm_WW, true_and, and_true, true_or, or_true, and_self, reduceIte, Nat.reduceEqDiff, Nat.reduceLT, Nat.reduceLeDiff, Nat.reduceMul, false_and, and_false, reduceCtorEq, false_or, or_false, not_true_eq_false, not_false_eq_true, true_implies, false_implies, implies_true, lf_10, eq_self, Int32.reduceLT, Int32.reduceLE, Int32.reduceAdd, Int32.reduceSub, Int32.reduceDiv, Int32.reduceMul, pm_same, pm_i_wI, pm_l_wL, pm_l_wM, pm_oR_rf, pm_oQ_rf, sh_k5 hS, nI_1, sw_e, LQ1, LQ2, LQ3, pm_WI0, pm_WI1, pm_WI2, pm_WI3, pm_WI4, pm_WI5, pm_WV, pm_WW, pm_WX, pb_B43, pm_if, pm_QI_at, pm_QL_at, pm_QV_at, pm_QR_at, pm_QR_at0, pm_QR_at1, Nat.reduceSub, Nat.reduceAdd, List.replicate_zero, List.replicate_succ, sh_k5 hS]
    refine pm_wb_ok pb_c43 1 123 0 _ _ _ _ _ ?_
    try simp only [pm_WI0, pm_WI1, pm_WI2, pm_WI3, pm_WI4, pm_WI5, pm_WV, pm_WW, pm_WX, pb_B43, pm_if, pm_QI_at, pm_QL_at, pm_QV_at, pm_QR_at, pm_QR_at0, pm_QR_at1, Nat.reduceSub, Nat.reduceAdd, List.replicate_zero, List.replicate_succ, true_and, and_true, true_or, or_true, and_self, reduceIte, Nat.reduceEqDiff, Nat.reduceLT, Nat.reduceLeDiff, Nat.reduceMul, false_and, and_false, reduceCtorEq, false_or, or_false, not_true_eq_false, not_false_eq_true, true_implies, false_implies, implies_true, lf_10, eq_self, Int32.reduceLT, Int32.reduceLE, Int32.reduceAdd, Int32.reduceSub, Int32.reduceDiv, Int32.reduceMul, pm_same, pm_i_wI, pm_l_wL, pm_l_wM, pm_oR_rf, pm_oQ_rf, sh_k5 hS, nI_1, sw_e, LQ1, LQ2, LQ3]
    first
      | exact ⟨by omega, rd_56 hS0 hd0 (by omega) hr y115 (fun x L' S' e hS' => ⟨Or.inr rfl, h1 x L' S' e hS'⟩) (fun x S' e hS' => ⟨Or.inl rfl, h0 x S' e hS'⟩)⟩
      | exact ⟨by omega, rd_56 hS0 hd0 (by omega) hr y115 h1 h0⟩
      | exact ⟨by omega, rd_56 hS0 hd0 (by omega) hr y115 (fun x L' S' e hS' => by simpa using h1 x L' S' e hS') (fun x S' e hS' => by simpa using h0 x S' e hS')⟩
  by_cases y111 : gx_b (pm_i S0 6) n p = 111
  · have es : sg (gx_b (pm_i S0 6) n p) = 111 := by rw [y111]; rfl
    have ec : gx_clause (gx_b (pm_i S0 6) n) L p = gx_owe (gx_b (pm_i S0 6) n) L p := by unfold gx_clause; rw [if_pos y111]
    have hwb : wb 0 = [111, 119, 101, 32] := by decide
    refine pm_goI 43 1 pb_c43 (by decide) (Nat.le_of_ble_eq_true rfl) rfl ?_
    try simp only [show pm_mL 43 = 1 from rfl, pm_WI0, pm_WI1, pm_WI2, pm_WI3, pm_WI4, pm_WI5, pm_WV, pm_WW, pm_WX, pb_B43, pm_if, pm_QI_at, pm_QL_at, pm_QV_at, pm_QR_at, pm_QR_at0, pm_QR_at1, Nat.reduceSub, Nat.reduceAdd, List.replicate_zero, List.replicate_succ, true_and, and_true, true_or, or_true, and_self, reduceIte, Nat.reduceEqDiff, Nat.reduceLT, Nat.reduceLeDiff, Nat.reduceMul, false_and, and_false, reduceCtorEq, false_or, or_false, not_true_eq_false, not_false_eq_true, true_implies, false_implies, implies_true, lf_10, eq_self, Int32.reduceLT, Int32.reduceLE, Int32.reduceAdd, Int32.reduceSub, Int32.reduceDiv, Int32.reduceMul, pm_same, pm_i_wI, pm_l_wL, pm_l_wM, pm_oR_rf, pm_oQ_rf, sh_k5 hS, nI_1, sw_e, LQ1, LQ2, LQ3]
    refine ⟨by omega, rd_44 hS hr3 ?_⟩
    rw [rB, es]
    try simp only [pm_WV, pm_WW, true_and, and_true, true_or, or_true, and_self, reduceIte, Nat.reduceEqDiff, Nat.reduceLT, Nat.reduceLeDiff, Nat.reduceMul, false_and, and_false, reduceCtorEq, false_or, or_false, not_true_eq_false, not_false_eq_true, true_implies, false_implies, implies_true, lf_10, eq_self, Int32.reduceLT, Int32.reduceLE, Int32.reduceAdd, Int32.reduceSub, Int32.reduceDiv, Int32.reduceMul, pm_same, pm_i_wI, pm_l_wL, pm_l_wM, pm_oR_rf, pm_oQ_rf, sh_k5 hS, nI_1, sw_e, LQ1, LQ2, LQ3, pm_WI0, pm_WI1, pm_WI2, pm_WI3, pm_WI4, pm_WI5, pm_WV, pm_WW, pm_WX, pb_B43, pm_if, pm_QI_at, pm_QL_at, pm_QV_at, pm_QR_at, pm_QR_at0, pm_QR_at1, Nat.reduceSub, Nat.reduceAdd, List.replicate_zero, List.replicate_succ, sh_k5 hS]
    refine pm_wb_ok pb_c43 3 96 0 _ _ _ _ _ ?_
    try simp only [pm_WI0, pm_WI1, pm_WI2, pm_WI3, pm_WI4, pm_WI5, pm_WV, pm_WW, pm_WX, pb_B43, pm_if, pm_QI_at, pm_QL_at, pm_QV_at, pm_QR_at, pm_QR_at0, pm_QR_at1, Nat.reduceSub, Nat.reduceAdd, List.replicate_zero, List.replicate_succ, true_and, and_true, true_or, or_true, and_self, reduceIte, Nat.reduceEqDiff, Nat.reduceLT, Nat.reduceLeDiff, Nat.reduceMul, false_and, and_false, reduceCtorEq, false_or, or_false, not_true_eq_false, not_false_eq_true, true_implies, false_implies, implies_true, lf_10, eq_self, Int32.reduceLT, Int32.reduceLE, Int32.reduceAdd, Int32.reduceSub, Int32.reduceDiv, Int32.reduceMul, pm_same, pm_i_wI, pm_l_wL, pm_l_wM, pm_oR_rf, pm_oQ_rf, sh_k5 hS, nI_1, sw_e, LQ1, LQ2, LQ3]
    refine ⟨by omega, rd_45 (n := n) (i := 0) (p := p) (by omega) hS hr3 (by omega) (fun x ex hx => ?_) (fun x ex hx => ?_)⟩ <;> rw [rB, hwb] at ex
    · have hzx := (gx_w_ok gx_b_eof hpn (by decide) ex).1
      have hr2 := hr.mv hd0 (q := x) hx
      have hk2 : pm_k (pm_wI S 5 2 (nI x)) 5 = 6 := sh_k5 (hr2.sh hS0)
      try simp only [pm_WV, pm_WW, true_and, and_true, true_or, or_true, and_self, reduceIte, Nat.reduceEqDiff, Nat.reduceLT, Nat.reduceLeDiff, Nat.reduceMul, false_and, and_false, reduceCtorEq, false_or, or_false, not_true_eq_false, not_false_eq_true, true_implies, false_implies, implies_true, lf_10, eq_self, Int32.reduceLT, Int32.reduceLE, Int32.reduceAdd, Int32.reduceSub, Int32.reduceDiv, Int32.reduceMul, pm_same, pm_i_wI, pm_l_wL, pm_l_wM, pm_oR_rf, pm_oQ_rf, sh_k5 hS, nI_1, sw_e, LQ1, LQ2, LQ3, pm_WI0, pm_WI1, pm_WI2, pm_WI3, pm_WI4, pm_WI5, pm_WV, pm_WW, pm_WX, pb_B43, pm_if, pm_QI_at, pm_QL_at, pm_QV_at, pm_QR_at, pm_QR_at0, pm_QR_at1, Nat.reduceSub, Nat.reduceAdd, List.replicate_zero, List.replicate_succ, hk2]
      first
        | refine ⟨fun z => absurd z (by decide), fun _ => ⟨by omega, ?_⟩⟩
        | refine ⟨by omega, ?_⟩
      refine rd_47 hS0 hd0 (by omega) hr2 (by omega) hc ex (fun x2 L' S' e hS' => ?_) (fun x2 S' e hS' => ?_)
      · have := h1 x2 L' S' (by rw [ec]; exact e) hS'
        try simp only [pm_WV, pm_WW, true_and, and_true, true_or, or_true, and_self, reduceIte, Nat.reduceEqDiff, Nat.reduceLT, Nat.reduceLeDiff, Nat.reduceMul, false_and, and_false, reduceCtorEq, false_or, or_false, not_true_eq_false, not_false_eq_true, true_implies, false_implies, implies_true, lf_10, eq_self, Int32.reduceLT, Int32.reduceLE, Int32.reduceAdd, Int32.reduceSub, Int32.reduceDiv, Int32.reduceMul, pm_same, pm_i_wI, pm_l_wL, pm_l_wM, pm_oR_rf, pm_oQ_rf, sh_k5 hS, nI_1, sw_e, LQ1, LQ2, LQ3, pm_WI0, pm_WI1, pm_WI2, pm_WI3, pm_WI4, pm_WI5, pm_WV, pm_WW, pm_WX, pb_B43, pm_if, pm_QI_at, pm_QL_at, pm_QV_at, pm_QR_at, pm_QR_at0, pm_QR_at1, Nat.reduceSub, Nat.reduceAdd, List.replicate_zero, List.replicate_succ]
        first | exact ⟨fun z => absurd z (by decide), fun _ => this⟩ | exact this
      · have := h0 x2 S' (by rw [ec]; exact e) hS'
        try simp only [pm_WV, pm_WW, true_and, and_true, true_or, or_true, and_self, reduceIte, Nat.reduceEqDiff, Nat.reduceLT, Nat.reduceLeDiff, Nat.reduceMul, false_and, and_false, reduceCtorEq, false_or, or_false, not_true_eq_false, not_false_eq_true, true_implies, false_implies, implies_true, lf_10, eq_self, Int32.reduceLT, Int32.reduceLE, Int32.reduceAdd, Int32.reduceSub, Int32.reduceDiv, Int32.reduceMul, pm_same, pm_i_wI, pm_l_wL, pm_l_wM, pm_oR_rf, pm_oQ_rf, sh_k5 hS, nI_1, sw_e, LQ1, LQ2, LQ3, pm_WI0, pm_WI1, pm_WI2, pm_WI3, pm_WI4, pm_WI5, pm_WV, pm_WW, pm_WX, pb_B43, pm_if, pm_QI_at, pm_QL_at, pm_QV_at, pm_QR_at, pm_QR_at0, pm_QR_at1, Nat.reduceSub, Nat.reduceAdd, List.replicate_zero, List.replicate_succ]
        first | exact ⟨fun _ => this, fun z => absurd rfl z⟩ | exact this
    · have eo : gx_owe (gx_b (pm_i S0 6) n) L p = (x, none) := by unfold gx_owe; rw [gx_bd_none ex]
      have := h0 x _ (by rw [ec, eo]) (hr.mv hd0 hx).q
      try simp only [pm_WV, pm_WW, true_and, and_true, true_or, or_true, and_self, reduceIte, Nat.reduceEqDiff, Nat.reduceLT, Nat.reduceLeDiff, Nat.reduceMul, false_and, and_false, reduceCtorEq, false_or, or_false, not_true_eq_false, not_false_eq_true, true_implies, false_implies, implies_true, lf_10, eq_self, Int32.reduceLT, Int32.reduceLE, Int32.reduceAdd, Int32.reduceSub, Int32.reduceDiv, Int32.reduceMul, pm_same, pm_i_wI, pm_l_wL, pm_l_wM, pm_oR_rf, pm_oQ_rf, sh_k5 hS, nI_1, sw_e, LQ1, LQ2, LQ3, pm_WI0, pm_WI1, pm_WI2, pm_WI3, pm_WI4, pm_WI5, pm_WV, pm_WW, pm_WX, pb_B43, pm_if, pm_QI_at, pm_QL_at, pm_QV_at, pm_QR_at, pm_QR_at0, pm_QR_at1, Nat.reduceSub, Nat.reduceAdd, List.replicate_zero, List.replicate_succ]
      first | exact ⟨fun _ => this, fun z => absurd rfl z⟩ | exact this
  have ec : gx_clause (gx_b (pm_i S0 6) n) L p = (p, none) := by unfold gx_clause; rw [if_neg y111, if_neg y114, if_neg y115, if_neg y108, if_neg y97, if_neg y99, if_neg y102]
  have g97 : (sg (gx_b (pm_i S0 6) n p) = Int32.ofNat 97) = False := eq_false (fun z => y97 ((sg_is hle (by omega)).mp z))
  have g99 : (sg (gx_b (pm_i S0 6) n p) = Int32.ofNat 99) = False := eq_false (fun z => y99 ((sg_is hle (by omega)).mp z))
  have g102 : (sg (gx_b (pm_i S0 6) n p) = Int32.ofNat 102) = False := eq_false (fun z => y102 ((sg_is hle (by omega)).mp z))
  have g108 : (sg (gx_b (pm_i S0 6) n p) = Int32.ofNat 108) = False := eq_false (fun z => y108 ((sg_is hle (by omega)).mp z))
  have g111 : (sg (gx_b (pm_i S0 6) n p) = Int32.ofNat 111) = False := eq_false (fun z => y111 ((sg_is hle (by omega)).mp z))
  have g114 : (sg (gx_b (pm_i S0 6) n p) = Int32.ofNat 114) = False := eq_false (fun z => y114 ((sg_is hle (by omega)).mp z))
  have g115 : (sg (gx_b (pm_i S0 6) n p) = Int32.ofNat 115) = False := eq_false (fun z => y115 ((sg_is hle (by omega)).mp z))
  refine pm_goI 43 1 pb_c43 (by decide) (Nat.le_of_ble_eq_true rfl) rfl ?_
  try simp only [show pm_mL 43 = 1 from rfl, pm_WI0, pm_WI1, pm_WI2, pm_WI3, pm_WI4, pm_WI5, pm_WV, pm_WW, pm_WX, pb_B43, pm_if, pm_QI_at, pm_QL_at, pm_QV_at, pm_QR_at, pm_QR_at0, pm_QR_at1, Nat.reduceSub, Nat.reduceAdd, List.replicate_zero, List.replicate_succ, true_and, and_true, true_or, or_true, and_self, reduceIte, Nat.reduceEqDiff, Nat.reduceLT, Nat.reduceLeDiff, Nat.reduceMul, false_and, and_false, reduceCtorEq, false_or, or_false, not_true_eq_false, not_false_eq_true, true_implies, false_implies, implies_true, lf_10, eq_self, Int32.reduceLT, Int32.reduceLE, Int32.reduceAdd, Int32.reduceSub, Int32.reduceDiv, Int32.reduceMul, pm_same, pm_i_wI, pm_l_wL, pm_l_wM, pm_oR_rf, pm_oQ_rf, sh_k5 hS, nI_1, sw_e, LQ1, LQ2, LQ3]
  refine ⟨by omega, rd_44 hS hr3 ?_⟩
  rw [rB]
  try simp only [pm_WV, pm_WW, true_and, and_true, true_or, or_true, and_self, reduceIte, Nat.reduceEqDiff, Nat.reduceLT, Nat.reduceLeDiff, Nat.reduceMul, false_and, and_false, reduceCtorEq, false_or, or_false, not_true_eq_false, not_false_eq_true, true_implies, false_implies, implies_true, lf_10, eq_self, Int32.reduceLT, Int32.reduceLE, Int32.reduceAdd, Int32.reduceSub, Int32.reduceDiv, Int32.reduceMul, pm_same, pm_i_wI, pm_l_wL, pm_l_wM, pm_oR_rf, pm_oQ_rf, sh_k5 hS, nI_1, sw_e, LQ1, LQ2, LQ3, pm_WI0, pm_WI1, pm_WI2, pm_WI3, pm_WI4, pm_WI5, pm_WV, pm_WW, pm_WX, pb_B43, pm_if, pm_QI_at, pm_QL_at, pm_QV_at, pm_QR_at, pm_QR_at0, pm_QR_at1, Nat.reduceSub, Nat.reduceAdd, List.replicate_zero, List.replicate_succ, g97, g99, g102, g108, g111, g114, g115]
  have fin : pm_W G d 43 (pm_QI q) 244 [.ref 5] [] S 0 0 := by
    refine pm_wb_ok pb_c43 1 244 0 _ _ _ _ _ ?_
    try simp only [pm_WI0, pm_WI1, pm_WI2, pm_WI3, pm_WI4, pm_WI5, pm_WV, pm_WW, pm_WX, pb_B43, pm_if, pm_QI_at, pm_QL_at, pm_QV_at, pm_QR_at, pm_QR_at0, pm_QR_at1, Nat.reduceSub, Nat.reduceAdd, List.replicate_zero, List.replicate_succ, true_and, and_true, true_or, or_true, and_self, reduceIte, Nat.reduceEqDiff, Nat.reduceLT, Nat.reduceLeDiff, Nat.reduceMul, false_and, and_false, reduceCtorEq, false_or, or_false, not_true_eq_false, not_false_eq_true, true_implies, false_implies, implies_true, lf_10, eq_self, Int32.reduceLT, Int32.reduceLE, Int32.reduceAdd, Int32.reduceSub, Int32.reduceDiv, Int32.reduceMul, pm_same, pm_i_wI, pm_l_wL, pm_l_wM, pm_oR_rf, pm_oQ_rf, sh_k5 hS, nI_1, sw_e, LQ1, LQ2, LQ3]
    exact h0 p S ec hr.q
  repeat' (first | exact fin | refine ⟨fun _ => ?_, fun _ => ?_⟩)
theorem rd_42k (hS0 : Sh S0) (hd0 : dl S0 D W) {d : Nat} (hd : 23 ≤ d) {q : Int32 → pm_S → Prop} : ∀ (g : Nat) (S : pm_S) (p : Nat) (L : gx_L), g + 1 ≤ 10 → rs S0 D W n S p L → gx_wf (fun _ => false) L (10 - (g + 1)) p → (∀ x L' S', gx_law (gx_b (pm_i S0 6) n) n (g + 1) L p = (x, some L') → rs S0 D W n S' x L' → q 1 S') → (∀ x S', gx_law (gx_b (pm_i S0 6) n) n (g + 1) L p = (x, none) → rq S0 D W n S' x → q 0 S') → pm_W G d 42 (pm_QI q) 14 [.ref 5, .int (nI (10 - g))] [] S 0 0 := by
  intro g
  induction g with
  | zero =>
    intro S p L hg hr hw h1 h0
    have hS := hr.sh hS0
    have hdl := hr.todl hd0
    have ht := hr.text hd0
    have hr3 := hr.2.2.1
    have hn := hr3.2.2.2.1
    have hpn := hr3.2.2.1
    have hr5 : pm_r S 5 3 = some D := hdl.1
    have hkD : pm_k S D = 5 := hdl.2.1
    have rB : gx_b (pm_i S 6) n = gx_b (pm_i S0 6) n := by rw [ht]
    have hle : ¬ (10 : Int32) < nI (10 - 0) := nI_nlt (a := 10) (b := 10 - 0) (by omega) (by omega)
    refine pm_wb_ok pb_c42 1 14 0 _ _ _ _ _ ?_
    try simp only [pm_WI0, pm_WI1, pm_WI2, pm_WI3, pm_WI4, pm_WI5, pm_WV, pm_WW, pm_WX, pb_B42, pm_if, pm_QI_at, pm_QL_at, pm_QV_at, pm_QR_at, pm_QR_at0, pm_QR_at1, Nat.reduceSub, Nat.reduceAdd, List.replicate_zero, List.replicate_succ, true_and, and_true, true_or, or_true, and_self, reduceIte, Nat.reduceEqDiff, Nat.reduceLT, Nat.reduceLeDiff, Nat.reduceMul, false_and, and_false, reduceCtorEq, false_or, or_false, not_true_eq_false, not_false_eq_true, true_implies, false_implies, implies_true, lf_10, eq_self, Int32.reduceLT, Int32.reduceLE, Int32.reduceAdd, Int32.reduceSub, Int32.reduceDiv, Int32.reduceMul, pm_same, pm_i_wI, pm_l_wL, pm_l_wM, pm_oR_rf, pm_oQ_rf, sh_k5 hS, nI_1, sw_e, LQ1, LQ2, LQ3, hle]
    refine ⟨by omega, rd_43 hS0 hd0 (by omega) hr hw.1.2 (by have := hw.1.1; omega) (fun x L' S' e hS' => ?_) (fun x S' e hS' => ?_)⟩
    rotate_left
    · have := h0 x S' (by rw [gx_law, gx_bd_none e]) hS'
      try simp only [pm_WV, pm_WW, true_and, and_true, true_or, or_true, and_self, reduceIte, Nat.reduceEqDiff, Nat.reduceLT, Nat.reduceLeDiff, Nat.reduceMul, false_and, and_false, reduceCtorEq, false_or, or_false, not_true_eq_false, not_false_eq_true, true_implies, false_implies, implies_true, lf_10, eq_self, Int32.reduceLT, Int32.reduceLE, Int32.reduceAdd, Int32.reduceSub, Int32.reduceDiv, Int32.reduceMul, pm_same, pm_i_wI, pm_l_wL, pm_l_wM, pm_oR_rf, pm_oQ_rf, sh_k5 hS, nI_1, sw_e, LQ1, LQ2, LQ3, pm_WI0, pm_WI1, pm_WI2, pm_WI3, pm_WI4, pm_WI5, pm_WV, pm_WW, pm_WX, pb_B42, pm_if, pm_QI_at, pm_QL_at, pm_QV_at, pm_QR_at, pm_QR_at0, pm_QR_at1, Nat.reduceSub, Nat.reduceAdd, List.replicate_zero, List.replicate_succ]
      first | exact ⟨fun _ => this, fun z => absurd rfl z⟩ | exact this
    have hw2 := wf_clause gx_b_eof hw hpn e
    have hS2 := hS'.sh hS0
    have rB2 : gx_b (pm_i S' 6) n = gx_b (pm_i S0 6) n := by rw [hS'.text hd0]
    have hk5' : pm_k S' 5 = 6 := sh_k5 hS2
    have p2 : pm_i S' 5 2 = nI x := hS'.2.2.1.1
    have p1 : pm_i S' 5 1 = nI n := hS'.2.2.1.2.1
    try simp only [pm_WV, pm_WW, true_and, and_true, true_or, or_true, and_self, reduceIte, Nat.reduceEqDiff, Nat.reduceLT, Nat.reduceLeDiff, Nat.reduceMul, false_and, and_false, reduceCtorEq, false_or, or_false, not_true_eq_false, not_false_eq_true, true_implies, false_implies, implies_true, lf_10, eq_self, Int32.reduceLT, Int32.reduceLE, Int32.reduceAdd, Int32.reduceSub, Int32.reduceDiv, Int32.reduceMul, pm_same, pm_i_wI, pm_l_wL, pm_l_wM, pm_oR_rf, pm_oQ_rf, sh_k5 hS, nI_1, sw_e, LQ1, LQ2, LQ3, pm_WI0, pm_WI1, pm_WI2, pm_WI3, pm_WI4, pm_WI5, pm_WV, pm_WW, pm_WX, pb_B42, pm_if, pm_QI_at, pm_QL_at, pm_QV_at, pm_QR_at, pm_QR_at0, pm_QR_at1, Nat.reduceSub, Nat.reduceAdd, List.replicate_zero, List.replicate_succ]
    first | refine ⟨fun z => absurd z (by decide), fun _ => ?_⟩ | skip
    try refine pm_wb_ok pb_c42 1 29 0 _ _ _ _ _ ?_
    try simp only [pm_WI0, pm_WI1, pm_WI2, pm_WI3, pm_WI4, pm_WI5, pm_WV, pm_WW, pm_WX, pb_B42, pm_if, pm_QI_at, pm_QL_at, pm_QV_at, pm_QR_at, pm_QR_at0, pm_QR_at1, Nat.reduceSub, Nat.reduceAdd, List.replicate_zero, List.replicate_succ, true_and, and_true, true_or, or_true, and_self, reduceIte, Nat.reduceEqDiff, Nat.reduceLT, Nat.reduceLeDiff, Nat.reduceMul, false_and, and_false, reduceCtorEq, false_or, or_false, not_true_eq_false, not_false_eq_true, true_implies, false_implies, implies_true, lf_10, eq_self, Int32.reduceLT, Int32.reduceLE, Int32.reduceAdd, Int32.reduceSub, Int32.reduceDiv, Int32.reduceMul, pm_same, pm_i_wI, pm_l_wL, pm_l_wM, pm_oR_rf, pm_oQ_rf, sh_k5 hS, nI_1, sw_e, LQ1, LQ2, LQ3, hk5', p1, p2]
    try simp only [pm_WV, pm_WW, true_and, and_true, true_or, or_true, and_self, reduceIte, Nat.reduceEqDiff, Nat.reduceLT, Nat.reduceLeDiff, Nat.reduceMul, false_and, and_false, reduceCtorEq, false_or, or_false, not_true_eq_false, not_false_eq_true, true_implies, false_implies, implies_true, lf_10, eq_self, Int32.reduceLT, Int32.reduceLE, Int32.reduceAdd, Int32.reduceSub, Int32.reduceDiv, Int32.reduceMul, pm_same, pm_i_wI, pm_l_wL, pm_l_wM, pm_oR_rf, pm_oQ_rf, sh_k5 hS, nI_1, sw_e, LQ1, LQ2, LQ3, pm_WI0, pm_WI1, pm_WI2, pm_WI3, pm_WI4, pm_WI5, pm_WV, pm_WW, pm_WX, pb_B42, pm_if, pm_QI_at, pm_QL_at, pm_QV_at, pm_QR_at, pm_QR_at0, pm_QR_at1, Nat.reduceSub, Nat.reduceAdd, List.replicate_zero, List.replicate_succ, hk5', p1, p2]
    have el : gx_law (gx_b (pm_i S0 6) n) n (0 + 1) L p = if n ≤ x then (x, some L') else (x, none) := by
      rw [gx_law, gx_bd_some e]; split <;> rfl
    refine ⟨fun z => ?_, fun z => ?_⟩
    · have hnx : ¬ n ≤ x := fun y => absurd z (nI_nlt y (by omega))
      rw [if_neg hnx] at el
      have := h0 x S' el hS'.q
      have e10 : (nI (10 - 0) = 10) := rfl
      have e10' : (nI 10 = 10) := rfl
      try refine pm_wb_ok pb_c42 2 42 0 _ _ _ _ _ ?_
      try simp only [pm_WI0, pm_WI1, pm_WI2, pm_WI3, pm_WI4, pm_WI5, pm_WV, pm_WW, pm_WX, pb_B42, pm_if, pm_QI_at, pm_QL_at, pm_QV_at, pm_QR_at, pm_QR_at0, pm_QR_at1, Nat.reduceSub, Nat.reduceAdd, List.replicate_zero, List.replicate_succ, true_and, and_true, true_or, or_true, and_self, reduceIte, Nat.reduceEqDiff, Nat.reduceLT, Nat.reduceLeDiff, Nat.reduceMul, false_and, and_false, reduceCtorEq, false_or, or_false, not_true_eq_false, not_false_eq_true, true_implies, false_implies, implies_true, lf_10, eq_self, Int32.reduceLT, Int32.reduceLE, Int32.reduceAdd, Int32.reduceSub, Int32.reduceDiv, Int32.reduceMul, pm_same, pm_i_wI, pm_l_wL, pm_l_wM, pm_oR_rf, pm_oQ_rf, sh_k5 hS, nI_1, sw_e, LQ1, LQ2, LQ3, e10, e10']
      exact this
    · have hnx : n ≤ x := by
        by_cases y : n ≤ x
        · exact y
        · exact absurd (nI_lt (a := x) (b := n) (by omega) (by omega)) z
      rw [if_pos hnx] at el
      exact h1 x L' S' el hS'
  | succ g ih =>
    intro S p L hg hr hw h1 h0
    have hS := hr.sh hS0
    have hdl := hr.todl hd0
    have ht := hr.text hd0
    have hr3 := hr.2.2.1
    have hn := hr3.2.2.2.1
    have hpn := hr3.2.2.1
    have hr5 : pm_r S 5 3 = some D := hdl.1
    have hkD : pm_k S D = 5 := hdl.2.1
    have rB : gx_b (pm_i S 6) n = gx_b (pm_i S0 6) n := by rw [ht]
    have hle : ¬ (10 : Int32) < nI (10 - (g + 1)) := nI_nlt (a := 10) (b := 10 - (g + 1)) (by omega) (by omega)
    refine pm_wb_ok pb_c42 1 14 0 _ _ _ _ _ ?_
    try simp only [pm_WI0, pm_WI1, pm_WI2, pm_WI3, pm_WI4, pm_WI5, pm_WV, pm_WW, pm_WX, pb_B42, pm_if, pm_QI_at, pm_QL_at, pm_QV_at, pm_QR_at, pm_QR_at0, pm_QR_at1, Nat.reduceSub, Nat.reduceAdd, List.replicate_zero, List.replicate_succ, true_and, and_true, true_or, or_true, and_self, reduceIte, Nat.reduceEqDiff, Nat.reduceLT, Nat.reduceLeDiff, Nat.reduceMul, false_and, and_false, reduceCtorEq, false_or, or_false, not_true_eq_false, not_false_eq_true, true_implies, false_implies, implies_true, lf_10, eq_self, Int32.reduceLT, Int32.reduceLE, Int32.reduceAdd, Int32.reduceSub, Int32.reduceDiv, Int32.reduceMul, pm_same, pm_i_wI, pm_l_wL, pm_l_wM, pm_oR_rf, pm_oQ_rf, sh_k5 hS, nI_1, sw_e, LQ1, LQ2, LQ3, hle]
    refine ⟨by omega, rd_43 hS0 hd0 (by omega) hr hw.1.2 (by have := hw.1.1; omega) (fun x L' S' e hS' => ?_) (fun x S' e hS' => ?_)⟩
    rotate_left
    · have := h0 x S' (by rw [gx_law, gx_bd_none e]) hS'
      try simp only [pm_WV, pm_WW, true_and, and_true, true_or, or_true, and_self, reduceIte, Nat.reduceEqDiff, Nat.reduceLT, Nat.reduceLeDiff, Nat.reduceMul, false_and, and_false, reduceCtorEq, false_or, or_false, not_true_eq_false, not_false_eq_true, true_implies, false_implies, implies_true, lf_10, eq_self, Int32.reduceLT, Int32.reduceLE, Int32.reduceAdd, Int32.reduceSub, Int32.reduceDiv, Int32.reduceMul, pm_same, pm_i_wI, pm_l_wL, pm_l_wM, pm_oR_rf, pm_oQ_rf, sh_k5 hS, nI_1, sw_e, LQ1, LQ2, LQ3, pm_WI0, pm_WI1, pm_WI2, pm_WI3, pm_WI4, pm_WI5, pm_WV, pm_WW, pm_WX, pb_B42, pm_if, pm_QI_at, pm_QL_at, pm_QV_at, pm_QR_at, pm_QR_at0, pm_QR_at1, Nat.reduceSub, Nat.reduceAdd, List.replicate_zero, List.replicate_succ]
      first | exact ⟨fun _ => this, fun z => absurd rfl z⟩ | exact this
    have hw2 := wf_clause gx_b_eof hw hpn e
    have hS2 := hS'.sh hS0
    have rB2 : gx_b (pm_i S' 6) n = gx_b (pm_i S0 6) n := by rw [hS'.text hd0]
    have hk5' : pm_k S' 5 = 6 := sh_k5 hS2
    have p2 : pm_i S' 5 2 = nI x := hS'.2.2.1.1
    have p1 : pm_i S' 5 1 = nI n := hS'.2.2.1.2.1
    try simp only [pm_WV, pm_WW, true_and, and_true, true_or, or_true, and_self, reduceIte, Nat.reduceEqDiff, Nat.reduceLT, Nat.reduceLeDiff, Nat.reduceMul, false_and, and_false, reduceCtorEq, false_or, or_false, not_true_eq_false, not_false_eq_true, true_implies, false_implies, implies_true, lf_10, eq_self, Int32.reduceLT, Int32.reduceLE, Int32.reduceAdd, Int32.reduceSub, Int32.reduceDiv, Int32.reduceMul, pm_same, pm_i_wI, pm_l_wL, pm_l_wM, pm_oR_rf, pm_oQ_rf, sh_k5 hS, nI_1, sw_e, LQ1, LQ2, LQ3, pm_WI0, pm_WI1, pm_WI2, pm_WI3, pm_WI4, pm_WI5, pm_WV, pm_WW, pm_WX, pb_B42, pm_if, pm_QI_at, pm_QL_at, pm_QV_at, pm_QR_at, pm_QR_at0, pm_QR_at1, Nat.reduceSub, Nat.reduceAdd, List.replicate_zero, List.replicate_succ]
    first | refine ⟨fun z => absurd z (by decide), fun _ => ?_⟩ | skip
    try refine pm_wb_ok pb_c42 1 29 0 _ _ _ _ _ ?_
    try simp only [pm_WI0, pm_WI1, pm_WI2, pm_WI3, pm_WI4, pm_WI5, pm_WV, pm_WW, pm_WX, pb_B42, pm_if, pm_QI_at, pm_QL_at, pm_QV_at, pm_QR_at, pm_QR_at0, pm_QR_at1, Nat.reduceSub, Nat.reduceAdd, List.replicate_zero, List.replicate_succ, true_and, and_true, true_or, or_true, and_self, reduceIte, Nat.reduceEqDiff, Nat.reduceLT, Nat.reduceLeDiff, Nat.reduceMul, false_and, and_false, reduceCtorEq, false_or, or_false, not_true_eq_false, not_false_eq_true, true_implies, false_implies, implies_true, lf_10, eq_self, Int32.reduceLT, Int32.reduceLE, Int32.reduceAdd, Int32.reduceSub, Int32.reduceDiv, Int32.reduceMul, pm_same, pm_i_wI, pm_l_wL, pm_l_wM, pm_oR_rf, pm_oQ_rf, sh_k5 hS, nI_1, sw_e, LQ1, LQ2, LQ3, hk5', p1, p2]
    try simp only [pm_WV, pm_WW, true_and, and_true, true_or, or_true, and_self, reduceIte, Nat.reduceEqDiff, Nat.reduceLT, Nat.reduceLeDiff, Nat.reduceMul, false_and, and_false, reduceCtorEq, false_or, or_false, not_true_eq_false, not_false_eq_true, true_implies, false_implies, implies_true, lf_10, eq_self, Int32.reduceLT, Int32.reduceLE, Int32.reduceAdd, Int32.reduceSub, Int32.reduceDiv, Int32.reduceMul, pm_same, pm_i_wI, pm_l_wL, pm_l_wM, pm_oR_rf, pm_oQ_rf, sh_k5 hS, nI_1, sw_e, LQ1, LQ2, LQ3, pm_WI0, pm_WI1, pm_WI2, pm_WI3, pm_WI4, pm_WI5, pm_WV, pm_WW, pm_WX, pb_B42, pm_if, pm_QI_at, pm_QL_at, pm_QV_at, pm_QR_at, pm_QR_at0, pm_QR_at1, Nat.reduceSub, Nat.reduceAdd, List.replicate_zero, List.replicate_succ, hk5', p1, p2]
    have el : gx_law (gx_b (pm_i S0 6) n) n (g + 1 + 1) L p = if n ≤ x then (x, some L') else if gx_b (pm_i S0 6) n x = 59 then gx_law (gx_b (pm_i S0 6) n) n (g + 1) L' (x + 1) else (x, none) := by
      rw [gx_law, gx_bd_some e]
      show (if n ≤ x then _ else if g + 1 = 0 then _ else _) = _
      rw [if_neg (show ¬ g + 1 = 0 by omega)]
    refine ⟨fun z => ?_, fun z => ?_⟩
    · have hnx : ¬ n ≤ x := fun y => absurd z (nI_nlt y (by omega))
      rw [if_neg hnx] at el
      have e10 : (nI (10 - (g + 1)) = 10) = False := eq_false (fun z => by have := (nI_eq (a := 10 - (g + 1)) (b := 10) (by omega) (by omega)).mp z; omega)
      have e1 : nI (10 - (g + 1)) + 1 = nI (10 - g) := by rw [nI_1]; congr 1; omega
      try refine pm_wb_ok pb_c42 1 42 0 _ _ _ _ _ ?_
      try simp only [pm_WI0, pm_WI1, pm_WI2, pm_WI3, pm_WI4, pm_WI5, pm_WV, pm_WW, pm_WX, pb_B42, pm_if, pm_QI_at, pm_QL_at, pm_QV_at, pm_QR_at, pm_QR_at0, pm_QR_at1, Nat.reduceSub, Nat.reduceAdd, List.replicate_zero, List.replicate_succ, true_and, and_true, true_or, or_true, and_self, reduceIte, Nat.reduceEqDiff, Nat.reduceLT, Nat.reduceLeDiff, Nat.reduceMul, false_and, and_false, reduceCtorEq, false_or, or_false, not_true_eq_false, not_false_eq_true, true_implies, false_implies, implies_true, lf_10, eq_self, Int32.reduceLT, Int32.reduceLE, Int32.reduceAdd, Int32.reduceSub, Int32.reduceDiv, Int32.reduceMul, pm_same, pm_i_wI, pm_l_wL, pm_l_wM, pm_oR_rf, pm_oQ_rf, sh_k5 hS, nI_1, sw_e, LQ1, LQ2, LQ3, e10, hk5']
      refine ⟨by omega, rd_46 (c := 59) (n := n) hS2 hS'.2.2.1 (by omega) (fun y => ?_) (fun y => ?_)⟩ <;> rw [rB2] at y
      · have hlt := gx_lt gx_b_eof y (by omega)
        rw [if_pos y] at el
        have nx := ih _ (x + 1) L' (by omega) (hS'.mv hd0 (q := x + 1) (by omega)) (wf_mono hw2.1 (by omega) (by omega)) (fun x2 L2 S2 e2 hS2 => h1 x2 L2 S2 (by rw [el]; exact e2) hS2) (fun x2 S2 e2 hS2 => h0 x2 S2 (by rw [el]; exact e2) hS2)
        try simp only [pm_WV, pm_WW, true_and, and_true, true_or, or_true, and_self, reduceIte, Nat.reduceEqDiff, Nat.reduceLT, Nat.reduceLeDiff, Nat.reduceMul, false_and, and_false, reduceCtorEq, false_or, or_false, not_true_eq_false, not_false_eq_true, true_implies, false_implies, implies_true, lf_10, eq_self, Int32.reduceLT, Int32.reduceLE, Int32.reduceAdd, Int32.reduceSub, Int32.reduceDiv, Int32.reduceMul, pm_same, pm_i_wI, pm_l_wL, pm_l_wM, pm_oR_rf, pm_oQ_rf, sh_k5 hS, nI_1, sw_e, LQ1, LQ2, LQ3, pm_WI0, pm_WI1, pm_WI2, pm_WI3, pm_WI4, pm_WI5, pm_WV, pm_WW, pm_WX, pb_B42, pm_if, pm_QI_at, pm_QL_at, pm_QV_at, pm_QR_at, pm_QR_at0, pm_QR_at1, Nat.reduceSub, Nat.reduceAdd, List.replicate_zero, List.replicate_succ]
        first | refine ⟨fun z => absurd z (by decide), fun _ => ?_⟩ | skip
        try refine pm_wb_ok pb_c42 1 59 0 _ _ _ _ _ ?_
        try simp only [pm_WI0, pm_WI1, pm_WI2, pm_WI3, pm_WI4, pm_WI5, pm_WV, pm_WW, pm_WX, pb_B42, pm_if, pm_QI_at, pm_QL_at, pm_QV_at, pm_QR_at, pm_QR_at0, pm_QR_at1, Nat.reduceSub, Nat.reduceAdd, List.replicate_zero, List.replicate_succ, true_and, and_true, true_or, or_true, and_self, reduceIte, Nat.reduceEqDiff, Nat.reduceLT, Nat.reduceLeDiff, Nat.reduceMul, false_and, and_false, reduceCtorEq, false_or, or_false, not_true_eq_false, not_false_eq_true, true_implies, false_implies, implies_true, lf_10, eq_self, Int32.reduceLT, Int32.reduceLE, Int32.reduceAdd, Int32.reduceSub, Int32.reduceDiv, Int32.reduceMul, pm_same, pm_i_wI, pm_l_wL, pm_l_wM, pm_oR_rf, pm_oQ_rf, sh_k5 hS, nI_1, sw_e, LQ1, LQ2, LQ3, e1]
        exact nx
      · rw [if_neg y] at el
        have fin := h0 x S' el hS'.q
        try simp only [pm_WV, pm_WW, true_and, and_true, true_or, or_true, and_self, reduceIte, Nat.reduceEqDiff, Nat.reduceLT, Nat.reduceLeDiff, Nat.reduceMul, false_and, and_false, reduceCtorEq, false_or, or_false, not_true_eq_false, not_false_eq_true, true_implies, false_implies, implies_true, lf_10, eq_self, Int32.reduceLT, Int32.reduceLE, Int32.reduceAdd, Int32.reduceSub, Int32.reduceDiv, Int32.reduceMul, pm_same, pm_i_wI, pm_l_wL, pm_l_wM, pm_oR_rf, pm_oQ_rf, sh_k5 hS, nI_1, sw_e, LQ1, LQ2, LQ3, pm_WI0, pm_WI1, pm_WI2, pm_WI3, pm_WI4, pm_WI5, pm_WV, pm_WW, pm_WX, pb_B42, pm_if, pm_QI_at, pm_QL_at, pm_QV_at, pm_QR_at, pm_QR_at0, pm_QR_at1, Nat.reduceSub, Nat.reduceAdd, List.replicate_zero, List.replicate_succ]
        first
          | exact fin
          | exact ⟨fun _ => fin, fun z => absurd (by decide) z⟩
          | exact ⟨fun z => absurd z (by decide), fun _ => fin⟩
          | (refine pm_wb_ok pb_c42 1 57 0 _ _ _ _ _ ?_; simp only [pm_WI0, pm_WI1, pm_WI2, pm_WI3, pm_WI4, pm_WI5, pm_WV, pm_WW, pm_WX, pb_B42, pm_if, pm_QI_at, pm_QL_at, pm_QV_at, pm_QR_at, pm_QR_at0, pm_QR_at1, Nat.reduceSub, Nat.reduceAdd, List.replicate_zero, List.replicate_succ, true_and, and_true, true_or, or_true, and_self, reduceIte, Nat.reduceEqDiff, Nat.reduceLT, Nat.reduceLeDiff, Nat.reduceMul, false_and, and_false, reduceCtorEq, false_or, or_false, not_true_eq_false, not_false_eq_true, true_implies, false_implies, implies_true, lf_10, eq_self, Int32.reduceLT, Int32.reduceLE, Int32.reduceAdd, Int32.reduceSub, Int32.reduceDiv, Int32.reduceMul, pm_same, pm_i_wI, pm_l_wL, pm_l_wM, pm_oR_rf, pm_oQ_rf, sh_k5 hS, nI_1, sw_e, LQ1, LQ2, LQ3]; exact fin)
          | (refine ⟨fun _ => ?_, fun z => absurd (by decide) z⟩; refine pm_wb_ok pb_c42 1 57 0 _ _ _ _ _ ?_; simp only [pm_WI0, pm_WI1, pm_WI2, pm_WI3, pm_WI4, pm_WI5, pm_WV, pm_WW, pm_WX, pb_B42, pm_if, pm_QI_at, pm_QL_at, pm_QV_at, pm_QR_at, pm_QR_at0, pm_QR_at1, Nat.reduceSub, Nat.reduceAdd, List.replicate_zero, List.replicate_succ, true_and, and_true, true_or, or_true, and_self, reduceIte, Nat.reduceEqDiff, Nat.reduceLT, Nat.reduceLeDiff, Nat.reduceMul, false_and, and_false, reduceCtorEq, false_or, or_false, not_true_eq_false, not_false_eq_true, true_implies, false_implies, implies_true, lf_10, eq_self, Int32.reduceLT, Int32.reduceLE, Int32.reduceAdd, Int32.reduceSub, Int32.reduceDiv, Int32.reduceMul, pm_same, pm_i_wI, pm_l_wL, pm_l_wM, pm_oR_rf, pm_oQ_rf, sh_k5 hS, nI_1, sw_e, LQ1, LQ2, LQ3]; exact fin)
          | (refine ⟨fun z => absurd z (by decide), fun _ => ?_⟩; refine pm_wb_ok pb_c42 1 57 0 _ _ _ _ _ ?_; simp only [pm_WI0, pm_WI1, pm_WI2, pm_WI3, pm_WI4, pm_WI5, pm_WV, pm_WW, pm_WX, pb_B42, pm_if, pm_QI_at, pm_QL_at, pm_QV_at, pm_QR_at, pm_QR_at0, pm_QR_at1, Nat.reduceSub, Nat.reduceAdd, List.replicate_zero, List.replicate_succ, true_and, and_true, true_or, or_true, and_self, reduceIte, Nat.reduceEqDiff, Nat.reduceLT, Nat.reduceLeDiff, Nat.reduceMul, false_and, and_false, reduceCtorEq, false_or, or_false, not_true_eq_false, not_false_eq_true, true_implies, false_implies, implies_true, lf_10, eq_self, Int32.reduceLT, Int32.reduceLE, Int32.reduceAdd, Int32.reduceSub, Int32.reduceDiv, Int32.reduceMul, pm_same, pm_i_wI, pm_l_wL, pm_l_wM, pm_oR_rf, pm_oQ_rf, sh_k5 hS, nI_1, sw_e, LQ1, LQ2, LQ3]; exact fin)
    · have hnx : n ≤ x := by
        by_cases y : n ≤ x
        · exact y
        · exact absurd (nI_lt (a := x) (b := n) (by omega) (by omega)) z
      rw [if_pos hnx] at el
      exact h1 x L' S' el hS'
end CRL
