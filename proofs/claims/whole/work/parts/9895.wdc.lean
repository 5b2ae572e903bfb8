/-! WORKING DAYS one behind the other -/
theorem wd_b_b (e j i : Nat) : wd_b (wd_b e j) i = wd_b e (j + i) := by
  have h : ∀ x, 5 * ((7 * (x / 5) + x % 5) / 7) + min ((7 * (x / 5) + x % 5) % 7) 4 = x := fun x => by omega
  have h2 := h (5 * (e / 7) + min (e % 7) 4 + j)
  have e1 : wd_b e j = 7 * ((5 * (e / 7) + min (e % 7) 4 + j) / 5) + (5 * (e / 7) + min (e % 7) 4 + j) % 5 := rfl
  have e2 : wd_b (wd_b e j) i = 7 * ((5 * (wd_b e j / 7) + min (wd_b e j % 7) 4 + i) / 5) + (5 * (wd_b e j / 7) + min (wd_b e j % 7) 4 + i) % 5 := rfl
  rw [← e1] at h2
  rw [e2, h2, show 5 * (e / 7) + min (e % 7) 4 + j + i = 5 * (e / 7) + min (e % 7) 4 + (j + i) by omega]
  rfl
theorem wd_b_ge {e j : Nat} (hj : 1 ≤ j) : e ≤ wd_b e j := by unfold wd_b; omega
theorem wd_b_up {e j : Nat} : wd_b e j ≤ 2 * (e + j) + 20 := by unfold wd_b; omega
theorem wd_in_add {f : Nat → Int32} {b t u : Int32} (h1 : b ≤ t) (h2 : t ≤ u) : ∀ n, wd_in f b u n = wd_in f b t n + wd_in f t u n
  | 0 => rfl
  | n + 1 => by
    have ih := wd_in_add (f := f) h1 h2 n
    unfold wd_in at ih ⊢
    simp only [pv_cnt]
    rw [ih]
    by_cases a : f n ≤ b
    · have e1 : decide (¬ f n ≤ b ∧ ¬ u < f n) = false := decide_eq_false (fun z => z.1 a)
      have e2 : decide (¬ f n ≤ b ∧ ¬ t < f n) = false := decide_eq_false (fun z => z.1 a)
      have e3 : decide (¬ f n ≤ t ∧ ¬ u < f n) = false := decide_eq_false (fun z => z.1 (Int32.le_trans a h1))
      simp only [e1, e2, e3]; simp
    · by_cases c : f n ≤ t
      · have hu : ¬ u < f n := fun z => absurd (Int32.lt_of_lt_of_le z c) (Int32.not_lt.mpr h2)
        have ht : ¬ t < f n := Int32.not_lt.mpr c
        have e1 : decide (¬ f n ≤ b ∧ ¬ u < f n) = true := decide_eq_true ⟨a, hu⟩
        have e2 : decide (¬ f n ≤ b ∧ ¬ t < f n) = true := decide_eq_true ⟨a, ht⟩
        have e3 : decide (¬ f n ≤ t ∧ ¬ u < f n) = false := decide_eq_false (fun z => z.1 c)
        simp only [e1, e2, e3]; simp; omega
      · have ht : t < f n := Int32.not_le.mp c
        have e2 : decide (¬ f n ≤ b ∧ ¬ t < f n) = false := decide_eq_false (fun z => z.2 ht)
        by_cases hu : u < f n
        · have e1 : decide (¬ f n ≤ b ∧ ¬ u < f n) = false := decide_eq_false (fun z => z.2 hu)
          have e3 : decide (¬ f n ≤ t ∧ ¬ u < f n) = false := decide_eq_false (fun z => z.2 hu)
          simp only [e1, e2, e3]; simp
        · have e1 : decide (¬ f n ≤ b ∧ ¬ u < f n) = true := decide_eq_true ⟨a, hu⟩
          have e3 : decide (¬ f n ≤ t ∧ ¬ u < f n) = true := decide_eq_true ⟨c, hu⟩
          simp only [e1, e2, e3]; simp; omega
/-- weekdays behind e up to the k-th WORKING DAY -/
def wd_j (f : Nat → Int32) (n e k : Nat) : Nat := k + wd_m f n e k 20
theorem wd_j_fix (f : Nat → Int32) {n e k : Nat} (he : e < 2 ^ 20) (hk : k < 2 ^ 19) (hn : n ≤ 20) : wd_j f n e k = k + wd_in f (nI e) (nI (wd_b e (wd_j f n e k))) n := by
  have key : wd_m f n e k 21 = wd_m f n e k 20 := by
    have h1 := wd_m_mono f he hk hn 20
    by_cases h : wd_m f n e k 21 = wd_m f n e k 20
    · exact h
    · exfalso
      have : ∀ j, j < 21 → ¬ wd_m f n e k (j + 1) = wd_m f n e k j := fun j hj hjj => by
        have a1 := wd_m_fix f n e k hjj (20 - j)
        have a2 := wd_m_fix f n e k hjj (21 - j)
        rw [show j + (20 - j) = 20 by omega] at a1
        rw [show j + (21 - j) = 21 by omega] at a2
        exact h (a2.trans a1.symm)
      have h2 := wd_m_ge f he hk hn 21 this
      have h3 := wd_m_le f n e k 21
      omega
  show k + wd_m f n e k 20 = k + wd_in f (nI e) (nI (wd_b e (k + wd_m f n e k 20))) n
  rw [show wd_in f (nI e) (nI (wd_b e (k + wd_m f n e k 20))) n = wd_m f n e k 21 from rfl, key]
theorem wd_j_min (f : Nat → Int32) {n e k j : Nat} (he : e < 2 ^ 20) (hj : j < 2 ^ 20) (h : k + wd_in f (nI e) (nI (wd_b e j)) n ≤ j) : wd_j f n e k ≤ j := by
  have : ∀ i, k + wd_m f n e k i ≤ j := by
    intro i
    induction i with
    | zero => show k + 0 ≤ j; omega
    | succ i ih =>
      have hm : wd_in f (nI e) (nI (wd_b e (k + wd_m f n e k i))) n ≤ wd_in f (nI e) (nI (wd_b e j)) n := by
        refine wd_in_mono (nI_le (wd_b_mono ih) ?_)
        have := wd_b_lt (e := e) (k := j) he hj
        omega
      show k + wd_in f (nI e) (nI (wd_b e (k + wd_m f n e k i))) n ≤ j
      omega
  exact this 20
theorem wd_j_le (f : Nat → Int32) (n e k : Nat) : k ≤ wd_j f n e k ∧ wd_j f n e k ≤ k + n := by
  have := wd_m_le f n e k 20
  unfold wd_j; omega
theorem wd_comp (f : Nat → Int32) {n e a c : Nat} (he : e < 2 ^ 14) (ha : a ≤ 200) (hc : c ≤ 200) (hn : n ≤ 20) : wd f n (wd f n e a) c = wd f n e (a + c) := by
  by_cases a0 : a = 0
  · subst a0; unfold wd; simp
  · by_cases c0 : c = 0
    · subst c0; unfold wd; simp
    · have hj1 := wd_j_le f n e a
      have e1 : wd f n e a = wd_b e (wd_j f n e a) := by unfold wd; rw [if_neg a0]; rfl
      have f1 := wd_j_fix f (n := n) (e := e) (k := a) (by omega) (by omega) hn
      have m1 := fun j hj h => wd_j_min f (n := n) (e := e) (k := a) (j := j) (by omega) hj h
      rw [e1]
      generalize wd_j f n e a = j1 at *
      have t1u : wd_b e j1 ≤ 2 * (e + j1) + 20 := wd_b_up
      have t1g : e ≤ wd_b e j1 := wd_b_ge (by omega)
      generalize ht1 : wd_b e j1 = t1 at *
      have hj2 := wd_j_le f n t1 c
      have e2 : wd f n t1 c = wd_b t1 (wd_j f n t1 c) := by unfold wd; rw [if_neg c0]; rfl
      have f2 := wd_j_fix f (n := n) (e := t1) (k := c) (by omega) (by omega) hn
      have m2 := fun j hj h => wd_j_min f (n := n) (e := t1) (k := c) (j := j) (by omega) hj h
      have hj3 := wd_j_le f n e (a + c)
      have e3 : wd f n e (a + c) = wd_b e (wd_j f n e (a + c)) := by unfold wd; rw [if_neg (by omega)]; rfl
      have f3 := wd_j_fix f (n := n) (e := e) (k := a + c) (by omega) (by omega) hn
      have m3 := fun j hj h => wd_j_min f (n := n) (e := e) (k := a + c) (j := j) (by omega) hj h
      rw [e2, e3]
      generalize wd_j f n t1 c = j2 at *
      generalize wd_j f n e (a + c) = j3 at *
      have eb : ∀ i, wd_b t1 i = wd_b e (j1 + i) := fun i => by rw [← ht1]; exact wd_b_b e j1 i
      have split : ∀ i, 1 ≤ i → i ≤ 1000 → wd_in f (nI e) (nI (wd_b e (j1 + i))) n = wd_in f (nI e) (nI t1) n + wd_in f (nI t1) (nI (wd_b e (j1 + i))) n := fun i hi hi2 => by
        have g1 : t1 ≤ wd_b e (j1 + i) := by rw [← eb]; exact wd_b_ge hi
        have g2 : wd_b e (j1 + i) ≤ 2 * (e + (j1 + i)) + 20 := wd_b_up
        exact wd_in_add (nI_le t1g (by omega)) (nI_le g1 (by omega)) n
      have key : j3 = j1 + j2 := by
        apply Nat.le_antisymm
        · refine m3 (j1 + j2) (by omega) ?_
          have s := split j2 (by omega) (by omega)
          rw [eb] at f2
          omega
        · have g : j1 ≤ j3 := m1 j3 (by omega) (by omega)
          have hi : j3 = j1 + (j3 - j1) := by omega
          by_cases h0 : j3 - j1 = 0
          · exfalso
            have : j3 = j1 := by omega
            rw [this, ht1] at f3
            omega
          · have s := split (j3 - j1) (by omega) (by omega)
            rw [← hi] at s
            have := m2 (j3 - j1) (by omega) (by rw [eb, ← hi]; omega)
            omega
      rw [key, ← eb]
theorem wd_lt (f : Nat → Int32) {n e k : Nat} (he : e < 2 ^ 14) (hk : k ≤ 200) (hn : n ≤ 20) : wd f n e k < 2 ^ 16 := by
  have h1 := wd_j_le f n e k
  have h2 := wd_b_up (e := e) (j := wd_j f n e k)
  by_cases k0 : k = 0
  · unfold wd; rw [if_pos k0]; omega
  · have : wd f n e k = wd_b e (wd_j f n e k) := by unfold wd; rw [if_neg k0]; rfl
    omega
