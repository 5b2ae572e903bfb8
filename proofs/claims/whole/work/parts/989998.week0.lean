/-! week: the best order -/
def bo_n (s : Nat) : Nat → Nat
  | 0 => 0
  | p + 1 => bo_n s p + if s.testBit p = true then 0 else 1
def bo_w (f : Nat → Nat) (s : Nat) : Nat → Nat
  | 0 => 0
  | p + 1 => bo_w f s p + if s.testBit p = true then f p else 0
theorem bo_bit (s p i : Nat) : (s ||| 2 ^ p).testBit i = (s.testBit i || decide (p = i)) := by rw [Nat.testBit_or, Nat.testBit_two_pow]
theorem bo_n_set {s p : Nat} (h : s.testBit p = false) : ∀ N, bo_n (s ||| 2 ^ p) N + (if p < N then 1 else 0) = bo_n s N
  | 0 => by rw [if_neg (Nat.not_lt_zero p)]; rfl
  | N + 1 => by
    have ih := bo_n_set h N
    unfold bo_n
    rw [bo_bit]
    by_cases e : p = N
    · subst e
      rw [if_neg (Nat.lt_irrefl p)] at ih
      rw [h, decide_eq_true rfl, Bool.or_true, if_pos rfl, if_pos (Nat.lt_succ_self p), if_neg (show ¬ (false = true) by decide)]
      omega
    · rw [decide_eq_false e, Bool.or_false]
      by_cases l : p < N
      · rw [if_pos l] at ih
        rw [if_pos (show p < N + 1 by omega)]
        omega
      · rw [if_neg l] at ih
        rw [if_neg (show ¬ p < N + 1 by omega)]
        omega
theorem bo_n_in {s p N : Nat} (h : s.testBit p = false) (hp : p < N) : bo_n (s ||| 2 ^ p) N + 1 = bo_n s N := by
  have := bo_n_set h N
  rw [if_pos hp] at this; exact this
theorem bo_w_set {f : Nat → Nat} {s p : Nat} (h : s.testBit p = false) : ∀ N, bo_w f (s ||| 2 ^ p) N = bo_w f s N + (if p < N then f p else 0)
  | 0 => by rw [if_neg (Nat.not_lt_zero p)]; rfl
  | N + 1 => by
    have ih := bo_w_set (f := f) h N
    unfold bo_w
    rw [bo_bit]
    by_cases e : p = N
    · subst e
      rw [if_neg (Nat.lt_irrefl p)] at ih
      rw [h, decide_eq_true rfl, Bool.or_true, if_pos rfl, if_neg (show ¬ (false = true) by decide), if_pos (Nat.lt_succ_self p)]
      omega
    · rw [decide_eq_false e, Bool.or_false]
      by_cases l : p < N
      · rw [if_pos l] at ih
        rw [if_pos (show p < N + 1 by omega)]
        omega
      · rw [if_neg l] at ih
        rw [if_neg (show ¬ p < N + 1 by omega)]
        omega
theorem bo_w_in {f : Nat → Nat} {s p N : Nat} (h : s.testBit p = false) (hp : p < N) : bo_w f (s ||| 2 ^ p) N = bo_w f s N + f p := by
  have := bo_w_set (f := f) h N
  rw [if_pos hp] at this; exact this
theorem bo_w_le {f : Nat → Nat} {s : Nat} : ∀ N, (∀ k, k < N → f k ≤ 9) → bo_w f s N ≤ 9 * N
  | 0, _ => Nat.le_refl _
  | N + 1, h => by
    have ih := bo_w_le (f := f) (s := s) N (fun k hk => h k (by omega))
    have := h N (by omega)
    unfold bo_w
    split <;> omega
theorem bo_w_0 {f : Nat → Nat} : ∀ N, bo_w f 0 N = 0
  | 0 => rfl
  | N + 1 => by
    unfold bo_w
    rw [bo_w_0 N, Nat.zero_testBit, if_neg (by decide)]
theorem bo_n_0 : ∀ N, bo_n 0 N = N
  | 0 => rfl
  | N + 1 => by
    unfold bo_n
    rw [bo_n_0 N, Nat.zero_testBit, if_neg (by decide)]
theorem bo_n_pos {s : Nat} : ∀ N, 1 ≤ bo_n s N → ∃ p, p < N ∧ s.testBit p = false
  | 0, h => absurd h (by unfold bo_n; omega)
  | N + 1, h => by
    cases e : s.testBit N with
    | false => exact ⟨N, by omega, e⟩
    | true =>
      unfold bo_n at h
      rw [e, if_pos rfl] at h
      obtain ⟨p, h1, h2⟩ := bo_n_pos N (by omega)
      exact ⟨p, by omega, h2⟩
theorem bo_all : ∀ N, N < 8 → bo_n (2 ^ N - 1) N = 0 := by decide
theorem bo_some : ∀ N, N < 8 → ∀ s, s < 128 → s < 2 ^ N - 1 → 1 ≤ bo_n s N := by decide +kernel
def bo_c (t d : Nat) : Nat := if d < t then 4294967296 + (t - d) else 0
theorem bo_c_le {t d : Nat} (h : t < 2 ^ 16) : bo_c t d ≤ 4295032832 := by unfold bo_c; split <;> omega
def bo_b (s : Nat) (v : Nat → Nat) : Nat → Nat
  | 0 => 9223372036854775807
  | p + 1 => if s.testBit p = true then bo_b s v p else if v p < bo_b s v p then v p else bo_b s v p
def bo_o (C : Nat → Nat → Nat) (N : Nat) : Nat → Nat → Nat
  | 0, _ => 0
  | r + 1, s => bo_b s (fun p => bo_o C N r (s ||| 2 ^ p) + C (s ||| 2 ^ p) p) N
/-- the first open place with this value -/
def bo_i (s : Nat) (v : Nat → Nat) (x N p : Nat) : Prop := p < N ∧ s.testBit p = false ∧ v p = x ∧ ∀ u, u < p → s.testBit u = false → v u ≠ x
theorem bo_b_le {s p : Nat} {v : Nat → Nat} (h : s.testBit p = false) : ∀ N, p < N → bo_b s v N ≤ v p
  | 0, hp => absurd hp (Nat.not_lt_zero p)
  | N + 1, hp => by
    unfold bo_b
    by_cases e : p = N
    · subst e
      rw [h, if_neg (by decide)]
      split <;> omega
    · have ih := bo_b_le (v := v) h N (by omega)
      split
      · exact ih
      · split <;> omega
theorem bo_b_mx {s : Nat} {v : Nat → Nat} : ∀ N, bo_b s v N ≤ 9223372036854775807
  | 0 => Nat.le_refl _
  | N + 1 => by
    have ih := bo_b_mx (s := s) (v := v) N
    unfold bo_b
    split
    · exact ih
    · split <;> omega
theorem bo_b_gt {s x : Nat} {v : Nat → Nat} (hx : x < 9223372036854775807) : ∀ N, (∀ p, p < N → s.testBit p = false → x < v p) → x < bo_b s v N
  | 0, _ => hx
  | N + 1, h => by
    have ih := bo_b_gt (s := s) (v := v) hx N (fun p hp => h p (by omega))
    unfold bo_b
    split
    · exact ih
    · rename_i e
      have := h N (by omega) (by cases z : s.testBit N with
        | false => rfl
        | true => exact absurd z e)
      split <;> omega
theorem bo_b_at {s : Nat} {v : Nat → Nat} : ∀ N, bo_b s v N < 9223372036854775807 → ∃ p, bo_i s v (bo_b s v N) N p
  | 0, h => absurd h (by unfold bo_b; omega)
  | N + 1, h => by
    cases e : s.testBit N with
    | true =>
      have q : bo_b s v (N + 1) = bo_b s v N := by rw [bo_b, e, if_pos rfl]
      rw [q] at h ⊢
      obtain ⟨p, h1, h2, h3, h4⟩ := bo_b_at N h
      exact ⟨p, by omega, h2, h3, h4⟩
    | false =>
      have q : bo_b s v (N + 1) = if v N < bo_b s v N then v N else bo_b s v N := by rw [bo_b, e, if_neg (by decide)]
      rw [q] at h ⊢
      by_cases l : v N < bo_b s v N
      · rw [if_pos l] at h ⊢
        exact ⟨N, by omega, e, rfl, fun u hu hs => by have := bo_b_le (v := v) hs N hu; omega⟩
      · rw [if_neg l] at h ⊢
        obtain ⟨p, h1, h2, h3, h4⟩ := bo_b_at N h
        exact ⟨p, by omega, h2, h3, h4⟩
theorem bo_b_cg {s : Nat} {v u : Nat → Nat} : ∀ N, (∀ p, p < N → s.testBit p = false → v p = u p) → bo_b s v N = bo_b s u N
  | 0, _ => rfl
  | N + 1, h => by
    have ih := bo_b_cg (s := s) (v := v) (u := u) N (fun p hp => h p (by omega))
    cases e : s.testBit N with
    | true => rw [bo_b, bo_b, e, if_pos rfl, if_pos rfl]; exact ih
    | false => rw [bo_b, bo_b, e, if_neg (show ¬ (false = true) by decide), if_neg (show ¬ (false = true) by decide), ih, h N (by omega) e]
theorem bo_i_uq {s x N p u : Nat} {v : Nat → Nat} (h : bo_i s v x N p) (h' : bo_i s v x N u) : p = u := by
  obtain ⟨a1, a2, a3, a4⟩ := h
  obtain ⟨b1, b2, b3, b4⟩ := h'
  rcases Nat.lt_trichotomy p u with z | z | z
  · exact absurd a3 (b4 p z a2)
  · exact z
  · exact absurd b3 (a4 u z b2)
theorem bo_o_le {C : Nat → Nat → Nat} {N : Nat} (hC : ∀ s p, C s p ≤ 4295032832) : ∀ r s, bo_n s N = r → bo_o C N r s ≤ r * 4295032832
  | 0, _, _ => Nat.zero_le _
  | r + 1, s, h => by
    obtain ⟨p, h1, h2⟩ := bo_n_pos (s := s) N (by omega)
    have h3 := bo_n_in h2 h1
    have ih := bo_o_le (N := N) hC r (s ||| 2 ^ p) (by omega)
    have h4 := bo_b_le (v := fun p => bo_o C N r (s ||| 2 ^ p) + C (s ||| 2 ^ p) p) h2 N h1
    have h5 := hC (s ||| 2 ^ p) p
    have h6 : bo_o C N r (s ||| 2 ^ p) + C (s ||| 2 ^ p) p ≤ (r + 1) * 4295032832 := by omega
    exact Nat.le_trans h4 h6
def bo_P (C : Nat → Nat → Nat) (N : Nat) : Nat → Nat → (Nat → Nat) → Nat → Prop
  | 0, _, _, _ => True
  | r + 1, s, l, k => bo_i s (fun p => bo_o C N r (s ||| 2 ^ p) + C (s ||| 2 ^ p) p) (bo_o C N (r + 1) s) N (l k) ∧ bo_P C N r (s ||| 2 ^ l k) l (k + 1)
theorem bo_P_uq {C : Nat → Nat → Nat} {N : Nat} {l m : Nat → Nat} : ∀ r s k, bo_P C N r s l k → bo_P C N r s m k → ∀ i, i < r → l (k + i) = m (k + i)
  | 0, _, _, _, _, i, hi => absurd hi (Nat.not_lt_zero i)
  | r + 1, s, k, h, h', i, hi => by
    obtain ⟨a1, a2⟩ := h
    obtain ⟨b1, b2⟩ := h'
    have e := bo_i_uq a1 b1
    cases i with
    | zero => exact e
    | succ j =>
      rw [e] at a2
      have := bo_P_uq r _ (k + 1) a2 b2 j (by omega)
      rw [show k + (j + 1) = k + 1 + j by omega]; exact this
/-- the model's search, pure -/
abbrev bo_B : Type := Option (Nat × (Nat → Nat))
def bo_pr : bo_B → Nat → Bool
  | none, _ => false
  | some b, c => decide (b.1 ≤ c)
def bo_fo (f : Nat → bo_B → bo_B) : Nat → bo_B → bo_B
  | 0, B => B
  | p + 1, B => f p (bo_fo f p B)
def bo_go (C : Nat → Nat → Nat) (N : Nat) : Nat → Nat → Nat → Nat → (Nat → Nat) → bo_B → bo_B
  | 0, _, _, c, t, B => if bo_pr B c = true then B else some (c, t)
  | r + 1, k, s, c, t, B => if bo_pr B c = true then B else bo_fo (fun p B => if s.testBit p = true then B else bo_go C N r (k + 1) (s ||| 2 ^ p) (c + C (s ||| 2 ^ p) p) (fun i => if i = k then p else t i) B) N B
theorem bo_pr_up {B : bo_B} {c e : Nat} (h : bo_pr B c = true) (hl : c ≤ e) : bo_pr B e = true := by
  cases B with
  | none => cases h
  | some b => exact decide_eq_true (Nat.le_trans (of_decide_eq_true h) hl)
theorem bo_go_ok {C : Nat → Nat → Nat} {N : Nat} (hC : ∀ s p, C s p ≤ 4295032832) (hN : N ≤ 7) : ∀ r k s c t B, r + k = N → bo_n s N = r →
    (bo_go C N r k s c t B = B ∧ bo_pr B (c + bo_o C N r s) = true) ∨ (bo_pr B (c + bo_o C N r s) = false ∧ ∃ l, bo_go C N r k s c t B = some (c + bo_o C N r s, l) ∧ (∀ i, i < k → l i = t i) ∧ bo_P C N r s l k)
  | 0, k, s, c, t, B, hk, hs => by
    have e0 : bo_o C N 0 s = 0 := rfl
    rw [e0, Nat.add_zero]
    unfold bo_go
    cases e : bo_pr B c with
    | true => exact Or.inl ⟨if_pos rfl, rfl⟩
    | false => exact Or.inr ⟨rfl, t, if_neg (by decide), fun _ _ => rfl, trivial⟩
  | r + 1, k, s, c, t, B, hk, hs => by
    have bnd : ∀ p, p < N → s.testBit p = false → bo_o C N r (s ||| 2 ^ p) + C (s ||| 2 ^ p) p ≤ 8 * 4295032832 := fun p h1 h2 => by
      have h3 := bo_n_in h2 h1
      have h4 := bo_o_le (N := N) hC r (s ||| 2 ^ p) (by omega)
      have h5 := hC (s ||| 2 ^ p) p
      have h6 : r * 4295032832 ≤ 7 * 4295032832 := Nat.mul_le_mul_right _ (by omega)
      omega
    generalize hv : (fun p => bo_o C N r (s ||| 2 ^ p) + C (s ||| 2 ^ p) p) = v
    have hvp : ∀ p, bo_o C N r (s ||| 2 ^ p) + C (s ||| 2 ^ p) p = v p := fun p => by rw [← hv]
    have eo : bo_o C N (r + 1) s = bo_b s v N := by rw [← hv]; rfl
    have hP : ∀ l, bo_P C N (r + 1) s l k = (bo_i s v (bo_b s v N) N (l k) ∧ bo_P C N r (s ||| 2 ^ l k) l (k + 1)) := fun l => by rw [← eo, ← hv]; rfl
    have bnd2 : ∀ p, p < N → s.testBit p = false → v p ≤ 8 * 4295032832 := fun p h1 h2 => by rw [← hvp]; exact bnd p h1 h2
    obtain ⟨p0, h01, h02⟩ := bo_n_pos (s := s) N (by omega)
    have lmx : bo_b s v N < 9223372036854775807 := by
      have h1 := bo_b_le (v := v) h02 N h01
      have h2 := bnd2 p0 h01 h02
      omega
    rw [eo]
    cases e : bo_pr B c with
    | true =>
      refine Or.inl ⟨?_, bo_pr_up e (by omega)⟩
      unfold bo_go
      rw [e]; exact if_pos rfl
    | false =>
      have eg : bo_go C N (r + 1) k s c t B = bo_fo (fun p B => if s.testBit p = true then B else bo_go C N r (k + 1) (s ||| 2 ^ p) (c + C (s ||| 2 ^ p) p) (fun i => if i = k then p else t i) B) N B := by
        rw [bo_go, e]; exact if_neg (by decide)
      rw [eg]
      generalize hf : (fun (p : Nat) (B : bo_B) => if s.testBit p = true then B else bo_go C N r (k + 1) (s ||| 2 ^ p) (c + C (s ||| 2 ^ p) p) (fun i => if i = k then p else t i) B) = f
      have f1 : ∀ p X, s.testBit p = true → f p X = X := fun p X h => by rw [← hf]; exact if_pos h
      have f0 : ∀ p X, p < N → s.testBit p = false → (f p X = X ∧ bo_pr X (c + v p) = true) ∨ (bo_pr X (c + v p) = false ∧ ∃ l, f p X = some (c + v p, l) ∧ (∀ i, i < k → l i = t i) ∧ l k = p ∧ bo_P C N r (s ||| 2 ^ p) l (k + 1)) := fun p X h1 h2 => by
        have h3 := bo_n_in h2 h1
        have ih := bo_go_ok hC hN r (k + 1) (s ||| 2 ^ p) (c + C (s ||| 2 ^ p) p) (fun i => if i = k then p else t i) X (by omega) (by omega)
        have ec : c + C (s ||| 2 ^ p) p + bo_o C N r (s ||| 2 ^ p) = c + v p := by rw [← hvp]; omega
        rw [ec] at ih
        have ef : f p X = bo_go C N r (k + 1) (s ||| 2 ^ p) (c + C (s ||| 2 ^ p) p) (fun i => if i = k then p else t i) X := by rw [← hf]; exact if_neg (by rw [h2]; decide)
        rw [ef]
        rcases ih with ih | ⟨ih1, l, ih2, ih3, ih4⟩
        · exact Or.inl ih
        · refine Or.inr ⟨ih1, l, ih2, fun i hi => ?_, ?_, ih4⟩
          · have := ih3 i (by omega)
            rw [this]; exact if_neg (by omega)
          · have := ih3 k (by omega)
            rw [this]; exact if_pos rfl
      have inv : ∀ P, P ≤ N → (bo_fo f P B = B ∧ ∀ p, p < P → s.testBit p = false → bo_pr B (c + v p) = true) ∨ (∃ p l, bo_i s v (bo_b s v P) P p ∧ bo_pr B (c + v p) = false ∧ bo_fo f P B = some (c + v p, l) ∧ (∀ i, i < k → l i = t i) ∧ l k = p ∧ bo_P C N r (s ||| 2 ^ p) l (k + 1)) := by
        intro P
        induction P with
        | zero => intro _; exact Or.inl ⟨rfl, fun p hp => absurd hp (Nat.not_lt_zero p)⟩
        | succ P ih =>
          intro hP
          have ih := ih (by omega)
          have es : bo_fo f (P + 1) B = f P (bo_fo f P B) := rfl
          rw [es]
          cases hb : s.testBit P with
          | true =>
            rw [f1 P _ hb]
            have eb : bo_b s v (P + 1) = bo_b s v P := by rw [bo_b, hb, if_pos rfl]
            rcases ih with ⟨i1, i2⟩ | ⟨p, l, ⟨j1, j2, j3, j4⟩, i2⟩
            · refine Or.inl ⟨i1, fun p hp ho => ?_⟩
              by_cases z : p = P
              · rw [z, hb] at ho; cases ho
              · exact i2 p (by omega) ho
            · rw [eb]
              exact Or.inr ⟨p, l, ⟨by omega, j2, j3, j4⟩, i2⟩
          | false =>
            have eb : bo_b s v (P + 1) = if v P < bo_b s v P then v P else bo_b s v P := by rw [bo_b, hb, if_neg (by decide)]
            have vb := bnd2 P (by omega) hb
            rcases ih with ⟨i1, i2⟩ | ⟨p, l, ⟨j1, j2, j3, j4⟩, i2, i3, i4, i5, i6⟩
            · rw [i1]
              rcases f0 P B (by omega) hb with ⟨g1, g2⟩ | ⟨g1, l, g2, g3, g4, g5⟩
              · refine Or.inl ⟨g1, fun p hp ho => ?_⟩
                by_cases z : p = P
                · rw [z]; exact g2
                · exact i2 p (by omega) ho
              · have lt : ∀ p, p < P → s.testBit p = false → v P < v p := fun p hp ho => by
                  have a := i2 p hp ho
                  cases B with
                  | none => cases a
                  | some b =>
                    have a1 : b.1 ≤ c + v p := of_decide_eq_true a
                    have a2 : ¬ b.1 ≤ c + v P := of_decide_eq_false g1
                    omega
                have hlt : v P < bo_b s v P := bo_b_gt (by omega) P lt
                rw [eb, if_pos hlt]
                exact Or.inr ⟨P, l, ⟨by omega, hb, rfl, fun u hu ho => by have := lt u hu ho; omega⟩, g1, g2, g3, g4, g5⟩
            · rw [i3]
              rcases f0 P (some (c + v p, l)) (by omega) hb with ⟨g1, g2⟩ | ⟨g1, m, g2, g3, g4, g5⟩
              · have a : c + v p ≤ c + v P := of_decide_eq_true g2
                rw [eb, if_neg (by omega), g1]
                exact Or.inr ⟨p, l, ⟨by omega, j2, j3, j4⟩, i2, rfl, i4, i5, i6⟩
              · have a : ¬ c + v p ≤ c + v P := of_decide_eq_false g1
                rw [eb, if_pos (by omega)]
                refine Or.inr ⟨P, m, ⟨by omega, hb, rfl, fun u hu ho => by have := bo_b_le (v := v) ho P hu; omega⟩, ?_, g2, g3, g4, g5⟩
                cases hz : bo_pr B (c + v P) with
                | false => rfl
                | true => rw [bo_pr_up hz (by omega)] at i2; cases i2
      rcases inv N (Nat.le_refl _) with ⟨i1, i2⟩ | ⟨p, l, i1, i2, i3, i4, i5, i6⟩
      · obtain ⟨p, j1, j2, j3, j4⟩ := bo_b_at (v := v) N lmx
        refine Or.inl ⟨i1, ?_⟩
        have := i2 p j1 j2
        rw [j3] at this; exact this
      · have ev : v p = bo_b s v N := i1.2.2.1
        rw [ev] at i2 i3
        refine Or.inr ⟨i2, l, i3, i4, ?_⟩
        rw [hP, i5]; exact ⟨i1, i6⟩
/-- the search finds the best order -/
theorem bo_go_all {C : Nat → Nat → Nat} {N : Nat} (hC : ∀ s p, C s p ≤ 4295032832) (hN : N ≤ 7) (t : Nat → Nat) : ∃ l, bo_go C N N 0 0 0 t none = some (bo_o C N N 0, l) ∧ bo_P C N N 0 l 0 := by
  rcases bo_go_ok hC hN N 0 0 0 t none rfl (bo_n_0 N) with ⟨_, h⟩ | ⟨_, l, h1, _, h2⟩
  · cases h
  · rw [Nat.zero_add] at h1; exact ⟨l, h1, h2⟩
