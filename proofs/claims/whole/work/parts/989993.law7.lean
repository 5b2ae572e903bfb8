/-! Inv with one more LAW -/
def lv_A (A : iv_A) (c p : Nat) : iv_A := (A.1, A.2.1, A.2.2.1, fun x => if x = c + 1 then p else A.2.2.2.1 x, fun x q => if x = c + 1 then p + 1 + q else A.2.2.2.2.1 x q, fun x => if x = p then 1000 + (c + 1) else if p + 1 ≤ x ∧ x ≤ p + 6 then 100 + 10 * (c + 1) + (x - (p + 1)) else A.2.2.2.2.2 x)
theorem lv_l {A : iv_A} {c p x : Nat} (h : x ≠ c + 1) : iv_l (lv_A A c p) x = iv_l A x := if_neg h
theorem lv_lc {A : iv_A} {c p : Nat} : iv_l (lv_A A c p) (c + 1) = p := if_pos rfl
theorem lv_w {A : iv_A} {c p x q : Nat} (h : x ≠ c + 1) : iv_w (lv_A A c p) x q = iv_w A x q := if_neg h
theorem lv_wc {A : iv_A} {c p q : Nat} : iv_w (lv_A A c p) (c + 1) q = p + 1 + q := if_pos rfl
theorem lv_t {A : iv_A} {c p x : Nat} (h : x < p) : iv_t (lv_A A c p) x = iv_t A x := by
  show (if x = p then _ else if p + 1 ≤ x ∧ x ≤ p + 6 then _ else _) = _
  rw [if_neg (by omega), if_neg (by omega)]; rfl
theorem lv_tp {A : iv_A} {c p : Nat} : iv_t (lv_A A c p) p = 1000 + (c + 1) := if_pos rfl
theorem lv_tw {A : iv_A} {c p q : Nat} (h : q < 6) : iv_t (lv_A A c p) (p + 1 + q) = 100 + 10 * (c + 1) + q := by
  show (if p + 1 + q = p then _ else if p + 1 ≤ p + 1 + q ∧ p + 1 + q ≤ p + 6 then _ else _) = _
  rw [if_neg (by omega), if_pos (by omega)]; omega
theorem gx_read_cong {f g : Nat → Int32} {n : Nat} (h : ∀ k, k < n → f k = g k) : gx_read f n = gx_read g n := by
  have e : gx_b f n = gx_b g n := by
    funext k
    unfold gx_b
    by_cases c : k < n
    · rw [if_pos c, if_pos c, h k c]
    · rw [if_neg c, if_neg c]
  unfold gx_read; rw [e]
def lv_x (A : iv_A) (c q j : Nat) : Prop := q = iv_l A c ∨ (∃ i, i < 6 ∧ q = iv_w A c i) ∨ (q = 5 ∧ (j = 1 ∨ j = 2)) ∨ (q = 59 ∧ (j = 26 ∨ j = 31)) ∨ (q = 14 ∧ j = 2) ∨ (q = 81 ∧ 160 * c ≤ j ∧ j < 160 * c + 160) ∨ (82 ≤ q ∧ q ≤ 84 ∧ j = c)
