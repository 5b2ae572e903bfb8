/-! fewest: the pure part -/
def bt_ (x : Nat) : Nat → Nat
  | 0 => 0
  | i + 1 => bt_ x i + if x.testBit i then 1 else 0
def bt (x : Nat) : Nat := bt_ x 12
theorem bt_le_ (x : Nat) : ∀ n, bt_ x n ≤ n
  | 0 => Nat.le_refl _
  | n + 1 => by
    have := bt_le_ x n
    unfold bt_
    split <;> omega
theorem bt_le (x : Nat) : bt x ≤ 12 := bt_le_ x 12
theorem bt_all : ∀ N, N < 13 → bt (2 ^ N - 1) = N := by decide +kernel
def cv (g : Nat → Nat) (x : Nat) : Nat → Nat
  | 0 => 0
  | c + 1 => if x.testBit c then cv g x c ||| g c else cv g x c
theorem cv_lt {g : Nat → Nat} {x B : Nat} : ∀ n, (∀ c, c < n → g c < 2 ^ B) → cv g x n < 2 ^ B
  | 0, _ => Nat.two_pow_pos B
  | n + 1, h => by
    have ih := cv_lt (x := x) n (fun c hc => h c (by omega))
    unfold cv
    split
    · exact Nat.or_lt_two_pow ih (h n (by omega))
    · exact ih
theorem cv_bit {g : Nat → Nat} {x : Nat} (m : Nat) : ∀ n, (cv g x n).testBit m = true ↔ ∃ c, c < n ∧ x.testBit c = true ∧ (g c).testBit m = true
  | 0 => by
    constructor
    · intro h; rw [show cv g x 0 = 0 from rfl, Nat.zero_testBit] at h; exact absurd h (by decide)
    · rintro ⟨c, hc, _⟩; omega
  | n + 1 => by
    have ih := cv_bit (g := g) (x := x) m n
    unfold cv
    by_cases hb : x.testBit n = true
    · rw [if_pos hb, Nat.testBit_or, Bool.or_eq_true, ih]
      constructor
      · rintro (⟨c, h1, h2, h3⟩ | h)
        · exact ⟨c, by omega, h2, h3⟩
        · exact ⟨n, by omega, hb, h⟩
      · rintro ⟨c, h1, h2, h3⟩
        by_cases e : c = n
        · subst e; exact Or.inr h3
        · exact Or.inl ⟨c, by omega, h2, h3⟩
    · rw [if_neg hb, ih]
      constructor
      · rintro ⟨c, h1, h2, h3⟩; exact ⟨c, by omega, h2, h3⟩
      · rintro ⟨c, h1, h2, h3⟩
        by_cases e : c = n
        · subst e; exact absurd h2 hb
        · exact ⟨c, by omega, h2, h3⟩
def fw_r (P : Nat → Nat → Bool) (c : Nat) : Nat → Nat
  | 0 => 0
  | m + 1 => if P c m then fw_r P c m ||| 2 ^ m else fw_r P c m
theorem fw_r_lt {P : Nat → Nat → Bool} {c : Nat} : ∀ n, fw_r P c n < 2 ^ n
  | 0 => Nat.one_pos
  | n + 1 => by
    have h2 : fw_r P c n < 2 ^ (n + 1) := Nat.lt_of_lt_of_le (fw_r_lt n) (Nat.pow_le_pow_right (by omega) (by omega))
    unfold fw_r
    split
    · exact Nat.or_lt_two_pow h2 (Nat.pow_lt_pow_right (by omega) (by omega))
    · exact h2
theorem fw_r_bit {P : Nat → Nat → Bool} {c : Nat} (m : Nat) : ∀ n, (fw_r P c n).testBit m = true ↔ m < n ∧ P c m = true
  | 0 => by
    constructor
    · intro h; rw [show fw_r P c 0 = 0 from rfl, Nat.zero_testBit] at h; exact absurd h (by decide)
    · rintro ⟨h, _⟩; omega
  | n + 1 => by
    have ih := fw_r_bit (P := P) (c := c) m n
    unfold fw_r
    by_cases hb : P c n = true
    · rw [if_pos hb, Nat.testBit_or, Bool.or_eq_true, ih, Nat.testBit_two_pow, decide_eq_true_eq]
      constructor
      · rintro (⟨h1, h2⟩ | h)
        · exact ⟨by omega, h2⟩
        · subst h; exact ⟨by omega, hb⟩
      · rintro ⟨h1, h2⟩
        by_cases e : n = m
        · exact Or.inr e
        · exact Or.inl ⟨by omega, h2⟩
    · rw [if_neg hb, ih]
      constructor
      · rintro ⟨h1, h2⟩; exact ⟨by omega, h2⟩
      · rintro ⟨h1, h2⟩
        by_cases e : m = n
        · subst e; exact absurd h2 hb
        · exact ⟨by omega, h2⟩
theorem fw_cov {P : Nat → Nat → Bool} {r : Nat → Nat} {n N x : Nat} (hx : x < 2 ^ N) (hr : ∀ m, m < n → ∀ c, (r m).testBit c = true ↔ c < N ∧ P c m = true) : cv (fun c => fw_r P c n) x N = cv (fun c => fw_r P c n) (2 ^ N - 1) N ↔ ∀ m, m < n → r m = 0 ∨ ¬ (r m &&& x = 0) := by
  constructor
  · intro h m hm
    by_cases z : r m = 0
    · exact Or.inl z
    · right
      obtain ⟨c, hc⟩ := Nat.exists_testBit_of_ne_zero z
      obtain ⟨c1, c2⟩ := (hr m hm c).mp hc
      have a : (cv (fun c => fw_r P c n) (2 ^ N - 1) N).testBit m = true := (cv_bit m N).mpr ⟨c, c1, by rw [Nat.testBit_two_pow_sub_one, decide_eq_true c1], (fw_r_bit m n).mpr ⟨hm, c2⟩⟩
      rw [← h] at a
      obtain ⟨c', d1, d2, d3⟩ := (cv_bit m N).mp a
      have e := ((fw_r_bit m n).mp d3).2
      intro y
      have f : (r m &&& x).testBit c' = true := by rw [Nat.testBit_and, (hr m hm c').mpr ⟨d1, e⟩, d2]; rfl
      rw [y, Nat.zero_testBit] at f
      exact absurd f (by decide)
  · intro h
    apply Nat.eq_of_testBit_eq
    intro m
    rw [Bool.eq_iff_iff, cv_bit, cv_bit]
    constructor
    · rintro ⟨c, d1, d2, d3⟩
      exact ⟨c, d1, by rw [Nat.testBit_two_pow_sub_one, decide_eq_true d1], d3⟩
    · rintro ⟨c, d1, _, d3⟩
      obtain ⟨m1, m2⟩ := (fw_r_bit m n).mp d3
      have b := (hr m m1 c).mpr ⟨d1, m2⟩
      rcases h m m1 with z | z
      · rw [z, Nat.zero_testBit] at b; exact absurd b (by decide)
      · obtain ⟨c', hc'⟩ := Nat.exists_testBit_of_ne_zero z
        rw [Nat.testBit_and, Bool.and_eq_true] at hc'
        obtain ⟨e1, e2⟩ := (hr m m1 c').mp hc'.1
        exact ⟨c', e1, hc'.2, (fw_r_bit m n).mpr ⟨m1, e2⟩⟩
def fw_c (ok : Nat → Bool) (M : Nat) : Nat → Nat
  | 0 => M
  | s + 1 => if bt s < bt (fw_c ok M s) ∧ ok s = true then s else fw_c ok M s
def fw_m (ok : Nat → Bool) (M : Nat) : Nat → Nat
  | 0 => M
  | i + 1 => if ok (M - i) = true ∧ bt (M - i) ≤ bt (fw_m ok M i) then M - i else fw_m ok M i
theorem bt_max_ : ∀ N, N < 13 → ∀ a, a < 64 → ∀ b, b < 64 → 64 * a + b < 2 ^ N - 1 → bt (64 * a + b) < N := by decide +kernel
theorem bt_max {N x : Nat} (hN : N ≤ 12) (hx : x < 2 ^ N - 1) : bt x < N := by
  have h : 2 ^ N ≤ 2 ^ 12 := Nat.pow_le_pow_right (by omega) hN
  have e : 64 * (x / 64) + x % 64 = x := by omega
  have := bt_max_ N (by omega) (x / 64) (by omega) (x % 64) (by omega) (by rw [e]; exact hx)
  rw [e] at this; exact this
theorem fw_c_inv {ok : Nat → Bool} {M : Nat} (hM : ok M = true) (hb : ∀ x, x < M → bt x < bt M) : ∀ s, s ≤ M → ok (fw_c ok M s) = true ∧ (fw_c ok M s < s ∨ fw_c ok M s = M) ∧ ∀ x, x < s → ok x = true → bt (fw_c ok M s) ≤ bt x ∧ (bt x = bt (fw_c ok M s) → fw_c ok M s ≤ x)
  | 0, _ => ⟨hM, Or.inr rfl, fun x hx => absurd hx (Nat.not_lt_zero x)⟩
  | s + 1, h => by
    obtain ⟨h1, h2, h4⟩ := fw_c_inv hM hb s (by omega)
    by_cases c : bt s < bt (fw_c ok M s) ∧ ok s = true
    · have e : fw_c ok M (s + 1) = s := by rw [show fw_c ok M (s + 1) = if bt s < bt (fw_c ok M s) ∧ ok s = true then s else fw_c ok M s from rfl, if_pos c]
      rw [e]
      refine ⟨c.2, Or.inl (by omega), fun x hx ho => ?_⟩
      by_cases ex : x = s
      · subst ex; exact ⟨Nat.le_refl _, fun _ => Nat.le_refl _⟩
      · have := (h4 x (by omega) ho).1
        exact ⟨by omega, fun z => by omega⟩
    · have e : fw_c ok M (s + 1) = fw_c ok M s := by rw [show fw_c ok M (s + 1) = if bt s < bt (fw_c ok M s) ∧ ok s = true then s else fw_c ok M s from rfl, if_neg c]
      rw [e]
      refine ⟨h1, by omega, fun x hx ho => ?_⟩
      by_cases ex : x = s
      · subst ex
        have c2 : ¬ bt x < bt (fw_c ok M x) := fun z => c ⟨z, ho⟩
        have c3 : fw_c ok M x < x := by
          rcases h2 with z | z
          · exact z
          · exfalso; rw [z] at c2; exact c2 (hb x (by omega))
        exact ⟨by omega, fun z => by omega⟩
      · exact h4 x (by omega) ho
theorem fw_c_stop {ok : Nat → Bool} {M s : Nat} (h : bt (fw_c ok M s) = 0) : ∀ k, fw_c ok M (s + k) = fw_c ok M s
  | 0 => rfl
  | k + 1 => by
    have ih := fw_c_stop h k
    rw [show fw_c ok M (s + (k + 1)) = if bt (s + k) < bt (fw_c ok M (s + k)) ∧ ok (s + k) = true then s + k else fw_c ok M (s + k) from rfl, ih, if_neg (fun z => by omega)]
theorem fw_m_inv {ok : Nat → Bool} {M : Nat} (hM : ok M = true) : ∀ i, i ≤ M + 1 → ok (fw_m ok M i) = true ∧ fw_m ok M i ≤ M ∧ M ≤ fw_m ok M i + i ∧ ∀ x, x ≤ M → M < x + i → ok x = true → bt (fw_m ok M i) ≤ bt x ∧ (bt x = bt (fw_m ok M i) → fw_m ok M i ≤ x)
  | 0, _ => ⟨hM, Nat.le_refl _, Nat.le_refl _, fun x h1 h2 => absurd h2 (by omega)⟩
  | i + 1, h => by
    obtain ⟨h1, h2, h3, h4⟩ := fw_m_inv hM i (by omega)
    by_cases c : ok (M - i) = true ∧ bt (M - i) ≤ bt (fw_m ok M i)
    · have e : fw_m ok M (i + 1) = M - i := by rw [show fw_m ok M (i + 1) = if ok (M - i) = true ∧ bt (M - i) ≤ bt (fw_m ok M i) then M - i else fw_m ok M i from rfl, if_pos c]
      rw [e]
      refine ⟨c.1, by omega, by omega, fun x g1 g2 ho => ?_⟩
      by_cases ex : x = M - i
      · subst ex; exact ⟨Nat.le_refl _, fun _ => Nat.le_refl _⟩
      · have := (h4 x g1 (by omega) ho).1
        exact ⟨by omega, fun z => by omega⟩
    · have e : fw_m ok M (i + 1) = fw_m ok M i := by rw [show fw_m ok M (i + 1) = if ok (M - i) = true ∧ bt (M - i) ≤ bt (fw_m ok M i) then M - i else fw_m ok M i from rfl, if_neg c]
      rw [e]
      refine ⟨h1, h2, by omega, fun x g1 g2 ho => ?_⟩
      by_cases ex : x = M - i
      · have c2 : ¬ bt (M - i) ≤ bt (fw_m ok M i) := fun z => c ⟨by rw [← ex]; exact ho, z⟩
        rw [← ex] at c2
        exact ⟨by omega, fun z => by omega⟩
      · exact h4 x g1 (by omega) ho
theorem fw_same {ok : Nat → Bool} {M : Nat} (hM : ok M = true) (hb : ∀ x, x < M → bt x < bt M) : fw_c ok M M = fw_m ok M (M + 1) := by
  obtain ⟨a1, a2, a3⟩ := fw_c_inv hM hb M (Nat.le_refl _)
  obtain ⟨b1, b2, _, b3⟩ := fw_m_inv hM (M + 1) (Nat.le_refl _)
  generalize fw_c ok M M = C at *
  generalize fw_m ok M (M + 1) = D at *
  have c0 := b3 C (by omega) (by omega) a1
  by_cases e : D = M
  · by_cases f : C = M
    · omega
    · have := hb C (by omega)
      rw [e] at c0
      omega
  · have d0 := a3 D (by omega) b1
    have d1 := d0.2
    have c1 := c0.2
    have : bt C = bt D := by omega
    have := c1 this
    have := d1 (by omega)
    omega
