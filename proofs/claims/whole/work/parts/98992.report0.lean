/-! report: the pure part -/
def rp_g : Option Nat → Nat → Bool
  | none, _ => true
  | some l, k => decide (l < k)
def rp_l (k : Nat) : Option Nat → Bool
  | none => true
  | some l => decide (k < l)
def rp_a (key : Nat → Nat) (lst : Option Nat) : Nat → Option Nat
  | 0 => none
  | i + 1 => if rp_g lst (key i) && rp_l (key i) (rp_a key lst i) then some (key i) else rp_a key lst i
def rp_s (key : Nat → Nat) (n : Nat) : Nat → Option Nat
  | 0 => none
  | i + 1 => rp_a key (rp_s key n i) n
theorem rp_a_of {key : Nat → Nat} {lst : Option Nat} {K : Nat} : ∀ n, rp_a key lst n = some K → (∃ m, m < n ∧ key m = K) ∧ rp_g lst K = true
  | 0, h => by unfold rp_a at h; exact absurd h (by simp)
  | n + 1, h => by
    unfold rp_a at h
    by_cases c : (rp_g lst (key n) && rp_l (key n) (rp_a key lst n)) = true
    · rw [if_pos c] at h
      have e : key n = K := Option.some.inj h
      rw [Bool.and_eq_true] at c
      exact ⟨⟨n, by omega, e⟩, by rw [← e]; exact c.1⟩
    · rw [if_neg c] at h
      obtain ⟨⟨m, h1, h2⟩, h3⟩ := rp_a_of n h
      exact ⟨⟨m, by omega, h2⟩, h3⟩
theorem rp_a_none {key : Nat → Nat} {lst : Option Nat} : ∀ n, rp_a key lst n = none → ∀ m, m < n → rp_g lst (key m) = false
  | 0, _, m, hm => absurd hm (Nat.not_lt_zero m)
  | n + 1, h, m, hm => by
    unfold rp_a at h
    by_cases c : (rp_g lst (key n) && rp_l (key n) (rp_a key lst n)) = true
    · rw [if_pos c] at h; exact absurd h (by simp)
    · rw [if_neg c] at h
      by_cases e : m = n
      · subst e
        cases g : rp_g lst (key m) with
        | false => rfl
        | true => exfalso; apply c; rw [g, h]; rfl
      · exact rp_a_none n h m (by omega)
/-- MATTERS whose key is above -/
def rp_c (key : Nat → Nat) (lst : Option Nat) : Nat → Nat
  | 0 => 0
  | i + 1 => rp_c key lst i + if rp_g lst (key i) then 1 else 0
theorem rp_c_le {key : Nat → Nat} {lst : Option Nat} : ∀ n, rp_c key lst n ≤ n
  | 0 => Nat.le_refl _
  | n + 1 => by
    have := rp_c_le (key := key) (lst := lst) n
    unfold rp_c; split <;> omega
theorem rp_g_up {lst : Option Nat} {K k : Nat} (h : rp_g lst K = true) (h2 : rp_g (some K) k = true) : rp_g lst k = true := by
  cases lst with
  | none => rfl
  | some l =>
    have h1 := of_decide_eq_true h
    have h3 := of_decide_eq_true h2
    exact decide_eq_true (by omega)
theorem rp_c_mono {key : Nat → Nat} {lst : Option Nat} {K : Nat} (h : rp_g lst K = true) : ∀ n, rp_c key (some K) n ≤ rp_c key lst n
  | 0 => Nat.le_refl _
  | n + 1 => by
    have ih := rp_c_mono (key := key) h n
    unfold rp_c
    by_cases g : rp_g (some K) (key n) = true
    · rw [if_pos g, if_pos (rp_g_up h g)]; omega
    · rw [if_neg g]; omega
theorem rp_c_lt {key : Nat → Nat} {lst : Option Nat} {K m : Nat} (h : rp_g lst K = true) (hk : key m = K) : ∀ n, m < n → rp_c key (some K) n < rp_c key lst n
  | 0, hm => absurd hm (Nat.not_lt_zero m)
  | n + 1, hm => by
    unfold rp_c
    by_cases e : m = n
    · subst e
      have := rp_c_mono (key := key) h m
      have g : ¬ rp_g (some K) (key m) = true := fun z => by have := of_decide_eq_true z; omega
      rw [if_neg g, if_pos (by rw [hk]; exact h)]; omega
    · have ih := rp_c_lt h hk n (by omega)
      by_cases g : rp_g (some K) (key n) = true
      · rw [if_pos g, if_pos (rp_g_up h g)]; omega
      · rw [if_neg g]; omega
theorem rp_left {key : Nat → Nat} {n : Nat} : ∀ i, (∀ j, j < i → ¬ rp_s key n (j + 1) = none) → rp_c key (rp_s key n i) n + i ≤ n
  | 0, _ => rp_c_le n
  | i + 1, h => by
    have ih := rp_left i (fun j hj => h j (by omega))
    have hn := h i (by omega)
    cases e : rp_s key n (i + 1) with
    | none => exact absurd e hn
    | some K =>
      obtain ⟨⟨m, h1, h2⟩, h3⟩ := rp_a_of n (show rp_a key (rp_s key n i) n = some K from e)
      have := rp_c_lt h3 h2 n h1
      omega
theorem rp_c_0 {key : Nat → Nat} {lst : Option Nat} {n : Nat} (h : rp_c key lst n = 0) : rp_a key lst n = none := by
  cases e : rp_a key lst n with
  | none => rfl
  | some K =>
    obtain ⟨⟨m, h1, h2⟩, h3⟩ := rp_a_of n e
    have := rp_c_lt h3 h2 n h1
    omega
/-- the keys of the class and of the model -/
def rp_f (x : Nat) : Nat := ((x / 100) * 10 + x / 10 % 10) * 7 + x % 10
def rp_k (x : Nat) : Prop := x < 600 ∧ x % 10 ≤ 6
theorem rp_dec {x : Nat} (hx : rp_k x) : x = 100 * (x / 100) + 10 * (x / 10 % 10) + x % 10 ∧ x / 10 % 10 ≤ 9 ∧ x % 10 ≤ 6 ∧ x / 100 ≤ 5 := by
  unfold rp_k at hx
  omega
theorem rp_f_lt {x y : Nat} (hx : rp_k x) (hy : rp_k y) : rp_f x < rp_f y ↔ x < y := by
  unfold rp_f
  obtain ⟨a1, a2, a3, a4⟩ := rp_dec hx
  obtain ⟨b1, b2, b3, b4⟩ := rp_dec hy
  generalize x / 100 = a at *
  generalize x / 10 % 10 = b at *
  generalize x % 10 = c at *
  generalize y / 100 = a' at *
  generalize y / 10 % 10 = b' at *
  generalize y % 10 = c' at *
  omega
theorem rp_f_eq {x y : Nat} (hx : rp_k x) (hy : rp_k y) : rp_f x = rp_f y ↔ x = y := by
  unfold rp_f; unfold rp_k at hx hy
  omega
theorem rp_f_dig {x : Nat} (hx : rp_k x) : rp_f x / 7 / 10 = x / 100 ∧ rp_f x / 7 % 10 = x / 10 % 10 ∧ rp_f x % 7 = x % 10 ∧ rp_f x < 420 := by
  unfold rp_f; unfold rp_k at hx
  omega
def rp_ko : Option Nat → Prop
  | none => True
  | some k => rp_k k
theorem rp_a_f {key : Nat → Nat} {lst : Option Nat} (hk : ∀ m, rp_k (key m)) (hl : rp_ko lst) : ∀ n, rp_a (fun m => rp_f (key m)) (lst.map rp_f) n = (rp_a key lst n).map rp_f ∧ rp_ko (rp_a key lst n)
  | 0 => ⟨rfl, trivial⟩
  | n + 1 => by
    obtain ⟨h1, h2⟩ := rp_a_f hk hl n
    have g : rp_g (lst.map rp_f) (rp_f (key n)) = rp_g lst (key n) := by
      cases lst with
      | none => rfl
      | some l =>
        show decide (rp_f l < rp_f (key n)) = decide (l < key n)
        rw [decide_eq_decide]; exact rp_f_lt hl (hk n)
    have l : rp_l (rp_f (key n)) ((rp_a key lst n).map rp_f) = rp_l (key n) (rp_a key lst n) := by
      cases e : rp_a key lst n with
      | none => rfl
      | some l =>
        rw [e] at h2
        show decide (rp_f (key n) < rp_f l) = decide (key n < l)
        rw [decide_eq_decide]; exact rp_f_lt (hk n) h2
    unfold rp_a
    rw [h1, g, l]
    split
    · exact ⟨rfl, hk n⟩
    · exact ⟨rfl, h2⟩
theorem rp_s_f {key : Nat → Nat} {n : Nat} (hk : ∀ m, rp_k (key m)) : ∀ i, rp_s (fun m => rp_f (key m)) n i = (rp_s key n i).map rp_f ∧ rp_ko (rp_s key n i)
  | 0 => ⟨rfl, trivial⟩
  | i + 1 => by
    obtain ⟨h1, h2⟩ := rp_s_f (n := n) hk i
    unfold rp_s
    rw [h1]
    exact rp_a_f hk h2 n
/-- a ROW's MATTERS and their one PERSON -/
def rp_n (key : Nat → Nat) (K : Nat) : Nat → Nat
  | 0 => 0
  | m + 1 => if key m = K then rp_n key K m + 1 else rp_n key K m
def rp_p (key : Nat → Nat) (per : Nat → Int32) (K : Nat) : Nat → Int32
  | 0 => 0
  | m + 1 => if key m = K then (if rp_n key K m = 0 ∨ rp_p key per K m = per m then per m else -1) else rp_p key per K m
theorem rp_n_le {key : Nat → Nat} {K : Nat} : ∀ n, rp_n key K n ≤ n
  | 0 => Nat.le_refl _
  | n + 1 => by
    have := rp_n_le (key := key) (K := K) n
    unfold rp_n; split <;> omega
theorem rp_n_pos {key : Nat → Nat} {K m : Nat} (h : key m = K) : ∀ n, m < n → 0 < rp_n key K n
  | 0, hm => absurd hm (Nat.not_lt_zero m)
  | n + 1, hm => by
    unfold rp_n
    by_cases e : m = n
    · subst e; rw [if_pos h]; omega
    · have := rp_n_pos h n (by omega)
      split <;> omega
theorem rp_p_ok {key : Nat → Nat} {per : Nat → Int32} {K : Nat} : ∀ n, 0 < rp_n key K n → rp_p key per K n = -1 ∨ ∃ m, m < n ∧ rp_p key per K n = per m
  | 0, h => absurd h (Nat.lt_irrefl 0)
  | n + 1, h => by
    unfold rp_n at h
    unfold rp_p
    by_cases e : key n = K
    · rw [if_pos e]
      split
      · exact Or.inr ⟨n, by omega, rfl⟩
      · exact Or.inl rfl
    · rw [if_neg e] at h
      rw [if_neg e]
      rcases rp_p_ok n h with z | ⟨m, z1, z2⟩
      · exact Or.inl z
      · exact Or.inr ⟨m, by omega, z2⟩
theorem rp_n_f {key : Nat → Nat} {K : Nat} (hk : ∀ m, rp_k (key m)) (hK : rp_k K) : ∀ n, rp_n (fun m => rp_f (key m)) (rp_f K) n = rp_n key K n
  | 0 => rfl
  | n + 1 => by
    have ih := rp_n_f hk hK n
    unfold rp_n
    rw [ih]
    by_cases e : key n = K
    · rw [if_pos e, if_pos (by rw [e])]
    · rw [if_neg e, if_neg (fun z => e ((rp_f_eq (hk n) hK).mp z))]
theorem rp_p_f {key : Nat → Nat} {per : Nat → Int32} {K : Nat} (hk : ∀ m, rp_k (key m)) (hK : rp_k K) : ∀ n, rp_p (fun m => rp_f (key m)) per (rp_f K) n = rp_p key per K n
  | 0 => rfl
  | n + 1 => by
    have ih := rp_p_f (per := per) hk hK n
    unfold rp_p
    rw [ih, rp_n_f hk hK]
    by_cases e : key n = K
    · rw [if_pos e, if_pos (by rw [e])]
    · rw [if_neg e, if_neg (fun z => e ((rp_f_eq (hk n) hK).mp z))]
/-- hidden ROWS -/
def rp_hc (hd : Nat → Bool) : Nat → Nat
  | 0 => 0
  | i + 1 => rp_hc hd i + if hd i then 1 else 0
def rp_lt (cn : Nat → Nat) (i : Nat) : Option Nat → Bool
  | none => true
  | some j => decide (cn i < cn j)
def rp_sm (hd : Nat → Bool) (cn : Nat → Nat) : Nat → Option Nat
  | 0 => none
  | i + 1 => if !hd i && rp_lt cn i (rp_sm hd cn i) then some i else rp_sm hd cn i
theorem rp_hc_le {hd : Nat → Bool} : ∀ n, rp_hc hd n ≤ n
  | 0 => Nat.le_refl _
  | n + 1 => by
    have := rp_hc_le (hd := hd) n
    unfold rp_hc; split <;> omega
theorem rp_sm_lt {hd : Nat → Bool} {cn : Nat → Nat} {j : Nat} : ∀ n, rp_sm hd cn n = some j → j < n
  | 0, h => absurd h (by unfold rp_sm; simp)
  | n + 1, h => by
    unfold rp_sm at h
    split at h
    · have : n = j := Option.some.inj h
      omega
    · have := rp_sm_lt n h
      omega
def rp_h (hd : Nat → Bool) (cn : Nat → Nat) (R i : Nat) : Bool := hd i || (decide (rp_hc hd R = 1) && decide (rp_sm hd cn R = some i))
