/-! habit: numbers -/
def nL (n : Nat) : Int64 := Int64.ofNat n
theorem nL_toInt {n : Nat} (h : n < 2 ^ 63) : (nL n).toInt = (n : Int) := by
  unfold nL
  exact Int64.toInt_ofNat_of_lt h
theorem nL_of {x : Int64} {n : Nat} (hn : n < 2 ^ 63) (h : x.toInt = (n : Int)) : x = nL n := Int64.toInt_inj.mp (by rw [h, nL_toInt hn])
theorem nL_0 : nL 0 = 0 := rfl
theorem nI64 {n : Nat} (h : n < 2 ^ 31) : (nI n).toInt64 = nL n := nL_of (by omega) (by rw [Int32.toInt_toInt64, nI_toInt h])
theorem nL_mul {a b : Nat} (h : a * b < 2 ^ 63) (ha : a < 2 ^ 63) (hb : b < 2 ^ 63) : nL a * nL b = nL (a * b) := by
  apply nL_of h
  rw [Int64.toInt_mul, nL_toInt ha, nL_toInt hb]
  rw [show (a : Int) * (b : Int) = ((a * b : Nat) : Int) from (Int.natCast_mul a b).symm]
  exact Int.bmod_eq_of_le (by omega) (by omega)
theorem nL_add {a b : Nat} (h : a + b < 2 ^ 63) : nL a + nL b = nL (a + b) := by
  apply nL_of h
  rw [Int64.toInt_add, nL_toInt (by omega), nL_toInt (by omega)]
  rw [Int.bmod_eq_of_le (by omega) (by omega)]
  omega
theorem nL_div {a b : Nat} (ha : a < 2 ^ 63) (hb : b < 2 ^ 63) : nL a / nL b = nL (a / b) := by
  have h2 : a / b ≤ a := Nat.div_le_self a b
  apply nL_of (by omega)
  rw [Int64.toInt_div, nL_toInt ha, nL_toInt hb]
  rw [show Int.tdiv (a : Int) (b : Int) = ((a / b : Nat) : Int) from (Int.ofNat_tdiv a b).symm]
  generalize a / b = c at h2 ⊢
  exact Int.bmod_eq_of_le (by omega) (by omega)
theorem nL_rem {a b : Nat} (ha : a < 2 ^ 63) (hb : b < 2 ^ 63) : nL a - nL a / nL b * nL b = nL (a % b) := by
  have h0 : b * (a / b) ≤ a := Nat.mul_div_le a b
  have h1 : a / b * b ≤ a := by rw [Nat.mul_comm]; exact h0
  have h2 : a / b ≤ a := Nat.div_le_self a b
  have h3 : a % b = a - a / b * b := by rw [Nat.mul_comm, Nat.mod_def]
  rw [nL_div ha hb, nL_mul (by omega) (by omega) hb]
  apply nL_of (by omega)
  rw [Int64.toInt_sub, nL_toInt ha, nL_toInt (by omega)]
  rw [Int.bmod_eq_of_le (by omega) (by omega)]
  omega
theorem nL_eq0 {a : Nat} (ha : a < 2 ^ 63) : nL a = 0 ↔ a = 0 := by
  constructor
  · intro h
    have := nL_toInt ha
    rw [h, show (0 : Int64).toInt = 0 from rfl] at this
    omega
  · intro h; rw [h]; rfl
theorem nL_lt {a b : Nat} (ha : a < 2 ^ 63) (hb : b < 2 ^ 63) : nL a < nL b ↔ a < b := by
  rw [Int64.lt_iff_toInt_lt, nL_toInt ha, nL_toInt hb]; omega
def eu : Nat → Nat → Nat → Option Nat
  | 0, x, y => if y = 0 then some x else none
  | f + 1, x, y => if y = 0 then some x else eu f y (x % y)
theorem eu_ok : ∀ n x y B, y < 2 ^ n → x ≤ B → y ≤ B → 0 < x + y → ∃ g, eu (2 * n) x y = some g ∧ 0 < g ∧ g ≤ B
  | 0, x, y, B, h, hx, hy, hp => by
    have : y = 0 := by omega
    subst this
    exact ⟨x, rfl, by omega, hx⟩
  | n + 1, x, y, B, h, hx, hy, hp => by
    show ∃ g, eu (2 * n + 1 + 1) x y = some g ∧ 0 < g ∧ g ≤ B
    by_cases y0 : y = 0
    · exact ⟨x, by unfold eu; rw [if_pos y0], by omega, hx⟩
    · have e1 : eu (2 * n + 1 + 1) x y = eu (2 * n + 1) y (x % y) := by
        show (if y = 0 then some x else eu (2 * n + 1) y (x % y)) = _
        rw [if_neg y0]
      rw [e1]
      have hlt : x % y < y := Nat.mod_lt _ (by omega)
      by_cases z0 : x % y = 0
      · refine ⟨y, ?_, by omega, hy⟩
        show (if x % y = 0 then some y else eu (2 * n) (x % y) (y % (x % y))) = _
        rw [if_pos z0]
      · have e2 : eu (2 * n + 1) y (x % y) = eu (2 * n) (x % y) (y % (x % y)) := by
          show (if x % y = 0 then some y else eu (2 * n) (x % y) (y % (x % y))) = _
          rw [if_neg z0]
        rw [e2]
        have hm : y % (x % y) < x % y := Nat.mod_lt _ (by omega)
        have hq : y % (x % y) + (x % y) ≤ y := by
          have h1 := Nat.div_add_mod y (x % y)
          have h2 : 1 ≤ y / (x % y) := (Nat.one_le_div_iff (by omega)).mpr (by omega)
          have h3 : (x % y) * 1 ≤ (x % y) * (y / (x % y)) := Nat.mul_le_mul_left _ h2
          omega
        have hpow : 2 ^ (n + 1) = 2 * 2 ^ n := by rw [Nat.pow_succ, Nat.mul_comm]
        exact eu_ok n (x % y) (y % (x % y)) B (by omega) (by omega) (by omega) (by omega)
theorem hb_num : ∀ o : Nat, o < 6 → ∀ s : Nat, s < 55 → 0 < o → 60 * s / o = 60 / o * s := by decide
