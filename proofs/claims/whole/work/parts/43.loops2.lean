section PVP
variable {G : pm_G} {d mi : Nat} {Q : pm_Q} {pc cn sn : Nat} {st : List Value} {S : pm_S}
/-- a counted loop that writes nothing, with what holds at its head -/
theorem pv_loopP (I : Nat → List Value) (P : Nat → Prop) (n : Nat) (h0 : P 0) (hs : ∀ i, i < n → P i → (P (i + 1) → pm_W G d mi Q pc (I (i + 1)) st S cn sn) → pm_W G d mi Q pc (I i) st S cn sn) (hx : P n → pm_W G d mi Q pc (I n) st S cn sn) : pm_W G d mi Q pc (I 0) st S cn sn := by
  have : ∀ k i, i + k = n → P i → pm_W G d mi Q pc (I i) st S cn sn := by
    intro k
    induction k with
    | zero => intro i hi hp; have : i = n := by omega
              subst this; exact hx hp
    | succ k ih => intro i hi hp; exact hs i (by omega) hp (fun hp' => ih (i + 1) (by omega) hp')
  exact this n 0 (by omega) h0
/-- a counted loop that writes -/
theorem pv_loopS (I : Nat → List Value) (SS : Nat → pm_S) (n : Nat) (hs : ∀ i, i < n → pm_W G d mi Q pc (I (i + 1)) st (SS (i + 1)) cn sn → pm_W G d mi Q pc (I i) st (SS i) cn sn) (hx : pm_W G d mi Q pc (I n) st (SS n) cn sn) : pm_W G d mi Q pc (I 0) st (SS 0) cn sn :=
  pv_loop I SS n hs hx 0 (Nat.zero_le _)
end PVP
theorem iv_cn {S : pm_S} {f : Nat} (h : 0 ≤ pm_i S 59 f) : pm_i S 59 f = nI (iv_c S f) := iv_nn h
theorem iv_cb {S : pm_S} {f n : Nat} (z : Int32) (h : pm_i S 59 f ≤ z) (hz : z.toInt ≤ n) : iv_c S f ≤ n := iv_le z h hz
/-- some of the first n is v -/
def pv_ex (F : Nat → Int32) (n : Nat) (v : Int32) : Prop := ∃ k, k < n ∧ F k = v
theorem pv_ex_0 {F : Nat → Int32} {v : Int32} : ¬ pv_ex F 0 v := fun ⟨k, hk, _⟩ => absurd hk (Nat.not_lt_zero k)
theorem pv_ex_s {F : Nat → Int32} {n : Nat} {v : Int32} (h : ¬ pv_ex F n v) (h1 : ¬ F n = v) : ¬ pv_ex F (n + 1) v := fun ⟨k, hk, e⟩ => by
  by_cases hkn : k = n
  · subst hkn; exact h1 e
  · exact h ⟨k, by omega, e⟩
