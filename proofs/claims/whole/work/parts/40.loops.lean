/-! LOOPS of the pure machine -/
/-- locals that are told less -/
def pv_le : List Value → List Value → Prop
  | [], _ => True
  | a :: l, [] => pm_unk a = true ∧ pv_le l []
  | a :: l, b :: m => (pm_unk a = true ∨ a = b) ∧ pv_le l m
theorem pv_le_get : ∀ (l m : List Value), pv_le l m → ∀ (i : Nat) (v : Value), l[i]? = some v → pm_unk v = false → m[i]? = some v
  | [], _, _, i, v, h, _ => by simp at h
  | a :: l, [], h, i, v, hv, hu => by
    cases i with
    | zero => cases hv; rw [h.1] at hu; cases hu
    | succ i =>
      have := pv_le_get l [] h.2 i v (by simpa using hv) hu
      simp at this
  | a :: l, b :: m, h, i, v, hv, hu => by
    cases i with
    | zero =>
      cases hv
      rcases h.1 with h1 | h1
      · rw [h1] at hu; cases hu
      · rw [h1]; rfl
    | succ i =>
      have := pv_le_get l m h.2 i v (by simpa using hv) hu
      simpa using this
section PVL
variable {G : pm_G} {d mi : Nat} {Q : pm_Q} {pc cn sn : Nat} {st : List Value} {S : pm_S}
theorem pv_W {ls ls' : List Value} (h : pm_W G d mi Q pc ls' st S cn sn) (hle : pv_le ls' ls) : pm_W G d mi Q pc ls st S cn sn := by
  intro R P e s m args below meth co Z H locs la hM hR hS hL hcn hsn
  exact h R P e s m args below meth co Z H locs la hM hR hS ⟨hL.1, hL.2.1, fun i v hi hu => hL.2.2 i v (pv_le_get _ _ hle i v hi hu) hu⟩ hcn hsn
/-- a counted loop: from the i-th state to the n-th -/
theorem pv_loop (I : Nat → List Value) (SS : Nat → pm_S) (n : Nat) (hs : ∀ i, i < n → pm_W G d mi Q pc (I (i + 1)) st (SS (i + 1)) cn sn → pm_W G d mi Q pc (I i) st (SS i) cn sn) (hx : pm_W G d mi Q pc (I n) st (SS n) cn sn) : ∀ i, i ≤ n → pm_W G d mi Q pc (I i) st (SS i) cn sn := by
  intro i hi
  obtain ⟨k, rfl⟩ := Nat.le.dest hi
  clear hi
  induction k generalizing i with
  | zero => exact hx
  | succ k ih =>
    have e : i + (k + 1) = i + 1 + k := by omega
    refine hs i (by omega) ?_
    exact ih (i + 1) (by rw [← e]; exact hs) (by rw [← e]; exact hx)
/-- the same where nothing is written -/
theorem pv_loopR (I : Nat → List Value) (n : Nat) (hs : ∀ i, i < n → pm_W G d mi Q pc (I (i + 1)) st S cn sn → pm_W G d mi Q pc (I i) st S cn sn) (hx : pm_W G d mi Q pc (I n) st S cn sn) : pm_W G d mi Q pc (I 0) st S cn sn :=
  pv_loop I (fun _ => S) n hs hx 0 (Nat.zero_le _)
/-- a loop with a measure and what holds at its head -/
theorem pv_while {σ : Type} (I : σ → List Value) (SS : σ → pm_S) (P : σ → Prop) (μ : σ → Nat) (hs : ∀ x, P x → (∀ y, P y → μ y < μ x → pm_W G d mi Q pc (I y) st (SS y) cn sn) → pm_W G d mi Q pc (I x) st (SS x) cn sn) (x : σ) (hx : P x) : pm_W G d mi Q pc (I x) st (SS x) cn sn := by
  have : ∀ k x, P x → μ x < k → pm_W G d mi Q pc (I x) st (SS x) cn sn := by
    intro k
    induction k with
    | zero => intro x _ h; omega
    | succ k ih => intro x hp h; exact hs x hp (fun y hy hlt => ih y hy (by omega))
  exact this (μ x + 1) x hx (Nat.lt_succ_self _)
end PVL
theorem pv_vl {i N : Nat} (h : i < N) (hN : N < 2 ^ 31) : vp_in (nI i) N := vp_in_nI h hN
/-- how many of the first n keep c -/
def pv_cnt (c : Nat → Bool) : Nat → Nat
  | 0 => 0
  | n + 1 => pv_cnt c n + (if c n then 1 else 0)
theorem pv_cnt_le (c : Nat → Bool) : ∀ n, pv_cnt c n ≤ n
  | 0 => Nat.le_refl _
  | n + 1 => by have := pv_cnt_le c n; unfold pv_cnt; split <;> omega
/-- FEASTS behind a DAY till a DAY -/
def wd_in (f : Nat → Int32) (b t : Int32) (n : Nat) : Nat := pv_cnt (fun k => decide (¬ f k ≤ b ∧ ¬ t < f k)) n
