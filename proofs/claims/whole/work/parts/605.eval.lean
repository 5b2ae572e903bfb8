/-! E judged -/
def gx_hv (t : Nat → Bool) (e : List Nat) : Bool := (gx_run t e []).headD true
/-- no step of an E finds too few answers -/
def gx_fit (t : Nat → Bool) : List Nat → List Bool → Prop
  | [], _ => True
  | x :: l, st => ((x % 16 = 8 → 1 ≤ st.length) ∧ (x % 16 = 9 ∨ x % 16 = 10 → 2 ≤ st.length)) ∧ gx_fit t l (gx_s1 t x st)
theorem gx_fit_app (t : Nat → Bool) : ∀ (l m : List Nat) (st : List Bool), gx_fit t (l ++ m) st ↔ gx_fit t l st ∧ gx_fit t m (gx_run t l st)
  | [], m, st => ⟨fun h => ⟨trivial, h⟩, fun h => h.2⟩
  | x :: l, m, st => by
    have ih := gx_fit_app t l m (gx_s1 t x st)
    exact ⟨fun h => ⟨⟨h.1, (ih.mp h.2).1⟩, (ih.mp h.2).2⟩, fun h => ⟨h.1.1, ih.mpr ⟨h.1.2, h.2⟩⟩⟩
def gx_ev (t : Nat → Bool) (s : List Nat) (N : Nat) : Prop := (∀ st, gx_run t s st = gx_hv t s :: st) ∧ (∀ st i, (gx_run t (s.take i) st).length ≤ st.length + N) ∧ ∀ st, gx_fit t s st
theorem tk_app (m : List Nat) : ∀ (l : List Nat) (i : Nat), (l ++ m).take i = l.take i ++ m.take (i - l.length)
  | [], i => by simp
  | a :: l, 0 => by simp
  | a :: l, i + 1 => by simp [tk_app m l i]
theorem gx_s1_test {t : Nat → Bool} {x : Nat} {st : List Bool} (h : x % 16 < 8) : gx_s1 t x st = t x :: st := by
  unfold gx_s1
  split
  · omega
  · omega
  · omega
  · rfl
theorem ev_one {t : Nat → Bool} {x : Nat} (h : x % 16 < 8) : gx_hv t [x] = t x ∧ gx_ev t [x] 1 := by
  have e : ∀ st, gx_run t [x] st = t x :: st := fun st => by
    show gx_run t [] (gx_s1 t x st) = _
    rw [gx_s1_test h]; rfl
  have hv : gx_hv t [x] = t x := by unfold gx_hv; rw [e]; rfl
  refine ⟨hv, fun st => by rw [e, hv], fun st i => ?_, fun st => ⟨⟨fun z => absurd z (by omega), fun z => by omega⟩, trivial⟩⟩
  cases i with
  | zero => simp [gx_run]
  | succ i =>
    rw [show [x].take (i + 1) = [x] from by simp, e]
    simp
theorem ev_mono {t : Nat → Bool} {s : List Nat} {N M : Nat} (h : gx_ev t s N) (hNM : N ≤ M) : gx_ev t s M := ⟨h.1, fun st i => Nat.le_trans (h.2.1 st i) (by omega), h.2.2⟩
theorem ev_len {t : Nat → Bool} {s : List Nat} {N : Nat} (h : gx_ev t s N) : 1 ≤ N := by
  have := h.2.1 [] s.length
  rw [List.take_length, h.1] at this
  simpa using this
theorem ev_not {t : Nat → Bool} {s : List Nat} {N : Nat} (h : gx_ev t s N) : gx_hv t (s ++ [8]) = !gx_hv t s ∧ gx_ev t (s ++ [8]) N := by
  have e : ∀ st, gx_run t (s ++ [8]) st = (!gx_hv t s) :: st := fun st => by
    rw [gx_run_app, h.1]; rfl
  have hv : gx_hv t (s ++ [8]) = !gx_hv t s := by unfold gx_hv; rw [e]; rfl
  refine ⟨hv, fun st => by rw [e, hv], fun st i => ?_, fun st => (gx_fit_app t _ _ st).mpr ⟨h.2.2 st, by rw [h.1]; exact ⟨⟨fun _ => by simp, fun z => absurd z (by decide)⟩, trivial⟩⟩⟩
  have h1 := ev_len h
  rw [tk_app, gx_run_app]
  by_cases hi : i ≤ s.length
  · rw [show i - s.length = 0 by omega]
    exact h.2.1 st i
  · rw [List.take_of_length_le (l := s) (by omega), show ([8] : List Nat).take (i - s.length) = [8] from List.take_of_length_le (by simp; omega), h.1]
    show ((!gx_hv t s) :: st).length ≤ _
    simp; omega
theorem ev_two {t : Nat → Bool} {s r : List Nat} {N M k : Nat} {f : Bool → Bool → Bool} (hk : ∀ a b st, gx_s1 t k (a :: b :: st) = f b a :: st) (h : gx_ev t s N) (h' : gx_ev t r M) (hNM : M + 1 ≤ N) : gx_hv t (s ++ (r ++ [k])) = f (gx_hv t s) (gx_hv t r) ∧ gx_ev t (s ++ (r ++ [k])) N := by
  have e0 : ∀ st, gx_run t (r ++ [k]) (gx_hv t s :: st) = f (gx_hv t s) (gx_hv t r) :: st := fun st => by
    rw [gx_run_app, h'.1]
    show gx_run t [] (gx_s1 t k _) = _
    rw [hk]; rfl
  have e : ∀ st, gx_run t (s ++ (r ++ [k])) st = f (gx_hv t s) (gx_hv t r) :: st := fun st => by
    rw [gx_run_app, h.1, e0]
  have hv : gx_hv t (s ++ (r ++ [k])) = f (gx_hv t s) (gx_hv t r) := by unfold gx_hv; rw [e]; rfl
  refine ⟨hv, fun st => by rw [e, hv], fun st i => ?_, fun st => (gx_fit_app t _ _ st).mpr ⟨h.2.2 st, by rw [h.1]; exact (gx_fit_app t _ _ _).mpr ⟨h'.2.2 _, by rw [h'.1]; exact ⟨⟨fun _ => by simp, fun _ => by simp⟩, trivial⟩⟩⟩⟩
  have h1 := ev_len h'
  rw [tk_app, gx_run_app]
  by_cases hi : i ≤ s.length
  · rw [show i - s.length = 0 by omega]
    exact h.2.1 st i
  · rw [List.take_of_length_le (l := s) (by omega), h.1, tk_app, gx_run_app]
    by_cases hj : i - s.length ≤ r.length
    · rw [show i - s.length - r.length = 0 by omega]
      have := h'.2.1 (gx_hv t s :: st) (i - s.length)
      simp only [List.length_cons] at this
      show (gx_run t (r.take (i - s.length)) _).length ≤ _
      omega
    · rw [List.take_of_length_le (l := r) (by omega), show ([k] : List Nat).take (i - s.length - r.length) = [k] from List.take_of_length_le (by simp; omega), ← gx_run_app, e0]
      simp; omega
theorem ev_and {t : Nat → Bool} {s r : List Nat} {N M : Nat} (h : gx_ev t s N) (h' : gx_ev t r M) (hNM : M + 1 ≤ N) : gx_hv t (s ++ (r ++ [9])) = (gx_hv t s && gx_hv t r) ∧ gx_ev t (s ++ (r ++ [9])) N := ev_two (k := 9) (f := fun a b => a && b) (fun _ _ _ => rfl) h h' hNM
theorem ev_or {t : Nat → Bool} {s r : List Nat} {N M : Nat} (h : gx_ev t s N) (h' : gx_ev t r M) (hNM : M + 1 ≤ N) : gx_hv t (s ++ (r ++ [10])) = (gx_hv t s || gx_hv t r) ∧ gx_ev t (s ++ (r ++ [10])) N := ev_two (k := 10) (f := fun a b => a || b) (fun _ _ _ => rfl) h h' hNM
theorem gx_st_mod {k s m : Nat} (hk : k < 16) : gx_st k s m % 16 = k := by unfold gx_st; omega
theorem gx_cmp_one {B : Nat → Nat} {k s most p q : Nat} {e : List Nat} (hk : k < 7) (h : gx_cmp B k s most p = (q, some e)) : ∃ x, e = [x] ∧ x % 16 < 8 := by
  unfold gx_cmp at h
  split at h
  · rcases gx_two (gx_num B 0 most (p + 1)) with ⟨q', e'⟩ | ⟨q', v, e'⟩
    · rw [gx_bd_none e'] at h; cases h
    · rw [gx_bd_some e'] at h; cases h; exact ⟨_, rfl, by rw [gx_st_mod (by omega)]; omega⟩
  · split at h
    · rcases gx_two (gx_num B 0 most (p + 1)) with ⟨q', e'⟩ | ⟨q', v, e'⟩
      · rw [gx_bd_none e'] at h; cases h
      · rw [gx_bd_some e'] at h; cases h; exact ⟨_, rfl, by rw [gx_st_mod (by omega)]; omega⟩
    · cases h
theorem gx_test_one {B : Nat → Nat} {p q : Nat} {e : List Nat} (h : gx_test B p = (q, some e)) : ∃ x, e = [x] ∧ x % 16 < 8 := by
  unfold gx_test at h
  split at h
  · rcases gx_two (gx_num B 0 1 (p + 1)) with ⟨q', e'⟩ | ⟨q', v, e'⟩
    · rw [gx_bd_none e'] at h; cases h
    · rw [gx_bd_some e'] at h; cases h; exact ⟨_, rfl, by rw [gx_st_mod (by omega)]; omega⟩
  · split at h
    · rcases gx_two (gx_num B 1 1 (p + 1)) with ⟨q', e'⟩ | ⟨q', v, e'⟩
      · rw [gx_bd_none e'] at h; cases h
      · rw [gx_bd_some e'] at h; cases h; exact ⟨_, rfl, by rw [gx_st_mod (by omega)]; omega⟩
    · split at h
      · rcases gx_two (gx_num B 1 1 (p + 1)) with ⟨q', e'⟩ | ⟨q', v, e'⟩
        · rw [gx_bd_none e'] at h; cases h
        · rw [gx_bd_some e'] at h; exact gx_cmp_one (by omega) h
      · split at h
        · exact gx_cmp_one (by omega) h
        · split at h
          · exact gx_cmp_one (by omega) h
          · cases h
section EVG
variable {t : Nat → Bool} {F : Nat → gx_R (List Nat)} {B : Nat → Nat} {N : Nat}
theorem ev_T (hF : ∀ p q s, F p = (q, some s) → gx_ev t s N) : ∀ (g : Nat) (s : List Nat) (p q : Nat) (s' : List Nat), gx_ev t s (N + 1) → gx_T F B g s p = (q, some s') → gx_ev t s' (N + 1)
  | 0, s, p, q, s', h, e => by cases e; exact h
  | g + 1, s, p, q, s', h, e => by
    unfold gx_T at e
    split at e
    · rcases gx_two (F (p + 1)) with ⟨x, ex⟩ | ⟨x, r, ex⟩
      · rw [gx_bd_none ex] at e; cases e
      · rw [gx_bd_some ex] at e
        exact ev_T hF g _ x q s' (ev_and h (hF _ _ _ ex) (Nat.le_refl _)).2 e
    · cases e; exact h
theorem ev_TT (hF : ∀ p q s, F p = (q, some s) → gx_ev t s N) {g p q : Nat} {s : List Nat} (e : gx_TT F B g p = (q, some s)) : gx_ev t s (N + 1) := by
  unfold gx_TT at e
  rcases gx_two (F p) with ⟨x, ex⟩ | ⟨x, r, ex⟩
  · rw [gx_bd_none ex] at e; cases e
  · rw [gx_bd_some ex] at e
    exact ev_T hF g _ x q s (ev_mono (hF _ _ _ ex) (by omega)) e
theorem ev_E (hF : ∀ p q s, F p = (q, some s) → gx_ev t s N) (g0 : Nat) : ∀ (g : Nat) (s : List Nat) (p q : Nat) (s' : List Nat), gx_ev t s (N + 2) → gx_E F B g0 g s p = (q, some s') → gx_ev t s' (N + 2)
  | 0, s, p, q, s', h, e => by cases e; exact h
  | g + 1, s, p, q, s', h, e => by
    unfold gx_E at e
    split at e
    · rcases gx_two (gx_TT F B g0 (p + 1)) with ⟨x, ex⟩ | ⟨x, r, ex⟩
      · rw [gx_bd_none ex] at e; cases e
      · rw [gx_bd_some ex] at e
        exact ev_E hF g0 g _ x q s' (ev_or h (ev_TT hF ex) (by omega)).2 e
    · cases e; exact h
theorem ev_EE (hF : ∀ p q s, F p = (q, some s) → gx_ev t s N) {g p q : Nat} {s : List Nat} (e : gx_EE F B g p = (q, some s)) : gx_ev t s (N + 2) := by
  unfold gx_EE at e
  rcases gx_two (gx_TT F B g p) with ⟨x, ex⟩ | ⟨x, r, ex⟩
  · rw [gx_bd_none ex] at e; cases e
  · rw [gx_bd_some ex] at e
    exact ev_E hF g g _ x q s (ev_mono (ev_TT hF ex) (by omega)) e
theorem ev_F (g : Nat) : ∀ (k p q : Nat) (s : List Nat), gx_F B g k p = (q, some s) → gx_ev t s (2 * k + 1)
  | 0, p, q, s, e => by
    obtain ⟨x, rfl, hx⟩ := gx_test_one e
    exact (ev_one hx).2
  | k + 1, p, q, s, e => by
    unfold gx_F at e
    split at e
    · rcases gx_two (gx_F B g k (p + 1)) with ⟨x, ex⟩ | ⟨x, r, ex⟩
      · rw [gx_bd_none ex] at e; cases e
      · rw [gx_bd_some ex] at e
        cases e
        exact ev_mono (ev_not (ev_F g k _ _ _ ex)).2 (by omega)
    · split at e
      · rcases gx_two (gx_EE (gx_F B g k) B g (p + 1)) with ⟨x, ex⟩ | ⟨x, r, ex⟩
        · rw [gx_bd_none ex] at e; cases e
        · rw [gx_bd_some ex] at e
          split at e
          · cases e
            exact ev_mono (ev_EE (fun p q s h => ev_F g k p q s h) ex) (by omega)
          · cases e
      · obtain ⟨x, rfl, hx⟩ := gx_test_one e
        exact ev_mono (ev_one hx).2 (by omega)
theorem ev_e {p q : Nat} {s : List Nat} (e : gx_e B p = (q, some s)) : gx_ev t s 15 := ev_EE (N := 13) (fun p q s h => ev_F 160 6 p q s h) e
end EVG
/-! tests of a MATTER on a DAY, by the model's rows -/
def fa_f (S : pm_S) (m : Nat) (s k : Int32) : Option Nat := ac_f (ac_m (pm_i S 75) (nI m) (ac_c (pm_i S 76) (pm_i S 79) s k)) (ac_bt (pm_i S 77) false) (List.range (iv_c S 24)) none
def fa_l (S : pm_S) (m : Nat) (s k : Int32) : Option Nat := ac_f (ac_m (pm_i S 75) (nI m) (ac_c (pm_i S 76) (pm_i S 79) s k)) (ac_bt (pm_i S 77) true) (List.range (iv_c S 24)) none
def tv_w (S : pm_S) (a : Option Nat) (below : Bool) (n : Int32) : Bool := match a with
  | none => false
  | some a => if below then decide (pm_i S 78 a < n) else decide (n < pm_i S 78 a)
def tv (S : pm_S) (m : Nat) (k : Int32) (x : Nat) : Bool :=
  if x % 16 = 0 then decide (pm_i S 65 m = nI (x / 256))
  else if x % 16 = 1 then (fa_f S m (nI (x / 16 % 16)) k).isSome
  else if x % 16 = 2 then tv_w S (fa_l S m (nI (x / 16 % 16)) k) true (nI (x / 256))
  else if x % 16 = 4 then decide (pm_i S 67 m < nI (x / 256))
  else if x % 16 = 5 then decide (nI (x / 256) < pm_i S 67 m)
  else if x % 16 = 6 then decide (k - pm_i S 66 m < nI (x / 256))
  else if x % 16 = 7 then decide (nI (x / 256) < k - pm_i S 66 m)
  else tv_w S (fa_l S m (nI (x / 16 % 16)) k) false (nI (x / 256))
theorem gx_st_s {k s m : Nat} (hk : k < 16) (hs : s < 16) : gx_st k s m / 16 % 16 = s ∧ gx_st k s m / 256 = m := by unfold gx_st; omega
theorem tv_me {S T : pm_S} (h : me S T) (m : Nat) (k : Int32) : tv T m k = tv S m k := by
  have e1 : ∀ s, fa_f T m s k = fa_f S m s k := fun s => by unfold fa_f; rw [h.row (p := 75) (by omega) (by omega), h.row (p := 76) (by omega) (by omega), h.row (p := 77) (by omega) (by omega), h.row (p := 79) (by omega) (by omega), h.c (f := 24) (by omega)]
  have e2 : ∀ s, fa_l T m s k = fa_l S m s k := fun s => by unfold fa_l; rw [h.row (p := 75) (by omega) (by omega), h.row (p := 76) (by omega) (by omega), h.row (p := 77) (by omega) (by omega), h.row (p := 79) (by omega) (by omega), h.c (f := 24) (by omega)]
  funext x
  unfold tv tv_w
  rw [e1, e2, h.row (p := 65) (by omega) (by omega), h.row (p := 67) (by omega) (by omega), h.row (p := 66) (by omega) (by omega), h.row (p := 78) (by omega) (by omega)]
/-- the tests that the model asks in a state -/
def tq (S : pm_S) (t : Nat → Bool) : Prop := (pm_i S 59 50 = -1 ∧ t = fun _ => false) ∨ ∃ m, m < iv_c S 18 ∧ pm_i S 59 50 = nI m ∧ t = tv S m (pm_i S 59 51)
