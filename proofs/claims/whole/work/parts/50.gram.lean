/-! the grammar goes on, and ends -/
theorem gx_bd_some {α β : Type} {r : gx_R α} {f : α → Nat → gx_R β} {p : Nat} {a : α} (h : r = (p, some a)) : gx_bd r f = f a p := by rw [h]; rfl
theorem gx_bd_none {α β : Type} {r : gx_R α} {f : α → Nat → gx_R β} {p : Nat} (h : r = (p, none)) : gx_bd r f = (p, none) := by rw [h]; rfl
theorem gx_bd_assoc {α β γ : Type} (r : gx_R α) (f : α → Nat → gx_R β) (g : β → Nat → gx_R γ) : gx_bd (gx_bd r f) g = gx_bd r (fun a p => gx_bd (f a p) g) := by
  obtain ⟨p, o⟩ := r
  cases o with
  | none => rfl
  | some a => rfl
theorem gx_two {α : Type} (r : gx_R α) : (∃ p, r = (p, none)) ∨ ∃ p a, r = (p, some a) := by
  obtain ⟨p, o⟩ := r
  cases o with
  | none => exact Or.inl ⟨p, rfl⟩
  | some a => exact Or.inr ⟨p, a, rfl⟩
theorem gx_b_end {f : Nat → Int32} {n i : Nat} (h : n ≤ i) : gx_b f n i = 256 := by unfold gx_b; rw [if_neg (by omega)]
section GXA
variable {B : Nat → Nat} {n : Nat}
theorem gx_lt (hB : ∀ i, n ≤ i → B i = 256) {p c : Nat} (h : B p = c) (hc : c < 256) : p < n := by
  by_cases h1 : p < n
  · exact h1
  · have := hB p (by omega); omega
theorem gx_nm_ok (hB : ∀ i, n ≤ i → B i = 256) : ∀ (k p v : Nat), p ≤ n → p ≤ (gx_nm B k p v).1 ∧ (gx_nm B k p v).1 ≤ n ∧ (gx_nm B k p v).2 + 1 ≤ (v + 1) * 10 ^ k
  | 0, p, v, h => ⟨Nat.le_refl _, h, by simp [gx_nm]⟩
  | k + 1, p, v, h => by
    unfold gx_nm
    by_cases hd : 48 ≤ B p ∧ B p ≤ 57
    · rw [if_pos hd]
      have hp : p < n := by
        by_cases h1 : p < n
        · exact h1
        · have := hB p (by omega); omega
      obtain ⟨h1, h2, h3⟩ := gx_nm_ok hB k (p + 1) (10 * v + (B p - 48)) (by omega)
      refine ⟨by omega, h2, Nat.le_trans h3 ?_⟩
      rw [Nat.pow_succ, Nat.mul_comm (10 ^ k) 10, ← Nat.mul_assoc]
      exact Nat.mul_le_mul_right _ (by omega)
    · rw [if_neg hd]
      refine ⟨Nat.le_refl _, h, ?_⟩
      have : 1 ≤ 10 ^ (k + 1) := Nat.one_le_pow _ _ (by omega)
      calc v + 1 = (v + 1) * 1 := by omega
        _ ≤ (v + 1) * 10 ^ (k + 1) := Nat.mul_le_mul_left _ this
theorem gx_num_ok (hB : ∀ i, n ≤ i → B i = 256) {least most p q v : Nat} (hm : 1 ≤ most) (h : gx_num B least most p = (q, some v)) : p < q ∧ q ≤ n ∧ v < 10 ^ most := by
  unfold gx_num at h
  by_cases hd : 48 + least ≤ B p ∧ B p ≤ 57
  · rw [if_pos hd] at h
    have hp : p < n := by
      by_cases h1 : p < n
      · exact h1
      · have := hB p (by omega); omega
    obtain ⟨h1, h2, h3⟩ := gx_nm_ok hB (most - 1) (p + 1) (B p - 48) (by omega)
    have e1 : (gx_nm B (most - 1) (p + 1) (B p - 48)).1 = q := congrArg Prod.fst h
    have e2 : (gx_nm B (most - 1) (p + 1) (B p - 48)).2 = v := Option.some.inj (congrArg Prod.snd h)
    rw [e1] at h1 h2
    rw [e2] at h3
    refine ⟨by omega, h2, ?_⟩
    have : (B p - 48 + 1) * 10 ^ (most - 1) ≤ 10 * 10 ^ (most - 1) := Nat.mul_le_mul_right _ (by omega)
    have e3 : 10 * 10 ^ (most - 1) = 10 ^ most := by
      rw [Nat.mul_comm, ← Nat.pow_succ]; congr 1; omega
    omega
  · rw [if_neg hd] at h; cases h
theorem gx_num_no {least most p q : Nat} (h : gx_num B least most p = (q, none)) : q = p := by
  unfold gx_num at h
  split at h
  · cases h
  · cases h; rfl
/-- what is read of an E, from p -/
def gx_ok (n p : Nat) (r : gx_R (List Nat)) : Prop := (∀ q, r = (q, none) → p ≤ q ∧ q ≤ n) ∧ ∀ q s, r = (q, some s) → p < q ∧ q ≤ n ∧ 1 ≤ s.length ∧ s.length + p ≤ q ∧ ∀ x, x ∈ s → x < 2 ^ 22
theorem gx_ok_no {p q : Nat} (h1 : p ≤ q) (h2 : q ≤ n) : gx_ok n p (q, none) := ⟨fun q' e => by cases e; exact ⟨h1, h2⟩, fun q' s e => by cases e⟩
theorem gx_ok_yes {p q : Nat} {s : List Nat} (h1 : p < q) (h2 : q ≤ n) (h3 : 1 ≤ s.length) (h4 : s.length + p ≤ q) (h5 : ∀ x, x ∈ s → x < 2 ^ 22) : gx_ok n p (q, some s) := ⟨fun q' e => (by cases e), fun q' s' e => (by cases e; exact ⟨h1, h2, h3, h4, h5⟩)⟩
theorem gx_ok_mono {p p' : Nat} {r : gx_R (List Nat)} (h : gx_ok n p' r) (hp : p ≤ p') : gx_ok n p r := ⟨fun q e => ⟨by have := h.1 q e; omega, (h.1 q e).2⟩, fun q s e => by obtain ⟨a, b, c, d, f⟩ := h.2 q s e; exact ⟨by omega, b, c, by omega, f⟩⟩
theorem gx_st_lt {k s m : Nat} (hk : k < 16) (hs : s < 16) (hm : m < 10000) : gx_st k s m < 2 ^ 22 := by unfold gx_st; omega
theorem gx_one_lt {k s m : Nat} (hk : k < 16) (hs : s < 16) (hm : m < 10000) : ∀ x, x ∈ [gx_st k s m] → x < 2 ^ 22 := fun x hx => by
  rw [List.mem_singleton.mp hx]; exact gx_st_lt hk hs hm
theorem gx_cmp_ok (hB : ∀ i, n ≤ i → B i = 256) {k s most p p0 : Nat} (hk : k < 15) (hs : s < 16) (hm : 1 ≤ most) (hm4 : most ≤ 4) (h0 : p0 < p) (hp : p ≤ n) : gx_ok n p0 (gx_cmp B k s most p) := by
  have hpow : 10 ^ most ≤ 10000 := by
    have : 10 ^ most ≤ 10 ^ 4 := Nat.pow_le_pow_right (by omega) hm4
    omega
  have one : ∀ k', k' < 16 → B p < 256 → gx_ok n p0 (gx_bd (gx_num B 0 most (p + 1)) (fun m q => (q, some [gx_st k' s m]))) := by
    intro k' hk' hb
    have hpn : p < n := gx_lt hB rfl hb
    rcases gx_two (gx_num B 0 most (p + 1)) with ⟨q, e⟩ | ⟨q, v, e⟩
    · rw [gx_bd_none e]; rw [gx_num_no e]; exact gx_ok_no (by omega) (by omega)
    · rw [gx_bd_some e]
      obtain ⟨a, b, c⟩ := gx_num_ok hB hm e
      exact gx_ok_yes (by omega) b (by simp) (by simp; omega) (gx_one_lt hk' hs (by omega))
  unfold gx_cmp
  by_cases h1 : B p = 60
  · rw [if_pos h1]; exact one k (by omega) (by omega)
  · rw [if_neg h1]
    by_cases h2 : B p = 62
    · rw [if_pos h2]; exact one (k + 1) (by omega) (by omega)
    · rw [if_neg h2]; exact gx_ok_no (by omega) hp
theorem gx_test_ok (hB : ∀ i, n ≤ i → B i = 256) {p : Nat} (hp : p ≤ n) : gx_ok n p (gx_test B p) := by
  unfold gx_test
  by_cases h1 : B p = 116
  · rw [if_pos h1]
    have hpn : p < n := gx_lt hB h1 (by omega)
    rcases gx_two (gx_num B 0 1 (p + 1)) with ⟨q, e⟩ | ⟨q, v, e⟩
    · rw [gx_bd_none e]; rw [gx_num_no e]; exact gx_ok_no (by omega) (by omega)
    · rw [gx_bd_some e]
      obtain ⟨a, b, c⟩ := gx_num_ok hB (by omega) e
      exact gx_ok_yes (by omega) b (by simp) (by simp; omega) (gx_one_lt (by omega) (by omega) (by omega))
  · rw [if_neg h1]
    by_cases h2 : B p = 97
    · rw [if_pos h2]
      have hpn : p < n := gx_lt hB h2 (by omega)
      rcases gx_two (gx_num B 1 1 (p + 1)) with ⟨q, e⟩ | ⟨q, v, e⟩
      · rw [gx_bd_none e]; rw [gx_num_no e]; exact gx_ok_no (by omega) (by omega)
      · rw [gx_bd_some e]
        obtain ⟨a, b, c⟩ := gx_num_ok hB (by omega) e
        exact gx_ok_yes (by omega) b (by simp) (by simp; omega) (gx_one_lt (by omega) (by omega) (by omega))
    · rw [if_neg h2]
      by_cases h3 : B p = 119
      · rw [if_pos h3]
        have hpn : p < n := gx_lt hB h3 (by omega)
        rcases gx_two (gx_num B 1 1 (p + 1)) with ⟨q, e⟩ | ⟨q, v, e⟩
        · rw [gx_bd_none e]; rw [gx_num_no e]; exact gx_ok_no (by omega) (by omega)
        · rw [gx_bd_some e]
          obtain ⟨a, b, c⟩ := gx_num_ok hB (by omega) e
          exact gx_cmp_ok hB (by omega) (by omega) (by omega) (by omega) (by omega) b
      · rw [if_neg h3]
        by_cases h4 : B p = 108
        · rw [if_pos h4]
          have hpn : p < n := gx_lt hB h4 (by omega)
          exact gx_cmp_ok hB (by omega) (by omega) (by omega) (by omega) (by omega) (by omega)
        · rw [if_neg h4]
          by_cases h5 : B p = 100
          · rw [if_pos h5]
            have hpn : p < n := gx_lt hB h5 (by omega)
            exact gx_cmp_ok hB (by omega) (by omega) (by omega) (by omega) (by omega) (by omega)
          · rw [if_neg h5]; exact gx_ok_no (Nat.le_refl _) hp
theorem gx_app_lt {s t : List Nat} {k : Nat} (h1 : ∀ x, x ∈ s → x < 2 ^ 22) (h2 : ∀ x, x ∈ t → x < 2 ^ 22) (hk : k < 2 ^ 22) : ∀ x, x ∈ s ++ (t ++ [k]) → x < 2 ^ 22 := fun x hx => by
  rcases List.mem_append.mp hx with hx | hx
  · exact h1 x hx
  · rcases List.mem_append.mp hx with hx | hx
    · exact h2 x hx
    · rw [List.mem_singleton.mp hx]; exact hk
theorem gx_T_ok (hB : ∀ i, n ≤ i → B i = 256) {F : Nat → gx_R (List Nat)} (hF : ∀ p, p ≤ n → gx_ok n p (F p)) : ∀ (g : Nat) (s : List Nat) (p p0 : Nat), p0 < p → p ≤ n → 1 ≤ s.length → s.length + p0 ≤ p → (∀ x, x ∈ s → x < 2 ^ 22) → gx_ok n p0 (gx_T F B g s p)
  | 0, s, p, p0, h1, h2, h3, h4, h5 => gx_ok_yes h1 h2 h3 h4 h5
  | g + 1, s, p, p0, h1, h2, h3, h4, h5 => by
    unfold gx_T
    by_cases hb : B p = 38
    · rw [if_pos hb]
      have hpn : p < n := gx_lt hB hb (by omega)
      have hF1 := hF (p + 1) (by omega)
      rcases gx_two (F (p + 1)) with ⟨q, e⟩ | ⟨q, t, e⟩
      · rw [gx_bd_none e]; have := hF1.1 q e; exact gx_ok_no (by omega) this.2
      · rw [gx_bd_some e]
        obtain ⟨a, b, c, d, f⟩ := hF1.2 q t e
        exact gx_T_ok hB hF g _ q p0 (by omega) b (by simp; omega) (by simp; omega) (gx_app_lt h5 f (by omega))
    · rw [if_neg hb]; exact gx_ok_yes h1 h2 h3 h4 h5
theorem gx_TT_ok (hB : ∀ i, n ≤ i → B i = 256) {F : Nat → gx_R (List Nat)} (hF : ∀ p, p ≤ n → gx_ok n p (F p)) (g : Nat) {p : Nat} (hp : p ≤ n) : gx_ok n p (gx_TT F B g p) := by
  unfold gx_TT
  have hF1 := hF p hp
  rcases gx_two (F p) with ⟨q, e⟩ | ⟨q, t, e⟩
  · rw [gx_bd_none e]; have := hF1.1 q e; exact gx_ok_no (by omega) this.2
  · rw [gx_bd_some e]
    obtain ⟨a, b, c, d, f⟩ := hF1.2 q t e
    exact gx_T_ok hB hF g t q p a b c d f
theorem gx_E_ok (hB : ∀ i, n ≤ i → B i = 256) {F : Nat → gx_R (List Nat)} (hF : ∀ p, p ≤ n → gx_ok n p (F p)) (g0 : Nat) : ∀ (g : Nat) (s : List Nat) (p p0 : Nat), p0 < p → p ≤ n → 1 ≤ s.length → s.length + p0 ≤ p → (∀ x, x ∈ s → x < 2 ^ 22) → gx_ok n p0 (gx_E F B g0 g s p)
  | 0, s, p, p0, h1, h2, h3, h4, h5 => gx_ok_yes h1 h2 h3 h4 h5
  | g + 1, s, p, p0, h1, h2, h3, h4, h5 => by
    unfold gx_E
    by_cases hb : B p = 124
    · rw [if_pos hb]
      have hpn : p < n := gx_lt hB hb (by omega)
      have hF1 := gx_TT_ok hB hF g0 (p := p + 1) (by omega)
      rcases gx_two (gx_TT F B g0 (p + 1)) with ⟨q, e⟩ | ⟨q, t, e⟩
      · rw [gx_bd_none e]; have := hF1.1 q e; exact gx_ok_no (by omega) this.2
      · rw [gx_bd_some e]
        obtain ⟨a, b, c, d, f⟩ := hF1.2 q t e
        exact gx_E_ok hB hF g0 g _ q p0 (by omega) b (by simp; omega) (by simp; omega) (gx_app_lt h5 f (by omega))
    · rw [if_neg hb]; exact gx_ok_yes h1 h2 h3 h4 h5
theorem gx_EE_ok (hB : ∀ i, n ≤ i → B i = 256) {F : Nat → gx_R (List Nat)} (hF : ∀ p, p ≤ n → gx_ok n p (F p)) (g : Nat) {p : Nat} (hp : p ≤ n) : gx_ok n p (gx_EE F B g p) := by
  unfold gx_EE
  have hF1 := gx_TT_ok hB hF g hp
  rcases gx_two (gx_TT F B g p) with ⟨q, e⟩ | ⟨q, t, e⟩
  · rw [gx_bd_none e]; have := hF1.1 q e; exact gx_ok_no (by omega) this.2
  · rw [gx_bd_some e]
    obtain ⟨a, b, c, d, f⟩ := hF1.2 q t e
    exact gx_E_ok hB hF g g t q p a b c d f
theorem gx_F_ok (hB : ∀ i, n ≤ i → B i = 256) (g : Nat) : ∀ (k p : Nat), p ≤ n → gx_ok n p (gx_F B g k p)
  | 0, p, hp => gx_test_ok hB hp
  | k + 1, p, hp => by
    unfold gx_F
    by_cases h1 : B p = 33
    · rw [if_pos h1]
      have hpn : p < n := gx_lt hB h1 (by omega)
      have ih := gx_F_ok hB g k (p + 1) (by omega)
      rcases gx_two (gx_F B g k (p + 1)) with ⟨q, e⟩ | ⟨q, t, e⟩
      · rw [gx_bd_none e]; have := ih.1 q e; exact gx_ok_no (by omega) this.2
      · rw [gx_bd_some e]
        obtain ⟨a, b, c, d, f⟩ := ih.2 q t e
        exact gx_ok_yes (by omega) b (by simp) (by simp; omega) (gx_app_lt (s := []) (fun x hx => absurd hx List.not_mem_nil) f (by omega))
    · rw [if_neg h1]
      by_cases h2 : B p = 40
      · rw [if_pos h2]
        have hpn : p < n := gx_lt hB h2 (by omega)
        have ih := gx_EE_ok hB (fun p hp => gx_F_ok hB g k p hp) g (p := p + 1) (by omega)
        rcases gx_two (gx_EE (gx_F B g k) B g (p + 1)) with ⟨q, e⟩ | ⟨q, t, e⟩
        · rw [gx_bd_none e]; have := ih.1 q e; exact gx_ok_no (by omega) this.2
        · rw [gx_bd_some e]
          obtain ⟨a, b, c, d, f⟩ := ih.2 q t e
          by_cases h3 : B q = 41
          · rw [if_pos h3]
            have hqn : q < n := gx_lt hB h3 (by omega)
            exact gx_ok_yes (by omega) (by omega) c (by omega) f
          · rw [if_neg h3]; exact gx_ok_no (by omega) b
      · rw [if_neg h2]; exact gx_test_ok hB hp
end GXA
/-! the class's one loop for T and E -/
def gx_KB (F : Nat → gx_R (List Nat)) (B : Nat → Nat) (g0 gT gE : Nat) (t : List Nat) (o : Option (List Nat)) (q : Nat) : gx_R (List Nat) :=
  gx_bd (gx_T F B gT t q) (fun t' q' => gx_E F B g0 gE (match o with
    | none => t'
    | some u => u ++ (t' ++ [10])) q')
def gx_aj (a : Option (List Nat)) (s : List Nat) : List Nat := match a with
  | none => s
  | some t => t ++ (s ++ [9])
def gx_oj (o : Option (List Nat)) (t : List Nat) : List Nat := match o with
  | none => t
  | some u => u ++ (t ++ [10])
def gx_KA (F : Nat → gx_R (List Nat)) (B : Nat → Nat) (g0 gT gE : Nat) (a o : Option (List Nat)) (p : Nat) : gx_R (List Nat) :=
  gx_bd (F p) (fun s q => gx_KB F B g0 gT gE (gx_aj a s) o q)
theorem gx_KA_0 (F : Nat → gx_R (List Nat)) (B : Nat → Nat) (g p : Nat) : gx_EE F B g p = gx_KA F B g g g none none p := by
  unfold gx_EE gx_TT gx_KA gx_KB gx_aj
  rw [gx_bd_assoc]
theorem gx_KB_and {F : Nat → gx_R (List Nat)} {B : Nat → Nat} {g0 gT gE : Nat} {t : List Nat} {o : Option (List Nat)} {q : Nat} (h : B q = 38) : gx_KB F B g0 (gT + 1) gE t o q = gx_KA F B g0 gT gE (some t) o (q + 1) := by
  unfold gx_KB gx_KA
  rw [show gx_T F B (gT + 1) t q = gx_bd (F (q + 1)) (fun s r => gx_T F B gT (t ++ (s ++ [9])) r) from by rw [gx_T, if_pos h], gx_bd_assoc]
  rfl
theorem gx_KB_or {F : Nat → gx_R (List Nat)} {B : Nat → Nat} {g0 gT gE : Nat} {t : List Nat} {o : Option (List Nat)} {q : Nat} (h1 : ¬ B q = 38) (h : B q = 124) : gx_KB F B g0 (gT + 1) (gE + 1) t o q = gx_KA F B g0 g0 gE none (some (gx_oj o t)) (q + 1) := by
  unfold gx_KB gx_KA
  rw [show gx_T F B (gT + 1) t q = (q, some t) from by rw [gx_T, if_neg h1]]
  show gx_E F B g0 (gE + 1) (gx_oj o t) q = _
  rw [show gx_E F B g0 (gE + 1) (gx_oj o t) q = gx_bd (gx_TT F B g0 (q + 1)) (fun s r => gx_E F B g0 gE (gx_oj o t ++ (s ++ [10])) r) from by rw [gx_E, if_pos h]]
  unfold gx_TT
  rw [gx_bd_assoc]
  rfl
theorem gx_KB_end {F : Nat → gx_R (List Nat)} {B : Nat → Nat} {g0 gT gE : Nat} {t : List Nat} {o : Option (List Nat)} {q : Nat} (h1 : ¬ B q = 38) (h : ¬ B q = 124) : gx_KB F B g0 (gT + 1) (gE + 1) t o q = (q, some (gx_oj o t)) := by
  unfold gx_KB
  rw [show gx_T F B (gT + 1) t q = (q, some t) from by rw [gx_T, if_neg h1]]
  show gx_E F B g0 (gE + 1) (gx_oj o t) q = _
  rw [gx_E, if_neg h]
