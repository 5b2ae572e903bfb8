/-! the pure state's reads and writes -/
theorem pm_i_wI {S : pm_S} {p j : Nat} {v : Int32} (p' j' : Nat) : pm_i (pm_wI S p j v) p' j' = if p' = p ∧ j' = j then v else pm_i S p' j' := by
  simp only [pm_i, pm_wI]
  by_cases h : p' = p
  · subst h
    by_cases h2 : j' = j <;> simp [va_up, h2]
  · simp [va_up, h]
theorem pm_l_wL {S : pm_S} {p j : Nat} {v : Int64} (p' j' : Nat) : pm_l (pm_wL S p j v) p' j' = if p' = p ∧ j' = j then v else pm_l S p' j' := by
  simp only [pm_l, pm_wL]
  by_cases h : p' = p
  · subst h
    by_cases h2 : j' = j <;> simp [va_up, h2]
  · simp [va_up, h]
theorem pm_r_wR {S : pm_S} {p j : Nat} {v : Option Nat} (p' j' : Nat) : pm_r (pm_wR S p j v) p' j' = if p' = p ∧ j' = j then v else pm_r S p' j' := by
  simp only [pm_r, pm_wR]
  by_cases h : p' = p
  · subst h
    by_cases h2 : j' = j <;> simp [va_up, h2]
  · simp [va_up, h]
theorem pm_i_wI_ne {S : pm_S} {p j : Nat} {v : Int32} {p' : Nat} (h : p' ≠ p) : pm_i (pm_wI S p j v) p' = pm_i S p' := by
  funext j'; rw [pm_i_wI]; simp [h]
theorem pm_l_wL_ne {S : pm_S} {p j : Nat} {v : Int64} {p' : Nat} (h : p' ≠ p) : pm_l (pm_wL S p j v) p' = pm_l S p' := by
  funext j'; rw [pm_l_wL]; simp [h]
theorem pm_r_wR_ne {S : pm_S} {p j : Nat} {v : Option Nat} {p' : Nat} (h : p' ≠ p) : pm_r (pm_wR S p j v) p' = pm_r S p' := by
  funext j'; rw [pm_r_wR]; simp [h]
theorem pm_i_wI_eq {S : pm_S} {p j : Nat} {v : Int32} : pm_i (pm_wI S p j v) p = upd (pm_i S p) j v := by
  funext j'; rw [pm_i_wI]; simp [upd]
theorem pm_l_wL_eq {S : pm_S} {p j : Nat} {v : Int64} : pm_l (pm_wL S p j v) p = vp_updL (pm_l S p) j v := by
  funext j'; rw [pm_l_wL]; simp [vp_updL]
theorem pm_r_wR_eq {S : pm_S} {p j : Nat} {v : Option Nat} : pm_r (pm_wR S p j v) p = va_up (pm_r S p) j v := by
  funext j'; rw [pm_r_wR]; simp [va_up]
/-- what a write leaves as it is -/
theorem pm_same : (∀ (S : pm_S) p j (v : Int32), pm_n (pm_wI S p j v) = pm_n S ∧ pm_k (pm_wI S p j v) = pm_k S ∧ pm_z (pm_wI S p j v) = pm_z S ∧ pm_l (pm_wI S p j v) = pm_l S ∧ pm_r (pm_wI S p j v) = pm_r S) ∧
    (∀ (S : pm_S) p j (v : Int64), pm_n (pm_wL S p j v) = pm_n S ∧ pm_k (pm_wL S p j v) = pm_k S ∧ pm_z (pm_wL S p j v) = pm_z S ∧ pm_i (pm_wL S p j v) = pm_i S ∧ pm_r (pm_wL S p j v) = pm_r S) ∧
    (∀ (S : pm_S) p j (v : Option Nat), pm_n (pm_wR S p j v) = pm_n S ∧ pm_k (pm_wR S p j v) = pm_k S ∧ pm_z (pm_wR S p j v) = pm_z S ∧ pm_i (pm_wR S p j v) = pm_i S ∧ pm_l (pm_wR S p j v) = pm_l S) ∧
    (∀ (S : pm_S) p (f : Nat → Int64), pm_n (pm_wM S p f) = pm_n S ∧ pm_k (pm_wM S p f) = pm_k S ∧ pm_z (pm_wM S p f) = pm_z S ∧ pm_i (pm_wM S p f) = pm_i S ∧ pm_r (pm_wM S p f) = pm_r S) ∧
    (∀ (S : pm_S) k z, pm_n (pm_nw S k z) = pm_n S + 1) :=
  ⟨fun _ _ _ _ => ⟨rfl, rfl, rfl, rfl, rfl⟩, fun _ _ _ _ => ⟨rfl, rfl, rfl, rfl, rfl⟩, fun _ _ _ _ => ⟨rfl, rfl, rfl, rfl, rfl⟩, fun _ _ _ => ⟨rfl, rfl, rfl, rfl, rfl⟩, fun _ _ _ => rfl⟩
theorem pm_l_wM {S : pm_S} {p : Nat} {f : Nat → Int64} (p' : Nat) : pm_l (pm_wM S p f) p' = if p' = p then f else pm_l S p' := rfl
/-! values and locals -/
theorem pm_v_cat (G : pm_G) (v : Value) : (pm_v G v).category = v.category := by cases v <;> rfl
theorem pm_v_rf (G : pm_G) (r : Option Nat) : pm_v G (va_rf r) = va_rf (r.map (fun q => pm_gb G + q)) := by cases r <;> rfl
theorem pm_ld_get : ∀ (l : List Value) (k : Nat) (v : Value), pm_ld l k = v → pm_unk v = false → l[k]? = some v
  | [], k, v, h, hu => by rw [← h] at hu; cases hu
  | a :: l, 0, v, h, _ => by rw [← h]; rfl
  | a :: l, k + 1, v, h, hu => by
    have := pm_ld_get l k v h hu
    simpa using this
theorem pm_st1_get (w : Value) : ∀ (l : List Value) (k j : Nat), (pm_st1 l k w)[j]? = if j = k then (if k < l.length then some w else none) else if j + 1 = k then (l[j]?).map pm_dem else l[j]?
  | [], k, j => by simp [pm_st1]
  | a :: l, 0, j => by
    cases j <;> simp [pm_st1]
  | a :: l, 1, j => by
    cases j with
    | zero => simp [pm_st1]
    | succ j =>
      have h := pm_st1_get w l 0 j
      simp only [pm_st1, List.getElem?_cons_succ, h]
      cases j <;> simp
  | a :: l, k + 2, j => by
    cases j with
    | zero => simp [pm_st1]
    | succ j =>
      have h := pm_st1_get w l (k + 1) j
      simp only [pm_st1, List.getElem?_cons_succ, h, List.length_cons]
      by_cases h1 : j = k + 1
      · subst h1
        by_cases hh : k + 1 < l.length
        · have h2 : k + 2 < l.length + 1 := by omega
          simp [hh, h2]
        · have h2 : ¬ k + 2 < l.length + 1 := by omega
          simp [hh, h2]
      · by_cases h2 : j + 1 = k + 1 <;> simp [h1, h2]
/-- the machine's locals hold those that are told -/
def pm_L (G : pm_G) (n : Nat) (ls : List Value) (la : Array Slot) : Prop := la.size = n ∧ lv_wf la ∧ ∀ (i : Nat) (v : Value), ls[i]? = some v → pm_unk v = false → la[i]? = some (.val (pm_v G v))
theorem pm_L.at {G : pm_G} {n : Nat} {ls : List Value} {la : Array Slot} (h : pm_L G n ls la) {k : Nat} {v : Value} (hk : pm_ld ls k = v) (hu : pm_unk v = false) : la[k]? = some (.val (pm_v G v)) := h.2.2 k v (pm_ld_get ls k v hk hu) hu
def pm_lst (G : pm_G) (ls : List Value) : List (Nat × Value) := (List.range ls.length).filterMap (fun i => (ls[i]?).bind (fun v => if pm_unk v then none else some (i, pm_v G v)))
theorem pm_lst_mem {G : pm_G} {ls : List Value} {q : Nat × Value} : q ∈ pm_lst G ls ↔ ∃ v, ls[q.1]? = some v ∧ pm_unk v = false ∧ q.2 = pm_v G v := by
  unfold pm_lst
  constructor
  · intro h
    obtain ⟨i, -, hi⟩ := List.mem_filterMap.mp h
    cases hv : ls[i]? with
    | none => rw [hv] at hi; cases hi
    | some v =>
      rw [hv, Option.bind_some] at hi
      by_cases hu : pm_unk v = true
      · rw [if_pos hu] at hi; cases hi
      · rw [if_neg hu] at hi
        cases hi
        exact ⟨v, hv, by simpa using hu, rfl⟩
  · rintro ⟨v, h1, h2, h3⟩
    refine List.mem_filterMap.mpr ⟨q.1, List.mem_range.mpr (List.getElem?_eq_some_iff.mp h1).1, ?_⟩
    rw [h1, Option.bind_some, if_neg (by rw [h2]; decide), ← h3]
theorem pm_L.has {G : pm_G} {n : Nat} {ls : List Value} {la : Array Slot} (h : pm_L G n ls la) : lv_has la n (pm_lst G ls) :=
  ⟨h.1, h.2.1, fun q hq => by obtain ⟨v, h1, h2, h3⟩ := pm_lst_mem.mp hq; rw [h3]; exact h.2.2 q.1 v h1 h2⟩
theorem pm_L.st1 {G : pm_G} {n : Nat} {ls : List Value} {la : Array Slot} {k : Nat} {w : Value} (h : lv_has la n ((k, pm_v G w) :: (pm_lst G ls).filter (fun q => !(q.1 == k) && !(q.1 + 1 == k && q.2.category == 2)))) : pm_L G n (pm_st1 ls k w) la := by
  refine ⟨h.1, h.2.1, fun i v hi hu => ?_⟩
  rw [pm_st1_get] at hi
  by_cases hik : i = k
  · subst hik
    rw [if_pos rfl] at hi
    by_cases hl : i < ls.length
    · rw [if_pos hl] at hi
      cases hi
      exact h.2.2 (i, pm_v G w) List.mem_cons_self
    · rw [if_neg hl] at hi; cases hi
  · rw [if_neg hik] at hi
    have key : ∀ u : Value, ls[i]? = some u → pm_unk u = false → (i + 1 = k → u.category ≠ 2) → la[i]? = some (.val (pm_v G u)) := by
      intro u hu1 hu2 hu3
      refine h.2.2 (i, pm_v G u) (List.mem_cons_of_mem _ (List.mem_filter.mpr ⟨pm_lst_mem.mpr ⟨u, hu1, hu2, rfl⟩, ?_⟩))
      by_cases h1 : i + 1 = k
      · have := hu3 h1
        simp [hik, h1, pm_v_cat, this]
      · simp [hik, h1]
    by_cases h1 : i + 1 = k
    · rw [if_pos h1] at hi
      cases hv : ls[i]? with
      | none => rw [hv] at hi; cases hi
      | some u =>
        rw [hv] at hi
        cases hi
        cases u <;> first | (cases hu; done) | exact key _ hv rfl (fun _ => show ¬ (1 : Nat) = 2 by decide)
    · rw [if_neg h1] at hi
      exact key v hi hu (fun z => absurd z h1)
theorem pm_L.st2 {G : pm_G} {n : Nat} {ls : List Value} {la : Array Slot} {k : Nat} {x : Int64} (h : lv_has la n ((k, Value.long x) :: (pm_lst G ls).filter (fun q => !(q.1 == k) && (!(q.1 == k + 1) && !(q.1 + 1 == k && q.2.category == 2))))) : pm_L G n (pm_st2 ls k (.long x)) la := by
  refine ⟨h.1, h.2.1, fun i v hi hu => ?_⟩
  unfold pm_st2 at hi
  have hlen : ∀ (l : List Value) (j : Nat) (u : Value), (pm_st1 l j u).length ≤ l.length := by
    intro l
    induction l with
    | nil => intro j u; simp [pm_st1]
    | cons a l ih =>
      intro j u
      match j with
      | 0 => simp [pm_st1]
      | 1 => simp only [pm_st1, List.length_cons]; have := ih 0 u; omega
      | j + 2 => simp only [pm_st1, List.length_cons]; have := ih (j + 1) u; omega
  rw [pm_st1_get] at hi
  by_cases hik : i = k
  · subst hik
    rw [if_pos rfl] at hi
    by_cases hl : i < (pm_st1 ls (i + 1) (.float 0)).length
    · rw [if_pos hl] at hi
      cases hi
      exact h.2.2 (i, Value.long x) List.mem_cons_self
    · rw [if_neg hl] at hi; cases hi
  · rw [if_neg hik] at hi
    have key : ∀ u : Value, ls[i]? = some u → pm_unk u = false → i ≠ k + 1 → (i + 1 = k → u.category ≠ 2) → la[i]? = some (.val (pm_v G u)) := by
      intro u hu1 hu2 hu4 hu3
      refine h.2.2 (i, pm_v G u) (List.mem_cons_of_mem _ (List.mem_filter.mpr ⟨pm_lst_mem.mpr ⟨u, hu1, hu2, rfl⟩, ?_⟩))
      by_cases h1 : i + 1 = k
      · have := hu3 h1
        simp [hik, h1, hu4, pm_v_cat, this]
      · simp [hik, h1, hu4]
    rw [pm_st1_get] at hi
    by_cases h4 : i = k + 1
    · rw [if_neg (by omega), if_pos h4] at hi
      split at hi
      · cases hi; cases hu
      · cases hi
    · rw [if_neg h4, if_neg (show ¬ i + 1 = k + 1 by omega)] at hi
      by_cases h1 : i + 1 = k
      · rw [if_pos h1] at hi
        cases hv : ls[i]? with
        | none => rw [hv] at hi; cases hi
        | some u =>
          rw [hv] at hi
          cases hi
          cases u <;> first | (cases hu; done) | exact key _ hv rfl h4 (fun _ => show ¬ (1 : Nat) = 2 by decide)
      · rw [if_neg h1] at hi
        exact key v hi hu h4 (fun z => absurd z h1)
theorem pm_en_args (G : pm_G) : ∀ (vs : List Value) (n j : Nat) (i : Nat) (v : Value), (pm_en n vs)[i]? = some v → pm_unk v = false → (∀ u ∈ vs, ∀ b, u ≠ .double b) → (j + i, pm_v G v) ∈ lv_args j (vs.map (pm_v G))
  | [], n, j, i, v, h, hu, _ => by
    simp only [pm_en] at h
    have := List.mem_replicate.mp (List.mem_of_getElem? h)
    rw [this.2] at hu; cases hu
  | u :: vs, n, j, i, v, h, hu, hd => by
    have hd' : ∀ u ∈ vs, ∀ b, u ≠ .double b := fun x hx => hd x (List.mem_cons_of_mem _ hx)
    have one : ∀ (u : Value), u.category = 1 → pm_en n (u :: vs) = u :: pm_en (n - 1) vs := by
      intro u hc; cases u <;> first | rfl | cases hc
    by_cases hc : u.category = 1
    · rw [one u hc] at h
      have hc' : ¬ (pm_v G u).category = 2 := by rw [pm_v_cat]; omega
      simp only [List.map_cons, lv_args]
      rw [if_neg hc']
      cases i with
      | zero =>
        cases h
        exact List.mem_cons_self
      | succ i =>
        have h' : (pm_en (n - 1) vs)[i]? = some v := by simpa using h
        have := pm_en_args G vs (n - 1) (j + 1) i v h' hu hd'
        rw [show j + (i + 1) = j + 1 + i by omega]
        exact List.mem_cons_of_mem _ this
    · match u, hc with
      | .long x, _ =>
        simp only [pm_en] at h
        show (j + i, pm_v G v) ∈ (j, Value.long x) :: lv_args (j + 2) (List.map (pm_v G) vs)
        match i with
        | 0 => cases h; exact List.mem_cons_self
        | 1 => cases h; cases hu
        | i + 2 =>
          have h' : (pm_en (n - 2) vs)[i]? = some v := by simpa using h
          have := pm_en_args G vs (n - 2) (j + 2) i v h' hu hd'
          rw [show j + (i + 2) = j + 2 + i by omega]
          exact List.mem_cons_of_mem _ this
      | .double b, _ => exact absurd rfl (hd _ List.mem_cons_self b)
      | .int _, h => exact absurd rfl h
      | .float _, h => exact absurd rfl h
      | .null, h => exact absurd rfl h
      | .ref _, h => exact absurd rfl h
      | .retAddr _, h => exact absurd rfl h
