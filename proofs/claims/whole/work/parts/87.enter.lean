/-! an ACT entered on both sides -/
theorem pm_i_nw_ne {S : pm_S} {k z q : Nat} (h : q ≠ pm_n S) : pm_i (pm_nw S k z) q = pm_i S q := if_neg h
theorem pm_l_nw_ne {S : pm_S} {k z q : Nat} (h : q ≠ pm_n S) : pm_l (pm_nw S k z) q = pm_l S q := if_neg h
theorem pm_r_nw_ne {S : pm_S} {k z q : Nat} (h : q ≠ pm_n S) : pm_r (pm_nw S k z) q = pm_r S q := if_neg h
theorem pm_k_nw_ne {S : pm_S} {k z q : Nat} (h : q ≠ pm_n S) : pm_k (pm_nw S k z) q = pm_k S q := if_neg h
theorem pm_z_nw_ne {S : pm_S} {k z q : Nat} (h : q ≠ pm_n S) : pm_z (pm_nw S k z) q = pm_z S q := if_neg h
theorem pm_n_nw {S : pm_S} {k z : Nat} : pm_n (pm_nw S k z) = pm_n S + 1 := rfl
theorem pm_i_nw {S : pm_S} {k z q j : Nat} : pm_i (pm_nw S k z) q j = if q = pm_n S then 0 else pm_i S q j := by
  by_cases h : q = pm_n S
  · rw [if_pos h, h, (pm_nw_at S k z).2.2.1]
  · rw [if_neg h, pm_i_nw_ne h]
theorem pm_r_nw {S : pm_S} {k z q j : Nat} : pm_r (pm_nw S k z) q j = if q = pm_n S then none else pm_r S q j := by
  by_cases h : q = pm_n S
  · rw [if_pos h, h, (pm_nw_at S k z).2.2.2.2]
  · rw [if_neg h, pm_r_nw_ne h]
theorem pm_k_nw {S : pm_S} {k z q : Nat} : pm_k (pm_nw S k z) q = if q = pm_n S then k else pm_k S q := by
  by_cases h : q = pm_n S
  · rw [if_pos h, h, (pm_nw_at S k z).1]
  · rw [if_neg h, pm_k_nw_ne h]
theorem pm_z_nw {S : pm_S} {k z q : Nat} : pm_z (pm_nw S k z) q = if q = pm_n S then z else pm_z S q := by
  by_cases h : q = pm_n S
  · rw [if_pos h, h, (pm_nw_at S k z).2.1]
  · rw [if_neg h, pm_z_nw_ne h]
theorem pm_r_wRi {S : pm_S} {p j q i : Nat} {v : Option Nat} : pm_r (pm_wR S p j v) q i = if q = p ∧ i = j then v else pm_r S q i := by
  show va_up S.2.2.2.2.2 p (va_up (S.2.2.2.2.2 p) j v) q i = _
  by_cases h1 : q = p
  · subst h1
    by_cases h2 : i = j
    · subst h2; simp [va_up]
    · simp [va_up, h2, pm_r]
  · simp [va_up, h1, pm_r]
theorem Sh.cgr {S S' : pm_S} (h : Sh S) (hn : 114 ≤ pm_n S') (hk : ∀ p, p < 114 → pm_k S' p = pm_k S p ∧ pm_z S' p = pm_z S p) (hr : ∀ p j, p < 114 → pm_r S' p j = pm_r S p j) : Sh S' := by
  have h3 : ∀ e, e ∈ sh_rr → e.1 < 114 := by decide
  exact ⟨hn, fun p hp => by rw [(hk p hp).1, (hk p hp).2]; exact h.2.1 p hp, fun e he => by rw [hr _ _ (h3 e he)]; exact h.2.2 e he⟩
/-- no kinds behind the last cell -/
def pm_tr (S : pm_S) : pm_S := (S.1, fun p => if p < S.1 then S.2.1 p else 99, S.2.2)
theorem pm_tr_k {S : pm_S} {p : Nat} (h : p < pm_n S) : pm_k (pm_tr S) p = pm_k S p := if_pos h
theorem pm_tr_9 {S : pm_S} {p : Nat} (h : pm_n S ≤ p) : pm_k (pm_tr S) p = 99 := if_neg (Nat.not_lt.mpr h)
theorem Inv.trm {A : iv_A} {S : pm_S} (hI : Inv A S) : Inv A (pm_tr S) := by
  have h1 := hI.sh.1
  have n2 : ∀ p, p < pm_n S → pm_k (pm_tr S) p = pm_k S p ∧ pm_z (pm_tr S) p = pm_z S p := fun p hp => ⟨pm_tr_k hp, rfl⟩
  refine ⟨hI.sh.cgr (S' := pm_tr S) h1 (fun p hp => n2 p (by omega)) (fun _ _ _ => rfl), ?_, ?_, ?_, ?_, ?_, ?_, ?_, ?_, ?_, ?_, ?_, ?_⟩
  · exact hI.day.cg (fun _ _ _ => rfl)
  · exact hI.per.cg (fun _ _ _ => rfl)
  · exact hI.mat.cg (Nat.le_refl _) n2 (fun _ _ _ => rfl) (fun _ _ _ => rfl)
  · exact hI.act.cg hI.mat (Nat.le_refl _) n2 (fun _ _ _ => rfl) (fun _ _ _ => rfl)
  · exact hI.txt.cg (fun _ _ _ => rfl)
  · exact hI.law.cg (Nat.le_refl _) n2 (fun _ _ _ => rfl) (fun _ _ _ => rfl)
  · exact hI.cau.cg (fun _ _ _ => rfl)
  · exact hI.red.cg (fun _ _ _ => rfl)
  · exact hI.rep.cg (fun _ _ _ => rfl)
  · exact hI.wk.cg (fun _ _ _ => rfl)
  · exact hI.tp.cg (fun _ _ _ => rfl) (fun _ _ => rfl)
  · exact hI.tr.cg (fun _ _ _ => rfl)
theorem l_snoc : ∀ (l : List Nat), l = [] ∨ ∃ L b, l = L ++ [b]
  | [] => Or.inl rfl
  | a :: t => by
    rcases l_snoc t with h | ⟨L, b, h⟩
    · exact Or.inr ⟨[], a, by rw [h]; rfl⟩
    · exact Or.inr ⟨a :: L, b, by rw [h]; rfl⟩
def en_A (A : iv_A) (c p : Nat) : iv_A := (A.1, A.2.1, fun x => if x = c then p else A.2.2.1 x, A.2.2.2)
theorem en_A_a {A : iv_A} {c p x : Nat} (h : x ≠ c) : iv_a (en_A A c p) x = iv_a A x := if_neg h
theorem en_A_c {A : iv_A} {c p : Nat} : iv_a (en_A A c p) c = p := if_pos rfl
theorem ch_app {A A' : iv_A} {S S' : pm_S} {l c : Nat} : ∀ (L : List Nat) (r : Option Nat), iv_ch A S r (L ++ [l]) → (∀ a, a ∈ L → pm_r S' (iv_a A a) 5 = pm_r S (iv_a A a) 5) → (∀ a, a ∈ L ++ [l] → iv_a A' a = iv_a A a) → pm_r S' (iv_a A l) 5 = some (iv_a A' c) → pm_r S' (iv_a A' c) 5 = none → iv_ch A' S' r (L ++ [l] ++ [c])
  | [], r, h, h1, h2, h3, h4 => by
    obtain ⟨e, h'⟩ := h
    have e2 := h2 l (by simp)
    exact ⟨by rw [e2]; exact e, by rw [e2]; exact ⟨h3, h4⟩⟩
  | a :: L, r, h, h1, h2, h3, h4 => by
    obtain ⟨e, h'⟩ := h
    have e2 := h2 a (by simp)
    refine ⟨by rw [e2]; exact e, ?_⟩
    rw [e2, h1 a (by simp)]
    exact ch_app L _ h' (fun b hb => h1 b (List.mem_cons_of_mem _ hb)) (fun b hb => h2 b (List.mem_cons_of_mem _ hb)) h3 h4
theorem ch_same {A A' : iv_A} {S S' : pm_S} : ∀ (L : List Nat) (r : Option Nat), iv_ch A S r L → (∀ a, a ∈ L → pm_r S' (iv_a A a) 5 = pm_r S (iv_a A a) 5) → (∀ a, a ∈ L → iv_a A' a = iv_a A a) → iv_ch A' S' r L
  | [], _, h, _, _ => h
  | a :: L, r, h, h1, h2 => by
    obtain ⟨e, h'⟩ := h
    have e2 := h2 a (by simp)
    refine ⟨by rw [e2]; exact e, ?_⟩
    rw [e2, h1 a (by simp)]
    exact ch_same L _ h' (fun b hb => h1 b (List.mem_cons_of_mem _ hb)) (fun b hb => h2 b (List.mem_cons_of_mem _ hb))
theorem iv_acts_mem' {S : pm_S} {m a : Nat} : a ∈ iv_acts S m ↔ a < iv_c S 24 ∧ pm_i S 75 a = nI m := by
  unfold iv_acts
  rw [List.mem_filter, List.mem_range]
  simp
theorem iv_acts_s {S S' : pm_S} {m k : Nat} (hc : iv_c S' 24 = iv_c S 24 + 1) (h : ∀ a, a < iv_c S 24 → pm_i S' 75 a = pm_i S 75 a) (hn : pm_i S' 75 (iv_c S 24) = nI m) (hm : m < 40) (hk : k < 40) : iv_acts S' k = iv_acts S k ++ (if k = m then [iv_c S 24] else []) := by
  unfold iv_acts
  rw [hc, List.range_succ, List.filter_append]
  congr 1
  · exact List.filter_congr (fun a ha => by rw [h a (List.mem_range.mp ha)])
  · by_cases e : k = m
    · subst e; simp [hn]
    · have : ¬ nI m = nI k := fun z => e ((nI_eq (by omega) (by omega)).mp z).symm
      simp [hn, this, e]
theorem iv_enter0 {A : iv_A} {S S' : pm_S} {m : Nat} {s dd ww : Int32} (hI : Inv A S) (free : ∀ p, pm_n S ≤ p → pm_k S p = 99) (hm : m < iv_c S 18) (hc : iv_c S 24 < 150) (hs : iv_in s 1 9) (hdd : iv_in dd 0 (pm_i S 59 0)) (hww : iv_in ww (-99) 99)
    (e1 : pm_n S' = pm_n S + 1) (n2 : ∀ p, p < pm_n S → pm_k S' p = pm_k S p ∧ pm_z S' p = pm_z S p) (kp : pm_k S' (pm_n S) = 0) (el : ∀ p, p < 114 → pm_l S' p = pm_l S p)
    (hi : ∀ q j, q ≠ pm_n S → ¬ (75 ≤ q ∧ q ≤ 79 ∧ j = iv_c S 24) → ¬ (q = 59 ∧ j = 24) → ¬ (q = 0 ∧ j = 5) → pm_i S' q j = pm_i S q j)
    (b5 : pm_i S' 75 (iv_c S 24) = nI m) (b6 : pm_i S' 76 (iv_c S 24) = s) (b7 : pm_i S' 77 (iv_c S 24) = dd) (b8 : pm_i S' 78 (iv_c S 24) = ww) (b9 : pm_i S' 79 (iv_c S 24) = pm_i S 59 0)
    (n24 : pm_i S' 59 24 = nI (iv_c S 24 + 1)) (n5 : pm_i S' 0 5 = nI (iv_c S 24 + 1))
    (a0 : pm_i S' (pm_n S) 0 = s) (a1 : pm_i S' (pm_n S) 1 = dd) (a2 : pm_i S' (pm_n S) 2 = ww) (a3 : pm_i S' (pm_n S) 3 = pm_i S 59 0) (a4 : pm_i S' (pm_n S) 4 = nI (iv_c S 24))
    (hr : ∀ q j, q ≠ pm_n S → ¬ (q = iv_m A m ∧ (j = 14 ∨ j = 15)) → (∀ l, (iv_acts S m).getLast? = some l → ¬ (q = iv_a A l ∧ j = 5)) → pm_r S' q j = pm_r S q j)
    (r5 : pm_r S' (pm_n S) 5 = none) (r15 : pm_r S' (iv_m A m) 15 = some (pm_n S)) (rE : (iv_acts S m).getLast? = none → pm_r S' (iv_m A m) 14 = some (pm_n S)) (rN : ∀ l, (iv_acts S m).getLast? = some l → pm_r S' (iv_m A m) 14 = pm_r S (iv_m A m) 14 ∧ pm_r S' (iv_a A l) 5 = some (pm_n S)) :
    Inv (en_A A (iv_c S 24) (pm_n S)) S' := by
  have h114 := hI.sh.1
  have n40 := (MI.c18 hI.mi).1
  have hw := hI.row hm
  have n1 : pm_n S ≤ pm_n S' := by omega
  have mlo := hw.lo
  have hac := hI.act.2.2.1
  have hla : ∀ l, (iv_acts S m).getLast? = some l → l < iv_c S 24 ∧ pm_i S 75 l = nI m := fun l hl => iv_acts_mem'.mp (List.mem_of_getLast? hl)
  have alo : ∀ l, (iv_acts S m).getLast? = some l → 114 ≤ iv_a A l ∧ iv_a A l < pm_n S ∧ pm_k S (iv_a A l) = 0 := fun l hl => (hac l (hla l hl).1).1
  have hrlo : ∀ q j, q < 114 → pm_r S' q j = pm_r S q j := fun q j hq => hr q j (by omega) (by omega) (fun l hl => by have := (alo l hl).1; omega)
  have c1 : iv_c S' 24 = iv_c S 24 + 1 := by unfold iv_c at n24 ⊢; rw [n24]; exact nI_clamp (by unfold iv_c at hc; omega)
  have k99 := free (pm_n S) (Nat.le_refl _)
  refine ⟨hI.sh.cgr (by omega) (fun p hp => n2 p (by omega)) hrlo, ?_, ?_, ?_, ?_, ?_, ?_, ?_, ?_, ?_, ?_, ?_, ?_⟩
  · exact hI.day.cg (fun p j hr' => hi p j (fun z => by subst z; unfold iv_rDay at hr'; omega) (fun z => by unfold iv_rDay at hr'; omega) (fun z => by unfold iv_rDay at hr'; omega) (fun z => by unfold iv_rDay at hr'; omega))
  · exact hI.per.cg (fun p j hr' => hi p j (fun z => by subst z; unfold iv_rPer at hr'; omega) (fun z => by unfold iv_rPer at hr'; omega) (fun z => by unfold iv_rPer at hr'; omega) (fun z => by unfold iv_rPer at hr'; omega))
  · refine (show iv_Mat A S' from hI.mat.up n1 n2 (fun p j hq => hr p j (fun z => by subst z; unfold iv_qMat at hq; omega) (fun z => by unfold iv_qMat at hq; omega) (fun l hl z => ?_)) ?_ ?_ ?_ (fun p j hr' => hi p j (fun z => by subst z; unfold iv_uMat at hr'; omega) (fun z => by unfold iv_uMat at hr'; omega) (fun z => by unfold iv_uMat at hr'; omega) (fun z => by unfold iv_uMat at hr'; omega)))
    · have a := alo l hl
      obtain ⟨z1, z2⟩ := z; subst z1; unfold iv_qMat at hq; omega
    · rw [hi 59 0 (by omega) (by omega) (by omega) (by omega)]; exact Int32.le_refl _
    · rw [hi 59 4 (by omega) (by omega) (by omega) (by omega)]; exact Int32.le_refl _
    · rw [n24, (MI.c24 hI.mi).2]; exact nI_le (by omega) (by omega)
  · have e18 : pm_i S' 59 18 = pm_i S 59 18 := hi 59 18 (by omega) (by omega) (by omega) (by omega)
    have e0 : pm_i S' 59 0 = pm_i S 59 0 := hi 59 0 (by omega) (by omega) (by omega) (by omega)
    have c18 : iv_c S' 18 = iv_c S 18 := by unfold iv_c; rw [e18]
    have ro : ∀ q j, 75 ≤ q → q ≤ 79 → j < iv_c S 24 → pm_i S' q j = pm_i S q j := fun q j h1 h2 h3 => hi q j (by omega) (by omega) (by omega) (by omega)
    refine ⟨by rw [n5, n24], ⟨by rw [n24]; exact nI_pos' (by omega), by rw [n24]; exact nI_le (b := 150) (by omega) (by decide)⟩, fun a ha => ?_, fun k hk => ?_⟩
    · rw [c1] at ha
      by_cases hac' : a = iv_c S 24
      · subst hac'
        refine ⟨⟨by rw [en_A_c]; exact h114, by rw [en_A_c]; omega, by rw [en_A_c]; exact kp⟩, ?_, ?_⟩
        · rw [en_A_c, b6, b7, b8, b9]; exact ⟨a0, a1, a2, a3, a4⟩
        · rw [b5, b6, b7, b8, b9, e18, e0]
          refine ⟨⟨nI_pos' (by omega), ?_⟩, hs, hdd, hww, ?_⟩
          · rw [(MI.c18 hI.mi).2]; exact nI_lt hm (by omega)
          · exact ⟨hI.day.2.1.1, Int32.le_refl _⟩
      · have ha2 : a < iv_c S 24 := by omega
        obtain ⟨⟨x1, x2, x3⟩, ⟨y0, y1, y2, y3, y4⟩, rest⟩ := hac a ha2
        have ne : iv_a A a ≠ pm_n S := by omega
        refine ⟨⟨by rw [en_A_a hac']; exact x1, by rw [en_A_a hac']; omega, by rw [en_A_a hac', (n2 _ x2).1]; exact x3⟩, ?_, ?_⟩
        · rw [en_A_a hac', hi _ 0 ne (by omega) (by omega) (by omega), hi _ 1 ne (by omega) (by omega) (by omega), hi _ 2 ne (by omega) (by omega) (by omega), hi _ 3 ne (by omega) (by omega) (by omega), hi _ 4 ne (by omega) (by omega) (by omega), ro 76 a (by omega) (by omega) ha2, ro 77 a (by omega) (by omega) ha2, ro 78 a (by omega) (by omega) ha2, ro 79 a (by omega) (by omega) ha2]
          exact ⟨y0, y1, y2, y3, y4⟩
        · rw [ro 75 a (by omega) (by omega) ha2, ro 76 a (by omega) (by omega) ha2, ro 77 a (by omega) (by omega) ha2, ro 78 a (by omega) (by omega) ha2, ro 79 a (by omega) (by omega) ha2, e18, e0]
          exact rest
    · rw [c18] at hk
      have hL := iv_acts_s (S := S) (S' := S') (m := m) (k := k) c1 (fun a ha => ro 75 a (by omega) (by omega) ha) b5 (by omega) (by omega)
      obtain ⟨q1, q2⟩ := hI.act.2.2.2 k hk
      have hwk := hI.row hk
      have hmn : iv_m A k < pm_n S := hwk.2.1.2.1
      have inj : ∀ a b, a < iv_c S 24 → b < iv_c S 24 → iv_a A a = iv_a A b → a = b := fun a b ha hb e => by
        have e4 := (hac a ha).2.1.2.2.2.2
        rw [e, (hac b hb).2.1.2.2.2.2] at e4
        exact ((nI_eq (by omega) (by omega)).mp e4).symm
      by_cases hkm : k = m
      · subst hkm
        rw [if_pos rfl] at hL
        rw [hL]
        refine ⟨?_, ?_⟩
        · show iv_ch (en_A A (iv_c S 24) (pm_n S)) S' (pm_r S' (iv_m A k) 14) _
          rcases l_snoc (iv_acts S k) with h | ⟨L, l, h⟩
          · rw [h]
            refine ⟨?_, ?_⟩
            · rw [rE (by rw [h]; rfl), en_A_c]
            · rw [en_A_c]; exact r5
          · have hgl : (iv_acts S k).getLast? = some l := by rw [h]; exact List.getLast?_concat
            rw [(rN l hgl).1, h]
            have hnd : ∀ a, a ∈ L → a < l := by
              have hp : List.Pairwise (fun x y => x < y) (iv_acts S k) := List.pairwise_lt_range.filter _
              rw [h, List.pairwise_append] at hp
              exact fun a ha => hp.2.2 a ha l (by simp)
            have hll := hla l hgl
            refine ch_app L _ (by rw [← h]; exact q1) (fun a ha => ?_) (fun a ha => ?_) ?_ ?_
            · have hal := hnd a ha
              refine hr _ 5 (by have := (hac a (by omega)).1; omega) (by omega) (fun l' hl' => ?_)
              rw [hgl] at hl'
              obtain rfl := Option.some.inj hl'
              intro z
              have := inj a l (by omega) hll.1 z.1
              omega
            · have : a < iv_c S 24 := by
                have : a ∈ iv_acts S k := by rw [h]; exact ha
                exact (iv_acts_mem'.mp this).1
              exact en_A_a (by omega)
            · rw [(rN l hgl).2, en_A_c]
            · rw [en_A_c]; exact r5
        · show pm_r S' (iv_m A k) 15 = _
          rw [r15, List.getLast?_concat]
          show some (pm_n S) = some (iv_a (en_A A (iv_c S 24) (pm_n S)) (iv_c S 24))
          rw [en_A_c]
      · rw [if_neg hkm, List.append_nil] at hL
        rw [hL]
        have nem : ¬ iv_m A k = iv_m A m := fun e => hkm (by
          have e1 := hwk.f0
          rw [e, hw.f0] at e1
          exact ((nI_eq (by omega) (by omega)).mp e1).symm)
        have km : pm_k S (iv_m A k) = 7 := hwk.k
        have hrk : ∀ j, pm_r S' (iv_m A k) j = pm_r S (iv_m A k) j := fun j => hr _ j (by omega) (fun z => nem z.1) (fun l hl z => by have := (alo l hl).2.2; rw [← z.1, km] at this; omega)
        have hin : ∀ a, a ∈ iv_acts S k → a < iv_c S 24 ∧ pm_i S 75 a = nI k := fun a ha => iv_acts_mem'.mp ha
        refine ⟨?_, ?_⟩
        · show iv_ch (en_A A (iv_c S 24) (pm_n S)) S' (pm_r S' (iv_m A k) 14) _
          rw [hrk]
          refine ch_same _ _ q1 (fun a ha => ?_) (fun a ha => en_A_a (by have := (hin a ha).1; omega))
          have h1 := hin a ha
          refine hr _ 5 (by have := (hac a h1.1).1; omega) (by omega) (fun l hl z => ?_)
          have := inj a l h1.1 (hla l hl).1 z.1
          subst this
          have e2 := (hla a hl).2
          rw [h1.2] at e2
          exact hkm ((nI_eq (by omega) (by omega)).mp e2)
        · show pm_r S' (iv_m A k) 15 = _
          rw [hrk, q2]
          cases hg : (iv_acts S k).getLast? with
          | none => rfl
          | some l =>
            show some (iv_a A l) = some (iv_a (en_A A (iv_c S 24) (pm_n S)) l)
            rw [en_A_a (by have := (hin l (List.mem_of_getLast? hg)).1; omega)]
  · exact hI.txt.cg (fun p j hr' => hi p j (fun z => by subst z; unfold iv_rTxt at hr'; omega) (fun z => by unfold iv_rTxt at hr'; omega) (fun z => by unfold iv_rTxt at hr'; omega) (fun z => by unfold iv_rTxt at hr'; omega))
  · refine (show iv_Law A S' from hI.law.cg n1 n2 (fun p j hq => hr p j (fun z => by subst z; unfold iv_qLaw at hq; omega) (fun z => ?_) (fun l hl z => ?_)) (fun p j hr' => hi p j (fun z => by subst z; unfold iv_rLaw at hr'; omega) (fun z => by unfold iv_rLaw at hr'; omega) (fun z => by unfold iv_rLaw at hr'; omega) (fun z => by unfold iv_rLaw at hr'; omega)))
    · have mk := hw.k
      obtain ⟨z1, z2⟩ := z; subst z1; unfold iv_qLaw at hq; omega
    · have a := alo l hl
      obtain ⟨z1, z2⟩ := z; subst z1; unfold iv_qLaw at hq; omega
  · exact hI.cau.cg (fun p j hr' => hi p j (fun z => by subst z; unfold iv_rCau at hr'; omega) (fun z => by unfold iv_rCau at hr'; omega) (fun z => by unfold iv_rCau at hr'; omega) (fun z => by unfold iv_rCau at hr'; omega))
  · exact hI.red.cg (fun p j hr' => hi p j (fun z => by subst z; unfold iv_rRed at hr'; omega) (fun z => by unfold iv_rRed at hr'; omega) (fun z => by unfold iv_rRed at hr'; omega) (fun z => by unfold iv_rRed at hr'; omega))
  · exact hI.rep.cg (fun p j hr' => hi p j (fun z => by subst z; unfold iv_rRep at hr'; omega) (fun z => by unfold iv_rRep at hr'; omega) (fun z => by unfold iv_rRep at hr'; omega) (fun z => by unfold iv_rRep at hr'; omega))
  · exact hI.wk.cg (fun p j hr' => hi p j (fun z => by subst z; unfold iv_rWk at hr'; omega) (fun z => by unfold iv_rWk at hr'; omega) (fun z => by unfold iv_rWk at hr'; omega) (fun z => by unfold iv_rWk at hr'; omega))
  · exact hI.tp.cg (fun p j hr' => hi p j (fun z => by subst z; unfold iv_rTp at hr'; omega) (fun z => by unfold iv_rTp at hr'; omega) (fun z => by unfold iv_rTp at hr'; omega) (fun z => by unfold iv_rTp at hr'; omega)) (fun p hp => el p (by unfold iv_lTp at hp; omega))
  · exact hI.tr.cg (fun p j hr' => hi p j (fun z => by subst z; unfold iv_rTr at hr'; omega) (fun z => by unfold iv_rTr at hr'; omega) (fun z => by unfold iv_rTr at hr'; omega) (fun z => by unfold iv_rTr at hr'; omega))
/-- the class's writes -/
def en_f (mm : Nat) (lo : Option Nat) (s dd ww t : Int32) (c : Nat) (X : pm_S) : pm_S :=
  pm_wI (pm_wR (match lo with
    | none => pm_wR (pm_wI (pm_wI (pm_wI (pm_wI (pm_wI (pm_wR (pm_nw X 0 0) (pm_n X) 5 none) (pm_n X) 0 s) (pm_n X) 1 dd) (pm_n X) 2 ww) (pm_n X) 3 t) (pm_n X) 4 (nI c)) mm 14 (some (pm_n X))
    | some l => pm_wR (pm_wI (pm_wI (pm_wI (pm_wI (pm_wI (pm_wR (pm_nw X 0 0) (pm_n X) 5 none) (pm_n X) 0 s) (pm_n X) 1 dd) (pm_n X) 2 ww) (pm_n X) 3 t) (pm_n X) 4 (nI c)) l 5 (some (pm_n X))) mm 15 (some (pm_n X))) 0 5 (nI (c + 1))
/-- the model's -/
def en_g (m : Nat) (s dd ww t : Int32) (c : Nat) (Y : pm_S) : pm_S :=
  pm_wI (pm_wI (pm_wI (pm_wI (pm_wI (pm_wI Y 75 c (nI m)) 76 c s) 77 c dd) 78 c ww) 79 c t) 59 24 (nI (c + 1))
section EN
variable {mm : Nat} {lo : Option Nat} {s dd ww t : Int32} {c : Nat} {X : pm_S}
theorem en_f_n : pm_n (en_f mm lo s dd ww t c X) = pm_n X + 1 := by cases lo <;> rfl
theorem en_f_k : pm_k (en_f mm lo s dd ww t c X) = pm_k (pm_nw X 0 0) := by cases lo <;> rfl
theorem en_f_z : pm_z (en_f mm lo s dd ww t c X) = pm_z (pm_nw X 0 0) := by cases lo <;> rfl
theorem en_f_l : pm_l (en_f mm lo s dd ww t c X) = pm_l (pm_nw X 0 0) := by cases lo <;> rfl
theorem en_f_i {q j : Nat} : pm_i (en_f mm lo s dd ww t c X) q j = if q = 0 ∧ j = 5 then nI (c + 1) else if q = pm_n X ∧ j = 4 then nI c else if q = pm_n X ∧ j = 3 then t else if q = pm_n X ∧ j = 2 then ww else if q = pm_n X ∧ j = 1 then dd else if q = pm_n X ∧ j = 0 then s else if q = pm_n X then 0 else pm_i X q j := by
  have h : pm_i (en_f mm lo s dd ww t c X) q j = pm_i (pm_wI (pm_wI (pm_wI (pm_wI (pm_wI (pm_wI (pm_nw X 0 0) (pm_n X) 0 s) (pm_n X) 1 dd) (pm_n X) 2 ww) (pm_n X) 3 t) (pm_n X) 4 (nI c)) 0 5 (nI (c + 1))) q j := by cases lo <;> rfl
  rw [h]
  try simp only [pm_i_wI, pm_i_nw]
theorem en_f_r {q j : Nat} : pm_r (en_f mm lo s dd ww t c X) q j = if q = mm ∧ j = 15 then some (pm_n X) else if q = (match lo with
    | none => mm
    | some l => l) ∧ j = (match lo with
    | none => 14
    | some _ => 5) then some (pm_n X) else if q = pm_n X ∧ j = 5 then none else if q = pm_n X then none else pm_r X q j := by
  cases lo with
  | none =>
    show pm_r (pm_wR (pm_wR (pm_wR (pm_nw X 0 0) (pm_n X) 5 none) mm 14 (some (pm_n X))) mm 15 (some (pm_n X))) q j = _
    try simp only [pm_r_wRi, pm_r_nw]
  | some l =>
    show pm_r (pm_wR (pm_wR (pm_wR (pm_nw X 0 0) (pm_n X) 5 none) l 5 (some (pm_n X))) mm 15 (some (pm_n X))) q j = _
    try simp only [pm_r_wRi, pm_r_nw]
theorem en_g_i {m q j : Nat} : pm_i (en_g m s dd ww t c X) q j = if q = 59 ∧ j = 24 then nI (c + 1) else if q = 79 ∧ j = c then t else if q = 78 ∧ j = c then ww else if q = 77 ∧ j = c then dd else if q = 76 ∧ j = c then s else if q = 75 ∧ j = c then nI m else pm_i X q j := by
  unfold en_g
  try simp only [pm_i_wI]
theorem en_g_r {m : Nat} : pm_r (en_g m s dd ww t c X) = pm_r X := rfl
theorem en_g_k {m : Nat} : pm_k (en_g m s dd ww t c X) = pm_k X := rfl
theorem en_g_z {m : Nat} : pm_z (en_g m s dd ww t c X) = pm_z X := rfl
theorem en_g_l {m : Nat} : pm_l (en_g m s dd ww t c X) = pm_l X := rfl
theorem en_g_n {m : Nat} : pm_n (en_g m s dd ww t c X) = pm_n X := rfl
theorem en_f_sh (hX : Sh X) (h1 : 114 ≤ mm) (h2 : ∀ l, lo = some l → 114 ≤ l) : Sh (en_f mm lo s dd ww t c X) := by
  have h114 := hX.1
  refine hX.cgr (by rw [en_f_n]; omega) (fun p hp => ⟨by rw [en_f_k, pm_k_nw_ne (by omega)], by rw [en_f_z, pm_z_nw_ne (by omega)]⟩) (fun p j hp => ?_)
  rw [en_f_r, if_neg (by omega), if_neg, if_neg (by omega), if_neg (by omega)]
  cases lo with
  | none => simp only; omega
  | some l => have := h2 l rfl; simp only; omega
end EN
theorem iv_enter {A : iv_A} {S : pm_S} {m : Nat} {s dd ww : Int32} (hI : Inv A S) (hm : m < iv_c S 18) (hc : iv_c S 24 < 150) (hs : iv_in s 1 9) (hdd : iv_in dd 0 (pm_i S 59 0)) (hww : iv_in ww (-99) 99) :
    Inv (en_A A (iv_c S 24) (pm_n S)) (en_g m s dd ww (pm_i S 59 0) (iv_c S 24) (en_f (iv_m A m) ((iv_acts S m).getLast?.map (iv_a A)) s dd ww (pm_i S 59 0) (iv_c S 24) S)) := by
  have h114 := hI.sh.1
  have hw := hI.row hm
  have mlo := hw.lo
  have mhi : iv_m A m < pm_n S := hw.2.1.2.1
  have hla : ∀ l, (iv_acts S m).getLast? = some l → 114 ≤ iv_a A l ∧ iv_a A l < pm_n S := fun l hl => ⟨(hI.act.2.2.1 l (iv_acts_mem'.mp (List.mem_of_getLast? hl)).1).1.1, (hI.act.2.2.1 l (iv_acts_mem'.mp (List.mem_of_getLast? hl)).1).1.2.1⟩
  have mk := hw.k
  have lk : ∀ l, (iv_acts S m).getLast? = some l → pm_k S (iv_a A l) = 0 := fun l hl => (hI.act.2.2.1 l (iv_acts_mem'.mp (List.mem_of_getLast? hl)).1).1.2.2
  generalize hS' : en_g m s dd ww (pm_i S 59 0) (iv_c S 24) (en_f (iv_m A m) ((iv_acts S m).getLast?.map (iv_a A)) s dd ww (pm_i S 59 0) (iv_c S 24) S) = S'
  have fi : ∀ q j, pm_i S' q j = pm_i (en_g m s dd ww (pm_i S 59 0) (iv_c S 24) (en_f (iv_m A m) ((iv_acts S m).getLast?.map (iv_a A)) s dd ww (pm_i S 59 0) (iv_c S 24) S)) q j := fun q j => by rw [hS']
  have fr : ∀ q j, pm_r S' q j = pm_r (en_f (iv_m A m) ((iv_acts S m).getLast?.map (iv_a A)) s dd ww (pm_i S 59 0) (iv_c S 24) S) q j := fun q j => by rw [← hS', en_g_r]
  have fk : pm_k S' = pm_k (pm_nw S 0 0) := by rw [← hS', en_g_k, en_f_k]
  have fz : pm_z S' = pm_z (pm_nw S 0 0) := by rw [← hS', en_g_z, en_f_z]
  have fl : pm_l S' = pm_l (pm_nw S 0 0) := by rw [← hS', en_g_l, en_f_l]
  have fn : pm_n S' = pm_n S + 1 := by rw [← hS', en_g_n, en_f_n]
  have fr2 : ∀ q j, q ≠ pm_n S → ¬ (q = iv_m A m ∧ (j = 14 ∨ j = 15)) → (∀ l, (iv_acts S m).getLast? = some l → ¬ (q = iv_a A l ∧ j = 5)) → pm_r S' q j = pm_r S q j := fun q j h1 h2 h3 => by
    rw [fr, en_f_r, if_neg (by omega), if_neg, if_neg (by omega), if_neg h1]
    cases hg : (iv_acts S m).getLast? with
    | none => simp only [Option.map_none]; omega
    | some l => have := h3 l hg; simp only [Option.map_some]; omega
  refine iv_enter0 (S := pm_tr S) (S' := S') hI.trm (fun p hp => pm_tr_9 hp) hm hc hs hdd hww fn (fun p hp => ⟨by rw [fk, pm_k_nw_ne (S := S) (Nat.ne_of_lt hp)]; exact (pm_tr_k (S := S) hp).symm, by rw [fz, pm_z_nw_ne (S := S) (Nat.ne_of_lt hp)]; rfl⟩) (by rw [fk]; exact (pm_nw_at S 0 0).1) (fun p hp => by rw [fl, pm_l_nw_ne (by omega)]; rfl) (fun q j h1 h2 h3 h4 => ?_) ?_ ?_ ?_ ?_ ?_ ?_ ?_ ?_ ?_ ?_ ?_ ?_ fr2 ?_ ?_ (fun hg => ?_) (fun l hl => ?_)
  · replace h1 : ¬ q = pm_n S := h1
    replace h2 : ¬ (75 ≤ q ∧ q ≤ 79 ∧ j = iv_c S 24) := h2
    rw [fi, en_g_i, if_neg h3, if_neg (by omega), if_neg (by omega), if_neg (by omega), if_neg (by omega), if_neg (by omega), en_f_i, if_neg h4, if_neg (by omega), if_neg (by omega), if_neg (by omega), if_neg (by omega), if_neg (by omega), if_neg h1]; rfl
  · show pm_i S' 75 (iv_c S 24) = _
    rw [fi, en_g_i, if_neg (by omega), if_neg (by omega), if_neg (by omega), if_neg (by omega), if_neg (by omega), if_pos ⟨rfl, rfl⟩]
  · show pm_i S' 76 (iv_c S 24) = _
    rw [fi, en_g_i, if_neg (by omega), if_neg (by omega), if_neg (by omega), if_neg (by omega), if_pos ⟨rfl, rfl⟩]
  · show pm_i S' 77 (iv_c S 24) = _
    rw [fi, en_g_i, if_neg (by omega), if_neg (by omega), if_neg (by omega), if_pos ⟨rfl, rfl⟩]
  · show pm_i S' 78 (iv_c S 24) = _
    rw [fi, en_g_i, if_neg (by omega), if_neg (by omega), if_pos ⟨rfl, rfl⟩]
  · show pm_i S' 79 (iv_c S 24) = _
    rw [fi, en_g_i, if_neg (by omega), if_pos ⟨rfl, rfl⟩]; rfl
  · show pm_i S' 59 24 = nI (iv_c S 24 + 1)
    rw [fi, en_g_i, if_pos ⟨rfl, rfl⟩]
  · show pm_i S' 0 5 = nI (iv_c S 24 + 1)
    rw [fi, en_g_i, if_neg (by omega), if_neg (by omega), if_neg (by omega), if_neg (by omega), if_neg (by omega), if_neg (by omega), en_f_i, if_pos ⟨rfl, rfl⟩]
  · show pm_i S' (pm_n S) 0 = _
    rw [fi, en_g_i, if_neg (by omega), if_neg (by omega), if_neg (by omega), if_neg (by omega), if_neg (by omega), if_neg (by omega), en_f_i, if_neg (by omega), if_neg (by omega), if_neg (by omega), if_neg (by omega), if_neg (by omega), if_pos ⟨rfl, rfl⟩]
  · show pm_i S' (pm_n S) 1 = _
    rw [fi, en_g_i, if_neg (by omega), if_neg (by omega), if_neg (by omega), if_neg (by omega), if_neg (by omega), if_neg (by omega), en_f_i, if_neg (by omega), if_neg (by omega), if_neg (by omega), if_neg (by omega), if_pos ⟨rfl, rfl⟩]
  · show pm_i S' (pm_n S) 2 = _
    rw [fi, en_g_i, if_neg (by omega), if_neg (by omega), if_neg (by omega), if_neg (by omega), if_neg (by omega), if_neg (by omega), en_f_i, if_neg (by omega), if_neg (by omega), if_neg (by omega), if_pos ⟨rfl, rfl⟩]
  · show pm_i S' (pm_n S) 3 = _
    rw [fi, en_g_i, if_neg (by omega), if_neg (by omega), if_neg (by omega), if_neg (by omega), if_neg (by omega), if_neg (by omega), en_f_i, if_neg (by omega), if_neg (by omega), if_pos ⟨rfl, rfl⟩]; rfl
  · show pm_i S' (pm_n S) 4 = _
    rw [fi, en_g_i, if_neg (by omega), if_neg (by omega), if_neg (by omega), if_neg (by omega), if_neg (by omega), if_neg (by omega), en_f_i, if_neg (by omega), if_pos ⟨rfl, rfl⟩]; rfl
  · show pm_r S' (pm_n S) 5 = none
    rw [fr, en_f_r, if_neg (by omega), if_neg, if_pos ⟨rfl, rfl⟩]
    cases hg : (iv_acts S m).getLast? with
    | none => simp only [Option.map_none]; omega
    | some l => have := hla l hg; simp only [Option.map_some]; omega
  · show pm_r S' (iv_m A m) 15 = some (pm_n S)
    rw [fr, en_f_r, if_pos ⟨rfl, rfl⟩]
  · show pm_r S' (iv_m A m) 14 = some (pm_n S)
    replace hg : (iv_acts S m).getLast? = none := hg
    rw [fr, en_f_r, if_neg (by omega), hg, if_pos ⟨rfl, rfl⟩]
  · replace hl : (iv_acts S m).getLast? = some l := hl
    show pm_r S' (iv_m A m) 14 = pm_r S (iv_m A m) 14 ∧ pm_r S' (iv_a A l) 5 = some (pm_n S)
    have hl2 := hla l hl
    refine ⟨?_, ?_⟩
    · rw [fr, en_f_r, hl, if_neg (by omega), if_neg, if_neg (by omega), if_neg (by omega)]
      try simp only [Option.map_some]; omega
    · rw [fr, en_f_r, hl, if_neg (by omega), if_pos ⟨rfl, rfl⟩]
