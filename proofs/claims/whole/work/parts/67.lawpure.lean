/-! A LAW as it was read: what its clauses say under tests -/
def gx_sub (l : List Nat) (a b : Nat) : List Nat := (l.drop a).take (b - a)
theorem gx_sub_app {l e : List Nat} {a b : Nat} (hb : b ≤ l.length) : gx_sub (l ++ e) a b = gx_sub l a b := by
  unfold gx_sub
  by_cases ha : a ≤ l.length
  · rw [List.drop_append_of_le_length ha, List.take_append_of_le_length (by rw [List.length_drop]; omega)]
  · rw [show b - a = 0 by omega]; simp
theorem gx_sub_new {l e : List Nat} : gx_sub (l ++ e) l.length (l.length + e.length) = e := by
  unfold gx_sub
  rw [List.drop_append_of_le_length (Nat.le_refl _), List.drop_length]; simp
theorem gx_sub_nil {l : List Nat} {a b : Nat} (h : b ≤ a) : gx_sub l a b = [] := by unfold gx_sub; rw [show b - a = 0 by omega]; simp
abbrev gx_O : Type := Nat × Nat × Nat × Nat × Nat
def gx_o0 : gx_O := (0, 0, 0, 0, 0)
def lo_h (t : Nat → Bool) (st : List Nat) (e : gx_O) : Bool := if e.2.2.1 = 0 then true else (gx_hv t (gx_sub st e.2.2.2.1 e.2.2.2.2) == decide (e.2.2.1 = 1))
def ld_reach (t : Nat → Bool) (L : gx_L) : Bool := gx_hv t (gx_sub L.2.2 (L.2.1 8) (L.2.1 9))
def lo_ok (t : Nat → Bool) (st : List Nat) (e : gx_O) : Prop := (1 ≤ e.1 ∧ e.1 ≤ 9) ∧ e.2.1 < 10000 ∧ e.2.2.1 ≤ 2 ∧ e.2.2.2.1 ≤ e.2.2.2.2 ∧ e.2.2.2.2 ≤ st.length ∧ (e.2.2.1 = 0 ∨ gx_ev t (gx_sub st e.2.2.2.1 e.2.2.2.2) 15)
def gx_wf (t : Nat → Bool) (L : gx_L) (c p : Nat) : Prop := (L.1.length ≤ c ∧ L.2.2.length ≤ p) ∧ (∀ e, e ∈ L.1 → lo_ok t L.2.2 e) ∧ (L.2.1 8 ≤ L.2.1 9 ∧ L.2.1 9 ≤ L.2.2.length ∧ (gx_sub L.2.2 (L.2.1 8) (L.2.1 9) = [] ∨ gx_ev t (gx_sub L.2.2 (L.2.1 8) (L.2.1 9)) 15)) ∧ (∀ f, 10 ≤ f → f ≤ 16 → L.2.1 f < 10000) ∧ 1 ≤ L.2.1 13 ∧ ∀ x, x ∈ L.2.2 → x < 2 ^ 22
theorem lo_h_app {t : Nat → Bool} {st e : List Nat} {x : gx_O} (h : lo_ok t st x) : lo_h t (st ++ e) x = lo_h t st x := by
  unfold lo_h; rw [gx_sub_app h.2.2.2.2.1]
theorem lo_ok_app {t : Nat → Bool} {st e : List Nat} {x : gx_O} (h : lo_ok t st x) : lo_ok t (st ++ e) x := by
  obtain ⟨a, b, c, d, f, g⟩ := h
  refine ⟨a, b, c, d, by rw [List.length_append]; omega, ?_⟩
  rw [gx_sub_app f]; exact g
theorem ld_reach_app {t : Nat → Bool} {L : gx_L} {e : List Nat} {O : List gx_O} {c p : Nat} (h : gx_wf t L c p) : ld_reach t (O, L.2.1, L.2.2 ++ e) = ld_reach t L := by
  unfold ld_reach; rw [gx_sub_app h.2.2.1.2.1]
theorem wf_0 {t : Nat → Bool} : gx_wf t gx_0 0 0 := by
  refine ⟨⟨Nat.le_refl _, Nat.le_refl _⟩, fun e he => absurd he List.not_mem_nil, ⟨Nat.le_refl _, Nat.le_refl _, Or.inl rfl⟩, ?_, by decide, fun x hx => absurd hx List.not_mem_nil⟩
  intro f h1 h2
  have : ∀ f, f ≤ 16 → 10 ≤ f → gx_0.2.1 f < 10000 := by decide
  exact this f h2 h1
theorem wf_mono {t : Nat → Bool} {L : gx_L} {c p c' p' : Nat} (h : gx_wf t L c p) (hc : c ≤ c') (hp : p ≤ p') : gx_wf t L c' p' := ⟨⟨by have := h.1.1; omega, by have := h.1.2; omega⟩, h.2⟩
/-- a number of the LAW is told anew -/
theorem wf_num {t : Nat → Bool} {L : gx_L} {c p f v : Nat} (h : gx_wf t L c p) (hf : 10 ≤ f) (hv : v < 10000) (h13 : f = 13 → 1 ≤ v) : gx_wf t (L.1, va_up L.2.1 f v, L.2.2) c p := by
  obtain ⟨a, b, d, e, g, i⟩ := h
  have e8 : va_up L.2.1 f v 8 = L.2.1 8 := by unfold va_up; rw [if_neg (by omega)]
  have e9 : va_up L.2.1 f v 9 = L.2.1 9 := by unfold va_up; rw [if_neg (by omega)]
  refine ⟨a, b, ?_, fun f' h1 h2 => ?_, ?_, i⟩
  · try simp only [e8, e9]; exact d
  · show va_up L.2.1 f v f' < 10000
    unfold va_up
    split
    · exact hv
    · exact e f' h1 h2
  · show 1 ≤ va_up L.2.1 f v 13
    unfold va_up
    split
    · rename_i h; exact h13 h.symm
    · exact g
/-- an owe more -/
theorem wf_owe {t : Nat → Bool} {L : gx_L} {c p p' s n wn : Nat} {e : List Nat} (h : gx_wf t L c p) (hs : 1 ≤ s ∧ s ≤ 9) (hn : n < 10000) (hwn : wn ≤ 2) (he : wn = 0 ∨ gx_ev t e 15) (hl : (L.2.2 ++ e).length ≤ p') (hx : ∀ x, x ∈ e → x < 2 ^ 22) : gx_wf t (L.1 ++ [(s, n, wn, L.2.2.length, L.2.2.length + e.length)], L.2.1, L.2.2 ++ e) (c + 1) p' := by
  obtain ⟨a, b, d, f, g, i⟩ := h
  refine ⟨⟨by simp; omega, hl⟩, fun x hx2 => ?_, ⟨d.1, by simp; omega, ?_⟩, f, g, fun x hx2 => ?_⟩
  · rcases List.mem_append.mp hx2 with h1 | h1
    · exact lo_ok_app (b x h1)
    · rw [List.mem_singleton.mp h1]
      refine ⟨hs, hn, hwn, by simp, by simp, ?_⟩
      show wn = 0 ∨ gx_ev t (gx_sub (L.2.2 ++ e) L.2.2.length (L.2.2.length + e.length)) 15
      rw [gx_sub_new]; exact he
  · show gx_sub (L.2.2 ++ e) (L.2.1 8) (L.2.1 9) = [] ∨ gx_ev t (gx_sub (L.2.2 ++ e) (L.2.1 8) (L.2.1 9)) 15
    rw [gx_sub_app d.2.1]; exact d.2.2
  · rcases List.mem_append.mp hx2 with h1 | h1
    · exact i x h1
    · exact hx x h1
/-- reach is told anew -/
theorem wf_reach {t : Nat → Bool} {L : gx_L} {c p p' : Nat} {e : List Nat} (h : gx_wf t L c p) (he : gx_ev t e 15) (hl : (L.2.2 ++ e).length ≤ p') (hx : ∀ x, x ∈ e → x < 2 ^ 22) : gx_wf t (L.1, va_up (va_up L.2.1 8 L.2.2.length) 9 (L.2.2.length + e.length), L.2.2 ++ e) c p' := by
  obtain ⟨a, b, d, f, g, i⟩ := h
  have e8 : va_up (va_up L.2.1 8 L.2.2.length) 9 (L.2.2.length + e.length) 8 = L.2.2.length := by simp [va_up]
  have e9 : va_up (va_up L.2.1 8 L.2.2.length) 9 (L.2.2.length + e.length) 9 = L.2.2.length + e.length := by simp [va_up]
  have ef : ∀ f, 10 ≤ f → va_up (va_up L.2.1 8 L.2.2.length) 9 (L.2.2.length + e.length) f = L.2.1 f := fun f h => by
    unfold va_up; rw [if_neg (by omega), if_neg (by omega)]
  refine ⟨⟨a.1, hl⟩, fun x hx2 => lo_ok_app (b x hx2), ?_, fun f' h1 h2 => ?_, ?_, fun x hx2 => ?_⟩
  · try simp only [e8, e9]
    refine ⟨by omega, by simp, Or.inr ?_⟩
    rw [gx_sub_new]; exact he
  · show va_up (va_up L.2.1 8 L.2.2.length) 9 (L.2.2.length + e.length) f' < 10000
    rw [ef f' h1]; exact f f' h1 h2
  · show 1 ≤ va_up (va_up L.2.1 8 L.2.2.length) 9 (L.2.2.length + e.length) 13
    rw [ef 13 (by omega)]; exact g
  · rcases List.mem_append.mp hx2 with h1 | h1
    · exact i x h1
    · exact hx x h1
theorem gx_nm_ge {B : Nat → Nat} : ∀ (k p v : Nat), v ≤ (gx_nm B k p v).2
  | 0, p, v => Nat.le_refl _
  | k + 1, p, v => by
    rw [gx_nm]
    split
    · exact Nat.le_trans (by omega) (gx_nm_ge k (p + 1) _)
    · exact Nat.le_refl _
theorem gx_num_ge' {B : Nat → Nat} {least most p q v : Nat} (h : gx_num B least most p = (q, some v)) : least ≤ v := by
  unfold gx_num at h
  split at h
  · cases h
    exact Nat.le_trans (by omega) (gx_nm_ge _ _ _)
  · cases h
section WFC
variable {t : Nat → Bool} {B : Nat → Nat} {n : Nat}
theorem gx_w_ok (hB : ∀ i, n ≤ i → B i = 256) {l : List Nat} {p q : Nat} {o : Option Unit} (hp : p ≤ n) (hl : ∀ c, c ∈ l → c < 256) (h : gx_w B l p = (q, o)) : p ≤ q ∧ q ≤ n := by
  have := gx_w_le hB l p hp hl
  rw [h] at this
  exact ⟨this.2, this.1⟩
theorem wf_one (hB : ∀ i, n ≤ i → B i = 256) {L L' : gx_L} {c p q f : Nat} {ws : List Nat} (h : gx_wf t L c p) (hp : p ≤ n) (hf : 10 ≤ f ∧ ¬ f = 13) (hl : ∀ c, c ∈ ws → c < 256) (e : gx_one B L f ws p = (q, some L')) : gx_wf t L' c q ∧ p ≤ q ∧ q ≤ n := by
  unfold gx_one at e
  rcases gx_two (gx_w B ws p) with ⟨x, ex⟩ | ⟨x, u, ex⟩
  · rw [gx_bd_none ex] at e; cases e
  · rw [gx_bd_some ex] at e
    have hx := gx_w_ok hB hp hl ex
    rcases gx_two (gx_num B 0 4 x) with ⟨y, ey⟩ | ⟨y, v, ey⟩
    · rw [gx_bd_none ey] at e; cases e
    · rw [gx_bd_some ey] at e
      obtain ⟨a, b, c'⟩ := gx_num_ok hB (by omega) ey
      cases e
      exact ⟨wf_num (wf_mono h (Nat.le_refl _) (by omega)) hf.1 c' (fun z => absurd z hf.2), by omega, b⟩
theorem gx_e_ok (hB : ∀ i, n ≤ i → B i = 256) {p : Nat} (hp : p ≤ n) : gx_ok n p (gx_e B p) := gx_EE_ok hB (fun p hp => gx_F_ok hB 160 6 p hp) 160 hp
theorem wf_clause (hB : ∀ i, n ≤ i → B i = 256) {L L' : gx_L} {c p q : Nat} (h : gx_wf t L c p) (hp : p ≤ n) (e : gx_clause B L p = (q, some L')) : gx_wf t L' (c + 1) q ∧ p ≤ q ∧ q ≤ n := by
  have up : ∀ {L' : gx_L} {q : Nat}, gx_wf t L' c q ∧ p ≤ q ∧ q ≤ n → gx_wf t L' (c + 1) q ∧ p ≤ q ∧ q ≤ n := fun z => ⟨wf_mono z.1 (by omega) (Nat.le_refl _), z.2⟩
  unfold gx_clause at e
  split at e
  · unfold gx_owe at e
    rcases gx_two (gx_w B [111, 119, 101, 32] p) with ⟨x, ex⟩ | ⟨x, u, ex⟩
    · rw [gx_bd_none ex] at e; cases e
    rw [gx_bd_some ex] at e
    have hx := gx_w_ok hB hp (by decide) ex
    rcases gx_two (gx_num B 1 1 x) with ⟨y, ey⟩ | ⟨y, s, ey⟩
    · rw [gx_bd_none ey] at e; cases e
    rw [gx_bd_some ey] at e
    obtain ⟨a1, a2, a3⟩ := gx_num_ok hB (by omega) ey
    have a4 := gx_num_ge' ey
    rcases gx_two (gx_w B [32] y) with ⟨x2, ex2⟩ | ⟨x2, u2, ex2⟩
    · rw [gx_bd_none ex2] at e; cases e
    rw [gx_bd_some ex2] at e
    have hx2 := gx_w_ok hB a2 (by decide) ex2
    rcases gx_two (gx_num B 0 4 x2) with ⟨z, ez⟩ | ⟨z, v, ez⟩
    · rw [gx_bd_none ez] at e; cases e
    rw [gx_bd_some ez] at e
    obtain ⟨b1, b2, b3⟩ := gx_num_ok hB (by omega) ez
    split at e
    · have hz : z < n := gx_lt hB (by assumption) (by omega)
      generalize hwd : (if B (z + 1) = 105 then gx_w B [105, 102, 32] (z + 1) else gx_w B [117, 110, 108, 101, 115, 115, 32] (z + 1)) = wd at e
      obtain ⟨x3, _ | u3⟩ := wd
      · rw [gx_bd_none rfl] at e; cases e
      rw [gx_bd_some rfl] at e
      have hx3 : z + 1 ≤ x3 ∧ x3 ≤ n := by
        split at hwd
        · exact gx_w_ok hB (by omega) (by decide) hwd
        · exact gx_w_ok hB (by omega) (by decide) hwd
      rcases gx_two (gx_e B x3) with ⟨y3, ey3⟩ | ⟨y3, E, ey3⟩
      · rw [gx_bd_none ey3] at e; cases e
      rw [gx_bd_some ey3] at e
      obtain ⟨c1, c2, c3, c4, c5⟩ := (gx_e_ok hB hx3.2).2 y3 E ey3
      have hll := h.1.2
      cases e
      exact ⟨wf_owe h ⟨a4, by omega⟩ b3 (by split <;> omega) (Or.inr (ev_e ey3)) (by simp; omega) c5, by omega, c2⟩
    · cases e
      have hll := h.1.2
      have := wf_owe (e := []) (wn := 0) (p' := q) h ⟨a4, by omega⟩ b3 (by omega) (Or.inl rfl) (by simp; omega) (fun x hx => absurd hx List.not_mem_nil)
      rw [List.append_nil] at this
      exact ⟨this, by omega, b2⟩
  · split at e
    · have hp1 : p < n := gx_lt hB (by assumption) (by omega)
      split at e
      · have := wf_one hB (wf_mono h (Nat.le_refl _) (show p ≤ p + 1 by omega)) (by omega) (by omega) (by decide) e
        exact up ⟨this.1, by omega, this.2.2⟩
      · unfold gx_reach at e
        rcases gx_two (gx_w B [101, 97, 99, 104, 32] (p + 1)) with ⟨x, ex⟩ | ⟨x, u, ex⟩
        · rw [gx_bd_none ex] at e; cases e
        rw [gx_bd_some ex] at e
        have hx := gx_w_ok hB (by omega) (by decide) ex
        rcases gx_two (gx_e B x) with ⟨y3, ey3⟩ | ⟨y3, E, ey3⟩
        · rw [gx_bd_none ey3] at e; cases e
        rw [gx_bd_some ey3] at e
        obtain ⟨c1, c2, c3, c4, c5⟩ := (gx_e_ok hB hx.2).2 y3 E ey3
        have hll := h.1.2
        cases e
        exact up ⟨wf_reach h (ev_e ey3) (by simp; omega) c5, by omega, c2⟩
    · split at e
      · unfold gx_scale at e
        rcases gx_two (gx_w B [115, 99, 97, 108, 101, 32] p) with ⟨x, ex⟩ | ⟨x, u, ex⟩
        · rw [gx_bd_none ex] at e; cases e
        rw [gx_bd_some ex] at e
        have hx := gx_w_ok hB hp (by decide) ex
        rcases gx_two (gx_num B 0 4 x) with ⟨y, ey⟩ | ⟨y, s, ey⟩
        · rw [gx_bd_none ey] at e; cases e
        rw [gx_bd_some ey] at e
        obtain ⟨a1, a2, a3⟩ := gx_num_ok hB (by omega) ey
        rcases gx_two (gx_w B [32] y) with ⟨x2, ex2⟩ | ⟨x2, u2, ex2⟩
        · rw [gx_bd_none ex2] at e; cases e
        rw [gx_bd_some ex2] at e
        have hx2 := gx_w_ok hB a2 (by decide) ex2
        rcases gx_two (gx_num B 1 4 x2) with ⟨z, ez⟩ | ⟨z, v, ez⟩
        · rw [gx_bd_none ez] at e; cases e
        rw [gx_bd_some ez] at e
        obtain ⟨b1, b2, b3⟩ := gx_num_ok hB (by omega) ez
        cases e
        refine up ⟨wf_num (wf_num (wf_mono h (Nat.le_refl _) (by omega)) (by omega) a3 (fun z => by omega)) (by omega) b3 (fun _ => gx_num_ge' ez), by omega, b2⟩
      · split at e
        · exact up (wf_one hB h hp (by omega) (by decide) e)
        · split at e
          · exact up (wf_one hB h hp (by omega) (by decide) e)
          · split at e
            · exact up (wf_one hB h hp (by omega) (by decide) e)
            · split at e
              · exact up (wf_one hB h hp (by omega) (by decide) e)
              · cases e
theorem wf_law (hB : ∀ i, n ≤ i → B i = 256) : ∀ (g : Nat) (L L' : gx_L) (c p q : Nat), gx_wf t L c p → p ≤ n → gx_law B n g L p = (q, some L') → gx_wf t L' (c + g) n
  | 0, L, L', c, p, q, h, hp, e => by cases e
  | g + 1, L, L', c, p, q, h, hp, e => by
    rw [gx_law] at e
    rcases gx_two (gx_clause B L p) with ⟨x, ex⟩ | ⟨x, L1, ex⟩
    · rw [gx_bd_none ex] at e; cases e
    rw [gx_bd_some ex] at e
    have hx := wf_clause hB h hp ex
    split at e
    · cases e; exact wf_mono hx.1 (by omega) hx.2.2
    · split at e
      · cases e
      · split at e
        · have hlt : x < n := gx_lt hB (by assumption) (by omega)
          have := wf_law hB g L1 L' (c + 1) (x + 1) q (wf_mono hx.1 (Nat.le_refl _) (by omega)) (by omega) e
          rw [show c + (g + 1) = c + 1 + g by omega]; exact this
        · cases e
end WFC
theorem wf_read {t : Nat → Bool} {f : Nat → Int32} {n p : Nat} {L : gx_L} (h : gx_read f n = (p, some L)) : gx_wf t L 10 n := by
  have := wf_law (t := t) gx_b_eof 10 gx_0 L 0 0 p wf_0 (Nat.zero_le _) h
  simpa using this
/-- the LAW of a number; none: without a LAW -/
def lawL (S : pm_S) (l : Option Nat) : gx_L := match l with
  | none => gx_0
  | some i => ((gx_read (iv_txt S i) (pm_i S 82 i).toNatClampNeg).2).getD gx_0
theorem lawL_me {S T : pm_S} (h : me S T) : lawL T = lawL S := by
  funext l
  cases l with
  | none => rfl
  | some i =>
    unfold lawL iv_txt
    rw [h.row (p := 81) (by omega) (by omega), h.row (p := 82) (by omega) (by omega)]
theorem lawL_wf {S : pm_S} (h : iv_MI S) {t : Nat → Bool} {l : Option Nat} (hl : ∀ i, l = some i → i < iv_c S 31) : gx_wf t (lawL S l) 10 160 := by
  cases l with
  | none => exact wf_mono wf_0 (by omega) (by omega)
  | some i =>
    obtain ⟨_, _, d3, _, p, L, e⟩ := h.2.2.2.2.1.2 i (hl i rfl)
    have e2 : lawL S (some i) = L := by unfold lawL; simp only [e]; rfl
    rw [e2]
    have h2 := iv_le (n := 160) 160 d3.2 (by decide)
    exact wf_mono (wf_read e) (Nat.le_refl _) h2
/-- which LAW is in force -/
def lwo (S : pm_S) (b k : Int32) : Option Nat := ac_f (fun l => decide (pm_i S 83 l = b ∧ ¬ k < pm_i S 84 l)) (ac_bt (pm_i S 84) true) (List.range (iv_c S 31)) none
theorem lwo_lt {S : pm_S} {b k : Int32} {i : Nat} (h : lwo S b k = some i) : i < iv_c S 31 := ac_f_lt h
theorem lwo_me {S T : pm_S} (h : me S T) (b k : Int32) : lwo T b k = lwo S b k := by
  unfold lwo; rw [h.row (p := 83) (by omega) (by omega), h.row (p := 84) (by omega) (by omega), h.c (f := 31) (by omega)]
