/-! THE START: both constructors run by the kernel over a heap told by lists -/
/-- cells (kind, length), ints that were written, references that were written: the newest first -/
abbrev cx_D : Type := List (Nat × Nat) × List (Nat × Nat × Int32) × List (Nat × Nat × Option Nat)
def cx_li : List (Nat × Nat × Int32) → Nat → Nat → Int32
  | [], _, _ => 0
  | x :: l, p, j => if x.1 = p ∧ x.2.1 = j then x.2.2 else cx_li l p j
def cx_lr : List (Nat × Nat × Option Nat) → Nat → Nat → Option Nat
  | [], _, _ => none
  | x :: l, p, j => if x.1 = p ∧ x.2.1 = j then x.2.2 else cx_lr l p j
def cx_k (D : cx_D) (p : Nat) : Nat := (D.1.getD p (99, 0)).1
def cx_z (D : cx_D) (p : Nat) : Nat := (D.1.getD p (99, 0)).2
def ct (D : cx_D) (S : pm_S) : Prop := (pm_n S = D.1.length ∧ ∀ p, p < D.1.length → pm_k S p = cx_k D p ∧ pm_z S p = cx_z D p ∧ (∀ j, pm_i S p j = cx_li D.2.1 p j) ∧ (∀ j, pm_l S p j = 0) ∧ ∀ j, pm_r S p j = cx_lr D.2.2 p j) ∧ ∀ p, D.1.length ≤ p → ∀ j, cx_li D.2.1 p j = 0 ∧ cx_lr D.2.2 p j = none
theorem ct.nw {D : cx_D} {S : pm_S} (h : ct D S) (k z : Nat) : ct (D.1 ++ [(k, z)], D.2) (pm_nw S k z) := by
  obtain ⟨⟨h1, h2⟩, h3⟩ := h
  have hl : (D.1 ++ [(k, z)]).length = D.1.length + 1 := by rw [List.length_append]; rfl
  refine ⟨⟨by show pm_n S + 1 = (D.1 ++ [(k, z)]).length; rw [hl, h1], fun p hp => ?_⟩, fun p hp j => ?_⟩
  · replace hp : p < (D.1 ++ [(k, z)]).length := hp
    rw [hl] at hp
    by_cases e : p < D.1.length
    · obtain ⟨a1, a2, a3, a4, a5⟩ := h2 p e
      have ne : p ≠ pm_n S := by omega
      refine ⟨?_, ?_, fun j => ?_, fun j => ?_, fun j => ?_⟩
      · rw [pm_k_nw_ne ne, a1]; unfold cx_k; rw [show (D.1 ++ [(k, z)], D.2).1 = D.1 ++ [(k, z)] from rfl, List.getD_eq_getElem?_getD, List.getD_eq_getElem?_getD, List.getElem?_append_left e]
      · rw [pm_z_nw_ne ne, a2]; unfold cx_z; rw [show (D.1 ++ [(k, z)], D.2).1 = D.1 ++ [(k, z)] from rfl, List.getD_eq_getElem?_getD, List.getD_eq_getElem?_getD, List.getElem?_append_left e]
      · rw [congrFun (pm_i_nw_ne ne) j]; exact a3 j
      · rw [congrFun (pm_l_nw_ne ne) j]; exact a4 j
      · rw [congrFun (pm_r_nw_ne ne) j]; exact a5 j
    · have e2 : p = pm_n S := by omega
      subst e2
      obtain ⟨b1, b2, b3, b4, b5⟩ := pm_nw_at S k z
      have g : (D.1 ++ [(k, z)])[pm_n S]? = some (k, z) := by rw [h1, List.getElem?_append_right (Nat.le_refl _), Nat.sub_self]; rfl
      refine ⟨?_, ?_, fun j => ?_, fun j => ?_, fun j => ?_⟩
      · rw [b1]; unfold cx_k; rw [show (D.1 ++ [(k, z)], D.2).1 = D.1 ++ [(k, z)] from rfl, List.getD_eq_getElem?_getD, g]; rfl
      · rw [b2]; unfold cx_z; rw [show (D.1 ++ [(k, z)], D.2).1 = D.1 ++ [(k, z)] from rfl, List.getD_eq_getElem?_getD, g]; rfl
      · rw [b3]; exact ((h3 (pm_n S) (by omega) j).1).symm
      · rw [b4]
      · rw [b5]; exact ((h3 (pm_n S) (by omega) j).2).symm
  · replace hp : (D.1 ++ [(k, z)]).length ≤ p := hp
    rw [hl] at hp
    exact h3 p (by omega) j
theorem ct.wI {D : cx_D} {S : pm_S} (h : ct D S) {p j : Nat} (hp : p < D.1.length) (v : Int32) : ct (D.1, (p, j, v) :: D.2.1, D.2.2) (pm_wI S p j v) := by
  obtain ⟨⟨h1, h2⟩, h3⟩ := h
  refine ⟨⟨h1, fun q hq => ?_⟩, fun q hq i => ⟨?_, (h3 q hq i).2⟩⟩
  · obtain ⟨a1, a2, a3, a4, a5⟩ := h2 q hq
    refine ⟨a1, a2, fun i => ?_, a4, a5⟩
    rw [pm_i_wI]
    show _ = if p = q ∧ j = i then v else cx_li D.2.1 q i
    by_cases c : q = p ∧ i = j
    · rw [if_pos c, if_pos ⟨c.1.symm, c.2.symm⟩]
    · rw [if_neg c, if_neg (fun y => c ⟨y.1.symm, y.2.symm⟩)]; exact a3 i
  · replace hq : D.1.length ≤ q := hq
    show (if p = q ∧ j = i then v else cx_li D.2.1 q i) = 0
    rw [if_neg (by omega)]; exact (h3 q hq i).1
theorem ct.wR {D : cx_D} {S : pm_S} (h : ct D S) {p j : Nat} (hp : p < D.1.length) (v : Option Nat) : ct (D.1, D.2.1, (p, j, v) :: D.2.2) (pm_wR S p j v) := by
  obtain ⟨⟨h1, h2⟩, h3⟩ := h
  refine ⟨⟨h1, fun q hq => ?_⟩, fun q hq i => ⟨(h3 q hq i).1, ?_⟩⟩
  · obtain ⟨a1, a2, a3, a4, a5⟩ := h2 q hq
    refine ⟨a1, a2, a3, a4, fun i => ?_⟩
    rw [pm_r_wRi]
    show _ = if p = q ∧ j = i then v else cx_lr D.2.2 q i
    by_cases c : q = p ∧ i = j
    · rw [if_pos c, if_pos ⟨c.1.symm, c.2.symm⟩]
    · rw [if_neg c, if_neg (fun y => c ⟨y.1.symm, y.2.symm⟩)]; exact a5 i
  · replace hq : D.1.length ≤ q := hq
    show (if p = q ∧ j = i then v else cx_lr D.2.2 q i) = none
    rw [if_neg (by omega)]; exact (h3 q hq i).2
theorem ct.kind {D : cx_D} {S : pm_S} (h : ct D S) {p c : Nat} (hp : p < D.1.length) (e : cx_k D p = c) : pm_k S p = c := (h.1.2 p hp).1.trans e
abbrev cx_K : Type := List Value → List Value → cx_D → Nat → Nat → Bool
def cx_sm (st : List Value) : Bool := decide (st.length ≤ 4)
theorem cx_sm_ok {st : List Value} (h : cx_sm st = true) : pm_sm st := by
  have h := of_decide_eq_true h
  match st, h with
  | [], _ => trivial
  | [_], _ => trivial
  | [_, _], _ => trivial
  | [_, _, _], _ => trivial
  | [_, _, _, _], _ => trivial
  | _ :: _ :: _ :: _ :: _ :: l, h => simp at h
/-- an object of this class there -/
def cx_o (D : cx_D) (p c : Nat) : Bool := decide (p < D.1.length) && decide (cx_k D p = c)
theorem cx_o_ok {D : cx_D} {S : pm_S} {p c : Nat} (h : ct D S) (e : cx_o D p c = true) : p < D.1.length ∧ pm_k S p = c := by
  unfold cx_o at e
  rw [Bool.and_eq_true, decide_eq_true_eq, decide_eq_true_eq] at e
  exact ⟨e.1, h.kind e.1 e.2⟩
def cx_v (i : Int32) (n : Nat) : Bool := decide (¬ i < 0) && decide (i.toNatClampNeg < n)
theorem cx_v_ok {i : Int32} {n : Nat} (h : cx_v i n = true) : vp_in i n := by
  unfold cx_v at h
  rw [Bool.and_eq_true, decide_eq_true_eq, decide_eq_true_eq] at h
  unfold vp_in
  intro z
  rcases z with z | z
  · exact h.1 z
  · omega
/-- an instruction of the constructors: what it asks and does, over lists -/
def cx_wi (call : Nat → List Value → cx_D → (cx_D → Bool) → Bool) (K : cx_D → Bool) (J : Nat → Nat → cx_K) (N : cx_K) (i : Instr) (a : List Nat) (w : Value) (ls st : List Value) (D : cx_D) (cn sn : Nat) : Bool := match i with
  | .aconst_null => N ls (.null :: st) D cn sn
  | .iconst _ => N ls (w :: st) D cn sn
  | .bipush _ => N ls (w :: st) D cn sn
  | .sipush _ => N ls (w :: st) D cn sn
  | .aload_n _ => (match a with
    | [k] => (match pm_ld ls k with
      | .ref q => N ls (.ref q :: st) D cn sn
      | _ => false)
    | _ => false)
  | .iload_n _ => (match a with
    | [k] => (match pm_ld ls k with
      | .int q => N ls (.int q :: st) D cn sn
      | _ => false)
    | _ => false)
  | .astore_n _ => (match a, st with
    | [k], .ref q :: st' => N (pm_st1 ls k (.ref q)) st' D cn sn
    | _, _ => false)
  | .istore_n _ => (match a, st with
    | [k], .int q :: st' => N (pm_st1 ls k (.int q)) st' D cn sn
    | _, _ => false)
  | .iinc _ _ => (match a, w with
    | [k], .int y => (match pm_ld ls k with
      | .int q => N (pm_st1 ls k (.int (q + y))) st D cn sn
      | _ => false)
    | _, _ => false)
  | .dup => (match st with
    | .ref q :: st' => N ls (.ref q :: .ref q :: st') D cn sn
    | _ => false)
  | .new _ => (match a with
    | [c, _, z, mc, ms] => decide (cn + 1 ≤ mc) && (decide (sn + z ≤ ms) && N ls (.ref D.1.length :: st) (D.1 ++ [(c, 0)], D.2) (cn + 1) (sn + z))
    | _ => false)
  | .newarray _ => (match a, st, w with
    | [k, z, _, mc, ms], .int x :: st', .int y => decide (x = y) && (decide (cn + 1 ≤ mc) && (decide (sn + z ≤ ms) && N ls (.ref D.1.length :: st') (D.1 ++ [(k, z)], D.2) (cn + 1) (sn + z)))
    | _, _, _ => false)
  | .anewarray _ => (match a, st, w with
    | [k, z, _, mc, ms], .int x :: st', .int y => decide (x = y) && (decide (cn + 1 ≤ mc) && (decide (sn + z ≤ ms) && N ls (.ref D.1.length :: st') (D.1 ++ [(k, z)], D.2) (cn + 1) (sn + z)))
    | _, _, _ => false)
  | .putfield _ => (match a, st with
    | [c, k, 0, _, _], .int x :: .ref p :: st' => cx_o D p c && N ls st' (D.1, (p, k, x) :: D.2.1, D.2.2) cn sn
    | [c, k, 2, _, _], .ref q :: .ref p :: st' => cx_o D p c && N ls st' (D.1, D.2.1, (p, k, some q) :: D.2.2) cn sn
    | _, _ => false)
  | .getfield _ => (match a, st with
    | [c, k, 2, _], .ref p :: st' => cx_o D p c && (match cx_lr D.2.2 p k with
      | some q => N ls (.ref q :: st') D cn sn
      | none => false)
    | _, _ => false)
  | .invokespecial _ => (match a, st with
    | [_], .ref _ :: st' => cx_sm st' && N ls st' D cn sn
    | [j, c, _, 0, mc', ms', mc, ms], .ref p :: st' => cx_o D p c && (cx_sm st' && (decide (cn + mc' ≤ mc) && (decide (sn + ms' ≤ ms) && call j [.ref p] D (fun D' => N ls st' D' (cn + mc') (sn + ms')))))
    | [j, c, _, 1, mc', ms', mc, ms], .ref q :: .ref p :: st' => cx_o D p c && (cx_sm st' && (decide (cn + mc' ≤ mc) && (decide (sn + ms' ≤ ms) && call j [.ref p, .ref q] D (fun D' => N ls st' D' (cn + mc') (sn + ms')))))
    | _, _ => false)
  | .invokevirtual _ => (match a, st with
    | [j, c, _, 0, 0], .ref p :: st' => cx_o D p c && (cx_sm st' && call j [.ref p] D (fun D' => N ls st' D' cn sn))
    | _, _ => false)
  | .iastore => (match st with
    | .int x :: .int j :: .ref p :: st' => cx_o D p 20 && (cx_v j (cx_z D p) && N ls st' (D.1, (p, j.toNatClampNeg, x) :: D.2.1, D.2.2) cn sn)
    | _ => false)
  | .aastore => (match a, st with
    | [k, c], .ref q :: .int j :: .ref p :: st' => cx_o D p k && (cx_o D q c && (cx_v j (cx_z D p) && N ls st' (D.1, D.2.1, (p, j.toNatClampNeg, some q) :: D.2.2) cn sn))
    | _, _ => false)
  | .if_icmp .ge _ => (match a, st with
    | [t, f], .int y :: .int x :: st' => if y ≤ x then J t f ls st' D cn sn else N ls st' D cn sn
    | _, _ => false)
  | .goto _ => (match a with
    | [t, f] => J t f ls st D cn sn
    | _ => false)
  | .return_ => (match st with
    | [] => K D
    | _ => false)
  | _ => false
section CXS
variable {G : pm_G} {d mi : Nat} {Q : pm_Q} {J : pm_J} {N : pm_K} {call : Nat → List Value → cx_D → (cx_D → Bool) → Bool} {K : cx_D → Bool} {JB : Nat → Nat → cx_K} {NB : cx_K}
theorem cx_wi_ok (hd : 0 < d) (hN : ∀ ls st D S cn sn, ct D S → NB ls st D cn sn = true → N ls st S cn sn) (hJ : ∀ t f ls st D S cn sn, ct D S → JB t f ls st D cn sn = true → J t f ls st S cn sn)
    (hc : ∀ j args D S KB (q : pm_S → Prop), ct D S → call j args D KB = true → (∀ D' S', ct D' S' → KB D' = true → q S') → pm_CV G (d - 1) j args S q) (hQ : ∀ D S, ct D S → K D = true → Q none S)
    {i : Instr} {a : List Nat} {v : Value} {ls st : List Value} {D : cx_D} {S : pm_S} {cn sn : Nat} (h : ct D S) (e : cx_wi call K JB NB i a v ls st D cn sn = true) : pm_wi G d mi Q J N i a v ls st S cn sn := by
  have hn := h.1.1
  unfold cx_wi at e
  split at e
  · exact hN _ _ _ _ _ _ h e
  · exact hN _ _ _ _ _ _ h e
  · exact hN _ _ _ _ _ _ h e
  · exact hN _ _ _ _ _ _ h e
  · split at e
    · split at e
      · rename_i k _ q hq
        show pm_oR (pm_ld ls k) (fun x => N ls (x :: st) S cn sn)
        rw [hq]; exact hN _ _ _ _ _ _ h e
      · cases e
    · cases e
  · split at e
    · split at e
      · rename_i k _ q hq
        show pm_oI (pm_ld ls k) _
        rw [hq]; exact hN _ _ _ _ _ _ h e
      · cases e
    · cases e
  · split at e
    · exact hN _ _ _ _ _ _ h e
    · cases e
  · split at e
    · exact hN _ _ _ _ _ _ h e
    · cases e
  · split at e
    · split at e
      · rename_i k y _ q hq
        show pm_oI (pm_ld ls k) _
        rw [hq]; exact hN _ _ _ _ _ _ h e
      · cases e
    · cases e
  · split at e
    · exact ⟨rfl, hN _ _ _ _ _ _ h e⟩
    · cases e
  · split at e
    · rw [Bool.and_eq_true, Bool.and_eq_true, decide_eq_true_eq, decide_eq_true_eq] at e
      refine ⟨e.1, e.2.1, ?_⟩
      rw [hn]
      exact hN _ _ _ _ _ _ (h.nw _ _) e.2.2
    · cases e
  · split at e
    · rw [Bool.and_eq_true, Bool.and_eq_true, Bool.and_eq_true, decide_eq_true_eq, decide_eq_true_eq, decide_eq_true_eq] at e
      refine ⟨by rw [e.1], e.2.1, e.2.2.1, ?_⟩
      rw [hn]
      exact hN _ _ _ _ _ _ (h.nw _ _) e.2.2.2
    · cases e
  · split at e
    · rw [Bool.and_eq_true, Bool.and_eq_true, Bool.and_eq_true, decide_eq_true_eq, decide_eq_true_eq, decide_eq_true_eq] at e
      refine ⟨by rw [e.1], e.2.1, e.2.2.1, ?_⟩
      rw [hn]
      exact hN _ _ _ _ _ _ (h.nw _ _) e.2.2.2
    · cases e
  · split at e
    · rw [Bool.and_eq_true] at e
      obtain ⟨p1, p2⟩ := cx_o_ok h e.1
      exact ⟨p2, hN _ _ _ _ _ _ (h.wI p1 _) e.2⟩
    · rw [Bool.and_eq_true] at e
      obtain ⟨p1, p2⟩ := cx_o_ok h e.1
      exact ⟨p2, hN _ _ _ _ _ _ (h.wR p1 _) e.2⟩
    · cases e
  · split at e
    · rw [Bool.and_eq_true] at e
      obtain ⟨e1, e2⟩ := e
      split at e2
      · rename_i c k u p st' _ q hq
        obtain ⟨p1, p2⟩ := cx_o_ok h e1
        refine ⟨p2, ?_⟩
        show N ls (va_rf (pm_r S p k) :: st') S cn sn
        rw [(h.1.2 p p1).2.2.2.2 k, hq]
        exact hN _ _ _ _ _ _ h e2
      · cases e2
    · cases e
  · split at e
    · rw [Bool.and_eq_true] at e
      exact ⟨hd, cx_sm_ok e.1, hN _ _ _ _ _ _ h e.2⟩
    · rw [Bool.and_eq_true, Bool.and_eq_true, Bool.and_eq_true, Bool.and_eq_true, decide_eq_true_eq, decide_eq_true_eq] at e
      obtain ⟨p1, p2⟩ := cx_o_ok h e.1
      exact ⟨hd, p2, cx_sm_ok e.2.1, e.2.2.1, e.2.2.2.1, hc _ _ _ _ _ _ h e.2.2.2.2 (fun D' S' h' k => hN _ _ _ _ _ _ h' k)⟩
    · rw [Bool.and_eq_true, Bool.and_eq_true, Bool.and_eq_true, Bool.and_eq_true, decide_eq_true_eq, decide_eq_true_eq] at e
      obtain ⟨p1, p2⟩ := cx_o_ok h e.1
      exact ⟨hd, p2, cx_sm_ok e.2.1, e.2.2.1, e.2.2.2.1, hc _ _ _ _ _ _ h e.2.2.2.2 (fun D' S' h' k => hN _ _ _ _ _ _ h' k)⟩
    · cases e
  · split at e
    · rw [Bool.and_eq_true, Bool.and_eq_true] at e
      obtain ⟨p1, p2⟩ := cx_o_ok h e.1
      exact ⟨hd, p2, cx_sm_ok e.2.1, hc _ _ _ _ _ _ h e.2.2 (fun D' S' h' k => hN _ _ _ _ _ _ h' k)⟩
    · cases e
  · split at e
    · rw [Bool.and_eq_true, Bool.and_eq_true] at e
      obtain ⟨p1, p2⟩ := cx_o_ok h e.1
      refine ⟨p2, ?_, hN _ _ _ _ _ _ (h.wI p1 _) e.2.2⟩
      rw [(h.1.2 _ p1).2.1]; exact cx_v_ok e.2.1
    · cases e
  · split at e
    · rw [Bool.and_eq_true, Bool.and_eq_true, Bool.and_eq_true] at e
      obtain ⟨p1, p2⟩ := cx_o_ok h e.1
      obtain ⟨q1, q2⟩ := cx_o_ok h e.2.1
      refine ⟨p2, q2, ?_, hN _ _ _ _ _ _ (h.wR p1 _) e.2.2.2⟩
      rw [(h.1.2 _ p1).2.1]; exact cx_v_ok e.2.2.1
    · cases e
  · split at e
    · split at e
      · rename_i c
        exact ⟨fun _ => hJ _ _ _ _ _ _ _ _ h e, fun z => absurd c z⟩
      · rename_i c
        exact ⟨fun z => absurd z c, fun _ => hN _ _ _ _ _ _ h e⟩
    · cases e
  · split at e
    · exact hJ _ _ _ _ _ _ _ _ h e
    · cases e
  · split at e
    · exact ⟨rfl, hQ _ _ h e⟩
    · cases e
  · cases e
def cx_wl (call : Nat → List Value → cx_D → (cx_D → Bool) → Bool) (K : cx_D → Bool) (JB : Nat → Nat → cx_K) : List pm_It → Nat → Nat → cx_K
  | [], t, f => JB t f
  | x :: l, t, f => cx_wi call K JB (cx_wl call K JB l t f) x.1 x.2.1 x.2.2
theorem cx_wl_ok (hd : 0 < d) (hJ : ∀ t f ls st D S cn sn, ct D S → JB t f ls st D cn sn = true → J t f ls st S cn sn)
    (hc : ∀ j args D S KB (q : pm_S → Prop), ct D S → call j args D KB = true → (∀ D' S', ct D' S' → KB D' = true → q S') → pm_CV G (d - 1) j args S q) (hQ : ∀ D S, ct D S → K D = true → Q none S) :
    ∀ (l : List pm_It) (t f : Nat) ls st D S cn sn, ct D S → cx_wl call K JB l t f ls st D cn sn = true → pm_wl G d mi Q J l t f ls st S cn sn
  | [], t, f, ls, st, D, S, cn, sn, h, e => hJ t f ls st D S cn sn h e
  | x :: l, t, f, ls, st, D, S, cn, sn, h, e => cx_wi_ok hd (fun ls st D S cn sn h e => cx_wl_ok hd hJ hc hQ l t f ls st D S cn sn h e) hJ hc hQ h e
def cx_wb (call : Nat → List Value → cx_D → (cx_D → Bool) → Bool) (K : cx_D → Bool) (T : pm_Tb) : Nat → Nat → cx_K
  | 0, _ => fun _ _ _ _ _ => false
  | n + 1, t => cx_wl call K (fun t _ => cx_wb call K T n t) (pm_lk T t).1 (pm_lk T t).2.1 (pm_lk T t).2.2
theorem cx_wb_ok {T : pm_Tb} (hT : pm_tok mi T = true) (hd : 0 < d)
    (hc : ∀ j args D S KB (q : pm_S → Prop), ct D S → call j args D KB = true → (∀ D' S', ct D' S' → KB D' = true → q S') → pm_CV G (d - 1) j args S q) (hQ : ∀ D S, ct D S → K D = true → Q none S) :
    ∀ (n t : Nat) ls st D S cn sn, ct D S → cx_wb call K T n t ls st D cn sn = true → pm_W G d mi Q t ls st S cn sn
  | 0, _, _, _, _, _, _, _, _, e => by cases e
  | n + 1, t, ls, st, D, S, cn, sn, h, e =>
    pm_wl_ok (J := fun t _ ls st S cn sn => pm_W G d mi Q t ls st S cn sn) (fun _ _ _ _ _ _ _ k => k) _ t _ _ (pm_lk_ok hT t) ls st S cn sn
      (cx_wl_ok hd (fun t f ls st D S cn sn h e => cx_wb_ok hT hd hc hQ n t ls st D S cn sn h e) hc hQ _ _ _ _ _ D _ _ _ h e)
end CXS
def cx_T (j : Nat) : pm_Tb := match j with
  | 1 => pb_t1
  | 13 => pb_t13
  | 20 => pb_t20
  | 26 => pb_t26
  | 32 => pb_t32
  | 33 => pb_t33
  | 40 => pb_t40
  | 72 => pb_t72
  | 79 => pb_t79
  | 84 => pb_t84
  | 96 => pb_t96
  | 157 => pb_t157
  | _ => []
def cx_h (j : Nat) : Bool := match j with
  | 1 => true
  | 13 => true
  | 20 => true
  | 26 => true
  | 32 => true
  | 33 => true
  | 40 => true
  | 72 => true
  | 79 => true
  | 84 => true
  | 96 => true
  | 157 => true
  | _ => false
theorem cx_T_ok {j : Nat} (h : cx_h j = true) : pm_tok j (cx_T j) = true ∧ j < 265 := by
  unfold cx_h at h
  split at h
  · exact ⟨pb_c1, by decide⟩
  · exact ⟨pb_c13, by decide⟩
  · exact ⟨pb_c20, by decide⟩
  · exact ⟨pb_c26, by decide⟩
  · exact ⟨pb_c32, by decide⟩
  · exact ⟨pb_c33, by decide⟩
  · exact ⟨pb_c40, by decide⟩
  · exact ⟨pb_c72, by decide⟩
  · exact ⟨pb_c79, by decide⟩
  · exact ⟨pb_c84, by decide⟩
  · exact ⟨pb_c96, by decide⟩
  · exact ⟨pb_c157, by decide⟩
  · cases h
def cx_a (j : Nat) (args : List Value) : Bool := match args with
  | [.ref _] => decide (1 ≤ pm_mL j)
  | [.ref _, .ref _] => decide (2 ≤ pm_mL j)
  | _ => false
theorem cx_a_ok {G : pm_G} {j : Nat} {args : List Value} (h : cx_a j args = true) : (lg_sl (args.map (pm_v G))).length ≤ pm_mL j ∧ pm_ndb args = true := by
  unfold cx_a at h
  split at h
  · exact ⟨of_decide_eq_true h, rfl⟩
  · exact ⟨of_decide_eq_true h, rfl⟩
  · cases h
def cx_c : Nat → Nat → List Value → cx_D → (cx_D → Bool) → Bool
  | 0, _, _, _, _ => false
  | n + 1, j, args, D, K => cx_h j && (cx_a j args && cx_wb (cx_c n) K (cx_T j) 300 0 (pm_en (pm_mL j) args) [] D 0 0)
theorem cx_c_ok {G : pm_G} : ∀ (n d : Nat), n ≤ d → ∀ j args D S KB (q : pm_S → Prop), ct D S → cx_c n j args D KB = true → (∀ D' S', ct D' S' → KB D' = true → q S') → pm_CV G d j args S q
  | 0, _, _, _, _, _, _, _, _, _, e, _ => by cases e
  | n + 1, d, hd, j, args, D, S, KB, q, h, e, hq => by
    unfold cx_c at e
    rw [Bool.and_eq_true, Bool.and_eq_true] at e
    obtain ⟨t1, t2⟩ := cx_T_ok e.1
    obtain ⟨a1, a2⟩ := cx_a_ok (G := G) e.2.1
    refine pm_start (Nat.lt_of_lt_of_le t2 (by decide)) (pm_pl_ok j t2) a1 (pm_ndb_ok a2) ?_
    exact cx_wb_ok t1 (by omega) (fun j args D S KB q h e hq => cx_c_ok n (d - 1) (by omega) j args D S KB q h e hq) (fun D S h e => ⟨rfl, hq D S h e⟩) 300 0 _ _ D _ _ _ h e.2.2
