/-- a switch: the first key that x is, or the default -/
theorem pm_sw_el {x : Int32} {J : Nat → Nat → Prop} : ∀ {a : List Nat}, pm_sw x J a → (∃ k t f, (k, t) ∈ pm_swk a ∧ x = Int32.ofNat k ∧ J t f) ∨ ((∀ q ∈ pm_swk a, ¬ x = Int32.ofNat q.1) ∧ ∃ t f, pm_swd a = some t ∧ J t f)
  | [], h => h.elim
  | [_], h => h.elim
  | [t, f], h => Or.inr ⟨fun q hq => (List.not_mem_nil hq).elim, t, f, rfl, h⟩
  | k :: t :: f :: l, h => by
    have h' : (x = Int32.ofNat k → J t f) ∧ (¬ x = Int32.ofNat k → pm_sw x J l) := h
    by_cases hx : x = Int32.ofNat k
    · exact Or.inl ⟨k, t, f, List.mem_cons_self, hx, h'.1 hx⟩
    · rcases pm_sw_el (h'.2 hx) with ⟨k', t', f', h1, h2, h3⟩ | ⟨h1, t', f', h2, h3⟩
      · exact Or.inl ⟨k', t', f', List.mem_cons_of_mem _ h1, h2, h3⟩
      · refine Or.inr ⟨fun q hq => ?_, t', f', ?_, h3⟩
        · rcases List.mem_cons.mp hq with rfl | hq
          · exact hx
          · exact h1 q hq
        · match l, h2 with
          | [], h2 => cases h2
          | [_], h2 => cases h2
          | _ :: _ :: _, h2 => exact h2
theorem pm_ofN {k : Nat} (h : k < 100000) : (Int32.ofNat k).toInt = (k : Int) := nI_toInt (show k < 2 ^ 31 by omega)
theorem pm_lk_in {x : Int} {o d : Int} : ∀ {l : List (Int × Int)}, (l.zip (l.drop 1)).all (fun (a, next) => a.1 < next.1) = true → (x, o) ∈ l → Op.lookupswitch.offset l d x = o
  | [], _, h => by cases h
  | (a, b) :: l, hs, h => by
    have hs' : (l.zip (l.drop 1)).all (fun (a, next) => a.1 < next.1) = true := by
      cases l with
      | nil => rfl
      | cons c l => simp only [List.drop_succ_cons, List.drop_zero, List.zip_cons_cons, List.all_cons, Bool.and_eq_true] at hs; exact hs.2
    have hlt : ∀ (l : List (Int × Int)) (a : Int × Int), ((a :: l).zip ((a :: l).drop 1)).all (fun (a, next) => a.1 < next.1) = true → ∀ q ∈ l, a.1 < q.1 := by
      intro l
      induction l with
      | nil => intro a _ q hq; cases hq
      | cons c l ih =>
        intro a hs q hq
        simp only [List.drop_succ_cons, List.drop_zero, List.zip_cons_cons, List.all_cons, Bool.and_eq_true, decide_eq_true_eq] at hs
        rcases List.mem_cons.mp hq with rfl | hq
        · exact hs.1
        · have := ih c (by simpa using hs.2) q hq
          omega
    rcases List.mem_cons.mp h with h | h
    · cases h
      simp [Op.lookupswitch.offset]
    · have := hlt l (a, b) hs _ h
      have hne : ¬ x = a := by have : a < x := this; omega
      have ih := pm_lk_in (d := d) hs' h
      first
        | (rw [← ih]; simp [Op.lookupswitch.offset, hne, Ne.symm hne, List.find?])
        | (simp only [Op.lookupswitch.offset] at ih ⊢; rw [← ih]; simp [hne, Ne.symm hne])
theorem pm_lk_out {x d : Int} : ∀ {l : List (Int × Int)}, (∀ q ∈ l, ¬ x = q.1) → Op.lookupswitch.offset l d x = d
  | [], _ => by first | rfl | simp [Op.lookupswitch.offset]
  | (a, b) :: l, h => by
    have ih := pm_lk_out (d := d) (l := l) (fun q hq => h q (List.mem_cons_of_mem _ hq))
    have hne : ¬ x = a := h (a, b) List.mem_cons_self
    first
      | (rw [← ih]; simp [Op.lookupswitch.offset, hne, Ne.symm hne, List.find?]; done)
      | (simp only [Op.lookupswitch.offset] at ih ⊢; simp [hne, Ne.symm hne]; first | done | exact ih)
section PMW
variable {G : pm_G} {d mi : Nat} {Q : pm_Q} {J : pm_J} {N : pm_K} {a : List Nat} {w : Value} {pc n : Nat} {ls st : List Value} {S : pm_S} {cn sn : Nat}
set_option maxHeartbeats 1000000 in
theorem pm_wi_ok {i : Instr} (hdec : decode (pm_b mi) pc = .ok (i, n)) (hck : pm_ck mi pc i n a w = true) (hN : ∀ ls st S cn sn, N ls st S cn sn → pm_W G d mi Q (pc + n) ls st S cn sn) (hJ : ∀ t f ls st S cn sn, J t f ls st S cn sn → pm_W G d mi Q t ls st S cn sn) (h : pm_wi G d mi Q J N i a w ls st S cn sn) : pm_W G d mi Q pc ls st S cn sn := by
  cases i with
  | aconst_null =>
    have hn : n = 1 := by simpa [pm_ck] using hck
    subst hn
    exact pm_s_null (u := ()) hdec (hN _ _ _ _ _ h)
  | iconst k =>
    simp only [pm_ck, Bool.and_eq_true, decide_eq_true_eq] at hck
    obtain ⟨hn, hw⟩ := hck
    subst hn; subst hw
    exact pm_s_iconst hdec rfl (hN _ _ _ _ _ h)
  | bipush k =>
    simp only [pm_ck, Bool.and_eq_true, decide_eq_true_eq] at hck
    obtain ⟨hn, hw⟩ := hck
    subst hn; subst hw
    exact pm_s_bipush hdec rfl (hN _ _ _ _ _ h)
  | sipush k =>
    simp only [pm_ck, Bool.and_eq_true, decide_eq_true_eq] at hck
    obtain ⟨hn, hw⟩ := hck
    subst hn; subst hw
    exact pm_s_sipush hdec rfl (hN _ _ _ _ _ h)
  | lconst k =>
    simp only [pm_ck, Bool.and_eq_true, decide_eq_true_eq] at hck
    obtain ⟨hn, hw⟩ := hck
    subst hn; subst hw
    exact pm_s_lconst hdec rfl (hN _ _ _ _ _ h)
  | ldc k =>
    simp only [pm_ck, Bool.and_eq_true, decide_eq_true_eq] at hck
    obtain ⟨hn, hw⟩ := hck
    subst hn
    split at hw
    · obtain ⟨v, rfl, hm⟩ := pm_cik_ok hw
      exact pm_s_ldc hdec hm (hN _ _ _ _ _ h)
    · simp only [Bool.and_eq_true, decide_eq_true_eq] at hw
      obtain ⟨g1, g2, g3, rfl⟩ := hw
      exact pm_s_ldcS hdec g1 g2 g3 (hN _ _ _ _ _ h)
    · cases hw
  | ldc_w k =>
    simp only [pm_ck, Bool.and_eq_true, decide_eq_true_eq] at hck
    obtain ⟨hn, hw⟩ := hck
    subst hn
    split at hw
    · obtain ⟨v, rfl, hm⟩ := pm_cik_ok hw
      exact pm_s_ldcw hdec hm (hN _ _ _ _ _ h)
    · cases hw
  | ldc2_w k =>
    simp only [pm_ck, Bool.and_eq_true, decide_eq_true_eq] at hck
    obtain ⟨hn, hw⟩ := hck
    subst hn
    split at hw
    · obtain ⟨v, rfl, hm⟩ := pm_cjk_ok hw
      exact pm_s_ldc2 hdec hm (hN _ _ _ _ _ h)
    · cases hw
  | getstatic k =>
    simp only [pm_ck, Bool.and_eq_true, decide_eq_true_eq] at hck
    obtain ⟨hn, hw⟩ := hck
    subst hn
    split at hw
    · simp only [Bool.and_eq_true, decide_eq_true_eq] at hw
      obtain ⟨g1, g2, g3⟩ := hw
      subst g1; subst g3
      exact pm_s_above hdec (by rw [g2]; exact pm_abv) (hN _ _ _ _ _ h)
    · simp only [Bool.and_eq_true, decide_eq_true_eq] at hw
      obtain ⟨g1, g2, g3⟩ := hw
      subst g1
      exact pm_s_compact hdec g2 g3 (hN _ _ _ _ _ h)
    · simp only [Bool.and_eq_true, decide_eq_true_eq] at hw
      obtain ⟨g1, g2⟩ := hw
      exact pm_s_fmt hdec g1 g2 (hN _ _ _ _ _ h.1) (hN _ _ _ _ _ h.2)
    · cases hw
  | iload k =>
    simp only [pm_ck, Bool.and_eq_true, decide_eq_true_eq] at hck
    obtain ⟨hn, ha⟩ := hck
    subst hn; subst ha
    replace h := pm_oI_el (show pm_oI (pm_ld ls k) _ from h)
    obtain ⟨x, hx, h⟩ := h
    exact pm_s_iload hdec hx (hN _ _ _ _ _ h)
  | iload_n k =>
    simp only [pm_ck, Bool.and_eq_true, decide_eq_true_eq] at hck
    obtain ⟨hn, ha⟩ := hck
    subst hn; subst ha
    replace h := pm_oI_el (show pm_oI (pm_ld ls k) _ from h)
    obtain ⟨x, hx, h⟩ := h
    exact pm_s_iload_n hdec rfl hx (hN _ _ _ _ _ h)
  | lload k =>
    simp only [pm_ck, Bool.and_eq_true, decide_eq_true_eq] at hck
    obtain ⟨hn, ha⟩ := hck
    subst hn; subst ha
    replace h := pm_oL_el (show pm_oL (pm_ld ls k) _ from h)
    obtain ⟨x, hx, h⟩ := h
    exact pm_s_lload hdec hx (hN _ _ _ _ _ h)
  | lload_n k =>
    simp only [pm_ck, Bool.and_eq_true, decide_eq_true_eq] at hck
    obtain ⟨hn, ha⟩ := hck
    subst hn; subst ha
    replace h := pm_oL_el (show pm_oL (pm_ld ls k) _ from h)
    obtain ⟨x, hx, h⟩ := h
    exact pm_s_lload_n hdec rfl hx (hN _ _ _ _ _ h)
  | aload k =>
    simp only [pm_ck, Bool.and_eq_true, decide_eq_true_eq] at hck
    obtain ⟨hn, ha⟩ := hck
    subst hn; subst ha
    have h : pm_oR (pm_ld ls k) (fun x => N ls (x :: st) S cn sn) := h
    unfold pm_oR at h
    split at h
    · exact pm_s_aloadN (u := ()) hdec (by assumption) (hN _ _ _ _ _ h)
    · exact pm_s_aload hdec (by assumption) (hN _ _ _ _ _ h)
    · exact pm_s_aloadT hdec (by assumption) (hN _ _ _ _ _ h)
    · exact h.elim
  | aload_n k =>
    simp only [pm_ck, Bool.and_eq_true, decide_eq_true_eq] at hck
    obtain ⟨hn, ha⟩ := hck
    subst hn; subst ha
    have h : pm_oR (pm_ld ls k) (fun x => N ls (x :: st) S cn sn) := h
    unfold pm_oR at h
    split at h
    · exact pm_s_aload_nN (u := ()) hdec rfl (by assumption) (hN _ _ _ _ _ h)
    · exact pm_s_aload_n hdec rfl (by assumption) (hN _ _ _ _ _ h)
    · exact pm_s_aload_nT hdec rfl (by assumption) (hN _ _ _ _ _ h)
    · exact h.elim
  | istore k =>
    simp only [pm_ck, Bool.and_eq_true, decide_eq_true_eq] at hck
    obtain ⟨hn, ha, hk⟩ := hck
    subst hn; subst ha
    replace h := pm_i1_el (show pm_i1 st _ from h)
    obtain ⟨x, st1, rfl, h⟩ := h
    exact pm_s_istore hdec hk (hN _ _ _ _ _ h)
  | istore_n k =>
    simp only [pm_ck, Bool.and_eq_true, decide_eq_true_eq] at hck
    obtain ⟨hn, ha, hk⟩ := hck
    subst hn; subst ha
    replace h := pm_i1_el (show pm_i1 st _ from h)
    obtain ⟨x, st1, rfl, h⟩ := h
    exact pm_s_istore_n hdec rfl hk (hN _ _ _ _ _ h)
  | lstore k =>
    simp only [pm_ck, Bool.and_eq_true, decide_eq_true_eq] at hck
    obtain ⟨hn, ha, hk⟩ := hck
    subst hn; subst ha
    replace h := pm_l1_el (show pm_l1 st _ from h)
    obtain ⟨x, st1, rfl, h⟩ := h
    exact pm_s_lstore hdec hk (hN _ _ _ _ _ h)
  | lstore_n k =>
    simp only [pm_ck, Bool.and_eq_true, decide_eq_true_eq] at hck
    obtain ⟨hn, ha, hk⟩ := hck
    subst hn; subst ha
    replace h := pm_l1_el (show pm_l1 st _ from h)
    obtain ⟨x, st1, rfl, h⟩ := h
    exact pm_s_lstore_n hdec rfl hk (hN _ _ _ _ _ h)
  | astore k =>
    simp only [pm_ck, Bool.and_eq_true, decide_eq_true_eq] at hck
    obtain ⟨hn, ha, hk⟩ := hck
    subst hn; subst ha
    replace h := pm_t1_el (show pm_t1 st _ from h)
    obtain ⟨x, st1, rfl, h⟩ := h
    have h : pm_oR x (fun x => N (pm_st1 ls k x) st1 S cn sn) := h
    unfold pm_oR at h
    split at h
    · exact pm_s_astoreN (u := ()) hdec hk (hN _ _ _ _ _ h)
    · exact pm_s_astore hdec hk (hN _ _ _ _ _ h)
    · exact pm_s_astoreT hdec hk (hN _ _ _ _ _ h)
    · exact h.elim
  | astore_n k =>
    simp only [pm_ck, Bool.and_eq_true, decide_eq_true_eq] at hck
    obtain ⟨hn, ha, hk⟩ := hck
    subst hn; subst ha
    replace h := pm_t1_el (show pm_t1 st _ from h)
    obtain ⟨x, st1, rfl, h⟩ := h
    have h : pm_oR x (fun x => N (pm_st1 ls k x) st1 S cn sn) := h
    unfold pm_oR at h
    split at h
    · exact pm_s_astore_nN (u := ()) hdec rfl hk (hN _ _ _ _ _ h)
    · exact pm_s_astore_n hdec rfl hk (hN _ _ _ _ _ h)
    · exact pm_s_astore_nT hdec rfl hk (hN _ _ _ _ _ h)
    · exact h.elim
  | iinc k c =>
    simp only [pm_ck, Bool.and_eq_true, decide_eq_true_eq] at hck
    obtain ⟨hn, ha, hw, hk⟩ := hck
    subst hn; subst ha; subst hw
    replace h := pm_oI_el (show pm_oI (pm_ld ls k) _ from h)
    obtain ⟨x, hx, h⟩ := h
    exact pm_s_iinc hdec hx rfl hk (hN _ _ _ _ _ h)
  | iadd =>
    have hn : n = 1 := by simpa [pm_ck] using hck
    subst hn
    replace h := pm_i2_el (show pm_i2 st _ from h)
    obtain ⟨x, y, st1, rfl, h⟩ := h
    exact pm_s_iadd hdec (hN _ _ _ _ _ h)
  | isub =>
    have hn : n = 1 := by simpa [pm_ck] using hck
    subst hn
    replace h := pm_i2_el (show pm_i2 st _ from h)
    obtain ⟨x, y, st1, rfl, h⟩ := h
    exact pm_s_isub hdec (hN _ _ _ _ _ h)
  | imul =>
    have hn : n = 1 := by simpa [pm_ck] using hck
    subst hn
    replace h := pm_i2_el (show pm_i2 st _ from h)
    obtain ⟨x, y, st1, rfl, h⟩ := h
    exact pm_s_imul hdec (hN _ _ _ _ _ h)
  | iand =>
    have hn : n = 1 := by simpa [pm_ck] using hck
    subst hn
    replace h := pm_i2_el (show pm_i2 st _ from h)
    obtain ⟨x, y, st1, rfl, h⟩ := h
    exact pm_s_iand hdec (hN _ _ _ _ _ h)
  | ior =>
    have hn : n = 1 := by simpa [pm_ck] using hck
    subst hn
    replace h := pm_i2_el (show pm_i2 st _ from h)
    obtain ⟨x, y, st1, rfl, h⟩ := h
    exact pm_s_ior hdec (hN _ _ _ _ _ h)
  | ixor =>
    have hn : n = 1 := by simpa [pm_ck] using hck
    subst hn
    replace h := pm_i2_el (show pm_i2 st _ from h)
    obtain ⟨x, y, st1, rfl, h⟩ := h
    exact pm_s_ixor hdec (hN _ _ _ _ _ h)
  | ishl =>
    have hn : n = 1 := by simpa [pm_ck] using hck
    subst hn
    replace h := pm_i2_el (show pm_i2 st _ from h)
    obtain ⟨x, y, st1, rfl, h⟩ := h
    exact pm_s_ishl hdec (hN _ _ _ _ _ h)
  | ishr =>
    have hn : n = 1 := by simpa [pm_ck] using hck
    subst hn
    replace h := pm_i2_el (show pm_i2 st _ from h)
    obtain ⟨x, y, st1, rfl, h⟩ := h
    exact pm_s_ishr hdec (hN _ _ _ _ _ h)
  | iushr =>
    have hn : n = 1 := by simpa [pm_ck] using hck
    subst hn
    replace h := pm_i2_el (show pm_i2 st _ from h)
    obtain ⟨x, y, st1, rfl, h⟩ := h
    exact pm_s_iushr hdec (hN _ _ _ _ _ h)
  | ladd =>
    have hn : n = 1 := by simpa [pm_ck] using hck
    subst hn
    replace h := pm_l2_el (show pm_l2 st _ from h)
    obtain ⟨x, y, st1, rfl, h⟩ := h
    exact pm_s_ladd hdec (hN _ _ _ _ _ h)
  | lsub =>
    have hn : n = 1 := by simpa [pm_ck] using hck
    subst hn
    replace h := pm_l2_el (show pm_l2 st _ from h)
    obtain ⟨x, y, st1, rfl, h⟩ := h
    exact pm_s_lsub hdec (hN _ _ _ _ _ h)
  | lmul =>
    have hn : n = 1 := by simpa [pm_ck] using hck
    subst hn
    replace h := pm_l2_el (show pm_l2 st _ from h)
    obtain ⟨x, y, st1, rfl, h⟩ := h
    exact pm_s_lmul hdec (hN _ _ _ _ _ h)
  | land =>
    have hn : n = 1 := by simpa [pm_ck] using hck
    subst hn
    replace h := pm_l2_el (show pm_l2 st _ from h)
    obtain ⟨x, y, st1, rfl, h⟩ := h
    exact pm_s_land hdec (hN _ _ _ _ _ h)
  | lor =>
    have hn : n = 1 := by simpa [pm_ck] using hck
    subst hn
    replace h := pm_l2_el (show pm_l2 st _ from h)
    obtain ⟨x, y, st1, rfl, h⟩ := h
    exact pm_s_lor hdec (hN _ _ _ _ _ h)
  | lcmp =>
    have hn : n = 1 := by simpa [pm_ck] using hck
    subst hn
    replace h := pm_l2_el (show pm_l2 st _ from h)
    obtain ⟨x, y, st1, rfl, h⟩ := h
    exact pm_s_lcmp hdec (hN _ _ _ _ _ h)
  | lshl =>
    have hn : n = 1 := by simpa [pm_ck] using hck
    subst hn
    replace h := pm_li_el (show pm_li st _ from h)
    obtain ⟨x, y, st1, rfl, h⟩ := h
    exact pm_s_lshl hdec (hN _ _ _ _ _ h)
  | lshr =>
    have hn : n = 1 := by simpa [pm_ck] using hck
    subst hn
    replace h := pm_li_el (show pm_li st _ from h)
    obtain ⟨x, y, st1, rfl, h⟩ := h
    exact pm_s_lshr hdec (hN _ _ _ _ _ h)
  | idiv =>
    have hn : n = 1 := by simpa [pm_ck] using hck
    subst hn
    replace h := pm_i2_el (show pm_i2 st _ from h)
    obtain ⟨x, y, st1, rfl, h0, h⟩ := h
    exact pm_s_idiv hdec h0 (hN _ _ _ _ _ h)
  | irem =>
    have hn : n = 1 := by simpa [pm_ck] using hck
    subst hn
    replace h := pm_i2_el (show pm_i2 st _ from h)
    obtain ⟨x, y, st1, rfl, h0, h⟩ := h
    exact pm_s_irem hdec h0 (hN _ _ _ _ _ h)
  | ldiv =>
    have hn : n = 1 := by simpa [pm_ck] using hck
    subst hn
    replace h := pm_l2_el (show pm_l2 st _ from h)
    obtain ⟨x, y, st1, rfl, h0, h⟩ := h
    exact pm_s_ldiv hdec h0 (hN _ _ _ _ _ h)
  | lrem =>
    have hn : n = 1 := by simpa [pm_ck] using hck
    subst hn
    replace h := pm_l2_el (show pm_l2 st _ from h)
    obtain ⟨x, y, st1, rfl, h0, h⟩ := h
    exact pm_s_lrem hdec h0 (hN _ _ _ _ _ h)
  | ineg =>
    have hn : n = 1 := by simpa [pm_ck] using hck
    subst hn
    replace h := pm_i1_el (show pm_i1 st _ from h)
    obtain ⟨x, st1, rfl, h⟩ := h
    exact pm_s_ineg hdec (hN _ _ _ _ _ h)
  | lneg =>
    have hn : n = 1 := by simpa [pm_ck] using hck
    subst hn
    replace h := pm_l1_el (show pm_l1 st _ from h)
    obtain ⟨x, st1, rfl, h⟩ := h
    exact pm_s_lneg hdec (hN _ _ _ _ _ h)
  | i2l =>
    have hn : n = 1 := by simpa [pm_ck] using hck
    subst hn
    replace h := pm_i1_el (show pm_i1 st _ from h)
    obtain ⟨x, st1, rfl, h⟩ := h
    exact pm_s_i2l hdec (hN _ _ _ _ _ h)
  | l2i =>
    have hn : n = 1 := by simpa [pm_ck] using hck
    subst hn
    replace h := pm_l1_el (show pm_l1 st _ from h)
    obtain ⟨x, st1, rfl, h⟩ := h
    exact pm_s_l2i hdec (hN _ _ _ _ _ h)
  | i2b =>
    have hn : n = 1 := by simpa [pm_ck] using hck
    subst hn
    replace h := pm_i1_el (show pm_i1 st _ from h)
    obtain ⟨x, st1, rfl, h⟩ := h
    exact pm_s_i2b hdec (hN _ _ _ _ _ h)
  | i2s =>
    have hn : n = 1 := by simpa [pm_ck] using hck
    subst hn
    replace h := pm_i1_el (show pm_i1 st _ from h)
    obtain ⟨x, st1, rfl, h⟩ := h
    exact pm_s_i2s hdec (hN _ _ _ _ _ h)
  | dup =>
    have hn : n = 1 := by simpa [pm_ck] using hck
    subst hn
    replace h := pm_t1_el (show pm_t1 st _ from h)
    obtain ⟨x, st1, rfl, h0, h⟩ := h
    exact pm_s_dup hdec h0 (hN _ _ _ _ _ h)
  | pop =>
    have hn : n = 1 := by simpa [pm_ck] using hck
    subst hn
    replace h := pm_t1_el (show pm_t1 st _ from h)
    obtain ⟨x, st1, rfl, h0, h⟩ := h
    exact pm_s_pop hdec h0 (hN _ _ _ _ _ h)
  | dup2 =>
    have hn : n = 1 := by simpa [pm_ck] using hck
    subst hn
    replace h := pm_t1_el (show pm_t1 st _ from h)
    obtain ⟨x, st1, rfl, h⟩ := h
    replace h := pm_t1_el (show pm_t1 st1 _ from h)
    obtain ⟨y, st2, rfl, h0, h1, h⟩ := h
    exact pm_s_dup2 hdec h0 h1 (hN _ _ _ _ _ h)
  | ifCond c off =>
    simp only [pm_ck, Bool.and_eq_true, decide_eq_true_eq] at hck
    obtain ⟨hn, hb⟩ := hck
    subst hn
    cases c
    · replace h := pm_u2_el (show pm_u2 a _ from h)
      obtain ⟨t, f, rfl, h⟩ := h
      replace h := pm_i1_el (show pm_i1 st _ from h)
      obtain ⟨x, st1, rfl, h⟩ := h
      exact pm_s_if_eq hdec (pm_br_ok hb) ⟨fun q => hJ _ _ _ _ _ _ _ (h.1 q), fun q => hN _ _ _ _ _ (h.2 q)⟩
    · replace h := pm_u2_el (show pm_u2 a _ from h)
      obtain ⟨t, f, rfl, h⟩ := h
      replace h := pm_i1_el (show pm_i1 st _ from h)
      obtain ⟨x, st1, rfl, h⟩ := h
      exact pm_s_if_ne hdec (pm_br_ok hb) ⟨fun q => hN _ _ _ _ _ (h.1 q), fun q => hJ _ _ _ _ _ _ _ (h.2 q)⟩
    · replace h := pm_u2_el (show pm_u2 a _ from h)
      obtain ⟨t, f, rfl, h⟩ := h
      replace h := pm_i1_el (show pm_i1 st _ from h)
      obtain ⟨x, st1, rfl, h⟩ := h
      exact pm_s_if_lt hdec (pm_br_ok hb) ⟨fun q => hJ _ _ _ _ _ _ _ (h.1 q), fun q => hN _ _ _ _ _ (h.2 q)⟩
    · replace h := pm_u2_el (show pm_u2 a _ from h)
      obtain ⟨t, f, rfl, h⟩ := h
      replace h := pm_i1_el (show pm_i1 st _ from h)
      obtain ⟨x, st1, rfl, h⟩ := h
      exact pm_s_if_ge hdec (pm_br_ok hb) ⟨fun q => hJ _ _ _ _ _ _ _ (h.1 q), fun q => hN _ _ _ _ _ (h.2 q)⟩
    · replace h := pm_u2_el (show pm_u2 a _ from h)
      obtain ⟨t, f, rfl, h⟩ := h
      replace h := pm_i1_el (show pm_i1 st _ from h)
      obtain ⟨x, st1, rfl, h⟩ := h
      exact pm_s_if_gt hdec (pm_br_ok hb) ⟨fun q => hJ _ _ _ _ _ _ _ (h.1 q), fun q => hN _ _ _ _ _ (h.2 q)⟩
    · replace h := pm_u2_el (show pm_u2 a _ from h)
      obtain ⟨t, f, rfl, h⟩ := h
      replace h := pm_i1_el (show pm_i1 st _ from h)
      obtain ⟨x, st1, rfl, h⟩ := h
      exact pm_s_if_le hdec (pm_br_ok hb) ⟨fun q => hJ _ _ _ _ _ _ _ (h.1 q), fun q => hN _ _ _ _ _ (h.2 q)⟩
  | if_icmp c off =>
    simp only [pm_ck, Bool.and_eq_true, decide_eq_true_eq] at hck
    obtain ⟨hn, hb⟩ := hck
    subst hn
    cases c
    · replace h := pm_u2_el (show pm_u2 a _ from h)
      obtain ⟨t, f, rfl, h⟩ := h
      replace h := pm_i2_el (show pm_i2 st _ from h)
      obtain ⟨x, y, st1, rfl, h⟩ := h
      exact pm_s_icmp_eq hdec (pm_br_ok hb) ⟨fun q => hJ _ _ _ _ _ _ _ (h.1 q), fun q => hN _ _ _ _ _ (h.2 q)⟩
    · replace h := pm_u2_el (show pm_u2 a _ from h)
      obtain ⟨t, f, rfl, h⟩ := h
      replace h := pm_i2_el (show pm_i2 st _ from h)
      obtain ⟨x, y, st1, rfl, h⟩ := h
      exact pm_s_icmp_ne hdec (pm_br_ok hb) ⟨fun q => hN _ _ _ _ _ (h.1 q), fun q => hJ _ _ _ _ _ _ _ (h.2 q)⟩
    · replace h := pm_u2_el (show pm_u2 a _ from h)
      obtain ⟨t, f, rfl, h⟩ := h
      replace h := pm_i2_el (show pm_i2 st _ from h)
      obtain ⟨x, y, st1, rfl, h⟩ := h
      exact pm_s_icmp_lt hdec (pm_br_ok hb) ⟨fun q => hJ _ _ _ _ _ _ _ (h.1 q), fun q => hN _ _ _ _ _ (h.2 q)⟩
    · replace h := pm_u2_el (show pm_u2 a _ from h)
      obtain ⟨t, f, rfl, h⟩ := h
      replace h := pm_i2_el (show pm_i2 st _ from h)
      obtain ⟨x, y, st1, rfl, h⟩ := h
      exact pm_s_icmp_ge hdec (pm_br_ok hb) ⟨fun q => hJ _ _ _ _ _ _ _ (h.1 q), fun q => hN _ _ _ _ _ (h.2 q)⟩
    · replace h := pm_u2_el (show pm_u2 a _ from h)
      obtain ⟨t, f, rfl, h⟩ := h
      replace h := pm_i2_el (show pm_i2 st _ from h)
      obtain ⟨x, y, st1, rfl, h⟩ := h
      exact pm_s_icmp_gt hdec (pm_br_ok hb) ⟨fun q => hJ _ _ _ _ _ _ _ (h.1 q), fun q => hN _ _ _ _ _ (h.2 q)⟩
    · replace h := pm_u2_el (show pm_u2 a _ from h)
      obtain ⟨t, f, rfl, h⟩ := h
      replace h := pm_i2_el (show pm_i2 st _ from h)
      obtain ⟨x, y, st1, rfl, h⟩ := h
      exact pm_s_icmp_le hdec (pm_br_ok hb) ⟨fun q => hJ _ _ _ _ _ _ _ (h.1 q), fun q => hN _ _ _ _ _ (h.2 q)⟩
  | ifnull off =>
    simp only [pm_ck, Bool.and_eq_true, decide_eq_true_eq] at hck
    obtain ⟨hn, hb⟩ := hck
    subst hn
    replace h := pm_u2_el (show pm_u2 a _ from h)
    obtain ⟨t, f, rfl, h⟩ := h
    replace h := pm_t1_el (show pm_t1 st _ from h)
    obtain ⟨v, st1, rfl, h⟩ := h
    replace h := pm_oQ_el (show pm_oQ v _ from h)
    obtain ⟨r, rfl, h⟩ := h
    exact pm_s_ifnull hdec (pm_br_ok hb) ⟨fun q => hJ _ _ _ _ _ _ _ (h.1 q), fun q => hN _ _ _ _ _ (h.2 q)⟩
  | ifnonnull off =>
    simp only [pm_ck, Bool.and_eq_true, decide_eq_true_eq] at hck
    obtain ⟨hn, hb⟩ := hck
    subst hn
    replace h := pm_u2_el (show pm_u2 a _ from h)
    obtain ⟨t, f, rfl, h⟩ := h
    replace h := pm_t1_el (show pm_t1 st _ from h)
    obtain ⟨v, st1, rfl, h⟩ := h
    replace h := pm_oQ_el (show pm_oQ v _ from h)
    obtain ⟨r, rfl, h⟩ := h
    exact pm_s_ifnonnull hdec (pm_br_ok hb) ⟨fun q => hN _ _ _ _ _ (h.1 q), fun q => hJ _ _ _ _ _ _ _ (h.2 q)⟩
  | goto off =>
    simp only [pm_ck, Bool.and_eq_true, decide_eq_true_eq] at hck
    obtain ⟨hn, hb⟩ := hck
    subst hn
    replace h := pm_u2_el (show pm_u2 a _ from h)
    obtain ⟨t, f, rfl, h⟩ := h
    exact pm_s_goto hdec (pm_br_ok hb) (hJ _ _ _ _ _ _ _ h)
  | tableswitch dflt lo hi offs =>
    simp only [pm_ck, Bool.and_eq_true, decide_eq_true_eq] at hck
    obtain ⟨h0, h1, h2, h3, h4⟩ := hck
    replace h := pm_i1_el (show pm_i1 st _ from h)
    obtain ⟨x, st1, rfl, h⟩ := h
    have key : ∀ k t : Nat, (k, t) ∈ pm_swk a → ∃ (q : Nat) (o : Int), offs[q]? = some o ∧ (k : Int) = lo + q ∧ (t : Int) = pc + o := by
      intro k t hkt
      have hm : ((k : Int), (t : Int)) ∈ offs.toList.zipIdx.map (fun q => (lo + (q.2 : Int), (pc : Int) + q.1)) := by rw [← h3]; exact List.mem_map.mpr ⟨(k, t), hkt, rfl⟩
      obtain ⟨⟨o, q⟩, hq, he⟩ := List.mem_map.mp hm
      have hq2 := List.mem_zipIdx_iff_getElem?.mp hq
      simp only [Prod.mk.injEq] at he
      exact ⟨q, o, by simpa using hq2, he.1.symm, he.2.symm⟩
    rcases pm_sw_el h with ⟨k, t, f, hk, hx, hj⟩ | ⟨hout, t, f, hd0, hj⟩
    · obtain ⟨q, o, g1, g2, g3⟩ := key k t hk
      have hql : q < offs.toList.length := by have := (Array.getElem?_eq_some_iff.mp g1).1; simpa using this
      have hxi : x.toInt = (k : Int) := by rw [hx]; exact pm_ofN (by omega)
      refine pm_s_table hdec (by omega) (by omega) (off := o) (t := t) ?_ g3.symm (hJ _ _ _ _ _ _ _ hj)
      rw [hxi, g2, show (lo + (q : Int) - lo).toNat = q by omega]; exact g1
    · rw [hd0] at h4
      have h4 : (t : Int) = pc + dflt := by simpa using h4
      by_cases hin : x.toInt < lo ∨ hi < x.toInt
      · exact pm_s_tableOut hdec hin h4.symm (hJ _ _ _ _ _ _ _ hj)
      · exfalso
        have hq : (x.toInt - lo).toNat < offs.toList.length := by omega
        have hm : (lo + (((x.toInt - lo).toNat : Nat) : Int), (pc : Int) + offs.toList[(x.toInt - lo).toNat]) ∈ (pm_swk a).map (fun q => ((q.1 : Int), (q.2 : Int))) := by
          rw [h3]
          exact List.mem_map.mpr ⟨(offs.toList[(x.toInt - lo).toNat], (x.toInt - lo).toNat), List.mem_zipIdx_iff_getElem?.mpr (List.getElem?_eq_getElem hq), rfl⟩
        obtain ⟨⟨k, t2⟩, hk, he⟩ := List.mem_map.mp hm
        simp only [Prod.mk.injEq] at he
        refine hout (k, t2) hk (Int32.toInt_inj.mp ?_)
        rw [pm_ofN (show k < 100000 by omega)]; omega
  | lookupswitch dflt ps =>
    simp only [pm_ck, Bool.and_eq_true, decide_eq_true_eq] at hck
    obtain ⟨h1, h2, h3, h4⟩ := hck
    replace h := pm_i1_el (show pm_i1 st _ from h)
    obtain ⟨x, st1, rfl, h⟩ := h
    rcases pm_sw_el h with ⟨k, t, f, hk, hx, hj⟩ | ⟨hout, t, f, hd0, hj⟩
    · have hm : ((k : Int), (t : Int)) ∈ ps.toList.map (fun q => (q.1, (pc : Int) + q.2)) := by rw [← h3]; exact List.mem_map.mpr ⟨(k, t), hk, rfl⟩
      obtain ⟨⟨k2, o⟩, hq, he⟩ := List.mem_map.mp hm
      simp only [Prod.mk.injEq] at he
      have hb := List.all_eq_true.mp h2 _ hq
      simp only [decide_eq_true_eq] at hb
      have hxi : x.toInt = k2 := by rw [hx, pm_ofN (by omega)]; exact he.1.symm
      exact pm_s_lookup hdec h1 (off := o) (by rw [hxi]; exact pm_lk_in h1 hq) he.2 (hJ _ _ _ _ _ _ _ hj)
    · rw [hd0] at h4
      have h4 : (t : Int) = pc + dflt := by simpa using h4
      refine pm_s_lookup hdec h1 (off := dflt) (pm_lk_out (fun q hq hx => ?_)) h4.symm (hJ _ _ _ _ _ _ _ hj)
      have hm : (q.1, (pc : Int) + q.2) ∈ (pm_swk a).map (fun q => ((q.1 : Int), (q.2 : Int))) := by rw [h3]; exact List.mem_map.mpr ⟨q, hq, rfl⟩
      obtain ⟨⟨k, t2⟩, hk, he⟩ := List.mem_map.mp hm
      simp only [Prod.mk.injEq] at he
      have hb := List.all_eq_true.mp h2 _ hq
      simp only [decide_eq_true_eq] at hb
      refine hout (k, t2) hk (Int32.toInt_inj.mp ?_)
      rw [pm_ofN (show k < 100000 by omega)]; omega
  | getfield idx =>
    simp only [pm_ck, Bool.and_eq_true, decide_eq_true_eq] at hck
    obtain ⟨hn, hck⟩ := hck
    subst hn
    simp only [pm_wi] at h
    split at h
    · replace h := pm_p1_el (show pm_p1 st _ from h)
      obtain ⟨p, st1, rfl, hp, h⟩ := h
      simp only [Bool.and_eq_true, decide_eq_true_eq] at hck
      obtain ⟨h1, h2, h3, h4⟩ := hck
      subst h3
      exact pm_s_get hdec h1 h2 (pm_flk_ok h4) hp (hN _ _ _ _ _ h)
    · replace h := pm_ra_el (show pm_ra st _ from h)
      obtain ⟨i, st1, rfl, hi, h⟩ := h
      simp only [Bool.and_eq_true, Bool.or_eq_true, decide_eq_true_eq] at hck
      exact pm_s_sget hdec hck.1 hi hck.2 (hN _ _ _ _ _ h)
    · exact h.elim
  | putfield idx =>
    replace h := pm_u5_el (show pm_u5 a _ from h)
    obtain ⟨c, k, f, e, fin, rfl, h⟩ := h
    simp only [pm_ck, Bool.and_eq_true, Bool.or_eq_true, decide_eq_true_eq] at hck
    obtain ⟨hn, h1, h2, h3, h4, h5⟩ := hck
    subst hn
    have h5 : (pm_T c k).2.2.2 = false ∨ ((pm_T c k).2.2.2 = true ∧ (pm_y mi).name = "<init>" ∧ pm_oc mi = c) := h5.imp (fun q => q.2) id
    rcases pm_fk_ty c h1 k h2 with ⟨g, -⟩ | ⟨g, -⟩ | ⟨g, -⟩
    · have hf : f = 0 := h3.symm.trans g
      subst hf
      replace h := pm_t1_el (show pm_t1 st _ from h)
      obtain ⟨v, st1, rfl, h⟩ := h
      replace h := pm_oI_el (show pm_oI v _ from h)
      obtain ⟨x, rfl, h⟩ := h
      replace h := pm_p1_el (show pm_p1 st1 _ from h)
      obtain ⟨p, st2, rfl, hp, h⟩ := h
      exact pm_s_putI hdec h1 h2 (pm_flk_ok h4) h5 (Or.inl g) hp (hN _ _ _ _ _ h)
    · have hf : f = 1 := h3.symm.trans g
      subst hf
      replace h := pm_t1_el (show pm_t1 st _ from h)
      obtain ⟨v, st1, rfl, h⟩ := h
      replace h := pm_oI_el (show pm_oI v _ from h)
      obtain ⟨x, rfl, h⟩ := h
      replace h := pm_p1_el (show pm_p1 st1 _ from h)
      obtain ⟨p, st2, rfl, hp, hx, h⟩ := h
      exact pm_s_putI hdec h1 h2 (pm_flk_ok h4) h5 (Or.inr ⟨g, hx⟩) hp (hN _ _ _ _ _ h)
    · have hf : f = 2 := h3.symm.trans g
      subst hf
      replace h := pm_t1_el (show pm_t1 st _ from h)
      obtain ⟨v, st1, rfl, h⟩ := h
      replace h := pm_oQ_el (show pm_oQ v _ from h)
      obtain ⟨x, rfl, h⟩ := h
      replace h := pm_p1_el (show pm_p1 st1 _ from h)
      obtain ⟨p, st2, rfl, hp, h⟩ := h
      exact pm_s_putR hdec h1 h2 (pm_flk_ok h4) h5 g hp (hN _ _ _ _ _ h)
  | iaload =>
    have hn : n = 1 := by simpa [pm_ck] using hck
    subst hn
    replace h := pm_ix_el (show pm_ix st _ _ from h)
    obtain ⟨j, p, st1, ⟨rfl, h1, h2, h⟩ | ⟨rfl, ⟨rfl, h2, h⟩ | ⟨rfl, h2, h⟩⟩⟩ := h
    · exact pm_s_iald hdec h1 h2 (hN _ _ _ _ _ h)
    · exact pm_s_tald hdec h2 (hN _ _ _ _ _ h)
    · exact pm_s_xald (i := 101) hdec (fun U hU => ⟨hU.2.2.2.1.2.1, hU.2.2.2.1.2.2.2.1⟩) h2 (hN _ _ _ _ _ h)
  | arraylength =>
    have hn : n = 1 := by simpa [pm_ck] using hck
    subst hn
    replace h := pm_ra_el (show pm_ra st _ from h)
    obtain ⟨q, st1, rfl, ⟨rfl, h⟩ | ⟨h1, h2, h⟩⟩ := h
    · exact pm_s_xlen (i := 101) hdec (fun U hU => ⟨hU.2.2.2.1.2.1, hU.2.2.2.1.2.2.2.1⟩) (hN _ _ _ _ _ h)
    · exact pm_s_slen hdec h1 h2 (hN _ _ _ _ _ h)
  | i2c =>
    have hn : n = 1 := by simpa [pm_ck] using hck
    subst hn
    replace h := pm_i1_el (show pm_i1 st _ from h)
    obtain ⟨x, st1, rfl, h⟩ := h
    exact pm_s_i2c hdec (hN _ _ _ _ _ h)
  | baload =>
    have hn : n = 1 := by simpa [pm_ck] using hck
    subst hn
    replace h := pm_ix_el (show pm_ix st _ _ from h)
    obtain ⟨j, p, st1, ⟨rfl, h1, h2, h⟩ | ⟨rfl, h1, h2, h3, h⟩⟩ := h
    · exact pm_s_zald hdec h1 h2 (hN _ _ _ _ _ h)
    · exact pm_s_sbald hdec h1 h2 h3 (hN _ _ _ _ _ h)
  | laload =>
    have hn : n = 1 := by simpa [pm_ck] using hck
    subst hn
    replace h := pm_ix_el (show pm_ix st _ _ from h)
    obtain ⟨j, p, st1, ⟨rfl, h1, h2, h⟩ | ⟨rfl, h⟩⟩ := h
    · exact pm_s_lald hdec h1 h2 (hN _ _ _ _ _ h)
    · exact h.elim
  | aaload =>
    replace h := pm_u1_el (show pm_u1 a _ from h)
    obtain ⟨k, rfl, h⟩ := h
    simp only [pm_ck, Bool.and_eq_true, Bool.or_eq_true, decide_eq_true_eq, List.cons.injEq, and_true] at hck
    obtain ⟨hn, hk⟩ := hck
    subst hn
    replace h := pm_ix_el (show pm_ix st _ _ from h)
    obtain ⟨j, p, st1, ⟨rfl, h1, h2, h⟩ | ⟨rfl, h⟩⟩ := h
    · exact pm_s_aald hdec hk h1 h2 (hN _ _ _ _ _ h)
    · exact h.elim
  | iastore =>
    have hn : n = 1 := by simpa [pm_ck] using hck
    subst hn
    replace h := pm_vx_el (show pm_vx st _ from h)
    obtain ⟨v, j, p, st1, rfl, h⟩ := h
    replace h := pm_oI_el (show pm_oI v _ from h)
    obtain ⟨x, rfl, h1, h2, h⟩ := h
    exact pm_s_iast hdec h1 h2 (hN _ _ _ _ _ h)
  | bastore =>
    have hn : n = 1 := by simpa [pm_ck] using hck
    subst hn
    replace h := pm_vx_el (show pm_vx st _ from h)
    obtain ⟨v, j, p, st1, rfl, h⟩ := h
    replace h := pm_oI_el (show pm_oI v _ from h)
    obtain ⟨x, rfl, h1, h2, h3, h⟩ := h
    exact pm_s_zast hdec h1 h2 h3 (hN _ _ _ _ _ h)
  | lastore =>
    have hn : n = 1 := by simpa [pm_ck] using hck
    subst hn
    replace h := pm_vx_el (show pm_vx st _ from h)
    obtain ⟨v, j, p, st1, rfl, h⟩ := h
    replace h := pm_oL_el (show pm_oL v _ from h)
    obtain ⟨x, rfl, h1, h2, h⟩ := h
    exact pm_s_last hdec h1 h2 (hN _ _ _ _ _ h)
  | aastore =>
    replace h := pm_u2_el (show pm_u2 a _ from h)
    obtain ⟨k, c, rfl, h⟩ := h
    simp only [pm_ck, Bool.and_eq_true, Bool.or_eq_true, decide_eq_true_eq, List.cons.injEq, and_true] at hck
    obtain ⟨hn, hk⟩ := hck
    subst hn
    replace h := pm_vx_el (show pm_vx st _ from h)
    obtain ⟨v, j, p, st1, rfl, h⟩ := h
    replace h := pm_p1_el (show pm_p1 [v] _ from h)
    obtain ⟨q, st2, hq, h1, h2, h3, h⟩ := h
    cases hq
    exact pm_s_aast hdec hk h1 h2 h3 (hN _ _ _ _ _ h)
  | new idx =>
    replace h := pm_u5_el (show pm_u5 a _ from h)
    obtain ⟨c, e, z, mc, ms, rfl, h1, h2, h⟩ := h
    simp only [pm_ck, Bool.and_eq_true, decide_eq_true_eq] at hck
    obtain ⟨hn, g1, g2, g3, g4, g5⟩ := hck
    subst hn; subst g2; subst g3; subst g4
    exact pm_s_new hdec g1 (pm_klk_ok g5) h1 h2 (hN _ _ _ _ _ h)
  | newarray t =>
    replace h := pm_u5_el (show pm_u5 a _ from h)
    obtain ⟨k, z, e, mc, ms, rfl, h⟩ := h
    replace h := pm_t1_el (show pm_t1 st _ from h)
    obtain ⟨v, st1, rfl, hv, h1, h2, h⟩ := h
    simp only [pm_ck, Bool.and_eq_true, Bool.or_eq_true, decide_eq_true_eq] at hck
    obtain ⟨hn, g1, g2, g3, g4, g5⟩ := hck
    subst hn; subst g3; subst g4; subst g5; subst hv
    exact pm_s_newa hdec g1 g2 h1 h2 (hN _ _ _ _ _ h)
  | anewarray idx =>
    replace h := pm_u5_el (show pm_u5 a _ from h)
    obtain ⟨k, z, e, mc, ms, rfl, h⟩ := h
    replace h := pm_t1_el (show pm_t1 st _ from h)
    obtain ⟨v, st1, rfl, hv, h1, h2, h⟩ := h
    simp only [pm_ck, Bool.and_eq_true, Bool.or_eq_true, decide_eq_true_eq] at hck
    obtain ⟨hn, g1, g2, g3, g4, g5, g6⟩ := hck
    subst hn; subst g3; subst g4; subst g5; subst hv
    exact pm_s_newq hdec g1 (pm_klk_ok g6) g2 h1 h2 (hN _ _ _ _ _ h)
  | invokevirtual idx =>
    simp only [pm_ck, Bool.and_eq_true, decide_eq_true_eq] at hck
    obtain ⟨hn, hck⟩ := hck
    subst hn
    simp only [pm_wi] at h
    split at h
    · replace h := pm_sp_el h
      obtain ⟨as, st1, rfl, hl, h⟩ := h
      replace h := pm_ra_el (show pm_ra st1 _ from h)
      obtain ⟨i, rest, rfl, hi, hd0, hsm, h⟩ := h
      simp only [Bool.and_eq_true, decide_eq_true_eq] at hck
      obtain ⟨g1, g2, g3, g5, g6, g7, g8⟩ := hck
      obtain ⟨Q1, hct, hq⟩ := pm_cc_ct h
      exact pm_s_svirt hdec g1 g2 g3 hi (hl.trans g5.symm) (pm_mlk_ok g8) hd0 hsm (fun q => by rw [g6]; exact q) (fun q => by rw [g7]; exact q) hct (fun v S' k => by rw [g6, g7]; exact hN _ _ _ _ _ (hq v S' k))
    · replace h := pm_sp_el h
      obtain ⟨as, st1, rfl, hl, h⟩ := h
      replace h := pm_p1_el (show pm_p1 st1 _ from h)
      obtain ⟨p, rest, rfl, hd0, hp, hsm, h⟩ := h
      simp only [Bool.and_eq_true, decide_eq_true_eq] at hck
      obtain ⟨g1, g2, g3, g4, g5, g6, g7, g8⟩ := hck
      obtain ⟨Q1, hct, hq⟩ := pm_cc_ct h
      exact pm_s_virt hdec g1 g2 g3 g4 (hl.trans g5.symm) (pm_mlk_ok g8) hd0 hp hsm (fun q => by rw [g6]; exact q) (fun q => by rw [g7]; exact q) hct (fun v S' k => by rw [g6, g7]; exact hN _ _ _ _ _ (hq v S' k))
    · replace h := pm_sp_el h
      obtain ⟨as, st1, rfl, hl, h⟩ := h
      replace h := pm_p1_el (show pm_p1 st1 _ from h)
      obtain ⟨p, rest, rfl, hd0, hp, hsm, h1, h2, h⟩ := h
      simp only [Bool.and_eq_true, decide_eq_true_eq] at hck
      obtain ⟨g1, g2, g3, g4, g5, g6, g7, g8, g9, g10⟩ := hck
      obtain ⟨Q1, hct, hq⟩ := pm_cc_ct h
      subst g6; subst g7; subst g8; subst g9
      exact pm_s_virt hdec g1 g2 g3 g4 (hl.trans g5.symm) (pm_mlk_ok g10) hd0 hp hsm (fun _ => h1) (fun _ => h2) hct (fun v S' k => hN _ _ _ _ _ (hq v S' k))
    · exact h.elim
  | invokespecial idx =>
    simp only [pm_ck, Bool.and_eq_true, decide_eq_true_eq] at hck
    obtain ⟨hn, hck⟩ := hck
    subst hn
    simp only [pm_wi] at h
    split at h
    · replace h := pm_p1_el (show pm_p1 st _ from h)
      obtain ⟨p, rest, rfl, hd0, hsm, h⟩ := h
      exact pm_s_objI hdec (pm_olk_ok hck) hd0 hsm (hN _ _ _ _ _ h)
    · replace h := pm_sp_el h
      obtain ⟨as, st1, rfl, hl, h⟩ := h
      replace h := pm_p1_el (show pm_p1 st1 _ from h)
      obtain ⟨p, rest, rfl, hd0, hp, hsm, h1, h2, h⟩ := h
      simp only [Bool.and_eq_true, Bool.or_eq_true, decide_eq_true_eq] at hck
      obtain ⟨g1, g2, g3, g4, g5, g6, g7, g8, g9⟩ := hck
      obtain ⟨Q1, hct, hq⟩ := pm_cc_ct h
      subst g5; subst g6; subst g7; subst g8
      rcases g9 with g9 | ⟨k1, k2, k3, k4⟩
      · exact pm_s_init hdec g1 g2 (hl.trans g4.symm) (Or.inl (pm_mlk_ok g9)) hd0 hsm (fun _ => h1) (fun _ => h2) hct (fun v S' k => hN _ _ _ _ _ (hq v S' k))
      · exact pm_s_init hdec g1 g2 (hl.trans g4.symm) (Or.inr ⟨_, k2, k3, k4⟩) hd0 hsm (fun _ => h1) (fun _ => h2) hct (fun v S' k => hN _ _ _ _ _ (hq v S' k))
    · exact h.elim
  | invokestatic idx =>
    simp only [pm_ck, Bool.and_eq_true, decide_eq_true_eq] at hck
    obtain ⟨hn, hck⟩ := hck
    subst hn
    simp only [pm_wi] at h
    split at h
    · replace h := pm_i2_el (show pm_i2 st _ from h)
      obtain ⟨x, y, st1, rfl, hd0, hsm, h⟩ := h
      exact pm_s_min hdec (pm_mlk_ok hck) hd0 hsm (hN _ _ _ _ _ h)
    · replace h := pm_l2_el (show pm_l2 st _ from h)
      obtain ⟨x, y, st1, rfl, hd0, hsm, h⟩ := h
      exact pm_s_minl hdec (pm_mlk_ok hck) hd0 hsm (hN _ _ _ _ _ h)
    · replace h := pm_i1_el (show pm_i1 st _ from h)
      obtain ⟨x, st1, rfl, hd0, hsm, h⟩ := h
      exact pm_s_abs hdec (pm_mlk_ok hck) hd0 hsm (hN _ _ _ _ _ h)
    · replace h := pm_l1_el (show pm_l1 st _ from h)
      obtain ⟨x, st1, rfl, hd0, hsm, h⟩ := h
      exact pm_s_absl hdec (pm_mlk_ok hck) hd0 hsm (hN _ _ _ _ _ h)
    · replace h := pm_sp_el h
      obtain ⟨as, rest, rfl, hl, h⟩ := h
      simp only [Bool.and_eq_true, decide_eq_true_eq] at hck
      obtain ⟨g1, g2⟩ := hck
      subst g2
      split at h
      · obtain ⟨hd0, hsm, k1, k2, k3, k4, k5, k6, k7, h⟩ := h
        exact pm_s_copy hdec (by rw [g1]; exact pm_mem pm_cp4 rfl) hd0 hsm k1 k2 k3 k4 k5 k6 k7 (hN _ _ _ _ _ h)
      · exact h.elim
    · replace h := pm_sp_el h
      obtain ⟨as, rest, rfl, hl, hd0, hsm, h⟩ := h
      simp only [Bool.and_eq_true, Bool.or_eq_true, decide_eq_true_eq] at hck
      obtain ⟨g1, g2, g3, g4, g5, g6⟩ := hck
      obtain ⟨Q1, hct, hq⟩ := pm_cc_ct h
      rcases g6 with g6 | ⟨k1, k2, k3, k4⟩
      · exact pm_s_stat hdec g1 g2 (hl.trans g3.symm) (Or.inl (pm_mlk_ok g6)) hd0 hsm (fun q => by rw [g4]; exact q) (fun q => by rw [g5]; exact q) hct (fun v S' k => by rw [g4, g5]; exact hN _ _ _ _ _ (hq v S' k))
      · exact pm_s_stat hdec g1 g2 (hl.trans g3.symm) (Or.inr ⟨_, k2, k3, k4⟩) hd0 hsm (fun q => by rw [g4]; exact q) (fun q => by rw [g5]; exact q) hct (fun v S' k => by rw [g4, g5]; exact hN _ _ _ _ _ (hq v S' k))
    · exact h.elim
  | ireturn =>
    replace h := pm_u1_el (show pm_u1 a _ from h)
    obtain ⟨t, rfl, h⟩ := h
    replace h := pm_i1_el (show pm_i1 st _ from h)
    obtain ⟨x, st1, rfl, rfl, hx, h⟩ := h
    simp only [pm_ck, Bool.and_eq_true, Bool.or_eq_true, decide_eq_true_eq, List.cons.injEq, and_true] at hck
    obtain ⟨hn, hk⟩ := hck
    subst hn
    refine pm_s_ret (v := some (.int x)) hdec ?_ h
    rcases hk with ⟨rfl, hk⟩ | ⟨rfl, hk⟩ | ⟨rfl, hk⟩ | ⟨rfl, hk⟩
    · exact ⟨_, hk, rfl⟩
    · refine ⟨_, hk, ?_⟩
      rcases hx with hx | rfl | rfl | ⟨hx, -⟩
      · cases hx
      · rfl
      · rfl
      · cases hx
    · refine ⟨_, hk, ?_⟩
      rcases hx with hx | rfl | rfl | ⟨hx, -⟩
      · cases hx
      · rfl
      · rfl
      · cases hx
    · refine ⟨_, hk, ?_⟩
      rcases hx with hx | rfl | rfl | ⟨-, hx⟩
      · cases hx
      · rfl
      · rfl
      · exact hx
  | lreturn =>
    replace h := pm_l1_el (show pm_l1 st _ from h)
    obtain ⟨x, st1, rfl, rfl, h⟩ := h
    simp only [pm_ck, Bool.and_eq_true, decide_eq_true_eq] at hck
    obtain ⟨hn, hk⟩ := hck
    subst hn
    exact pm_s_ret (v := some (.long x)) hdec hk h
  | areturn =>
    replace h := pm_t1_el (show pm_t1 st _ from h)
    obtain ⟨x, st1, rfl, rfl, h⟩ := h
    replace h := pm_oQ_el (show pm_oQ x _ from h)
    obtain ⟨r, rfl, h⟩ := h
    simp only [pm_ck, Bool.and_eq_true, decide_eq_true_eq] at hck
    obtain ⟨hn, hk⟩ := hck
    subst hn
    split at hk
    · rename_i nm hnm
      cases r with
      | none => exact pm_s_ret (v := some .null) hdec ⟨⟨_, hnm, Or.inl ⟨_, rfl⟩⟩, Or.inl rfl⟩ h
      | some q => exact pm_s_ret (v := some (.ref q)) hdec ⟨⟨_, hnm, Or.inl ⟨_, rfl⟩⟩, Or.inr ⟨_, rfl⟩⟩ h
    · cases hk
  | return_ =>
    obtain ⟨rfl, h⟩ := h
    simp only [pm_ck, Bool.and_eq_true, decide_eq_true_eq] at hck
    obtain ⟨hn, hk⟩ := hck
    subst hn
    exact pm_s_ret (v := none) hdec hk h
  | _ => exact False.elim h
end PMW
