/-! BLOCKS: instructions in a row; behind them a jump -/
def pm_wl (G : pm_G) (d mi : Nat) (Q : pm_Q) (J : pm_J) : List pm_It → Nat → Nat → pm_K
  | [], t, f => J t f
  | x :: l, t, f => pm_wi G d mi Q J (pm_wl G d mi Q J l t f) x.1 x.2.1 x.2.2
def pm_wb (G : pm_G) (d mi : Nat) (Q : pm_Q) (B : Nat → List pm_It × Nat × Nat) : Nat → pm_J
  | 0, t, _ => pm_W G d mi Q t
  | n + 1, t, f => match f with
    | 0 => pm_wl G d mi Q (pm_wb G d mi Q B n) (B t).1 (B t).2.1 (B t).2.2
    | _ => pm_W G d mi Q t
def pm_bo (mi : Nat) : Nat → List pm_It → Nat → Bool
  | pc, [], t => decide (pc = t)
  | pc, x :: l, t => match decode (pm_b mi) pc with
    | .ok (i, n) => decide (i = x.1) && (pm_ck mi pc i n x.2.1 x.2.2 && pm_bo mi (pc + n) l t)
    | _ => false
abbrev pm_Tb : Type := List (Nat × List pm_It × Nat × Nat)
def pm_lk (T : pm_Tb) (t : Nat) : List pm_It × Nat × Nat := match T with
  | [] => ([], t, 1)
  | r :: T => if r.1 = t then r.2 else pm_lk T t
def pm_tok (mi : Nat) (T : pm_Tb) : Bool := T.all (fun r => pm_bo mi r.1 r.2.1 r.2.2.1)
theorem pm_wl_ok {G : pm_G} {d mi : Nat} {Q : pm_Q} {J : pm_J} (hJ : ∀ t f ls st S cn sn, J t f ls st S cn sn → pm_W G d mi Q t ls st S cn sn) : ∀ (l : List pm_It) (pc t f : Nat), pm_bo mi pc l t = true → ∀ ls st S cn sn, pm_wl G d mi Q J l t f ls st S cn sn → pm_W G d mi Q pc ls st S cn sn
  | [], pc, t, f, hb, ls, st, S, cn, sn, h => by
    have : pc = t := by simpa [pm_bo] using hb
    subst this
    exact hJ _ _ _ _ _ _ _ h
  | x :: l, pc, t, f, hb, ls, st, S, cn, sn, h => by
    unfold pm_bo at hb
    split at hb
    · rename_i i n hd
      simp only [Bool.and_eq_true, decide_eq_true_eq] at hb
      obtain ⟨rfl, h1, h2⟩ := hb
      exact pm_wi_ok hd h1 (fun ls st S cn sn k => pm_wl_ok hJ l (pc + n) t f h2 ls st S cn sn k) hJ h
    · cases hb
theorem pm_lk_ok {mi : Nat} : ∀ {T : pm_Tb}, pm_tok mi T = true → ∀ t, pm_bo mi t (pm_lk T t).1 (pm_lk T t).2.1 = true
  | [], _, t => by simp [pm_lk, pm_bo]
  | r :: T, h, t => by
    simp only [pm_tok, List.all_cons, Bool.and_eq_true] at h
    unfold pm_lk
    by_cases hr : r.1 = t
    · rw [if_pos hr, ← hr]; exact h.1
    · rw [if_neg hr]; exact pm_lk_ok (T := T) h.2 t
theorem pm_wb_ok {G : pm_G} {d mi : Nat} {Q : pm_Q} {T : pm_Tb} (hT : pm_tok mi T = true) : ∀ (n t f : Nat) ls st S cn sn, pm_wb G d mi Q (pm_lk T) n t f ls st S cn sn → pm_W G d mi Q t ls st S cn sn
  | 0, _, _, _, _, _, _, _, h => h
  | n + 1, t, f, ls, st, S, cn, sn, h => by
    unfold pm_wb at h
    split at h
    · exact pm_wl_ok (fun t f ls st S cn sn k => pm_wb_ok hT n t f ls st S cn sn k) _ t _ _ (pm_lk_ok hT t) ls st S cn sn h
    · exact h
/-! A METHOD'S START -/
theorem pm_start {G : pm_G} {d j : Nat} {args : List Value} {S : pm_S} {Q : pm_Q} (hj : j < pm_nM) (hp : plainName (pm_y j).cls = true) (hl : (lg_sl (args.map (pm_v G))).length ≤ pm_mL j) (hdb : ∀ u ∈ args, ∀ b, u ≠ .double b) (h : pm_W G d j Q 0 (pm_en (pm_mL j) args) [] S 0 0) : pm_Ct G d j args S Q := by
  refine Met.ofW (cc := pm_b j) (maxL := pm_mL j) (ret := pm_rt j) hp rfl ?_
  intro p e s m args' below meth c s₁ B hml hv
  obtain ⟨rfl, hC, hO, hR⟩ := hv
  obtain ⟨m1, m2, m3, m4, m5, m6⟩ := pm_m_ok j hj
  have hts := atoms_spec (ws := pm_wd j) B.pre
  have hown : s.vm.findClass (pm_y j).cls = some m.cls := findClass_of_methodNamed B.named
  have hlocks := B.notSynchronized
  have hr := B.returns
  have hM : pm_M G d j Q (headSpec (pm_wd j) (pm_rm d j)).room p e s m (args.map (pm_v G)).toArray below meth c (MQ below (fun _ st o t => (∃ (v : Option Value) (S' : pm_S), o = .returned (v.map (pm_v G)) ∧ Q v S' ∧ pm_R G S' t.heap) ∧ va_F (pm_A G) st t) (args.map (pm_v G)).toArray s (pm_mc j) (pm_ms j) (pm_A G)) := by
    refine ⟨⟨B.exec, B.bytes, hml, by rw [← m2]; exact hown, fun w hw => hts w (List.mem_cons_of_mem _ hw), fun hn => (name_of_methodNamed B.named B.method).1.trans hn⟩, ⟨hC, hO, by rw [hR.1]; exact Nat.le_add_right _ _⟩, ⟨Nat.le_refl _, Nat.le_refl _, Nat.le_refl _, Nat.le_refl _⟩, ?_⟩
    intro v S' H locs cn sn pc la hq hR' hS hcn hsn hk hd
    refine W.widen hcn hsn ?_
    match v, hq, hk, hd with
    | none, hq, hk, hd => exact W.vret B.exec B.bytes (hr.trans hk) (fun t ht _ => ⟨⟨none, S', rfl, hq, by rw [ht]; exact hR'⟩, hS.F ht⟩) hS.2.2 hd
    | some (.int x), hq, ⟨ty, k1, k2⟩, hd => exact W.zret B.exec B.bytes (hr.trans k1) k2 (fun t ht _ => ⟨⟨some (.int x), S', rfl, hq, by rw [ht]; exact hR'⟩, hS.F ht⟩) hS.2.2 hd
    | some (.long x), hq, hk, hd => exact W.lret B.exec B.bytes (hr.trans hk) (fun t ht _ => ⟨⟨some (.long x), S', rfl, hq, by rw [ht]; exact hR'⟩, hS.F ht⟩) hS.2.2 hd
    | some .null, hq, ⟨⟨rt, k1, k2⟩, _⟩, hd => exact W.aret B.exec B.bytes (hr.trans k1) k2 (Or.inl rfl) (fun t ht _ => ⟨⟨some .null, S', rfl, hq, by rw [ht]; exact hR'⟩, hS.F ht⟩) hS.2.2 hd
    | some (.ref q), hq, ⟨⟨rt, k1, k2⟩, _⟩, hd => exact W.aret B.exec B.bytes (hr.trans k1) k2 (Or.inr ⟨_, rfl⟩) (fun t ht _ => ⟨⟨some (.ref q), S', rfl, hq, by rw [ht]; exact hR'⟩, hS.F ht⟩) hS.2.2 hd
    | some (.float _), hq, ⟨_, k⟩, hd => rcases k with k | ⟨_, k⟩ <;> cases k
    | some (.double _), hq, ⟨_, k⟩, hd => rcases k with k | ⟨_, k⟩ <;> cases k
    | some (.retAddr _), hq, ⟨_, k⟩, hd => rcases k with k | ⟨_, k⟩ <;> cases k
  have hen := lv_entry (args.map (pm_v G)) (n := pm_mL j) hl
  rw [lg_entry_eq]
  exact h _ p e s m _ below meth c _ s.heap [] _ hM hR va_S.rf ⟨hen.1, hen.2.1, fun i v hi hu => hen.2.2 (i, pm_v G v) (by have := pm_en_args G args (pm_mL j) 0 i v hi hu hdb; rwa [Nat.zero_add] at this)⟩ (Nat.zero_le _) (Nat.zero_le _)
/-! the rewriting rows -/
theorem pm_WI0 : (∀ (G : pm_G) (d mi : Nat) (Q : pm_Q) (J : pm_J) (N : pm_K) (ls st : List Value) (S : pm_S) (cn sn : Nat)  (a : List Nat) (w : Value), pm_wi G d mi Q J N (.aconst_null ) a w ls st S cn sn = (N ls (.null :: st) S cn sn)) ∧
    (∀ (G : pm_G) (d mi : Nat) (Q : pm_Q) (J : pm_J) (N : pm_K) (ls st : List Value) (S : pm_S) (cn sn : Nat) (z0 : Int) (a : List Nat) (w : Value), pm_wi G d mi Q J N (.iconst z0) a w ls st S cn sn = (N ls (w :: st) S cn sn)) ∧
    (∀ (G : pm_G) (d mi : Nat) (Q : pm_Q) (J : pm_J) (N : pm_K) (ls st : List Value) (S : pm_S) (cn sn : Nat) (z0 : Int) (a : List Nat) (w : Value), pm_wi G d mi Q J N (.bipush z0) a w ls st S cn sn = (N ls (w :: st) S cn sn)) ∧
    (∀ (G : pm_G) (d mi : Nat) (Q : pm_Q) (J : pm_J) (N : pm_K) (ls st : List Value) (S : pm_S) (cn sn : Nat) (z0 : Int) (a : List Nat) (w : Value), pm_wi G d mi Q J N (.sipush z0) a w ls st S cn sn = (N ls (w :: st) S cn sn)) ∧
    (∀ (G : pm_G) (d mi : Nat) (Q : pm_Q) (J : pm_J) (N : pm_K) (ls st : List Value) (S : pm_S) (cn sn : Nat) (z0 : Fin 2) (a : List Nat) (w : Value), pm_wi G d mi Q J N (.lconst z0) a w ls st S cn sn = (N ls (w :: st) S cn sn)) ∧
    (∀ (G : pm_G) (d mi : Nat) (Q : pm_Q) (J : pm_J) (N : pm_K) (ls st : List Value) (S : pm_S) (cn sn : Nat) (z0 : Nat) (a : List Nat) (w : Value), pm_wi G d mi Q J N (.ldc z0) a w ls st S cn sn = (N ls (w :: st) S cn sn)) ∧
    (∀ (G : pm_G) (d mi : Nat) (Q : pm_Q) (J : pm_J) (N : pm_K) (ls st : List Value) (S : pm_S) (cn sn : Nat) (z0 : Nat) (a : List Nat) (w : Value), pm_wi G d mi Q J N (.ldc_w z0) a w ls st S cn sn = (N ls (w :: st) S cn sn)) ∧
    (∀ (G : pm_G) (d mi : Nat) (Q : pm_Q) (J : pm_J) (N : pm_K) (ls st : List Value) (S : pm_S) (cn sn : Nat) (z0 : Nat) (a : List Nat) (w : Value), pm_wi G d mi Q J N (.ldc2_w z0) a w ls st S cn sn = (N ls (w :: st) S cn sn)) ∧
    (∀ (G : pm_G) (d mi : Nat) (Q : pm_Q) (J : pm_J) (N : pm_K) (ls st : List Value) (S : pm_S) (cn sn : Nat) (z0 : Nat) (w : Value) (u0 : Nat) (u1 : Nat), pm_wi G d mi Q J N (.getstatic z0) [u0, u1] w ls st S cn sn = (N ls (.null :: st) S cn sn ∧ N ls (.retAddr 102 :: st) S cn sn)) ∧
    (∀ (G : pm_G) (d mi : Nat) (Q : pm_Q) (J : pm_J) (N : pm_K) (ls st : List Value) (S : pm_S) (cn sn : Nat) (z0 : Nat) (w : Value) (u0 : Nat), pm_wi G d mi Q J N (.getstatic z0) [u0] w ls st S cn sn = (N ls (w :: st) S cn sn)) ∧
    (∀ (G : pm_G) (d mi : Nat) (Q : pm_Q) (J : pm_J) (N : pm_K) (ls st : List Value) (S : pm_S) (cn sn : Nat) (z0 : Nat) (a : List Nat) (w : Value), pm_wi G d mi Q J N (.iload z0) a w ls st S cn sn = (pm_u1 a (fun k => pm_oI (pm_ld ls k) (fun x => N ls (.int x :: st) S cn sn)))) ∧
    (∀ (G : pm_G) (d mi : Nat) (Q : pm_Q) (J : pm_J) (N : pm_K) (ls st : List Value) (S : pm_S) (cn sn : Nat) (z0 : Fin 4) (a : List Nat) (w : Value), pm_wi G d mi Q J N (.iload_n z0) a w ls st S cn sn = (pm_u1 a (fun k => pm_oI (pm_ld ls k) (fun x => N ls (.int x :: st) S cn sn)))) ∧
    (∀ (G : pm_G) (d mi : Nat) (Q : pm_Q) (J : pm_J) (N : pm_K) (ls st : List Value) (S : pm_S) (cn sn : Nat) (z0 : Nat) (a : List Nat) (w : Value), pm_wi G d mi Q J N (.lload z0) a w ls st S cn sn = (pm_u1 a (fun k => pm_oL (pm_ld ls k) (fun x => N ls (.long x :: st) S cn sn)))) ∧
    (∀ (G : pm_G) (d mi : Nat) (Q : pm_Q) (J : pm_J) (N : pm_K) (ls st : List Value) (S : pm_S) (cn sn : Nat) (z0 : Fin 4) (a : List Nat) (w : Value), pm_wi G d mi Q J N (.lload_n z0) a w ls st S cn sn = (pm_u1 a (fun k => pm_oL (pm_ld ls k) (fun x => N ls (.long x :: st) S cn sn)))) ∧
    (∀ (G : pm_G) (d mi : Nat) (Q : pm_Q) (J : pm_J) (N : pm_K) (ls st : List Value) (S : pm_S) (cn sn : Nat) (z0 : Nat) (a : List Nat) (w : Value), pm_wi G d mi Q J N (.aload z0) a w ls st S cn sn = (pm_u1 a (fun k => pm_oR (pm_ld ls k) (fun x => N ls (x :: st) S cn sn)))) ∧
    (∀ (G : pm_G) (d mi : Nat) (Q : pm_Q) (J : pm_J) (N : pm_K) (ls st : List Value) (S : pm_S) (cn sn : Nat) (z0 : Fin 4) (a : List Nat) (w : Value), pm_wi G d mi Q J N (.aload_n z0) a w ls st S cn sn = (pm_u1 a (fun k => pm_oR (pm_ld ls k) (fun x => N ls (x :: st) S cn sn)))) ∧
    (∀ (G : pm_G) (d mi : Nat) (Q : pm_Q) (J : pm_J) (N : pm_K) (ls st : List Value) (S : pm_S) (cn sn : Nat) (z0 : Nat) (a : List Nat) (w : Value), pm_wi G d mi Q J N (.istore z0) a w ls st S cn sn = (pm_u1 a (fun k => pm_i1 st (fun x st' => N (pm_st1 ls k (.int x)) st' S cn sn)))) ∧
    (∀ (G : pm_G) (d mi : Nat) (Q : pm_Q) (J : pm_J) (N : pm_K) (ls st : List Value) (S : pm_S) (cn sn : Nat) (z0 : Fin 4) (a : List Nat) (w : Value), pm_wi G d mi Q J N (.istore_n z0) a w ls st S cn sn = (pm_u1 a (fun k => pm_i1 st (fun x st' => N (pm_st1 ls k (.int x)) st' S cn sn)))) ∧
    (∀ (G : pm_G) (d mi : Nat) (Q : pm_Q) (J : pm_J) (N : pm_K) (ls st : List Value) (S : pm_S) (cn sn : Nat) (z0 : Nat) (a : List Nat) (w : Value), pm_wi G d mi Q J N (.lstore z0) a w ls st S cn sn = (pm_u1 a (fun k => pm_l1 st (fun x st' => N (pm_st2 ls k (.long x)) st' S cn sn)))) ∧
    (∀ (G : pm_G) (d mi : Nat) (Q : pm_Q) (J : pm_J) (N : pm_K) (ls st : List Value) (S : pm_S) (cn sn : Nat) (z0 : Fin 4) (a : List Nat) (w : Value), pm_wi G d mi Q J N (.lstore_n z0) a w ls st S cn sn = (pm_u1 a (fun k => pm_l1 st (fun x st' => N (pm_st2 ls k (.long x)) st' S cn sn)))) :=
  ⟨by intros; first | rfl | (simp only [pm_wi]), by intros; first | rfl | (simp only [pm_wi]), by intros; first | rfl | (simp only [pm_wi]), by intros; first | rfl | (simp only [pm_wi]), by intros; first | rfl | (simp only [pm_wi]), by intros; first | rfl | (simp only [pm_wi]), by intros; first | rfl | (simp only [pm_wi]), by intros; first | rfl | (simp only [pm_wi]), by intros; first | rfl | (simp only [pm_wi]), by intros; first | rfl | (simp only [pm_wi]), by intros; first | rfl | (simp only [pm_wi]), by intros; first | rfl | (simp only [pm_wi]), by intros; first | rfl | (simp only [pm_wi]), by intros; first | rfl | (simp only [pm_wi]), by intros; first | rfl | (simp only [pm_wi]), by intros; first | rfl | (simp only [pm_wi]), by intros; first | rfl | (simp only [pm_wi]), by intros; first | rfl | (simp only [pm_wi]), by intros; first | rfl | (simp only [pm_wi]), by intros; first | rfl | (simp only [pm_wi])⟩
theorem pm_WI1 : (∀ (G : pm_G) (d mi : Nat) (Q : pm_Q) (J : pm_J) (N : pm_K) (ls st : List Value) (S : pm_S) (cn sn : Nat) (z0 : Nat) (a : List Nat) (w : Value), pm_wi G d mi Q J N (.astore z0) a w ls st S cn sn = (pm_u1 a (fun k => pm_t1 st (fun x st' => pm_oR x (fun x => N (pm_st1 ls k x) st' S cn sn))))) ∧
    (∀ (G : pm_G) (d mi : Nat) (Q : pm_Q) (J : pm_J) (N : pm_K) (ls st : List Value) (S : pm_S) (cn sn : Nat) (z0 : Fin 4) (a : List Nat) (w : Value), pm_wi G d mi Q J N (.astore_n z0) a w ls st S cn sn = (pm_u1 a (fun k => pm_t1 st (fun x st' => pm_oR x (fun x => N (pm_st1 ls k x) st' S cn sn))))) ∧
    (∀ (G : pm_G) (d mi : Nat) (Q : pm_Q) (J : pm_J) (N : pm_K) (ls st : List Value) (S : pm_S) (cn sn : Nat) (z0 : Nat) (z1 : Int) (a : List Nat) (w : Value), pm_wi G d mi Q J N (.iinc z0 z1) a w ls st S cn sn = (pm_u1 a (fun k => pm_oI (pm_ld ls k) (fun x => pm_oI w (fun y => N (pm_st1 ls k (.int (x + y))) st S cn sn))))) ∧
    (∀ (G : pm_G) (d mi : Nat) (Q : pm_Q) (J : pm_J) (N : pm_K) (ls st : List Value) (S : pm_S) (cn sn : Nat)  (a : List Nat) (w : Value), pm_wi G d mi Q J N (.iadd ) a w ls st S cn sn = (pm_i2 st (fun x y st' => N ls (.int (x + y) :: st') S cn sn))) ∧
    (∀ (G : pm_G) (d mi : Nat) (Q : pm_Q) (J : pm_J) (N : pm_K) (ls st : List Value) (S : pm_S) (cn sn : Nat)  (a : List Nat) (w : Value), pm_wi G d mi Q J N (.isub ) a w ls st S cn sn = (pm_i2 st (fun x y st' => N ls (.int (x - y) :: st') S cn sn))) ∧
    (∀ (G : pm_G) (d mi : Nat) (Q : pm_Q) (J : pm_J) (N : pm_K) (ls st : List Value) (S : pm_S) (cn sn : Nat)  (a : List Nat) (w : Value), pm_wi G d mi Q J N (.imul ) a w ls st S cn sn = (pm_i2 st (fun x y st' => N ls (.int (x * y) :: st') S cn sn))) ∧
    (∀ (G : pm_G) (d mi : Nat) (Q : pm_Q) (J : pm_J) (N : pm_K) (ls st : List Value) (S : pm_S) (cn sn : Nat)  (a : List Nat) (w : Value), pm_wi G d mi Q J N (.iand ) a w ls st S cn sn = (pm_i2 st (fun x y st' => N ls (.int (x &&& y) :: st') S cn sn))) ∧
    (∀ (G : pm_G) (d mi : Nat) (Q : pm_Q) (J : pm_J) (N : pm_K) (ls st : List Value) (S : pm_S) (cn sn : Nat)  (a : List Nat) (w : Value), pm_wi G d mi Q J N (.ior ) a w ls st S cn sn = (pm_i2 st (fun x y st' => N ls (.int (x ||| y) :: st') S cn sn))) ∧
    (∀ (G : pm_G) (d mi : Nat) (Q : pm_Q) (J : pm_J) (N : pm_K) (ls st : List Value) (S : pm_S) (cn sn : Nat)  (a : List Nat) (w : Value), pm_wi G d mi Q J N (.ixor ) a w ls st S cn sn = (pm_i2 st (fun x y st' => N ls (.int (x ^^^ y) :: st') S cn sn))) ∧
    (∀ (G : pm_G) (d mi : Nat) (Q : pm_Q) (J : pm_J) (N : pm_K) (ls st : List Value) (S : pm_S) (cn sn : Nat)  (a : List Nat) (w : Value), pm_wi G d mi Q J N (.idiv ) a w ls st S cn sn = (pm_i2 st (fun x y st' => ¬ y = 0 ∧ N ls (.int (x / y) :: st') S cn sn))) ∧
    (∀ (G : pm_G) (d mi : Nat) (Q : pm_Q) (J : pm_J) (N : pm_K) (ls st : List Value) (S : pm_S) (cn sn : Nat)  (a : List Nat) (w : Value), pm_wi G d mi Q J N (.irem ) a w ls st S cn sn = (pm_i2 st (fun x y st' => ¬ y = 0 ∧ N ls (.int (x - x / y * y) :: st') S cn sn))) ∧
    (∀ (G : pm_G) (d mi : Nat) (Q : pm_Q) (J : pm_J) (N : pm_K) (ls st : List Value) (S : pm_S) (cn sn : Nat)  (a : List Nat) (w : Value), pm_wi G d mi Q J N (.ineg ) a w ls st S cn sn = (pm_i1 st (fun x st' => N ls (.int (-x) :: st') S cn sn))) ∧
    (∀ (G : pm_G) (d mi : Nat) (Q : pm_Q) (J : pm_J) (N : pm_K) (ls st : List Value) (S : pm_S) (cn sn : Nat)  (a : List Nat) (w : Value), pm_wi G d mi Q J N (.ishl ) a w ls st S cn sn = (pm_i2 st (fun x y st' => N ls (.int (x <<< (y &&& 31)) :: st') S cn sn))) ∧
    (∀ (G : pm_G) (d mi : Nat) (Q : pm_Q) (J : pm_J) (N : pm_K) (ls st : List Value) (S : pm_S) (cn sn : Nat)  (a : List Nat) (w : Value), pm_wi G d mi Q J N (.ishr ) a w ls st S cn sn = (pm_i2 st (fun x y st' => N ls (.int (x >>> (y &&& 31)) :: st') S cn sn))) ∧
    (∀ (G : pm_G) (d mi : Nat) (Q : pm_Q) (J : pm_J) (N : pm_K) (ls st : List Value) (S : pm_S) (cn sn : Nat)  (a : List Nat) (w : Value), pm_wi G d mi Q J N (.iushr ) a w ls st S cn sn = (pm_i2 st (fun x y st' => N ls (.int (x.toUInt32 >>> (y.toUInt32 &&& Int32.toUInt32 31)).toInt32 :: st') S cn sn))) ∧
    (∀ (G : pm_G) (d mi : Nat) (Q : pm_Q) (J : pm_J) (N : pm_K) (ls st : List Value) (S : pm_S) (cn sn : Nat)  (a : List Nat) (w : Value), pm_wi G d mi Q J N (.ladd ) a w ls st S cn sn = (pm_l2 st (fun x y st' => N ls (.long (x + y) :: st') S cn sn))) ∧
    (∀ (G : pm_G) (d mi : Nat) (Q : pm_Q) (J : pm_J) (N : pm_K) (ls st : List Value) (S : pm_S) (cn sn : Nat)  (a : List Nat) (w : Value), pm_wi G d mi Q J N (.lsub ) a w ls st S cn sn = (pm_l2 st (fun x y st' => N ls (.long (x - y) :: st') S cn sn))) ∧
    (∀ (G : pm_G) (d mi : Nat) (Q : pm_Q) (J : pm_J) (N : pm_K) (ls st : List Value) (S : pm_S) (cn sn : Nat)  (a : List Nat) (w : Value), pm_wi G d mi Q J N (.lmul ) a w ls st S cn sn = (pm_l2 st (fun x y st' => N ls (.long (x * y) :: st') S cn sn))) ∧
    (∀ (G : pm_G) (d mi : Nat) (Q : pm_Q) (J : pm_J) (N : pm_K) (ls st : List Value) (S : pm_S) (cn sn : Nat)  (a : List Nat) (w : Value), pm_wi G d mi Q J N (.land ) a w ls st S cn sn = (pm_l2 st (fun x y st' => N ls (.long (x &&& y) :: st') S cn sn))) ∧
    (∀ (G : pm_G) (d mi : Nat) (Q : pm_Q) (J : pm_J) (N : pm_K) (ls st : List Value) (S : pm_S) (cn sn : Nat)  (a : List Nat) (w : Value), pm_wi G d mi Q J N (.lor ) a w ls st S cn sn = (pm_l2 st (fun x y st' => N ls (.long (x ||| y) :: st') S cn sn))) :=
  ⟨by intros; first | rfl | (simp only [pm_wi]), by intros; first | rfl | (simp only [pm_wi]), by intros; first | rfl | (simp only [pm_wi]), by intros; first | rfl | (simp only [pm_wi]), by intros; first | rfl | (simp only [pm_wi]), by intros; first | rfl | (simp only [pm_wi]), by intros; first | rfl | (simp only [pm_wi]), by intros; first | rfl | (simp only [pm_wi]), by intros; first | rfl | (simp only [pm_wi]), by intros; first | rfl | (simp only [pm_wi]), by intros; first | rfl | (simp only [pm_wi]), by intros; first | rfl | (simp only [pm_wi]), by intros; first | rfl | (simp only [pm_wi]), by intros; first | rfl | (simp only [pm_wi]), by intros; first | rfl | (simp only [pm_wi]), by intros; first | rfl | (simp only [pm_wi]), by intros; first | rfl | (simp only [pm_wi]), by intros; first | rfl | (simp only [pm_wi]), by intros; first | rfl | (simp only [pm_wi]), by intros; first | rfl | (simp only [pm_wi])⟩
theorem pm_WI2 : (∀ (G : pm_G) (d mi : Nat) (Q : pm_Q) (J : pm_J) (N : pm_K) (ls st : List Value) (S : pm_S) (cn sn : Nat)  (a : List Nat) (w : Value), pm_wi G d mi Q J N (.ldiv ) a w ls st S cn sn = (pm_l2 st (fun x y st' => ¬ y = 0 ∧ N ls (.long (x / y) :: st') S cn sn))) ∧
    (∀ (G : pm_G) (d mi : Nat) (Q : pm_Q) (J : pm_J) (N : pm_K) (ls st : List Value) (S : pm_S) (cn sn : Nat)  (a : List Nat) (w : Value), pm_wi G d mi Q J N (.lrem ) a w ls st S cn sn = (pm_l2 st (fun x y st' => ¬ y = 0 ∧ N ls (.long (x - x / y * y) :: st') S cn sn))) ∧
    (∀ (G : pm_G) (d mi : Nat) (Q : pm_Q) (J : pm_J) (N : pm_K) (ls st : List Value) (S : pm_S) (cn sn : Nat)  (a : List Nat) (w : Value), pm_wi G d mi Q J N (.lneg ) a w ls st S cn sn = (pm_l1 st (fun x st' => N ls (.long (-x) :: st') S cn sn))) ∧
    (∀ (G : pm_G) (d mi : Nat) (Q : pm_Q) (J : pm_J) (N : pm_K) (ls st : List Value) (S : pm_S) (cn sn : Nat)  (a : List Nat) (w : Value), pm_wi G d mi Q J N (.lshl ) a w ls st S cn sn = (pm_li st (fun x y st' => N ls (.long (x <<< (y.toInt64 &&& 63)) :: st') S cn sn))) ∧
    (∀ (G : pm_G) (d mi : Nat) (Q : pm_Q) (J : pm_J) (N : pm_K) (ls st : List Value) (S : pm_S) (cn sn : Nat)  (a : List Nat) (w : Value), pm_wi G d mi Q J N (.lshr ) a w ls st S cn sn = (pm_li st (fun x y st' => N ls (.long (x >>> (y.toInt64 &&& 63)) :: st') S cn sn))) ∧
    (∀ (G : pm_G) (d mi : Nat) (Q : pm_Q) (J : pm_J) (N : pm_K) (ls st : List Value) (S : pm_S) (cn sn : Nat)  (a : List Nat) (w : Value), pm_wi G d mi Q J N (.lcmp ) a w ls st S cn sn = (pm_l2 st (fun x y st' => N ls (.int (lg_cmp x y) :: st') S cn sn))) ∧
    (∀ (G : pm_G) (d mi : Nat) (Q : pm_Q) (J : pm_J) (N : pm_K) (ls st : List Value) (S : pm_S) (cn sn : Nat)  (a : List Nat) (w : Value), pm_wi G d mi Q J N (.i2l ) a w ls st S cn sn = (pm_i1 st (fun x st' => N ls (.long x.toInt64 :: st') S cn sn))) ∧
    (∀ (G : pm_G) (d mi : Nat) (Q : pm_Q) (J : pm_J) (N : pm_K) (ls st : List Value) (S : pm_S) (cn sn : Nat)  (a : List Nat) (w : Value), pm_wi G d mi Q J N (.l2i ) a w ls st S cn sn = (pm_l1 st (fun x st' => N ls (.int x.toInt32 :: st') S cn sn))) ∧
    (∀ (G : pm_G) (d mi : Nat) (Q : pm_Q) (J : pm_J) (N : pm_K) (ls st : List Value) (S : pm_S) (cn sn : Nat)  (a : List Nat) (w : Value), pm_wi G d mi Q J N (.i2b ) a w ls st S cn sn = (pm_i1 st (fun x st' => N ls (.int x.toInt8.toInt32 :: st') S cn sn))) ∧
    (∀ (G : pm_G) (d mi : Nat) (Q : pm_Q) (J : pm_J) (N : pm_K) (ls st : List Value) (S : pm_S) (cn sn : Nat)  (a : List Nat) (w : Value), pm_wi G d mi Q J N (.i2s ) a w ls st S cn sn = (pm_i1 st (fun x st' => N ls (.int x.toInt16.toInt32 :: st') S cn sn))) ∧
    (∀ (G : pm_G) (d mi : Nat) (Q : pm_Q) (J : pm_J) (N : pm_K) (ls st : List Value) (S : pm_S) (cn sn : Nat)  (a : List Nat) (w : Value), pm_wi G d mi Q J N (.i2c ) a w ls st S cn sn = (pm_i1 st (fun x st' => N ls (.int (x.toUInt32 % 65536).toInt32 :: st') S cn sn))) ∧
    (∀ (G : pm_G) (d mi : Nat) (Q : pm_Q) (J : pm_J) (N : pm_K) (ls st : List Value) (S : pm_S) (cn sn : Nat)  (a : List Nat) (w : Value), pm_wi G d mi Q J N (.dup ) a w ls st S cn sn = (pm_t1 st (fun v st' => v.category = 1 ∧ N ls (v :: v :: st') S cn sn))) ∧
    (∀ (G : pm_G) (d mi : Nat) (Q : pm_Q) (J : pm_J) (N : pm_K) (ls st : List Value) (S : pm_S) (cn sn : Nat)  (a : List Nat) (w : Value), pm_wi G d mi Q J N (.pop ) a w ls st S cn sn = (pm_t1 st (fun v st' => v.category = 1 ∧ N ls st' S cn sn))) ∧
    (∀ (G : pm_G) (d mi : Nat) (Q : pm_Q) (J : pm_J) (N : pm_K) (ls st : List Value) (S : pm_S) (cn sn : Nat)  (a : List Nat) (w : Value), pm_wi G d mi Q J N (.dup2 ) a w ls st S cn sn = (pm_t1 st (fun v st' => pm_t1 st' (fun u st'' => v.category = 1 ∧ u.category = 1 ∧ N ls (v :: u :: v :: u :: st'') S cn sn)))) ∧
    (∀ (G : pm_G) (d mi : Nat) (Q : pm_Q) (J : pm_J) (N : pm_K) (ls st : List Value) (S : pm_S) (cn sn : Nat) (z1 : Int) (a : List Nat) (w : Value), pm_wi G d mi Q J N (.ifCond .eq z1) a w ls st S cn sn = (pm_u2 a (fun t f => pm_i1 st (fun x st' => pm_if (x = 0) (J t f ls st' S cn sn) (N ls st' S cn sn))))) ∧
    (∀ (G : pm_G) (d mi : Nat) (Q : pm_Q) (J : pm_J) (N : pm_K) (ls st : List Value) (S : pm_S) (cn sn : Nat) (z1 : Int) (a : List Nat) (w : Value), pm_wi G d mi Q J N (.ifCond .ne z1) a w ls st S cn sn = (pm_u2 a (fun t f => pm_i1 st (fun x st' => pm_if (x = 0) (N ls st' S cn sn) (J t f ls st' S cn sn))))) ∧
    (∀ (G : pm_G) (d mi : Nat) (Q : pm_Q) (J : pm_J) (N : pm_K) (ls st : List Value) (S : pm_S) (cn sn : Nat) (z1 : Int) (a : List Nat) (w : Value), pm_wi G d mi Q J N (.ifCond .lt z1) a w ls st S cn sn = (pm_u2 a (fun t f => pm_i1 st (fun x st' => pm_if (x < 0) (J t f ls st' S cn sn) (N ls st' S cn sn))))) ∧
    (∀ (G : pm_G) (d mi : Nat) (Q : pm_Q) (J : pm_J) (N : pm_K) (ls st : List Value) (S : pm_S) (cn sn : Nat) (z1 : Int) (a : List Nat) (w : Value), pm_wi G d mi Q J N (.ifCond .ge z1) a w ls st S cn sn = (pm_u2 a (fun t f => pm_i1 st (fun x st' => pm_if (0 ≤ x) (J t f ls st' S cn sn) (N ls st' S cn sn))))) ∧
    (∀ (G : pm_G) (d mi : Nat) (Q : pm_Q) (J : pm_J) (N : pm_K) (ls st : List Value) (S : pm_S) (cn sn : Nat) (z1 : Int) (a : List Nat) (w : Value), pm_wi G d mi Q J N (.ifCond .gt z1) a w ls st S cn sn = (pm_u2 a (fun t f => pm_i1 st (fun x st' => pm_if (0 < x) (J t f ls st' S cn sn) (N ls st' S cn sn))))) ∧
    (∀ (G : pm_G) (d mi : Nat) (Q : pm_Q) (J : pm_J) (N : pm_K) (ls st : List Value) (S : pm_S) (cn sn : Nat) (z1 : Int) (a : List Nat) (w : Value), pm_wi G d mi Q J N (.ifCond .le z1) a w ls st S cn sn = (pm_u2 a (fun t f => pm_i1 st (fun x st' => pm_if (x ≤ 0) (J t f ls st' S cn sn) (N ls st' S cn sn))))) :=
  ⟨by intros; first | rfl | (simp only [pm_wi]), by intros; first | rfl | (simp only [pm_wi]), by intros; first | rfl | (simp only [pm_wi]), by intros; first | rfl | (simp only [pm_wi]), by intros; first | rfl | (simp only [pm_wi]), by intros; first | rfl | (simp only [pm_wi]), by intros; first | rfl | (simp only [pm_wi]), by intros; first | rfl | (simp only [pm_wi]), by intros; first | rfl | (simp only [pm_wi]), by intros; first | rfl | (simp only [pm_wi]), by intros; first | rfl | (simp only [pm_wi]), by intros; first | rfl | (simp only [pm_wi]), by intros; first | rfl | (simp only [pm_wi]), by intros; first | rfl | (simp only [pm_wi]), by intros; first | rfl | (simp only [pm_wi]), by intros; first | rfl | (simp only [pm_wi]), by intros; first | rfl | (simp only [pm_wi]), by intros; first | rfl | (simp only [pm_wi]), by intros; first | rfl | (simp only [pm_wi]), by intros; first | rfl | (simp only [pm_wi])⟩
theorem pm_WI3 : (∀ (G : pm_G) (d mi : Nat) (Q : pm_Q) (J : pm_J) (N : pm_K) (ls st : List Value) (S : pm_S) (cn sn : Nat) (z1 : Int) (a : List Nat) (w : Value), pm_wi G d mi Q J N (.if_icmp .eq z1) a w ls st S cn sn = (pm_u2 a (fun t f => pm_i2 st (fun x y st' => pm_if (x = y) (J t f ls st' S cn sn) (N ls st' S cn sn))))) ∧
    (∀ (G : pm_G) (d mi : Nat) (Q : pm_Q) (J : pm_J) (N : pm_K) (ls st : List Value) (S : pm_S) (cn sn : Nat) (z1 : Int) (a : List Nat) (w : Value), pm_wi G d mi Q J N (.if_icmp .ne z1) a w ls st S cn sn = (pm_u2 a (fun t f => pm_i2 st (fun x y st' => pm_if (x = y) (N ls st' S cn sn) (J t f ls st' S cn sn))))) ∧
    (∀ (G : pm_G) (d mi : Nat) (Q : pm_Q) (J : pm_J) (N : pm_K) (ls st : List Value) (S : pm_S) (cn sn : Nat) (z1 : Int) (a : List Nat) (w : Value), pm_wi G d mi Q J N (.if_icmp .lt z1) a w ls st S cn sn = (pm_u2 a (fun t f => pm_i2 st (fun x y st' => pm_if (x < y) (J t f ls st' S cn sn) (N ls st' S cn sn))))) ∧
    (∀ (G : pm_G) (d mi : Nat) (Q : pm_Q) (J : pm_J) (N : pm_K) (ls st : List Value) (S : pm_S) (cn sn : Nat) (z1 : Int) (a : List Nat) (w : Value), pm_wi G d mi Q J N (.if_icmp .ge z1) a w ls st S cn sn = (pm_u2 a (fun t f => pm_i2 st (fun x y st' => pm_if (y ≤ x) (J t f ls st' S cn sn) (N ls st' S cn sn))))) ∧
    (∀ (G : pm_G) (d mi : Nat) (Q : pm_Q) (J : pm_J) (N : pm_K) (ls st : List Value) (S : pm_S) (cn sn : Nat) (z1 : Int) (a : List Nat) (w : Value), pm_wi G d mi Q J N (.if_icmp .gt z1) a w ls st S cn sn = (pm_u2 a (fun t f => pm_i2 st (fun x y st' => pm_if (y < x) (J t f ls st' S cn sn) (N ls st' S cn sn))))) ∧
    (∀ (G : pm_G) (d mi : Nat) (Q : pm_Q) (J : pm_J) (N : pm_K) (ls st : List Value) (S : pm_S) (cn sn : Nat) (z1 : Int) (a : List Nat) (w : Value), pm_wi G d mi Q J N (.if_icmp .le z1) a w ls st S cn sn = (pm_u2 a (fun t f => pm_i2 st (fun x y st' => pm_if (x ≤ y) (J t f ls st' S cn sn) (N ls st' S cn sn))))) ∧
    (∀ (G : pm_G) (d mi : Nat) (Q : pm_Q) (J : pm_J) (N : pm_K) (ls st : List Value) (S : pm_S) (cn sn : Nat) (z0 : Int) (a : List Nat) (w : Value), pm_wi G d mi Q J N (.ifnull z0) a w ls st S cn sn = (pm_u2 a (fun t f => pm_t1 st (fun v st' => pm_oQ v (fun r => pm_if (r = none) (J t f ls st' S cn sn) (N ls st' S cn sn)))))) ∧
    (∀ (G : pm_G) (d mi : Nat) (Q : pm_Q) (J : pm_J) (N : pm_K) (ls st : List Value) (S : pm_S) (cn sn : Nat) (z0 : Int) (a : List Nat) (w : Value), pm_wi G d mi Q J N (.ifnonnull z0) a w ls st S cn sn = (pm_u2 a (fun t f => pm_t1 st (fun v st' => pm_oQ v (fun r => pm_if (r = none) (N ls st' S cn sn) (J t f ls st' S cn sn)))))) ∧
    (∀ (G : pm_G) (d mi : Nat) (Q : pm_Q) (J : pm_J) (N : pm_K) (ls st : List Value) (S : pm_S) (cn sn : Nat) (z0 : Int) (a : List Nat) (w : Value), pm_wi G d mi Q J N (.goto z0) a w ls st S cn sn = (pm_u2 a (fun t f => J t f ls st S cn sn))) ∧
    (∀ (G : pm_G) (d mi : Nat) (Q : pm_Q) (J : pm_J) (N : pm_K) (ls st : List Value) (S : pm_S) (cn sn : Nat) (z0 : Int) (z1 : Int) (z2 : Int) (z3 : Array Int) (a : List Nat) (w : Value), pm_wi G d mi Q J N (.tableswitch z0 z1 z2 z3) a w ls st S cn sn = (pm_i1 st (fun x st' => pm_sw x (fun t f => J t f ls st' S cn sn) a))) ∧
    (∀ (G : pm_G) (d mi : Nat) (Q : pm_Q) (J : pm_J) (N : pm_K) (ls st : List Value) (S : pm_S) (cn sn : Nat) (z0 : Int) (z1 : Array (Int × Int)) (a : List Nat) (w : Value), pm_wi G d mi Q J N (.lookupswitch z0 z1) a w ls st S cn sn = (pm_i1 st (fun x st' => pm_sw x (fun t f => J t f ls st' S cn sn) a))) ∧
    (∀ (G : pm_G) (d mi : Nat) (Q : pm_Q) (J : pm_J) (N : pm_K) (ls st : List Value) (S : pm_S) (cn sn : Nat) (z0 : Nat) (w : Value) (c : Nat) (k : Nat) (f : Nat) (u3 : Nat), pm_wi G d mi Q J N (.getfield z0) [c, k, f, u3] w ls st S cn sn = (pm_p1 st (fun p st' => pm_k S p = c ∧ N ls (pm_gv f S p k :: st') S cn sn))) ∧
    (∀ (G : pm_G) (d mi : Nat) (Q : pm_Q) (J : pm_J) (N : pm_K) (ls st : List Value) (S : pm_S) (cn sn : Nat) (z0 : Nat) (w : Value) (x : Nat), pm_wi G d mi Q J N (.getfield z0) [x] w ls st S cn sn = (pm_ra st (fun i st' => i < 10 ∧ N ls (pm_sf x i :: st') S cn sn))) ∧
    (∀ (G : pm_G) (d mi : Nat) (Q : pm_Q) (J : pm_J) (N : pm_K) (ls st : List Value) (S : pm_S) (cn sn : Nat) (z0 : Nat) (w : Value) (c k e fin : Nat), pm_wi G d mi Q J N (.putfield z0) [c, k, 0, e, fin] w ls st S cn sn = (pm_t1 st (fun v st1 => pm_oI v (fun x => pm_p1 st1 (fun p st' => pm_k S p = c ∧ N ls st' (pm_wI S p k x) cn sn))))) ∧
    (∀ (G : pm_G) (d mi : Nat) (Q : pm_Q) (J : pm_J) (N : pm_K) (ls st : List Value) (S : pm_S) (cn sn : Nat) (z0 : Nat) (w : Value) (c k e fin : Nat), pm_wi G d mi Q J N (.putfield z0) [c, k, 1, e, fin] w ls st S cn sn = (pm_t1 st (fun v st1 => pm_oI v (fun x => pm_p1 st1 (fun p st' => pm_k S p = c ∧ (x = 0 ∨ x = 1) ∧ N ls st' (pm_wI S p k x) cn sn))))) ∧
    (∀ (G : pm_G) (d mi : Nat) (Q : pm_Q) (J : pm_J) (N : pm_K) (ls st : List Value) (S : pm_S) (cn sn : Nat) (z0 : Nat) (w : Value) (c k e fin : Nat), pm_wi G d mi Q J N (.putfield z0) [c, k, 2, e, fin] w ls st S cn sn = (pm_t1 st (fun v st1 => pm_oQ v (fun x => pm_p1 st1 (fun p st' => pm_k S p = c ∧ N ls st' (pm_wR S p k x) cn sn))))) ∧
    (∀ (G : pm_G) (d mi : Nat) (Q : pm_Q) (J : pm_J) (N : pm_K) (ls st : List Value) (S : pm_S) (cn sn : Nat)  (a : List Nat) (w : Value), pm_wi G d mi Q J N (.iaload ) a w ls st S cn sn = (pm_ix st (fun j p st' => pm_k S p = 20 ∧ vp_in j (pm_z S p) ∧ N ls (.int (pm_i S p j.toNatClampNeg) :: st') S cn sn)
      (fun j p st' => (p = 100 ∧ vp_in j 7 ∧ N ls (.int (pm_above j.toNatClampNeg) :: st') S cn sn) ∨ (p = 101 ∧ vp_in j (pm_gL G) ∧ N ls (.int (pm_gx G j.toNatClampNeg) :: st') S cn sn)))) ∧
    (∀ (G : pm_G) (d mi : Nat) (Q : pm_Q) (J : pm_J) (N : pm_K) (ls st : List Value) (S : pm_S) (cn sn : Nat)  (a : List Nat) (w : Value), pm_wi G d mi Q J N (.arraylength ) a w ls st S cn sn = (pm_ra st (fun q st' => (q = 101 ∧ N ls (.int (Int32.ofNat (pm_gL G)) :: st') S cn sn) ∨ (20 ≤ q ∧ q < 30 ∧ N ls (.int (Int32.ofNat (pm_sl.getD (q - 20) 0)) :: st') S cn sn)))) ∧
    (∀ (G : pm_G) (d mi : Nat) (Q : pm_Q) (J : pm_J) (N : pm_K) (ls st : List Value) (S : pm_S) (cn sn : Nat)  (a : List Nat) (w : Value), pm_wi G d mi Q J N (.baload ) a w ls st S cn sn = (pm_ix st (fun j p st' => pm_k S p = 22 ∧ vp_in j (pm_z S p) ∧ N ls (.int (pm_i S p j.toNatClampNeg) :: st') S cn sn) (fun j q st' => 20 ≤ q ∧ q < 30 ∧ vp_in j (pm_sl.getD (q - 20) 0) ∧ N ls (.int ((pm_sb.getD (q - 20) []).getD j.toNatClampNeg 0) :: st') S cn sn))) ∧
    (∀ (G : pm_G) (d mi : Nat) (Q : pm_Q) (J : pm_J) (N : pm_K) (ls st : List Value) (S : pm_S) (cn sn : Nat)  (a : List Nat) (w : Value), pm_wi G d mi Q J N (.laload ) a w ls st S cn sn = (pm_ix st (fun j p st' => pm_k S p = 21 ∧ vp_in j (pm_z S p) ∧ N ls (.long (pm_l S p j.toNatClampNeg) :: st') S cn sn) (fun _ _ _ => False))) :=
  ⟨by intros; first | rfl | (simp only [pm_wi]), by intros; first | rfl | (simp only [pm_wi]), by intros; first | rfl | (simp only [pm_wi]), by intros; first | rfl | (simp only [pm_wi]), by intros; first | rfl | (simp only [pm_wi]), by intros; first | rfl | (simp only [pm_wi]), by intros; first | rfl | (simp only [pm_wi]), by intros; first | rfl | (simp only [pm_wi]), by intros; first | rfl | (simp only [pm_wi]), by intros; first | rfl | (simp only [pm_wi]), by intros; first | rfl | (simp only [pm_wi]), by intros; first | rfl | (simp only [pm_wi]), by intros; first | rfl | (simp only [pm_wi]), by intros; first | rfl | (simp only [pm_wi]), by intros; first | rfl | (simp only [pm_wi]), by intros; first | rfl | (simp only [pm_wi]), by intros; first | rfl | (simp only [pm_wi]), by intros; first | rfl | (simp only [pm_wi]), by intros; first | rfl | (simp only [pm_wi]), by intros; first | rfl | (simp only [pm_wi])⟩
theorem pm_WI4 : (∀ (G : pm_G) (d mi : Nat) (Q : pm_Q) (J : pm_J) (N : pm_K) (ls st : List Value) (S : pm_S) (cn sn : Nat)  (a : List Nat) (w : Value), pm_wi G d mi Q J N (.aaload ) a w ls st S cn sn = (pm_u1 a (fun k => pm_ix st (fun j p st' => pm_k S p = k ∧ vp_in j (pm_z S p) ∧ N ls (va_rf (pm_r S p j.toNatClampNeg) :: st') S cn sn) (fun _ _ _ => False)))) ∧
    (∀ (G : pm_G) (d mi : Nat) (Q : pm_Q) (J : pm_J) (N : pm_K) (ls st : List Value) (S : pm_S) (cn sn : Nat)  (a : List Nat) (w : Value), pm_wi G d mi Q J N (.iastore ) a w ls st S cn sn = (pm_vx st (fun v j p st' => pm_oI v (fun x => pm_k S p = 20 ∧ vp_in j (pm_z S p) ∧ N ls st' (pm_wI S p j.toNatClampNeg x) cn sn)))) ∧
    (∀ (G : pm_G) (d mi : Nat) (Q : pm_Q) (J : pm_J) (N : pm_K) (ls st : List Value) (S : pm_S) (cn sn : Nat)  (a : List Nat) (w : Value), pm_wi G d mi Q J N (.bastore ) a w ls st S cn sn = (pm_vx st (fun v j p st' => pm_oI v (fun x => pm_k S p = 22 ∧ vp_in j (pm_z S p) ∧ (x = 0 ∨ x = 1) ∧ N ls st' (pm_wI S p j.toNatClampNeg x) cn sn)))) ∧
    (∀ (G : pm_G) (d mi : Nat) (Q : pm_Q) (J : pm_J) (N : pm_K) (ls st : List Value) (S : pm_S) (cn sn : Nat)  (a : List Nat) (w : Value), pm_wi G d mi Q J N (.lastore ) a w ls st S cn sn = (pm_vx st (fun v j p st' => pm_oL v (fun x => pm_k S p = 21 ∧ vp_in j (pm_z S p) ∧ N ls st' (pm_wL S p j.toNatClampNeg x) cn sn)))) ∧
    (∀ (G : pm_G) (d mi : Nat) (Q : pm_Q) (J : pm_J) (N : pm_K) (ls st : List Value) (S : pm_S) (cn sn : Nat)  (a : List Nat) (w : Value), pm_wi G d mi Q J N (.aastore ) a w ls st S cn sn = (pm_u2 a (fun k c => pm_vx st (fun v j p st' => pm_p1 [v] (fun q _ => pm_k S p = k ∧ pm_k S q = c ∧ vp_in j (pm_z S p) ∧ N ls st' (pm_wR S p j.toNatClampNeg (some q)) cn sn))))) ∧
    (∀ (G : pm_G) (d mi : Nat) (Q : pm_Q) (J : pm_J) (N : pm_K) (ls st : List Value) (S : pm_S) (cn sn : Nat) (z0 : Nat) (a : List Nat) (w : Value), pm_wi G d mi Q J N (.new z0) a w ls st S cn sn = (pm_u5 a (fun c _ z mc ms => cn + 1 ≤ mc ∧ sn + z ≤ ms ∧ N ls (.ref (pm_n S) :: st) (pm_nw S c 0) (cn + 1) (sn + z)))) ∧
    (∀ (G : pm_G) (d mi : Nat) (Q : pm_Q) (J : pm_J) (N : pm_K) (ls st : List Value) (S : pm_S) (cn sn : Nat) (z0 : ArrayType) (a : List Nat) (w : Value), pm_wi G d mi Q J N (.newarray z0) a w ls st S cn sn = (pm_u5 a (fun k z _ mc ms => pm_t1 st (fun v st' => v = w ∧ cn + 1 ≤ mc ∧ sn + z ≤ ms ∧ N ls (.ref (pm_n S) :: st') (pm_nw S k z) (cn + 1) (sn + z))))) ∧
    (∀ (G : pm_G) (d mi : Nat) (Q : pm_Q) (J : pm_J) (N : pm_K) (ls st : List Value) (S : pm_S) (cn sn : Nat) (z0 : Nat) (a : List Nat) (w : Value), pm_wi G d mi Q J N (.anewarray z0) a w ls st S cn sn = (pm_u5 a (fun k z _ mc ms => pm_t1 st (fun v st' => v = w ∧ cn + 1 ≤ mc ∧ sn + z ≤ ms ∧ N ls (.ref (pm_n S) :: st') (pm_nw S k z) (cn + 1) (sn + z))))) ∧
    (∀ (G : pm_G) (d mi : Nat) (Q : pm_Q) (J : pm_J) (N : pm_K) (ls st : List Value) (S : pm_S) (cn sn : Nat) (z0 : Nat) (w : Value) (j : Nat) (u1 : Nat) (np : Nat) (rk : Nat), pm_wi G d mi Q J N (.invokevirtual z0) [j, u1, np, rk] w ls st S cn sn = (pm_sp np st (fun as st1 => pm_ra st1 (fun i rest => i < 10 ∧ 0 < d ∧ pm_sm rest ∧ pm_cc G d j rk (.retAddr i :: as) rest S (fun st' S' => N ls st' S' cn sn))))) ∧
    (∀ (G : pm_G) (d mi : Nat) (Q : pm_Q) (J : pm_J) (N : pm_K) (ls st : List Value) (S : pm_S) (cn sn : Nat) (z0 : Nat) (w : Value) (j : Nat) (c : Nat) (u2 : Nat) (np : Nat) (rk : Nat), pm_wi G d mi Q J N (.invokevirtual z0) [j, c, u2, np, rk] w ls st S cn sn = (pm_sp np st (fun as st1 => pm_p1 st1 (fun p rest => 0 < d ∧ pm_k S p = c ∧ pm_sm rest ∧ pm_cc G d j rk (.ref p :: as) rest S (fun st' S' => N ls st' S' cn sn))))) ∧
    (∀ (G : pm_G) (d mi : Nat) (Q : pm_Q) (J : pm_J) (N : pm_K) (ls st : List Value) (S : pm_S) (cn sn : Nat) (z0 : Nat) (w : Value) (j : Nat) (c : Nat) (u2 : Nat) (np : Nat) (rk : Nat) (mc' : Nat) (ms' : Nat) (mc : Nat) (ms : Nat), pm_wi G d mi Q J N (.invokevirtual z0) [j, c, u2, np, rk, mc', ms', mc, ms] w ls st S cn sn = (pm_sp np st (fun as st1 => pm_p1 st1 (fun p rest => 0 < d ∧ pm_k S p = c ∧ pm_sm rest ∧ cn + mc' ≤ mc ∧ sn + ms' ≤ ms ∧ pm_cc G d j rk (.ref p :: as) rest S (fun st' S' => N ls st' S' (cn + mc') (sn + ms')))))) ∧
    (∀ (G : pm_G) (d mi : Nat) (Q : pm_Q) (J : pm_J) (N : pm_K) (ls st : List Value) (S : pm_S) (cn sn : Nat) (z0 : Nat) (w : Value) (u0 : Nat), pm_wi G d mi Q J N (.invokespecial z0) [u0] w ls st S cn sn = (pm_p1 st (fun p rest => 0 < d ∧ pm_sm rest ∧ N ls rest S cn sn))) ∧
    (∀ (G : pm_G) (d mi : Nat) (Q : pm_Q) (J : pm_J) (N : pm_K) (ls st : List Value) (S : pm_S) (cn sn : Nat) (z0 : Nat) (w : Value) (j : Nat) (c : Nat) (u2 : Nat) (np : Nat) (mc' : Nat) (ms' : Nat) (mc : Nat) (ms : Nat), pm_wi G d mi Q J N (.invokespecial z0) [j, c, u2, np, mc', ms', mc, ms] w ls st S cn sn = (pm_sp np st (fun as st1 => pm_p1 st1 (fun p rest => 0 < d ∧ pm_k S p = c ∧ pm_sm rest ∧ cn + mc' ≤ mc ∧ sn + ms' ≤ ms ∧ pm_cc G d j 0 (.ref p :: as) rest S (fun st' S' => N ls st' S' (cn + mc') (sn + ms')))))) ∧
    (∀ (G : pm_G) (d mi : Nat) (Q : pm_Q) (J : pm_J) (N : pm_K) (ls st : List Value) (S : pm_S) (cn sn : Nat) (z0 : Nat) (w : Value) (u1 : Nat), pm_wi G d mi Q J N (.invokestatic z0) [91, u1] w ls st S cn sn = (pm_i2 st (fun x y st' => 0 < d ∧ pm_sm st' ∧ N ls (.int (if y < x then y else x) :: st') S cn sn))) ∧
    (∀ (G : pm_G) (d mi : Nat) (Q : pm_Q) (J : pm_J) (N : pm_K) (ls st : List Value) (S : pm_S) (cn sn : Nat) (z0 : Nat) (w : Value) (u1 : Nat), pm_wi G d mi Q J N (.invokestatic z0) [92, u1] w ls st S cn sn = (pm_l2 st (fun x y st' => 0 < d ∧ pm_sm st' ∧ N ls (.long (if y < x then y else x) :: st') S cn sn))) ∧
    (∀ (G : pm_G) (d mi : Nat) (Q : pm_Q) (J : pm_J) (N : pm_K) (ls st : List Value) (S : pm_S) (cn sn : Nat) (z0 : Nat) (w : Value) (u1 : Nat), pm_wi G d mi Q J N (.invokestatic z0) [93, u1] w ls st S cn sn = (pm_i1 st (fun x st' => 0 < d ∧ pm_sm st' ∧ N ls (.int (if 0 ≤ x then x else 0 - x) :: st') S cn sn))) ∧
    (∀ (G : pm_G) (d mi : Nat) (Q : pm_Q) (J : pm_J) (N : pm_K) (ls st : List Value) (S : pm_S) (cn sn : Nat) (z0 : Nat) (w : Value) (u1 : Nat), pm_wi G d mi Q J N (.invokestatic z0) [94, u1] w ls st S cn sn = (pm_l1 st (fun x st' => 0 < d ∧ pm_sm st' ∧ N ls (.long (if 0 < x then x else -x) :: st') S cn sn))) ∧
    (∀ (G : pm_G) (d mi : Nat) (Q : pm_Q) (J : pm_J) (N : pm_K) (ls st : List Value) (S : pm_S) (cn sn : Nat) (z0 : Nat) (w : Value) (u1 : Nat), pm_wi G d mi Q J N (.invokestatic z0) [95, u1] w ls st S cn sn = (pm_sp 5 st (fun as rest => match as with
      | [.ref p, .int i, .ref q, .int j, .int n] => 0 < d ∧ pm_sm rest ∧ pm_k S p = 21 ∧ pm_k S q = 21 ∧ ¬ i < 0 ∧ ¬ j < 0 ∧ ¬ n < 0 ∧ i.toNatClampNeg + n.toNatClampNeg ≤ pm_z S p ∧ j.toNatClampNeg + n.toNatClampNeg ≤ pm_z S q ∧ N ls rest (pm_wM S q (va_cpy (pm_l S p) (pm_l S q) i.toNatClampNeg j.toNatClampNeg n.toNatClampNeg)) cn sn
      | _ => False))) ∧
    (∀ (G : pm_G) (d mi : Nat) (Q : pm_Q) (J : pm_J) (N : pm_K) (ls st : List Value) (S : pm_S) (cn sn : Nat) (z0 : Nat) (w : Value) (j : Nat) (u1 : Nat) (np : Nat) (rk : Nat), pm_wi G d mi Q J N (.invokestatic z0) [j, u1, np, rk] w ls st S cn sn = (pm_sp np st (fun as rest => 0 < d ∧ pm_sm rest ∧ pm_cc G d j rk as rest S (fun st' S' => N ls st' S' cn sn)))) ∧
    (∀ (G : pm_G) (d mi : Nat) (Q : pm_Q) (J : pm_J) (N : pm_K) (ls st : List Value) (S : pm_S) (cn sn : Nat)  (a : List Nat) (w : Value), pm_wi G d mi Q J N (.ireturn ) a w ls st S cn sn = (pm_u1 a (fun t => pm_i1 st (fun x st' => st' = [] ∧ (t = 0 ∨ x = 0 ∨ x = 1 ∨ (t = 3 ∧ narrow .char (.int x) = .int x)) ∧ Q (some (.int x)) S)))) :=
  ⟨by intros; first | rfl | (simp only [pm_wi]), by intros; first | rfl | (simp only [pm_wi]), by intros; first | rfl | (simp only [pm_wi]), by intros; first | rfl | (simp only [pm_wi]), by intros; first | rfl | (simp only [pm_wi]), by intros; first | rfl | (simp only [pm_wi]), by intros; first | rfl | (simp only [pm_wi]), by intros; first | rfl | (simp only [pm_wi]), by intros; first | rfl | (simp only [pm_wi]), by intros; first | rfl | (simp only [pm_wi]), by intros; first | rfl | (simp only [pm_wi]), by intros; first | rfl | (simp only [pm_wi]), by intros; first | rfl | (simp only [pm_wi]), by intros; first | rfl | (simp only [pm_wi]), by intros; first | rfl | (simp only [pm_wi]), by intros; first | rfl | (simp only [pm_wi]), by intros; first | rfl | (simp only [pm_wi]), by intros; first | rfl | (simp only [pm_wi]), by intros; first | rfl | (simp only [pm_wi]), by intros; first | rfl | (simp only [pm_wi])⟩
theorem pm_WI5 : (∀ (G : pm_G) (d mi : Nat) (Q : pm_Q) (J : pm_J) (N : pm_K) (ls st : List Value) (S : pm_S) (cn sn : Nat)  (a : List Nat) (w : Value), pm_wi G d mi Q J N (.lreturn ) a w ls st S cn sn = (pm_l1 st (fun x st' => st' = [] ∧ Q (some (.long x)) S))) ∧
    (∀ (G : pm_G) (d mi : Nat) (Q : pm_Q) (J : pm_J) (N : pm_K) (ls st : List Value) (S : pm_S) (cn sn : Nat)  (a : List Nat) (w : Value), pm_wi G d mi Q J N (.areturn ) a w ls st S cn sn = (pm_t1 st (fun v st' => st' = [] ∧ pm_oQ v (fun r => Q (some (va_rf r)) S)))) ∧
    (∀ (G : pm_G) (d mi : Nat) (Q : pm_Q) (J : pm_J) (N : pm_K) (ls st : List Value) (S : pm_S) (cn sn : Nat)  (a : List Nat) (w : Value), pm_wi G d mi Q J N (.return_ ) a w ls st S cn sn = (st = [] ∧ Q none S)) :=
  ⟨by intros; first | rfl | (simp only [pm_wi]), by intros; first | rfl | (simp only [pm_wi]), by intros; first | rfl | (simp only [pm_wi])⟩
/-- values, lists, locals -/
theorem pm_WV : (∀ (f : Nat → Prop) x, pm_u1 [x] f = f x) ∧
    (∀ (f : Nat → Nat → Prop) x y, pm_u2 [x, y] f = f x y) ∧
    (∀ (f : Nat → Nat → Nat → Nat → Prop) x y z t, pm_u4 [x, y, z, t] f = f x y z t) ∧
    (∀ (f : Nat → Nat → Nat → Nat → Nat → Prop) x y z t u, pm_u5 [x, y, z, t, u] f = f x y z t u) ∧
    (∀ (f : Int32 → Prop) x, pm_oI (.int x) f = f x) ∧
    (∀ (f : Int64 → Prop) x, pm_oL (.long x) f = f x) ∧
    (∀ (f : Value → Prop) x, pm_oR (.ref x) f = f (.ref x)) ∧
    (∀ (f : Value → Prop), pm_oR .null f = f .null) ∧
    (∀ (f : Value → Prop) x, pm_oR (.retAddr x) f = f (.retAddr x)) ∧
    (∀ (f : Option Nat → Prop) x, pm_oQ (.ref x) f = f (some x)) ∧
    (∀ (f : Option Nat → Prop), pm_oQ .null f = f none) ∧
    (∀ (f : Value → List Value → Prop) v st, pm_t1 (v :: st) f = f v st) ∧
    (∀ (f : Int32 → List Value → Prop) x st, pm_i1 (.int x :: st) f = f x st) ∧
    (∀ (f : Int32 → Int32 → List Value → Prop) x y st, pm_i2 (.int y :: .int x :: st) f = f x y st) ∧
    (∀ (f : Int64 → List Value → Prop) x st, pm_l1 (.long x :: st) f = f x st) ∧
    (∀ (f : Int64 → Int64 → List Value → Prop) x y st, pm_l2 (.long y :: .long x :: st) f = f x y st) ∧
    (∀ (f : Int64 → Int32 → List Value → Prop) x y st, pm_li (.int y :: .long x :: st) f = f x y st) ∧
    (∀ (f : Nat → List Value → Prop) p st, pm_p1 (.ref p :: st) f = f p st) ∧
    (∀ (f : Nat → List Value → Prop) p st, pm_ra (.retAddr p :: st) f = f p st) ∧
    (∀ i, pm_sf 0 i = .int 0) ∧
    (∀ i, pm_sf 1 i = .retAddr (20 + i)) ∧
    (∀ (f g : Int32 → Nat → List Value → Prop) j p st, pm_ix (.int j :: .ref p :: st) f g = f j p st) ∧
    (∀ (f g : Int32 → Nat → List Value → Prop) j p st, pm_ix (.int j :: .retAddr p :: st) f g = g j p st) ∧
    (∀ (f : Value → Int32 → Nat → List Value → Prop) v j p st, pm_vx (v :: .int j :: .ref p :: st) f = f v j p st) ∧
    (∀ (f : List Value → List Value → Prop) st, pm_sp 0 st f = f [] st) ∧
    (∀ (f : List Value → List Value → Prop) a st, pm_sp 1 (a :: st) f = f [a] st) ∧
    (∀ (f : List Value → List Value → Prop) a b st, pm_sp 2 (b :: a :: st) f = f [a, b] st) ∧
    (∀ (f : List Value → List Value → Prop) a b c st, pm_sp 3 (c :: b :: a :: st) f = f [a, b, c] st) ∧
    (∀ (f : List Value → List Value → Prop) a b c d st, pm_sp 4 (d :: c :: b :: a :: st) f = f [a, b, c, d] st) ∧
    (∀ (f : List Value → List Value → Prop) a b c d e st, pm_sp 5 (e :: d :: c :: b :: a :: st) f = f [a, b, c, d, e] st) ∧
    (∀ (f : List Value → List Value → Prop) a b c d e g st, pm_sp 6 (g :: e :: d :: c :: b :: a :: st) f = f [a, b, c, d, e, g] st) ∧
    (pm_sm [] = True) ∧
    (∀ a, pm_sm [a] = True) ∧
    (∀ a b, pm_sm [a, b] = True) ∧
    (∀ a b c, pm_sm [a, b, c] = True) ∧
    (∀ a b c d, pm_sm [a, b, c, d] = True) ∧
    (∀ (S : pm_S) p k, pm_gv 0 S p k = .int (pm_i S p k)) ∧
    (∀ (S : pm_S) p k, pm_gv 1 S p k = .int (pm_i S p k)) ∧
    (∀ (S : pm_S) p k, pm_gv 2 S p k = va_rf (pm_r S p k)) ∧
    (va_rf none = .null) ∧
    (∀ q, va_rf (some q) = .ref q) :=
  ⟨by intros; rfl, by intros; rfl, by intros; rfl, by intros; rfl, by intros; rfl, by intros; rfl, by intros; rfl, by intros; rfl, by intros; rfl, by intros; rfl, by intros; rfl, by intros; rfl, by intros; rfl, by intros; rfl, by intros; rfl, by intros; rfl, by intros; rfl, by intros; rfl, by intros; rfl, by intros; rfl, by intros; rfl, by intros; rfl, by intros; rfl, by intros; rfl, by intros; rfl, by intros; rfl, by intros; rfl, by intros; rfl, by intros; rfl, by intros; rfl, by intros; rfl, by intros; rfl, by intros; rfl, by intros; rfl, by intros; rfl, by intros; rfl, by intros; rfl, by intros; rfl, by intros; rfl, by intros; rfl, by intros; rfl⟩
theorem pm_WW : (∀ (G : pm_G) d j as rest S N, pm_cc G d j 0 as rest S N = pm_CV G (d - 1) j as S (fun S' => N rest S')) ∧
    (∀ (G : pm_G) d j as rest S N, pm_cc G d j 1 as rest S N = pm_CI G (d - 1) j as S (fun x S' => N (.int x :: rest) S')) ∧
    (∀ (G : pm_G) d j as rest S N, pm_cc G d j 2 as rest S N = pm_CL G (d - 1) j as S (fun x S' => N (.long x :: rest) S')) ∧
    (∀ (G : pm_G) d j as rest S N, pm_cc G d j 3 as rest S N = pm_CR G (d - 1) j as S (fun x S' => N (va_rf x :: rest) S')) ∧
    (∀ x (J : Nat → Nat → Prop) t f, pm_sw x J [t, f] = J t f) ∧
    (∀ x (J : Nat → Nat → Prop) k t f l, pm_sw x J (k :: t :: f :: l) = ((x = Int32.ofNat k → J t f) ∧ (¬ x = Int32.ofNat k → pm_sw x J l))) ∧
    (∀ v l, pm_ld (v :: l) 0 = v) ∧
    (∀ v l k, pm_ld (v :: l) (k + 1) = pm_ld l k) ∧
    (∀ x, pm_dem (.int x) = .int x) ∧
    (∀ x, pm_dem (.ref x) = .ref x) ∧
    (pm_dem .null = .null) ∧
    (∀ x, pm_dem (.retAddr x) = .retAddr x) ∧
    (∀ x, pm_dem (.float x) = .float x) ∧
    (∀ x, pm_dem (.long x) = .float 0) ∧
    (∀ a l v, pm_st1 (a :: l) 0 v = v :: l) ∧
    (∀ a l v, pm_st1 (a :: l) 1 v = pm_dem a :: pm_st1 l 0 v) ∧
    (∀ a l k v, pm_st1 (a :: l) (k + 2) v = a :: pm_st1 l (k + 1) v) ∧
    (∀ l k v, pm_st2 l k v = pm_st1 (pm_st1 l (k + 1) (.float 0)) k v) ∧
    (∀ x, (Value.int x).category = 1) ∧
    (∀ x, (Value.ref x).category = 1) ∧
    (Value.null.category = 1) ∧
    (∀ x, (Value.retAddr x).category = 1) ∧
    (∀ n, pm_en n [] = List.replicate n (.float 0)) ∧
    (∀ n x vs, pm_en n (.long x :: vs) = .long x :: .float 0 :: pm_en (n - 2) vs) ∧
    (∀ n x vs, pm_en n (.int x :: vs) = .int x :: pm_en (n - 1) vs) ∧
    (∀ n x vs, pm_en n (.ref x :: vs) = .ref x :: pm_en (n - 1) vs) ∧
    (∀ n vs, pm_en n (.null :: vs) = .null :: pm_en (n - 1) vs) ∧
    (∀ n x vs, pm_en n (.retAddr x :: vs) = .retAddr x :: pm_en (n - 1) vs) :=
  ⟨by intros; rfl, by intros; rfl, by intros; rfl, by intros; rfl, by intros; rfl, by intros; rfl, by intros; rfl, by intros; rfl, by intros; rfl, by intros; rfl, by intros; rfl, by intros; rfl, by intros; rfl, by intros; rfl, by intros; rfl, by intros; rfl, by intros; rfl, by intros; rfl, by intros; rfl, by intros; rfl, by intros; rfl, by intros; rfl, by intros; rfl, by intros; rfl, by intros; rfl, by intros; rfl, by intros; rfl, by intros; rfl⟩
theorem pm_WX : (∀ (G : pm_G) d mi Q J t f, pm_wl G d mi Q J [] t f = J t f) ∧ (∀ (G : pm_G) d mi Q J i a w l t f ls st S cn sn, pm_wl G d mi Q J ((i, a, w) :: l) t f ls st S cn sn = pm_wi G d mi Q J (pm_wl G d mi Q J l t f) i a w ls st S cn sn) ∧
    (∀ (G : pm_G) d mi Q B n t, pm_wb G d mi Q B (n + 1) t 0 = pm_wl G d mi Q (pm_wb G d mi Q B n) (B t).1 (B t).2.1 (B t).2.2) ∧ (∀ (G : pm_G) d mi Q B n t, pm_wb G d mi Q B (n + 1) t 1 = pm_W G d mi Q t) := ⟨by intros; rfl, by intros; rfl, by intros; rfl, by intros; rfl⟩
