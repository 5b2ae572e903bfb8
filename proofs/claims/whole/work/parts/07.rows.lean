/-! arrays of ours -/
section PMA
variable {G : pm_G} {d mi : Nat} {Q : pm_Q} {pc : Nat} {ls st : List Value} {S : pm_S} {cn sn : Nat}
theorem pm_ty_at {U : State} (h : pm_C G U) : ArrOfT U (pm_ga G 0) .int ∧ ArrOfT U (pm_ga G 1) .long ∧ ArrOfT U (pm_ga G 2) .boolean := ⟨(h.1.2 0 _ rfl).1, (h.1.2 1 _ rfl).1, (h.1.2 2 _ rfl).1⟩
theorem pm_in_lt {i : Int32} {n : Nat} (h : vp_in i n) : i.toNatClampNeg < n := Nat.not_le.mp fun q => h (Or.inr q)
theorem pm_s_iald {p : Nat} {j : Int32} (hd : decode (pm_b mi) pc = .ok (.iaload, 1)) (hp : pm_k S p = 20) (hj : vp_in j (pm_z S p)) (h : pm_W G d mi Q (pc + 1) ls (.int (pm_i S p j.toNatClampNeg) :: st) S cn sn) : pm_W G d mi Q pc ls (.int j :: .ref p :: st) S cn sn := by
  intro R P e s m args below meth co Z H locs la hM hR hS hL hcn hsn
  have hat := hR.cell (p := p) (by rw [hp]; decide)
  rw [pm_e_int hp] at hat
  exact W.iald (v := .int (pm_i S p j.toNatClampNeg)) hM.1.1 hM.1.2.1 hat ((pm_ty_at hM.2.1.1).1 _ _) (fun q => by cases q) (by show ¬ (j < 0 ∨ (arrV _ _ _).slots.size ≤ _); rw [arrV_size]; exact hj) (by show (arrV _ _ _).slots[_]? = _; rw [arrV_read _ _ (pm_in_lt hj)]) rfl rfl hd (h R P e s m args below meth co Z H locs la hM hR hS hL hcn hsn)
theorem pm_s_zald {p : Nat} {j : Int32} (hd : decode (pm_b mi) pc = .ok (.baload, 1)) (hp : pm_k S p = 22) (hj : vp_in j (pm_z S p)) (h : pm_W G d mi Q (pc + 1) ls (.int (pm_i S p j.toNatClampNeg) :: st) S cn sn) : pm_W G d mi Q pc ls (.int j :: .ref p :: st) S cn sn := by
  intro R P e s m args below meth co Z H locs la hM hR hS hL hcn hsn
  have hat := hR.cell (p := p) (by rw [hp]; decide)
  rw [pm_e_bool hp] at hat
  exact W.zald (v := .int (pm_i S p j.toNatClampNeg)) hM.1.1 hM.1.2.1 hat ((pm_ty_at hM.2.1.1).2.2 _ _) (fun q => by cases q) (by show ¬ (j < 0 ∨ (arrV _ _ _).slots.size ≤ _); rw [arrV_size]; exact hj) (by show (arrV _ _ _).slots[_]? = _; rw [arrV_read _ _ (pm_in_lt hj)]) rfl rfl hd (h R P e s m args below meth co Z H locs la hM hR hS hL hcn hsn)
theorem pm_s_lald {p : Nat} {j : Int32} (hd : decode (pm_b mi) pc = .ok (.laload, 1)) (hp : pm_k S p = 21) (hj : vp_in j (pm_z S p)) (h : pm_W G d mi Q (pc + 1) ls (.long (pm_l S p j.toNatClampNeg) :: st) S cn sn) : pm_W G d mi Q pc ls (.int j :: .ref p :: st) S cn sn := by
  intro R P e s m args below meth co Z H locs la hM hR hS hL hcn hsn
  have hat := hR.cell (p := p) (by rw [hp]; decide)
  rw [pm_e_long hp] at hat
  exact W.lald (v := .long (pm_l S p j.toNatClampNeg)) hM.1.1 hM.1.2.1 hat ((pm_ty_at hM.2.1.1).2.1 _ _) (fun q => by cases q) (by show ¬ (j < 0 ∨ (arrV _ _ _).slots.size ≤ _); rw [arrV_size]; exact hj) (by show (arrV _ _ _).slots[_]? = _; rw [arrV_read _ _ (pm_in_lt hj)]) rfl rfl hd (h R P e s m args below meth co Z H locs la hM hR hS hL hcn hsn)
def pm_rc (k : Nat) : String := if k = 23 then "WrongsDesk$Matter" else if k = 24 then "WrongsDesk$Law" else "WrongsDesk$Tape"
theorem pm_ty_r {U : State} (h : pm_C G U) {k : Nat} (hk : k = 23 ∨ k = 24 ∨ k = 25) : ArrOfT U (pm_ga G (k - 20)) (.object (pm_rc k)) ∧ va_RA U (pm_ga G (k - 20)) (.object (pm_rc k)) := by
  rcases hk with rfl | rfl | rfl
  · exact h.1.2 3 _ rfl
  · exact h.1.2 4 _ rfl
  · exact h.1.2 5 _ rfl
theorem pm_e_refk {p k : Nat} (hk : pm_k S p = k) (hr : k = 23 ∨ k = 24 ∨ k = 25) : pm_e G S p = .inl (pm_ga G (k - 20), pm_z S p, .inr (.inr (.inr (.inr (fun j => (pm_r S p j).map (fun q => pm_gb G + q)))))) := by
  rcases hr with rfl | rfl | rfl
  · exact pm_e_ref (k := 0) hk
  · exact pm_e_ref (k := 1) hk
  · exact pm_e_ref (k := 2) hk
theorem pm_s_aald {p k : Nat} {j : Int32} (hd : decode (pm_b mi) pc = .ok (.aaload, 1)) (hr : k = 23 ∨ k = 24 ∨ k = 25) (hp : pm_k S p = k) (hj : vp_in j (pm_z S p)) (h : pm_W G d mi Q (pc + 1) ls (va_rf (pm_r S p j.toNatClampNeg) :: st) S cn sn) : pm_W G d mi Q pc ls (.int j :: .ref p :: st) S cn sn := by
  intro R P e s m args below meth co Z H locs la hM hR hS hL hcn hsn
  have hat := hR.cell (p := p) (by rw [hp]; omega)
  rw [pm_e_refk hp hr] at hat
  have hc := h R P e s m args below meth co Z H locs la hM hR hS hL hcn hsn
  rw [List.map_cons, pm_v_rf] at hc
  exact W.aald (v := va_rf ((pm_r S p j.toNatClampNeg).map (fun q => pm_gb G + q))) (ty := .object (pm_rc k)) hM.1.1 hM.1.2.1 hat ((pm_ty_r hM.2.1.1 hr).1 _ _) rfl (fun q => by cases q) (by show ¬ (j < 0 ∨ (arrV _ _ _).slots.size ≤ _); rw [arrV_size]; exact hj) (by show (arrV _ _ _).slots[_]? = _; rw [arrV_read _ _ (pm_in_lt hj)]) rfl rfl hd hc
theorem pm_s_iast {p : Nat} {j x : Int32} (hd : decode (pm_b mi) pc = .ok (.iastore, 1)) (hp : pm_k S p = 20) (hj : vp_in j (pm_z S p)) (h : pm_W G d mi Q (pc + 1) ls st (pm_wI S p j.toNatClampNeg x) cn sn) : pm_W G d mi Q pc ls (.int x :: .int j :: .ref p :: st) S cn sn := by
  intro R P e s m args below meth co Z H locs la hM hR hS hL hcn hsn
  have hat := hR.cell (p := p) (by rw [hp]; decide)
  rw [pm_e_int hp] at hat
  refine W.iast (x := x) hM.1.1 hM.1.2.1 hat ((pm_ty_at hM.2.1.1).1 _ _) (fun q => by cases q) (by show ¬ (j < 0 ∨ (arrV _ _ _).slots.size ≤ _); rw [arrV_size]; exact hj) rfl rfl hd fun H1 e1 e2 e3 => ?_
  refine h R P e s m args below meth co Z H1 _ la hM ?_ (hS.put e2 e3 (pm_A_at p)) hL hcn hsn
  refine hR.set (p := p) e2 e3 rfl rfl (fun p' hp' => pm_e_wI_ne hp') ?_
  rw [pm_e_int (S := pm_wI S p j.toNatClampNeg x) hp, pm_i_wI_eq]
  show H1[pm_gb G + p]? = some (vp_cell _ _)
  rw [e1, vp_cell_i, vp_cell_i, arrV_store]
  congr 2
  funext q
  by_cases hq : q = j.toNatClampNeg
  · subst hq; simp [updV, upd]
  · simp [updV, upd, hq]
theorem pm_s_zast {p : Nat} {j x : Int32} (hd : decode (pm_b mi) pc = .ok (.bastore, 1)) (hp : pm_k S p = 22) (hj : vp_in j (pm_z S p)) (hx : x = 0 ∨ x = 1) (h : pm_W G d mi Q (pc + 1) ls st (pm_wI S p j.toNatClampNeg x) cn sn) : pm_W G d mi Q pc ls (.int x :: .int j :: .ref p :: st) S cn sn := by
  intro R P e s m args below meth co Z H locs la hM hR hS hL hcn hsn
  have hat := hR.cell (p := p) (by rw [hp]; decide)
  rw [pm_e_bool hp] at hat
  have hn : narrow .boolean (.int x) = .int x := by rcases hx with rfl | rfl <;> rfl
  refine W.zast (x := x) hM.1.1 hM.1.2.1 hat ((pm_ty_at hM.2.1.1).2.2 _ _) (fun q => by cases q) (by show ¬ (j < 0 ∨ (arrV _ _ _).slots.size ≤ _); rw [arrV_size]; exact hj) rfl rfl hd fun H1 e1 e2 e3 => ?_
  rw [hn] at e1
  refine h R P e s m args below meth co Z H1 _ la hM ?_ (hS.put e2 e3 (pm_A_at p)) hL hcn hsn
  refine hR.set (p := p) e2 e3 rfl rfl (fun p' hp' => pm_e_wI_ne hp') ?_
  rw [pm_e_bool (S := pm_wI S p j.toNatClampNeg x) hp, pm_i_wI_eq]
  show H1[pm_gb G + p]? = some (vp_cell _ _)
  rw [e1, vp_cell_i, vp_cell_i, arrV_store]
  congr 2
  funext q
  by_cases hq : q = j.toNatClampNeg
  · subst hq; simp [updV, upd]
  · simp [updV, upd, hq]
theorem pm_s_last {p : Nat} {j : Int32} {x : Int64} (hd : decode (pm_b mi) pc = .ok (.lastore, 1)) (hp : pm_k S p = 21) (hj : vp_in j (pm_z S p)) (h : pm_W G d mi Q (pc + 1) ls st (pm_wL S p j.toNatClampNeg x) cn sn) : pm_W G d mi Q pc ls (.long x :: .int j :: .ref p :: st) S cn sn := by
  intro R P e s m args below meth co Z H locs la hM hR hS hL hcn hsn
  have hat := hR.cell (p := p) (by rw [hp]; decide)
  rw [pm_e_long hp] at hat
  refine W.last (x := x) hM.1.1 hM.1.2.1 hat ((pm_ty_at hM.2.1.1).2.1 _ _) (fun q => by cases q) (by show ¬ (j < 0 ∨ (arrV _ _ _).slots.size ≤ _); rw [arrV_size]; exact hj) rfl rfl hd fun H1 e1 e2 e3 => ?_
  refine h R P e s m args below meth co Z H1 _ la hM ?_ (hS.put e2 e3 (pm_A_at p)) hL hcn hsn
  refine hR.set (p := p) e2 e3 rfl rfl (fun p' hp' => pm_e_wL_ne hp') ?_
  rw [pm_e_long (S := pm_wL S p j.toNatClampNeg x) hp, pm_l_wL_eq]
  show H1[pm_gb G + p]? = some (vp_cell _ _)
  rw [e1, vp_cell_l, vp_cell_l, arrV_store]
  congr 2
  funext q
  by_cases hq : q = j.toNatClampNeg
  · subst hq; simp [updV, vp_updL]
  · simp [updV, vp_updL, hq]
theorem pm_rc_cls {k c : Nat} (h : (k = 23 ∧ c = 7) ∨ (k = 24 ∧ c = 5) ∨ (k = 25 ∧ c = 9)) : pm_rc k = pm_cn c ∧ c < 13 ∧ (k = 23 ∨ k = 24 ∨ k = 25) := by
  rcases h with ⟨rfl, rfl⟩ | ⟨rfl, rfl⟩ | ⟨rfl, rfl⟩ <;> decide +kernel
theorem pm_s_aast {p k c q : Nat} {j : Int32} (hd : decode (pm_b mi) pc = .ok (.aastore, 1)) (hr : (k = 23 ∧ c = 7) ∨ (k = 24 ∧ c = 5) ∨ (k = 25 ∧ c = 9)) (hp : pm_k S p = k) (hq : pm_k S q = c) (hj : vp_in j (pm_z S p)) (h : pm_W G d mi Q (pc + 1) ls st (pm_wR S p j.toNatClampNeg (some q)) cn sn) : pm_W G d mi Q pc ls (.ref q :: .int j :: .ref p :: st) S cn sn := by
  intro R P e s m args below meth co Z H locs la hM hR hS hL hcn hsn
  obtain ⟨hrc, hc, hrk⟩ := pm_rc_cls hr
  have hat := hR.cell (p := p) (by rw [hp]; omega)
  rw [pm_e_refk hp hrk] at hat
  have hav := hR.cell (p := q) (by rw [hq]; omega)
  rw [pm_e_obj hq hc] at hav
  obtain ⟨r', hr', cellV, g1, g2, g3, -⟩ := hav
  have hcls := (hM.2.1.1.1.1 c _ (pm_cl_at hc)).2
  have hra := (pm_ty_r hM.2.1.1 hrk).2
  rw [hrc] at hra
  obtain ⟨kA, comp, k1, k2, k3, -⟩ := hra
  have hcomp : comp = (pm_gD G).1 c := Option.some.inj (k3.symm.trans hcls.1)
  subst hcomp
  obtain ⟨kC, hkC, -⟩ := id hcls.2
  refine W.aast (v := pm_gb G + q) hM.1.1 hM.1.2.1 hat (fun q h => by cases h) (fun h => by cases h) k1 k2 rfl hkC ⟨fun q => hj (Or.inl q), by show _ < (arrV _ _ _).slots.size; rw [arrV_size]; exact pm_in_lt hj⟩ g1 (fun q h => by rw [g3] at h; cases h) (by rw [g2]; exact hkC) (by rw [g2]; exact va_assign hcls) rfl rfl hd fun H1 e1 e2 e3 => ?_
  refine h R P e s m args below meth co Z H1 _ la hM ?_ (hS.put e2 e3 (pm_A_at p)) hL hcn hsn
  refine hR.set (p := p) e2 e3 rfl rfl (fun p' hp' => pm_e_wR_ne hp') ?_
  rw [pm_e_refk (S := pm_wR S p j.toNatClampNeg (some q)) (k := k) hp hrk, pm_r_wR_eq]
  show H1[pm_gb G + p]? = some (vp_cell _ _)
  rw [e1, vp_cell_q, vp_cell_q, arrV_store]
  congr 2
  funext z
  by_cases hz : z = j.toNatClampNeg
  · subst hz; simp [updV, va_up, va_rf]
  · simp [updV, va_up, hz]
/-! what was there at the start -/
theorem pm_old {s : State} {H : Heap} {locs : List Loc} (hO : pm_O G s.heap) (hb : pm_gb G ≤ s.heap.size) (hS : va_S (pm_A G) s.heap H locs) {q : Nat} (hq : q < pm_gb G) : H[q]? = (pm_gH G)[q]? := by
  rw [hS.2.1 q (Nat.lt_of_lt_of_le hq hb) (Nat.not_le.mpr hq)]
  exact hO.2 q hq
theorem pm_s_xald {i : Nat} {L : Nat} {f : Nat → Int32} {j : Int32} (hd : decode (pm_b mi) pc = .ok (.iaload, 1)) (hX : ∀ U, pm_C G U → va_X (pm_gk G i) L f U (pm_gH G) ∧ pm_gk G i < pm_gb G) (hj : vp_in j L) (h : pm_W G d mi Q (pc + 1) ls (.int (f j.toNatClampNeg) :: st) S cn sn) : pm_W G d mi Q pc ls (.int j :: .retAddr i :: st) S cn sn := by
  intro R P e s m args below meth co Z H locs la hM hR hS hL hcn hsn
  obtain ⟨⟨scr, h1, h2, h3, h4, h5⟩, hl⟩ := hX s hM.2.1.1
  exact W.iald (v := .int (f j.toNatClampNeg)) hM.1.1 hM.1.2.1 (by rw [pm_old hM.2.1.2.1 hM.2.1.2.2 hS hl]; exact h1) h2 h3 (by rw [h4]; exact hj) (h5 _ (pm_in_lt hj)) rfl rfl hd (h R P e s m args below meth co Z H locs la hM hR hS hL hcn hsn)
theorem pm_s_tald {j : Int32} (hd : decode (pm_b mi) pc = .ok (.iaload, 1)) (hj : vp_in j 7) (h : pm_W G d mi Q (pc + 1) ls (.int (pm_above j.toNatClampNeg) :: st) S cn sn) : pm_W G d mi Q pc ls (.int j :: .retAddr 100 :: st) S cn sn := by
  intro R P e s m args below meth co Z H locs la hM hR hS hL hcn hsn
  have hT : va_T .int (pm_gk G 100) 7 (fun j => .int (pm_above j)) (pm_A G) s s.heap := hM.2.1.1.2.2.2.1.1.kept (fun a ha _ => hM.2.1.2.1.2 a (by rw [hM.2.1.2.1.1] at ha; exact ha))
  exact va_ti hM.1.1 hM.1.2.1 hT hS hj rfl hd (h R P e s m args below meth co Z H locs la hM hR hS hL hcn hsn)
theorem pm_s_xlen {i : Nat} {L : Nat} {f : Nat → Int32} (hd : decode (pm_b mi) pc = .ok (.arraylength, 1)) (hX : ∀ U, pm_C G U → va_X (pm_gk G i) L f U (pm_gH G) ∧ pm_gk G i < pm_gb G) (h : pm_W G d mi Q (pc + 1) ls (.int (Int32.ofNat L) :: st) S cn sn) : pm_W G d mi Q pc ls (.retAddr i :: st) S cn sn := by
  intro R P e s m args below meth co Z H locs la hM hR hS hL hcn hsn
  obtain ⟨⟨scr, h1, h2, h3, h4, h5⟩, hl⟩ := hX s hM.2.1.1
  exact W.alen (n := Int32.ofNat L) hM.1.1 hM.1.2.1 (by rw [pm_old hM.2.1.2.1 hM.2.1.2.2 hS hl]; exact h1) h2 (by rw [h4] <;> rfl) rfl rfl hd (h R P e s m args below meth co Z H locs la hM hR hS hL hcn hsn)
theorem pm_s_above {idx : Nat} (hd : decode (pm_b mi) pc = .ok (.getstatic idx, 3)) (hw : Cond.fieldLink (pm_cn (pm_oc mi)) idx "WrongsDesk$Deeds" "ABOVE" "[I" ∈ pm_tbl) (h : pm_W G d mi Q (pc + 3) ls (.retAddr 100 :: st) S cn sn) : pm_W G d mi Q pc ls st S cn sn := by
  intro R P e s m args below meth co Z H locs la hM hR hS hL hcn hsn
  obtain ⟨cf, kf, fi, f, a, cell, h1, h2, h3, h4, h5, h6, h7, h8⟩ := hM.2.1.1.2.2.2.1.2.2.2.2
  have hl : a < pm_gb G := Nat.not_le.mp h8
  exact W.gets hM.1.1 hM.1.2.1 hM.1.2.2.2.1 (hM.1.2.2.2.2.1 _ hw) h1 h2 h3 h4 (by rw [pm_old hM.2.1.2.1 hM.2.1.2.2 hS hl]; exact h5) (fun e => by rw [e] at h6; cases h6) h7 rfl hd (h R P e s m args below meth co Z H locs la hM hR hS hL hcn hsn)
/-! new cells -/
theorem pm_e_nw_lt {k z p : Nat} (h : p < pm_n S) : pm_e G (pm_nw S k z) p = pm_e G S p := by
  have hne : p ≠ S.1 := Nat.ne_of_lt h
  have e1 : pm_k (pm_nw S k z) p = pm_k S p := if_neg hne
  have e2 : pm_z (pm_nw S k z) p = pm_z S p := if_neg hne
  have e3 : pm_i (pm_nw S k z) p = pm_i S p := if_neg hne
  have e4 : pm_l (pm_nw S k z) p = pm_l S p := if_neg hne
  have e5 : pm_r (pm_nw S k z) p = pm_r S p := if_neg hne
  unfold pm_e
  rw [e1, e2, e3, e4, e5]
theorem pm_R.new {H H' : Heap} {k z : Nat} (h : pm_R G S H) (hk : k ≠ 99) (hz : H'.size = H.size + 1) (ho : ∀ q, q < H.size → H'[q]? = H[q]?) (hp : va_at (pm_gD G) pm_cl (pm_gb G + pm_n S, pm_e G (pm_nw S k z) (pm_n S)) H') : pm_R G (pm_nw S k z) H' := by
  refine ⟨by rw [hz, h.1]; show _ = pm_gb G + (pm_n S + 1); omega, fun p hp' => ?_, fun p hp' => ?_⟩
  · have hp'' : pm_n S + 1 ≤ p := hp'
    show va_up S.2.1 S.1 k p = 99
    unfold va_up
    rw [if_neg (show ¬ p = S.1 by have : S.1 = pm_n S := rfl; omega)]
    exact h.2.1 p (by omega)
  · have hp'' : p < pm_n S + 1 := hp'
    by_cases hpn : p = pm_n S
    · subst hpn; exact hp
    · have hlt : p < pm_n S := by omega
      rw [pm_e_nw_lt hlt]
      exact (h.2.2 p hlt).kept (ho _ (by rw [h.1]; show pm_gb G + p < _; omega))
theorem pm_nw_at (S : pm_S) (k z : Nat) : pm_k (pm_nw S k z) (pm_n S) = k ∧ pm_z (pm_nw S k z) (pm_n S) = z ∧ pm_i (pm_nw S k z) (pm_n S) = (fun _ => 0) ∧ pm_l (pm_nw S k z) (pm_n S) = (fun _ => 0) ∧ pm_r (pm_nw S k z) (pm_n S) = (fun _ => none) := by
  simp [pm_k, pm_z, pm_i, pm_l, pm_r, pm_nw, pm_n, va_up]
theorem va_S.new {A : Nat → Prop} {H0 H H' : Heap} {locs : List Loc} (hS : va_S A H0 H locs) (hz : H'.size = H.size + 1) (ho : ∀ q, q < H.size → H'[q]? = H[q]?) : va_S A H0 H' locs :=
  ⟨Nat.le_trans hS.1 (by omega), fun x h1 h2 => (ho x (Nat.lt_of_lt_of_le h1 hS.1)).trans (hS.2.1 x h1 h2), hS.2.2⟩
theorem pm_s_new {c idx : Nat} (hd : decode (pm_b mi) pc = .ok (.new idx, 3)) (hc : c < 13) (hw : Cond.classLink (pm_cn (pm_oc mi)) idx (pm_cn c) ∈ pm_tbl) (hcn1 : cn + 1 ≤ pm_mc mi) (hsn1 : sn + pm_nF c ≤ pm_ms mi) (h : pm_W G d mi Q (pc + 3) ls (.ref (pm_n S) :: st) (pm_nw S c 0) (cn + 1) (sn + pm_nF c)) : pm_W G d mi Q pc ls st S cn sn := by
  intro R P e s m args below meth co Z H locs la hM hR hS hL hcn hsn
  have hts := hM.1.2.2.2.2.1
  obtain ⟨hi1, hi2⟩ := pm_inst_ok c hc
  have hKn := hM.2.1.1.1.1 c _ (pm_cl_at hc)
  obtain ⟨-, -, hmc, hms⟩ := hM.2.2.1
  refine W.newcK hM.1.1 hM.1.2.1 hM.1.2.2.2.1 (hts _ hw) (hts _ (pm_mem hi1 rfl)) (hts _ (pm_mem hi2 rfl)) rfl hd (by omega) (by omega) hKn.2.1 hR.1 fun H1 kC hkC e1 z1 o1 => ?_
  have o1' : ∀ q, q < H.size → H1[q]? = H[q]? := fun q hq => o1 q (by rw [hR.1] at hq; exact hq)
  have z1' : H1.size = H.size + 1 := by rw [z1, hR.1]
  refine h R P e s m args below meth co Z H1 locs la hM ?_ (hS.new z1' o1') hL hcn1 hsn1
  refine hR.new (by omega) z1' o1' ?_
  obtain ⟨n1, n2, n3, n4, n5⟩ := pm_nw_at S c 0
  rw [pm_e_obj n1 hc, n3, n5]
  refine ⟨_, pm_cl_at hc, (u_born (pm_ty c) hts (pm_ws hc) hKn hkC e1 (pm_ty_ok c hc)).to (fun k hk => ?_)⟩
  have hk' : k < pm_nF c := hk
  unfold vp_V
  rw [List.getD_eq_getElem?_getD, pm_fs_get hk']
  rcases pm_fk_ty c hc k hk' with ⟨h1, h2⟩ | ⟨h1, h2⟩ | ⟨h1, h2⟩
  · rw [h1, h2]; rfl
  · rw [h1, h2]; rfl
  · rw [h1]
    cases hty : pm_ty c k <;> rw [hty] at h2 <;> first | (cases h2; done) | rfl
theorem pm_s_newa {t : ArrayType} {k z : Nat} (hd : decode (pm_b mi) pc = .ok (.newarray t, 2)) (ht : (t = .int ∧ k = 20) ∨ (t = .long ∧ k = 21) ∨ (t = .boolean ∧ k = 22)) (hz : z < 60000) (hcn1 : cn + 1 ≤ pm_mc mi) (hsn1 : sn + z ≤ pm_ms mi) (h : pm_W G d mi Q (pc + 2) ls (.ref (pm_n S) :: st) (pm_nw S k z) (cn + 1) (sn + z)) : pm_W G d mi Q pc ls (.int (Int32.ofNat z) :: st) S cn sn := by
  intro R P e s m args below meth co Z H locs la hM hR hS hL hcn hsn
  have hts := hM.1.2.2.2.2.1
  obtain ⟨-, -, hmc, hms⟩ := hM.2.2.1
  obtain ⟨a1, a2, a3⟩ := pm_ac_ok
  have harr : (Cond.arrayClass (newarray.typeOf t)).before args s = true := by
    rcases ht with ⟨rfl, -⟩ | ⟨rfl, -⟩ | ⟨rfl, -⟩
    · exact hts _ (pm_mem a1 rfl)
    · exact hts _ (pm_mem a2 rfl)
    · exact hts _ (pm_mem a3 rfl)
  have hz0 : (Int32.ofNat z).toNatClampNeg = z := nI_clamp (show z < 2 ^ 31 by omega)
  have hz1 : ¬ Int32.ofNat z < 0 := nI_pos (show z < 2 ^ 31 by omega)
  have hby : z * componentBytes (newarray.typeOf t) ≤ 536870912 := by
    rcases ht with ⟨rfl, -⟩ | ⟨rfl, -⟩ | ⟨rfl, -⟩
    · show z * 4 ≤ _; omega
    · show z * 8 ≤ _; omega
    · show z * 1 ≤ _; omega
  refine va_newaK hM.1.1 hM.1.2.1 harr rfl hd rfl hz1 hz0 hby (by omega) (by omega) hR.1 fun H1 cA e1 z1 o1 hAr hNm => ?_
  have o1' : ∀ q, q < H.size → H1[q]? = H[q]? := fun q hq => o1 q (by rw [hR.1] at hq; exact hq)
  have z1' : H1.size = H.size + 1 := by rw [z1, hR.1]
  refine h R P e s m args below meth co Z H1 locs la hM ?_ (hS.new z1' o1') hL hcn1 hsn1
  refine hR.new (by omega) z1' o1' ?_
  obtain ⟨n1, n2, n3, n4, n5⟩ := pm_nw_at S k z
  rcases ht with ⟨rfl, rfl⟩ | ⟨rfl, rfl⟩ | ⟨rfl, rfl⟩
  · have hcA : cA = pm_ga G 0 := Option.some.inj (hNm.symm.trans (hM.2.1.1.1.2 0 _ rfl).2)
    rw [pm_e_int n1, n2, n3, ← hcA]; exact e1
  · have hcA : cA = pm_ga G 1 := Option.some.inj (hNm.symm.trans (hM.2.1.1.1.2 1 _ rfl).2)
    rw [pm_e_long n1, n2, n4, ← hcA]; exact e1
  · have hcA : cA = pm_ga G 2 := Option.some.inj (hNm.symm.trans (hM.2.1.1.1.2 2 _ rfl).2)
    rw [pm_e_bool n1, n2, n3, ← hcA]; exact e1
theorem pm_s_newq {idx k z : Nat} (hd : decode (pm_b mi) pc = .ok (.anewarray idx, 3)) (hr : k = 23 ∨ k = 24 ∨ k = 25) (hw : Cond.classLink (pm_cn (pm_oc mi)) idx (pm_rc k) ∈ pm_tbl) (hz : z < 60000) (hcn1 : cn + 1 ≤ pm_mc mi) (hsn1 : sn + z ≤ pm_ms mi) (h : pm_W G d mi Q (pc + 3) ls (.ref (pm_n S) :: st) (pm_nw S k z) (cn + 1) (sn + z)) : pm_W G d mi Q pc ls (.int (Int32.ofNat z) :: st) S cn sn := by
  intro R P e s m args below meth co Z H locs la hM hR hS hL hcn hsn
  have hts := hM.1.2.2.2.2.1
  obtain ⟨-, -, hmc, hms⟩ := hM.2.2.1
  have hz0 : (Int32.ofNat z).toNatClampNeg = z := nI_clamp (show z < 2 ^ 31 by omega)
  have hz1 : ¬ Int32.ofNat z < 0 := nI_pos (show z < 2 ^ 31 by omega)
  have hov : va_AO (pm_rc k) s := by
    obtain ⟨o1, o2, o3⟩ := hM.2.1.1.2.2.1
    rcases hr with rfl | rfl | rfl
    · exact o1
    · exact o2
    · exact o3
  refine W.anew (C := pm_rc k) hM.1.1 hM.1.2.1 hM.1.2.2.2.1 (hts _ hw) (va_AO.use hov) rfl hd rfl hz1 (by rw [hz0]; omega) (by omega) (by rw [hz0]; omega) fun cA kA comp f1 f2 f3 f4 => ?_
  rw [hz0]
  generalize hH1 : H.push ({ cls := cA, slots := Array.replicate z .null, vm := .none } : Cell) = H1
  have z1' : H1.size = H.size + 1 := by rw [← hH1, Array.size_push]
  have e1 : H1[H.size]? = some (arrV cA z (fun _ => .null)) := by rw [← hH1, Array.getElem?_push_size, ← arrV_new]
  have o1' : ∀ q : Nat, q < H.size → H1[q]? = H[q]? := fun q hq => by rw [← hH1, Array.getElem?_push, if_neg (Nat.ne_of_lt hq)]
  have hc := h R P e s m args below meth co Z H1 locs la hM ?_ (hS.new z1' o1') hL hcn1 hsn1
  · rw [List.map_cons] at hc
    rw [hR.1]
    exact hc
  · refine hR.new (by omega) z1' o1' ?_
    obtain ⟨n1, n2, n3, n4, n5⟩ := pm_nw_at S k z
    obtain ⟨kA', comp', g1, g2, g3, g4⟩ := (pm_ty_r hM.2.1.1 hr).2
    have hcA : cA = pm_ga G (k - 20) := Option.some.inj (f1.symm.trans g4)
    rw [pm_e_refk n1 hr, n2, n5, ← hcA]
    rw [hR.1] at e1
    exact e1
end PMA
