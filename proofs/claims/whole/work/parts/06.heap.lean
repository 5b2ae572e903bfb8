/-! THE HEAP'S ROWS: fields and arrays over the pure heap -/
section PMH
variable {G : pm_G} {S S' : pm_S} {H H' : Heap}
theorem pm_R.lt {p : Nat} (h : pm_R G S H) (hk : pm_k S p ≠ 99) : p < pm_n S := Nat.lt_of_not_le (fun q => hk (h.2.1 p q))
theorem pm_e_obj {c p : Nat} (hk : pm_k S p = c) (hc : c < 13) : pm_e G S p = .inr (c, pm_fs G c (pm_i S p) (pm_r S p)) := by
  unfold pm_e; rw [hk, if_pos hc]
theorem pm_e_long {p : Nat} (hk : pm_k S p = 21) : pm_e G S p = .inl (pm_ga G 1, pm_z S p, .inr (.inl (pm_l S p))) := by
  unfold pm_e; rw [hk, if_neg (by decide), if_pos rfl]
theorem pm_e_int {p : Nat} (hk : pm_k S p = 20) : pm_e G S p = .inl (pm_ga G 0, pm_z S p, .inl (pm_i S p)) := by
  unfold pm_e; rw [hk, if_neg (by decide), if_neg (by decide), if_pos (by decide)]
theorem pm_e_bool {p : Nat} (hk : pm_k S p = 22) : pm_e G S p = .inl (pm_ga G 2, pm_z S p, .inl (pm_i S p)) := by
  unfold pm_e; rw [hk, if_neg (by decide), if_neg (by decide), if_pos (by decide)]
theorem pm_e_ref {p k : Nat} (hk : pm_k S p = 23 + k) : pm_e G S p = .inl (pm_ga G (3 + k), pm_z S p, .inr (.inr (.inr (.inr (fun j => (pm_r S p j).map (fun q => pm_gb G + q)))))) := by
  unfold pm_e; rw [hk, if_neg (by omega), if_neg (by omega), if_neg (by omega), show 23 + k - 20 = 3 + k by omega]
theorem pm_R.cell {p : Nat} (h : pm_R G S H) (hk : pm_k S p ≠ 99) : va_at (pm_gD G) pm_cl (pm_gb G + p, pm_e G S p) H := h.2.2 p (h.lt hk)
theorem pm_R.set {p : Nat} (h : pm_R G S H) (hz : H'.size = H.size) (ho : ∀ q, q ≠ pm_gb G + p → H'[q]? = H[q]?) (hn : pm_n S' = pm_n S) (hk : pm_k S' = pm_k S) (he : ∀ p', p' ≠ p → pm_e G S' p' = pm_e G S p') (hp : va_at (pm_gD G) pm_cl (pm_gb G + p, pm_e G S' p) H') : pm_R G S' H' := by
  refine ⟨by rw [hz, hn]; exact h.1, by rw [hn, hk]; exact h.2.1, fun p' hp' => ?_⟩
  by_cases hpp : p' = p
  · subst hpp; exact hp
  · rw [he p' hpp]
    rw [hn] at hp'
    exact (h.2.2 p' hp').kept (ho _ (by show pm_gb G + p' ≠ pm_gb G + p; omega))
theorem pm_fs_get {c k : Nat} {f : Nat → Int32} {r : Nat → Option Nat} (hk : k < pm_nF c) : (pm_fs G c f r)[k]? = some (if pm_fk c k = 2 then va_rf ((r k).map (fun q => pm_gb G + q)) else .int (f k)) := by
  unfold pm_fs
  rw [List.getElem?_map, List.getElem?_range hk]
  rfl
theorem pm_fs_len {c : Nat} {f : Nat → Int32} {r : Nat → Option Nat} : (pm_fs G c f r).length = pm_nF c := by simp [pm_fs]
theorem pm_fs_setI {c k : Nat} {f : Nat → Int32} {r : Nat → Option Nat} {v : Int32} (hf : pm_fk c k ≠ 2) : (pm_fs G c f r).set k (.int v) = pm_fs G c (upd f k v) r := by
  apply List.ext_getElem?
  intro j
  by_cases hj : j < pm_nF c
  · rw [pm_fs_get hj, List.getElem?_set]
    by_cases hjk : k = j
    · subst hjk
      rw [if_pos rfl, if_pos (by rw [pm_fs_len]; exact hj), if_neg hf]
      simp [upd]
    · rw [if_neg hjk, pm_fs_get hj]
      simp [upd, Ne.symm hjk]
  · rw [List.getElem?_eq_none (by rw [List.length_set, pm_fs_len]; omega), List.getElem?_eq_none (by rw [pm_fs_len]; omega)]
theorem pm_fs_setR {c k : Nat} {f : Nat → Int32} {r : Nat → Option Nat} {v : Option Nat} (hf : pm_fk c k = 2) : (pm_fs G c f r).set k (va_rf (v.map (fun q => pm_gb G + q))) = pm_fs G c f (va_up r k v) := by
  apply List.ext_getElem?
  intro j
  by_cases hj : j < pm_nF c
  · rw [pm_fs_get hj, List.getElem?_set]
    by_cases hjk : k = j
    · subst hjk
      rw [if_pos rfl, if_pos (by rw [pm_fs_len]; exact hj), if_pos hf]
      simp [va_up]
    · rw [if_neg hjk, pm_fs_get hj]
      simp [va_up, Ne.symm hjk]
  · rw [List.getElem?_eq_none (by rw [List.length_set, pm_fs_len]; omega), List.getElem?_eq_none (by rw [pm_fs_len]; omega)]
theorem pm_e_wI_ne {p j : Nat} {v : Int32} {p' : Nat} (h : p' ≠ p) : pm_e G (pm_wI S p j v) p' = pm_e G S p' := by
  unfold pm_e; rw [pm_i_wI_ne h]; rfl
theorem pm_e_wL_ne {p j : Nat} {v : Int64} {p' : Nat} (h : p' ≠ p) : pm_e G (pm_wL S p j v) p' = pm_e G S p' := by
  unfold pm_e; rw [pm_l_wL_ne h]; rfl
theorem pm_e_wM_ne {p : Nat} {f : Nat → Int64} {p' : Nat} (h : p' ≠ p) : pm_e G (pm_wM S p f) p' = pm_e G S p' := by
  unfold pm_e; rw [pm_l_wM, if_neg h]; rfl
theorem pm_e_wR_ne {p j : Nat} {v : Option Nat} {p' : Nat} (h : p' ≠ p) : pm_e G (pm_wR S p j v) p' = pm_e G S p' := by
  unfold pm_e; rw [pm_r_wR_ne h]; rfl
theorem pm_A_at (p : Nat) : pm_A G (pm_gb G + p) := Nat.le_add_right _ _
end PMH
/-! one object's field, written: the kit's row with what is known of the heap behind it -/
section PMP
variable {p : Program} {l : Launch} {e : Env} {R : Room} {s : State} {m : MethodId} {args : Array Value} {below : List Frame} {meth : Method} {c : Code} {H : Heap} {locs : List Loc} {cells slots : Nat} {Q : State → Prop}
variable {cc : ByteArray} {pc : Nat} {ls : Array Slot} {rest : List Value} {D : va_G} {a : Nat} {tys : List (ClassId × FieldType)}
theorem pm_put0 (hexec : p.tables.exec = Jvm.exec) (hb : c.code = cc) {own : String} {ci index : Nat} (hts : ∀ w ∈ pm_tbl, w.before args s = true) (hci : ci < 13) (hown : s.vm.findClass own = some m.cls) (hK : va_K D pm_cl tys s) {fs : List Value} (hat : va_at D pm_cl (a, .inr (ci, fs)) H) (k : Nat) (hk : k < pm_nF ci)
    (hlink : (Cond.fieldLink own index (pm_cn ci) (pm_T ci k).2.1 (pm_T ci k).2.2.1).before args s = true) (hfin : (pm_T ci k).2.2.2 = false ∨ ((pm_T ci k).2.2.2 = true ∧ meth.name = "<init>" ∧ pm_cn ci = own)) {v : Value} (hn : narrow (pm_ty ci k) v = v) (hfit : fits (pm_ty ci k) v = true) (hl : k < fs.length) (hdg : decode cc pc = .ok (.putfield index, 3))
    (kk : ∀ (H1 : Heap) (z : Nat), va_at D pm_cl (a, .inr (ci, fs.set k v)) H1 → H1.size = H.size → (∀ q, q ≠ a → H1[q]? = H[q]?) → W p l e R s m args below meth c H1 (locs ++ [⟨a, z⟩]) cells slots Q (F0 m (pc + 3) ls rest)) : W p l e R s m args below meth c H locs cells slots Q (F0 m pc ls (v :: .ref a :: rest)) := by
  have hc := pm_cl_at hci
  have hin := pm_ws hci
  have hd := pm_ty_ok ci hci k hk
  have hap := va_apart (own := own) hts hin (pm_ty ci) (pm_ty_ok ci hci) (pm_nm_ok ci hci) hK hc
  obtain ⟨r, h1, cell, q1, q2, q3, q4⟩ := hat
  have hr : r = (pm_cn ci, pm_T ci, pm_nF ci) := Option.some.inj (h1.symm.trans hc)
  subst hr
  obtain ⟨hS, hfc, kC, hkC, hkind⟩ := hK.1 ci _ hc
  obtain ⟨cf, kf, fi, f, hi, hsl⟩ := hS k hk
  have hlay := hts _ (hin _ (u_in_lay hk))
  have hi' : s.fieldFound? (pm_cn ci) (pm_T ci k).2.1 (pm_T ci k).2.2.1 = some (cf, kf, fi, f) := by rw [← pm_decl ci hci k hk]; exact hi
  have hst := (u_facts hfc hkC (u_lays hts hin hk) hi).1
  have key : ∀ H' : Heap, H'[a]? = some (cell.setSlot f.slot v) → H'.size = H.size → (∀ q, q ≠ a → H'[q]? = H[q]?) → W p l e R s m args below meth c H' (locs ++ [⟨a, f.slot⟩]) cells slots Q (F0 m (pc + 3) ls rest) := by
    intro H' e1 e2 e3
    rw [hsl] at e1
    exact kk H' _ ⟨_, hc, t_OB.to (V := updV (vp_V fs) k v) ⟨_, e1, q2, q3, t_set q4 hap hk v⟩ (fun j _ => vp_updV_set hl v j)⟩ e2 e3
  rcases hfin with hfin | ⟨hfin, hin2, hdecl⟩
  · unfold u_lay at hlay
    rw [if_neg (by rw [hfin]; decide)] at hlay
    have h6 := u_store hfc hkC hkind hlay hi hd hn hfit
    exact W.putK hexec hb (f := f) ⟨hown, hlink, ⟨_, _, _, hi'⟩, hst⟩ (by rw [q2]; exact h6) q1 q3 (by rw [hsl]; exact k2_hasslot (q4 k hk)) rfl rfl hdg key
  · unfold u_lay at hlay
    rw [if_pos hfin] at hlay
    have hcf : m.cls = cf := by
      obtain ⟨_, _, c', _, _, _, -, -, hf', -, -, -, hown2, -⟩ := Cond.laysFinal_spec hlay
      have e1 : c' = cf := by have := hi.symm.trans hf'; simp at this; exact this.1.symm
      rw [pm_decl ci hci k hk, hdecl] at hown2
      rw [← e1]; exact Option.some.inj (hown.symm.trans hown2)
    have h6 := u_fits hfc hkC hkind (Or.inr hlay) hi hd hn hfit
    exact W.putFinK hexec hb hown hlink hi' hst hcf hin2 (by rw [q2]; exact h6) q1 q3 (by rw [hsl]; exact k2_hasslot (q4 k hk)) rfl rfl hdg key
end PMP
section PMF
variable {G : pm_G} {d mi : Nat} {Q : pm_Q} {pc : Nat} {ls st : List Value} {S : pm_S} {cn sn : Nat}
theorem pm_s_get {c k p idx : Nat} (hd : decode (pm_b mi) pc = .ok (.getfield idx, 3)) (hc : c < 13) (hk : k < pm_nF c) (hw : Cond.fieldLink (pm_cn (pm_oc mi)) idx (pm_cn c) (pm_T c k).2.1 (pm_T c k).2.2.1 ∈ pm_tbl) (hp : pm_k S p = c) (h : pm_W G d mi Q (pc + 3) ls (pm_gv (pm_fk c k) S p k :: st) S cn sn) : pm_W G d mi Q pc ls (.ref p :: st) S cn sn := by
  intro R P e s m args below meth co Z H locs la hM hR hS hL hcn hsn
  have hat := hR.cell (p := p) (by rw [hp]; omega)
  rw [pm_e_obj hp hc] at hat
  have hP : va_P (pm_gD G) pm_cl [(pm_gb G + p, .inr (c, pm_fs G c (pm_i S p) (pm_r S p)))] H := by
    intro j q hj
    match j, hj with
    | 0, hj => cases hj; exact hat
  refine va_get (a := pm_gb G + p) hM.1.1 hM.1.2.1 hM.1.2.2.2.2.1 (pm_ws hc) hM.1.2.2.2.1 hM.2.1.1.1 hP 0 rfl (pm_cl_at hc) k hk (ref := pm_cn c) (hM.1.2.2.2.2.1 _ hw) (fun x hx => by rw [← pm_decl c hc k hk]; exact hx) (v := pm_v G (pm_gv (pm_fk c k) S p k)) ?_ hd (h R P e s m args below meth co Z H locs la hM hR hS hL hcn hsn)
  rw [pm_fs_get hk]
  by_cases hf : pm_fk c k = 2
  · rw [if_pos hf, hf]; exact congrArg some (pm_v_rf G _).symm
  · rw [if_neg hf]
    have : pm_gv (pm_fk c k) S p k = .int (pm_i S p k) := by
      rcases pm_fk_ty c hc k hk with ⟨h1, -⟩ | ⟨h1, -⟩ | ⟨h1, -⟩
      · rw [h1]; rfl
      · rw [h1]; rfl
      · exact absurd h1 hf
    rw [this]; rfl
theorem pm_s_putI {c k p idx : Nat} {x : Int32} (hd : decode (pm_b mi) pc = .ok (.putfield idx, 3)) (hc : c < 13) (hk : k < pm_nF c) (hw : Cond.fieldLink (pm_cn (pm_oc mi)) idx (pm_cn c) (pm_T c k).2.1 (pm_T c k).2.2.1 ∈ pm_tbl) (hfin : (pm_T c k).2.2.2 = false ∨ ((pm_T c k).2.2.2 = true ∧ (pm_y mi).name = "<init>" ∧ pm_oc mi = c))
    (hx : pm_fk c k = 0 ∨ (pm_fk c k = 1 ∧ (x = 0 ∨ x = 1))) (hp : pm_k S p = c) (h : pm_W G d mi Q (pc + 3) ls st (pm_wI S p k x) cn sn) : pm_W G d mi Q pc ls (.int x :: .ref p :: st) S cn sn := by
  intro R P e s m args below meth co Z H locs la hM hR hS hL hcn hsn
  have hat := hR.cell (p := p) (by rw [hp]; omega)
  rw [pm_e_obj hp hc] at hat
  have hty : narrow (pm_ty c k) (.int x) = .int x ∧ fits (pm_ty c k) (.int x) = true := by
    rcases pm_fk_ty c hc k hk with ⟨h1, h2⟩ | ⟨h1, h2⟩ | ⟨h1, h2⟩
    · rw [h2]; exact ⟨rfl, rfl⟩
    · rw [h2]
      rcases hx with hx | ⟨-, hx | hx⟩
      · rw [h1] at hx; cases hx
      · subst hx; exact ⟨rfl, rfl⟩
      · subst hx; exact ⟨rfl, rfl⟩
    · rcases hx with hx | ⟨hx, -⟩ <;> (rw [h1] at hx; cases hx)
  have hf2 : pm_fk c k ≠ 2 := by rcases hx with hx | ⟨hx, -⟩ <;> (rw [hx]; decide)
  refine pm_put0 (a := pm_gb G + p) hM.1.1 hM.1.2.1 hM.1.2.2.2.2.1 hc hM.1.2.2.2.1 hM.2.1.1.1 hat k hk (hM.1.2.2.2.2.1 _ hw) ?_ hty.1 hty.2 (by rw [pm_fs_len]; exact hk) hd (fun H1 z e1 e2 e3 => ?_)
  · rcases hfin with hfin | ⟨g1, g2, g3⟩
    · exact Or.inl hfin
    · exact Or.inr ⟨g1, hM.1.2.2.2.2.2 g2, by rw [g3]⟩
  · refine h R P e s m args below meth co Z H1 _ la hM ?_ (hS.put e2 e3 (pm_A_at p)) hL hcn hsn
    refine hR.set (p := p) e2 e3 rfl rfl (fun p' hp' => pm_e_wI_ne hp') ?_
    rw [pm_e_obj (S := pm_wI S p k x) (c := c) hp hc, pm_i_wI_eq, ← pm_fs_setI hf2]
    exact e1
theorem pm_s_putR {c k p idx : Nat} {x : Option Nat} (hd : decode (pm_b mi) pc = .ok (.putfield idx, 3)) (hc : c < 13) (hk : k < pm_nF c) (hw : Cond.fieldLink (pm_cn (pm_oc mi)) idx (pm_cn c) (pm_T c k).2.1 (pm_T c k).2.2.1 ∈ pm_tbl) (hfin : (pm_T c k).2.2.2 = false ∨ ((pm_T c k).2.2.2 = true ∧ (pm_y mi).name = "<init>" ∧ pm_oc mi = c))
    (hx : pm_fk c k = 2) (hp : pm_k S p = c) (h : pm_W G d mi Q (pc + 3) ls st (pm_wR S p k x) cn sn) : pm_W G d mi Q pc ls (va_rf x :: .ref p :: st) S cn sn := by
  intro R P e s m args below meth co Z H locs la hM hR hS hL hcn hsn
  have hat := hR.cell (p := p) (by rw [hp]; omega)
  rw [pm_e_obj hp hc] at hat
  have hty : narrow (pm_ty c k) (va_rf (x.map (fun q => pm_gb G + q))) = va_rf (x.map (fun q => pm_gb G + q)) ∧ fits (pm_ty c k) (va_rf (x.map (fun q => pm_gb G + q))) = true := by
    rcases pm_fk_ty c hc k hk with ⟨h1, h2⟩ | ⟨h1, h2⟩ | ⟨h1, h2⟩
    · rw [h1] at hx; cases hx
    · rw [h1] at hx; cases hx
    · cases hty : pm_ty c k <;> rw [hty] at h2 <;> first | (cases h2; done) | (cases x <;> exact ⟨rfl, rfl⟩)
  show W P (pm_gl G) e R s m args below meth co H locs cn sn Z (F0 m pc la (pm_v G (va_rf x) :: .ref (pm_gb G + p) :: st.map (pm_v G)))
  rw [pm_v_rf]
  refine pm_put0 (a := pm_gb G + p) hM.1.1 hM.1.2.1 hM.1.2.2.2.2.1 hc hM.1.2.2.2.1 hM.2.1.1.1 hat k hk (hM.1.2.2.2.2.1 _ hw) ?_ hty.1 hty.2 (by rw [pm_fs_len]; exact hk) hd (fun H1 z e1 e2 e3 => ?_)
  · rcases hfin with hfin | ⟨g1, g2, g3⟩
    · exact Or.inl hfin
    · exact Or.inr ⟨g1, hM.1.2.2.2.2.2 g2, by rw [g3]⟩
  · refine h R P e s m args below meth co Z H1 _ la hM ?_ (hS.put e2 e3 (pm_A_at p)) hL hcn hsn
    refine hR.set (p := p) e2 e3 rfl rfl (fun p' hp' => pm_e_wR_ne hp') ?_
    rw [pm_e_obj (S := pm_wR S p k x) (c := c) hp hc, pm_r_wR_eq, ← pm_fs_setR hx]
    exact e1
end PMF
