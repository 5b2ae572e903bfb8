/-! Math, arraycopy -/
section PMM
variable {G : pm_G} {d mi : Nat} {Q : pm_Q} {pc : Nat} {ls st : List Value} {S : pm_S} {cn sn : Nat}
theorem pm_min_n : pm_y 265 = Lib.Math.min.name ∧ pm_b 265 = Lib.Math.min.code ∧ pm_mL 265 = 2 ∧ pm_rt 265 = some .int := by decide +kernel
theorem pm_abs_n : pm_y 268 = Lib.Math.abs.name ∧ pm_b 268 = Lib.Math.abs.code ∧ pm_mL 268 = 1 ∧ pm_rt 268 = some .int := by decide +kernel
theorem pm_minl_n : pm_y 266 = Lib.MathLoose.min_long.x ∧ pm_b 266 = Lib.MathLoose.min_long.code ∧ pm_mL 266 = 4 ∧ pm_rt 266 = some .long := by decide +kernel
theorem pm_absl_n : pm_y 267 = Lib.MathLoose.abs_long.x ∧ pm_b 267 = Lib.MathLoose.abs_long.code ∧ pm_mL 267 = 2 ∧ pm_rt 267 = some .long := by decide +kernel
theorem pm_math_i : Cond.initialized "java/lang/Math" ∈ pm_tbl := pm_mem (i := pm_plI.getD 265 0) (pm_m_ok 265 (by decide)).1 rfl
theorem pm_s_min {idx : Nat} {x y : Int32} (hd : decode (pm_b mi) pc = .ok (.invokestatic idx, 3)) (hw : Cond.methodLink (pm_cn (pm_oc mi)) idx (pm_y 265) ∈ pm_tbl) (hd0 : 0 < d) (hsm : pm_sm st) (h : pm_W G d mi Q (pc + 3) ls (.int (if y < x then y else x) :: st) S cn sn) : pm_W G d mi Q pc ls (.int y :: .int x :: st) S cn sn := by
  intro R P e s m args below meth co Z H locs la hM hR hS hL hcn hsn
  have hts := hM.1.2.2.2.2.1
  obtain ⟨f1, f2, f3, f4⟩ := hM.2.2.1
  have hs8 := pm_sm_cat (G := G) hsm
  obtain ⟨n1, n2, n3, n4⟩ := pm_min_n
  have hst := hts _ (pm_mem (pm_mS_ok 265 (by decide) (by decide)) rfl)
  have hco := hts _ (pm_code_mem 265 (by decide))
  rw [n1, n2, n3, n4] at hco
  rw [n1] at hst hw
  exact va_mmin hM.1.1 hM.1.2.1 (hM.1.2.2.1.trans hL.1.symm) hM.1.2.2.2.1 (hts _ hw) hst (hts _ pm_math_i) hco (by omega) (by omega) (by omega) (by omega) hd (h R P e s m args below meth co Z H locs la hM hR hS hL hcn hsn)
theorem pm_s_abs {idx : Nat} {x : Int32} (hd : decode (pm_b mi) pc = .ok (.invokestatic idx, 3)) (hw : Cond.methodLink (pm_cn (pm_oc mi)) idx (pm_y 268) ∈ pm_tbl) (hd0 : 0 < d) (hsm : pm_sm st) (h : pm_W G d mi Q (pc + 3) ls (.int (if 0 ≤ x then x else 0 - x) :: st) S cn sn) : pm_W G d mi Q pc ls (.int x :: st) S cn sn := by
  intro R P e s m args below meth co Z H locs la hM hR hS hL hcn hsn
  have hts := hM.1.2.2.2.2.1
  obtain ⟨f1, f2, f3, f4⟩ := hM.2.2.1
  have hs8 := pm_sm_cat (G := G) hsm
  obtain ⟨n1, n2, n3, n4⟩ := pm_abs_n
  have hst := hts _ (pm_mem (pm_mS_ok 268 (by decide) (by decide)) rfl)
  have hco := hts _ (pm_code_mem 268 (by decide))
  rw [n1, n2, n3, n4] at hco
  rw [n1] at hst hw
  exact va_mabs hM.1.1 hM.1.2.1 (hM.1.2.2.1.trans hL.1.symm) hM.1.2.2.2.1 (hts _ hw) hst (hts _ pm_math_i) hco (by omega) (by omega) (by omega) (by omega) hd (h R P e s m args below meth co Z H locs la hM hR hS hL hcn hsn)
theorem pm_s_minl {idx : Nat} {x y : Int64} (hd : decode (pm_b mi) pc = .ok (.invokestatic idx, 3)) (hw : Cond.methodLink (pm_cn (pm_oc mi)) idx (pm_y 266) ∈ pm_tbl) (hd0 : 0 < d) (hsm : pm_sm st) (h : pm_W G d mi Q (pc + 3) ls (.long (if y < x then y else x) :: st) S cn sn) : pm_W G d mi Q pc ls (.long y :: .long x :: st) S cn sn := by
  intro R P e s m args below meth co Z H locs la hM hR hS hL hcn hsn
  have hts := hM.1.2.2.2.2.1
  obtain ⟨f1, f2, f3, f4⟩ := hM.2.2.1
  have hs8 := pm_sm_cat (G := G) hsm
  obtain ⟨n1, n2, n3, n4⟩ := pm_minl_n
  have hst := hts _ (pm_mem (pm_mS_ok 266 (by decide) (by decide)) rfl)
  have hco := hts _ (pm_code_mem 266 (by decide))
  rw [n1, n2, n3, n4] at hco
  rw [n1] at hst hw
  exact va_mmin_long hM.1.1 hM.1.2.1 (hM.1.2.2.1.trans hL.1.symm) hM.1.2.2.2.1 (hts _ hw) hst (hts _ pm_math_i) hco (by omega) (by omega) (by omega) (by omega) hd (h R P e s m args below meth co Z H locs la hM hR hS hL hcn hsn)
theorem pm_s_absl {idx : Nat} {x : Int64} (hd : decode (pm_b mi) pc = .ok (.invokestatic idx, 3)) (hw : Cond.methodLink (pm_cn (pm_oc mi)) idx (pm_y 267) ∈ pm_tbl) (hd0 : 0 < d) (hsm : pm_sm st) (h : pm_W G d mi Q (pc + 3) ls (.long (if 0 < x then x else -x) :: st) S cn sn) : pm_W G d mi Q pc ls (.long x :: st) S cn sn := by
  intro R P e s m args below meth co Z H locs la hM hR hS hL hcn hsn
  have hts := hM.1.2.2.2.2.1
  obtain ⟨f1, f2, f3, f4⟩ := hM.2.2.1
  have hs8 := pm_sm_cat (G := G) hsm
  obtain ⟨n1, n2, n3, n4⟩ := pm_absl_n
  have hst := hts _ (pm_mem (pm_mS_ok 267 (by decide) (by decide)) rfl)
  have hco := hts _ (pm_code_mem 267 (by decide))
  rw [n1, n2, n3, n4] at hco
  rw [n1] at hst hw
  exact va_mabs_long hM.1.1 hM.1.2.1 (hM.1.2.2.1.trans hL.1.symm) hM.1.2.2.2.1 (hts _ hw) hst (hts _ pm_math_i) hco (by omega) (by omega) (by omega) (by omega) hd (h R P e s m args below meth co Z H locs la hM hR hS hL hcn hsn)
theorem pm_s_copy {idx : Nat} {p q : Nat} {i j n : Int32} (hd : decode (pm_b mi) pc = .ok (.invokestatic idx, 3)) (hw : Cond.methodLink (pm_cn (pm_oc mi)) idx arraycopyName ∈ pm_tbl) (hd0 : 0 < d) (hsm : pm_sm st) (hp : pm_k S p = 21) (hq : pm_k S q = 21) (h1 : ¬ i < 0) (h2 : ¬ j < 0) (h3 : ¬ n < 0) (h4 : i.toNatClampNeg + n.toNatClampNeg ≤ pm_z S p) (h5 : j.toNatClampNeg + n.toNatClampNeg ≤ pm_z S q)
    (h : pm_W G d mi Q (pc + 3) ls st (pm_wM S q (va_cpy (pm_l S p) (pm_l S q) i.toNatClampNeg j.toNatClampNeg n.toNatClampNeg)) cn sn) : pm_W G d mi Q pc ls (.int n :: .int j :: .ref q :: .int i :: .ref p :: st) S cn sn := by
  intro R P e s m args below meth co Z H locs la hM hR hS hL hcn hsn
  have hts := hM.1.2.2.2.2.1
  obtain ⟨f1, f2, f3, f4⟩ := hM.2.2.1
  have hs8 := pm_sm_cat (G := G) hsm
  have nn : ∀ z : Int32, ¬ z < 0 → z.toInt = (z.toNatClampNeg : Int) := by
    intro z hz
    have hz0 : (0 : Int) ≤ z.toInt := by
      have := Int32.not_lt.mp hz
      simpa using Int32.le_iff_toInt_le.mp this
    show z.toInt = ((z.toInt.toNat : Nat) : Int)
    omega
  have hc0 := hR.cell (p := p) (by rw [hp]; decide)
  rw [pm_e_long hp] at hc0
  have hc1 := hR.cell (p := q) (by rw [hq]; decide)
  rw [pm_e_long hq] at hc1
  have hAr := (pm_ty_at hM.2.1.1).2.1
  generalize hf : pm_l S p = f at hc0 h
  generalize hg : pm_l S q = g at hc1 h
  have hc0 : H[pm_gb G + p]? = some (vp_cell (pm_ga G 1) (pm_z S p, .inr (.inl f))) := hc0
  have hc1 : H[pm_gb G + q]? = some (vp_cell (pm_ga G 1) (pm_z S q, .inr (.inl g))) := hc1
  have hnf : nativeFrameWords "java/lang/System" "arraycopy" 5 ≤ 30 := by decide +kernel
  intro T hT X
  obtain ⟨-, k0, hk0, cm0, hkk0⟩ := hAr (pm_z S p) (fun j => .long (f j))
  obtain ⟨-, k1, hk1, cm1, hkk1⟩ := hAr (pm_z S q) (fun j => .long (g j))
  obtain ⟨vm', X', step⟩ := X.arraycopy hM.1.1 hM.1.2.2.2.1 (hts _ hw) (hts _ (pm_mem pm_cp2 rfl)) (hts _ (pm_mem pm_cp1 rfl)) (hts _ (pm_mem pm_cp3 rfl)) (src := pm_gb G + p) (dst := pm_gb G + q) (cs := vp_cell (pm_ga G 1) (pm_z S p, .inr (.inl f))) (cd := vp_cell (pm_ga G 1) (pm_z S q, .inr (.inl g))) (srcPos := i) (destPos := j) (n := n) (by rw [hT]; exact hc0) (by rw [hT]; exact hc1)
    (fun _ h => by cases h) (fun _ h => by cases h) (fun h => by cases h) (fun h => by cases h) hk0 hk1 hkk0 hkk1 (by simp [refKind]) h1 h2 h3
    (by rw [nn i h1, nn n h3]; show ¬ _ > ((arrV (pm_ga G 1) (pm_z S p) (fun j => .long (f j))).slots.size : Int); rw [arrV_size]; omega)
    (by rw [nn j h2, nn n h3]; show ¬ _ > ((arrV (pm_ga G 1) (pm_z S q) (fun j => .long (g j))).slots.size : Int); rw [arrV_size]; omega)
    (fun vm₁ _ x hx => by
      have e : (vp_cell (pm_ga G 1) (pm_z S p, .inr (.inl f))).slots.getD (i.toNatClampNeg + x) .null = .long (f (i.toNatClampNeg + x)) := by
        show (arrV (pm_ga G 1) (pm_z S p) (fun j => .long (f j))).slots.getD _ _ = _
        rw [Array.getD_eq_getD_getElem?, arrV_read _ _ (by omega)]
        rfl
      refine ⟨?_, ?_⟩
      · rw [e]; rfl
      · rw [e]; exact trivial)
    (g := F0 m pc la (.int n :: .int j :: .ref (pm_gb G + q) :: .int i :: .ref (pm_gb G + p) :: st.map (pm_v G))) rfl (by rw [hM.1.2.2.1]; exact hL.1) (rest := st.map (pm_v G)) rfl (by rw [hM.1.2.1]; exact hd) (by omega) (by show 2 * 0 + _ + _ ≤ _; omega)
  have e1 : copied (vp_cell (pm_ga G 1) (pm_z S p, .inr (.inl f))) (vp_cell (pm_ga G 1) (pm_z S q, .inr (.inl g))) i j n = vp_cell (pm_ga G 1) (pm_z S q, .inr (.inl (va_cpy f g i.toNatClampNeg j.toNatClampNeg n.toNatClampNeg))) := va_copied (fun z => .long z) (pm_ga G 1) (pm_ga G 1) f g h4
  rw [e1] at X' step
  have hl : pm_gb G + q < H.size := (Array.getElem?_eq_some_iff.mp hc1).1
  have hheap : ((T.setVm vm').setCell (pm_gb G + q) (vp_cell (pm_ga G 1) (pm_z S q, .inr (.inl (va_cpy f g i.toNatClampNeg j.toNatClampNeg n.toNatClampNeg))))).heap = H.setIfInBounds (pm_gb G + q) (vp_cell (pm_ga G 1) (pm_z S q, .inr (.inl (va_cpy f g i.toNatClampNeg j.toNatClampNeg n.toNatClampNeg)))) := by rw [← hT]; rfl
  have oq : ∀ x : Nat, x ≠ pm_gb G + q → (H.setIfInBounds (pm_gb G + q) (vp_cell (pm_ga G 1) (pm_z S q, .inr (.inl (va_cpy f g i.toNatClampNeg j.toNatClampNeg n.toNatClampNeg)))))[x]? = H[x]? := fun x hx => by simp [Array.getElem?_setIfInBounds, Ne.symm hx]
  obtain ⟨t, a1, b1⟩ := h R P e s m args below meth co Z _ _ la hM (hR.set (p := q) (S' := pm_wM S q (va_cpy f g i.toNatClampNeg j.toNatClampNeg n.toNatClampNeg)) (by simp) oq rfl rfl (fun p' hp' => pm_e_wM_ne hp') (by
      rw [pm_e_long (S := pm_wM S q (va_cpy f g i.toNatClampNeg j.toNatClampNeg n.toNatClampNeg)) hq, pm_l_wM, if_pos rfl]
      show (H.setIfInBounds (pm_gb G + q) _)[pm_gb G + q]? = some _
      simp [Array.getElem?_setIfInBounds, hl]
      rfl)) ⟨by simp; exact hS.1, fun x g1 g2 => by
      rw [oq x (fun e => g2 (by rw [e]; exact pm_A_at q))]
      exact hS.2.1 x g1 g2, fun x hx => by
      rcases List.mem_append.mp hx with h | h
      · exact hS.2.2 x h
      · obtain ⟨z, -, hz⟩ := List.mem_map.mp h
        rw [← hz]
        exact pm_A_at q⟩ hL hcn hsn _ hheap X'
  exact ⟨t, step t a1, b1⟩
theorem pm_abv : Cond.fieldLink (pm_cn 4) 19 "WrongsDesk$Deeds" "ABOVE" "[I" ∈ pm_tbl := pm_mem (i := 1201) (by decide +kernel) rfl
end PMM
