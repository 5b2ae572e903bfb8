/-! TEXT CONSTANTS -/
section PMT
variable {G : pm_G} {d mi : Nat} {Q : pm_Q} {pc : Nat} {ls st : List Value} {S : pm_S} {cn sn : Nat}
theorem pm_vkS {s : State} (hC : pm_C G s) (hO : pm_O G s.heap) : vk_S 10 pm_sl pm_sb (pm_gk G) (fun i => pm_gk G (20 + i)) (pm_A G) s s.heap := hC.2.2.2.2.2.1.kept (fun a ha _ => hO.2 a (by rw [hO.1] at ha; exact ha))
theorem pm_s_ldcS {i idx : Nat} (hd : decode (pm_b mi) pc = .ok (.ldc idx, 2)) (ho : pm_oc mi = 6) (hi : i < 10) (hx : pm_si.getD i 0 = idx) (h : pm_W G d mi Q (pc + 2) ls (.retAddr i :: st) S cn sn) : pm_W G d mi Q pc ls st S cn sn := by
  intro R P e s m args below meth co Z H locs la hM hR hS hL hcn hsn
  have hk := hM.2.1.1.2.2.2.2.1 i hi
  rw [hx] at hk
  have hown := hM.1.2.2.2.1
  rw [ho] at hown
  exact va_ldcS hM.1.1 hM.1.2.1 hown hk hd (h R P e s m args below meth co Z H locs la hM hR hS hL hcn hsn)
theorem pm_sf1 : Cond.fieldLink (pm_cn 16) 9 "java/lang/String" "value" "[B" ∈ pm_tbl := pm_mem (i := 1926) (by decide +kernel) rfl
theorem pm_sf0 : Cond.fieldLink (pm_cn 16) 15 "java/lang/String" "coder" "B" ∈ pm_tbl := pm_mem (i := 1927) (by decide +kernel) rfl
theorem pm_sf2 : Cond.fieldLink (pm_cn 16) 38 "java/lang/String" "COMPACT_STRINGS" "Z" ∈ pm_tbl := pm_mem (i := 836) (by decide +kernel) rfl
theorem pm_sf3 : Cond.fieldLink (pm_cn 16) 1053 "jdk/internal/util/Preconditions" "SIOOBE_FORMATTER" "Ljava/util/function/BiFunction;" ∈ pm_tbl := pm_mem (i := 852) (by decide +kernel) rfl
theorem pm_s_sget {x i idx : Nat} (hd : decode (pm_b mi) pc = .ok (.getfield idx, 3)) (ho : pm_oc mi = 16) (hi : i < 10) (hx : (x = 0 ∧ idx = 15) ∨ (x = 1 ∧ idx = 9)) (h : pm_W G d mi Q (pc + 3) ls (pm_sf x i :: st) S cn sn) : pm_W G d mi Q pc ls (.retAddr i :: st) S cn sn := by
  intro R P e s m args below meth co Z H locs la hM hR hS hL hcn hsn
  have hv := (pm_vkS hM.2.1.1 hM.2.1.2.1).1 i hi
  have hown := hM.1.2.2.2.1
  rw [ho] at hown
  rcases hx with ⟨rfl, rfl⟩ | ⟨rfl, rfl⟩
  · exact vk_getf hM.1.1 hM.1.2.1 hv.2.1 hS hown (hM.1.2.2.2.2.1 _ pm_sf0) (fun _ q => q) hd (h R P e s m args below meth co Z H locs la hM hR hS hL hcn hsn)
  · exact vk_getf hM.1.1 hM.1.2.1 hv.2.2.1 hS hown (hM.1.2.2.2.2.1 _ pm_sf1) (fun _ q => q) hd (h R P e s m args below meth co Z H locs la hM hR hS hL hcn hsn)
theorem pm_s_slen {q : Nat} (hd : decode (pm_b mi) pc = .ok (.arraylength, 1)) (h1 : 20 ≤ q) (h2 : q < 30) (h : pm_W G d mi Q (pc + 1) ls (.int (Int32.ofNat (pm_sl.getD (q - 20) 0)) :: st) S cn sn) : pm_W G d mi Q pc ls (.retAddr q :: st) S cn sn := by
  intro R P e s m args below meth co Z H locs la hM hR hS hL hcn hsn
  obtain ⟨i, rfl⟩ : ∃ i, q = 20 + i := ⟨q - 20, by omega⟩
  rw [show 20 + i - 20 = i by omega] at h
  have hv := (pm_vkS hM.2.1.1 hM.2.1.2.1).1 i (by omega)
  exact va_tlen hM.1.1 hM.1.2.1 hv.2.2.2 hS rfl hd (h R P e s m args below meth co Z H locs la hM hR hS hL hcn hsn)
theorem pm_s_sbald {q : Nat} {j : Int32} (hd : decode (pm_b mi) pc = .ok (.baload, 1)) (h1 : 20 ≤ q) (h2 : q < 30) (hj : vp_in j (pm_sl.getD (q - 20) 0)) (h : pm_W G d mi Q (pc + 1) ls (.int ((pm_sb.getD (q - 20) []).getD j.toNatClampNeg 0) :: st) S cn sn) : pm_W G d mi Q pc ls (.int j :: .retAddr q :: st) S cn sn := by
  intro R P e s m args below meth co Z H locs la hM hR hS hL hcn hsn
  obtain ⟨i, rfl⟩ : ∃ i, q = 20 + i := ⟨q - 20, by omega⟩
  rw [show 20 + i - 20 = i by omega] at h hj
  have hv := (pm_vkS hM.2.1.1 hM.2.1.2.1).1 i (by omega)
  exact va_tb hM.1.1 hM.1.2.1 hv.2.2.2 hS hj rfl hd (h R P e s m args below meth co Z H locs la hM hR hS hL hcn hsn)
theorem pm_s_i2c {x : Int32} (hd : decode (pm_b mi) pc = .ok (.i2c, 1)) (h : pm_W G d mi Q (pc + 1) ls (.int (x.toUInt32 % 65536).toInt32 :: st) S cn sn) : pm_W G d mi Q pc ls (.int x :: st) S cn sn :=
  fun R p e s m args below meth c Z H locs la hM hR hS hL hcn hsn => lv_i2c hM.1.1 hM.1.2.1 hd rfl (h R p e s m args below meth c Z H locs la hM hR hS hL hcn hsn)
theorem pm_s_compact {idx : Nat} (hd : decode (pm_b mi) pc = .ok (.getstatic idx, 3)) (ho : pm_oc mi = 16) (hx : idx = 38) (h : pm_W G d mi Q (pc + 3) ls (.int 1 :: st) S cn sn) : pm_W G d mi Q pc ls st S cn sn := by
  intro R P e s m args below meth co Z H locs la hM hR hS hL hcn hsn
  subst hx
  have hown := hM.1.2.2.2.1
  rw [ho] at hown
  obtain ⟨cf, kf, fi, f, a, cell, h1, h2, h3, h4, h5, h6, h7, h8⟩ := hM.2.1.1.2.2.2.2.2.2.1
  have hl : a < pm_gb G := Nat.not_le.mp h8
  exact W.gets hM.1.1 hM.1.2.1 hown (hM.1.2.2.2.2.1 _ pm_sf2) h1 h2 h3 h4 (by rw [pm_old hM.2.1.2.1 hM.2.1.2.2 hS hl]; exact h5) (fun e => by rw [e] at h6; cases h6) h7 rfl hd (h R P e s m args below meth co Z H locs la hM hR hS hL hcn hsn)
theorem pm_s_fmt {idx : Nat} (hd : decode (pm_b mi) pc = .ok (.getstatic idx, 3)) (ho : pm_oc mi = 16) (hx : idx = 1053) (h0 : pm_W G d mi Q (pc + 3) ls (.null :: st) S cn sn) (h1 : pm_W G d mi Q (pc + 3) ls (.retAddr 102 :: st) S cn sn) : pm_W G d mi Q pc ls st S cn sn := by
  intro R P e s m args below meth co Z H locs la hM hR hS hL hcn hsn
  subst hx
  have hown := hM.1.2.2.2.1
  rw [ho] at hown
  obtain ⟨w, hw, cf, kf, fi, f, a, cell, g1, g2, g3, g4, g5, g6, g7, g8⟩ := hM.2.1.1.2.2.2.2.2.2.2
  have hl : a < pm_gb G := Nat.not_le.mp g8
  have hc : W P (pm_gl G) e R s m args below meth co H locs cn sn Z (F0 m (pc + 3) la (pm_v G w :: st.map (pm_v G))) := by
    rcases hw with rfl | rfl
    · exact h0 R P e s m args below meth co Z H locs la hM hR hS hL hcn hsn
    · exact h1 R P e s m args below meth co Z H locs la hM hR hS hL hcn hsn
  exact W.gets hM.1.1 hM.1.2.1 hown (hM.1.2.2.2.2.1 _ pm_sf3) g1 g2 g3 g4 (by rw [pm_old hM.2.1.2.1 hM.2.1.2.2 hS hl]; exact g5) (fun e => by rw [e] at g6; cases g6) g7 rfl hd hc
theorem pm_s_svirt {j i idx : Nat} {as rest : List Value} {Q' : pm_Q} (hd : decode (pm_b mi) pc = .ok (.invokevirtual idx, 3)) (hj : j < pm_nM) (hk : pm_mk j = 1) (hc : pm_oc j = 16) (hi : i < 10) (hn : as.length = pm_np j) (hw : Cond.methodLink (pm_cn (pm_oc mi)) idx (pm_y j) ∈ pm_tbl) (hd0 : 0 < d) (hsm : pm_sm rest) (hcn1 : cn ≤ pm_mc mi → cn + pm_mc j ≤ pm_mc mi) (hsn1 : sn ≤ pm_ms mi → sn + pm_ms j ≤ pm_ms mi)
    (hct : pm_Ct G (d - 1) j (.retAddr i :: as) S Q') (h : ∀ v S', Q' v S' → pm_W G d mi Q (pc + 3) ls (v.toList ++ rest) S' (cn + pm_mc j) (sn + pm_ms j)) : pm_W G d mi Q pc ls (as.reverse ++ .retAddr i :: rest) S cn sn := by
  intro R P e s m args below meth co Z H locs la hM hR hS hL hcn hsn
  have hcn1 := hcn1 hcn
  have hsn1 := hsn1 hsn
  have hts := hM.1.2.2.2.2.1
  obtain ⟨m1, m2, m3, m4, m5, m6⟩ := pm_m_ok j hj
  obtain ⟨v1, v2⟩ := pm_mV_ok j hj hk
  obtain ⟨f1, f2, f3, f4⟩ := hM.2.2.1
  have hcB : CallB R s args (pm_cn (pm_oc mi)) idx (pm_y j) (pm_b j) (pm_mL j) (pm_rt j) (pm_wd j) (pm_rm (d - 1) j) (pm_mc j) (pm_ms j) (pm_np j) :=
    callB_of (pm_np j) hts (pm_wd_in hj) rfl rfl rfl (hts _ (pm_mem m1 rfl)) (hts _ hw) ⟨m3, m4, m5⟩ ⟨by show d - 1 + 1 ≤ _; omega, by show 8 + (pm_mL j + 11) + 64 * (d - 1) ≤ _; omega⟩
  have hcW : CallW R s args (pm_cn (pm_oc mi)) (pm_y j).cls idx (pm_y j) (pm_b j) (pm_mL j) (pm_rt j) (pm_wd j) (pm_rm (d - 1) j) (pm_mc j) (pm_ms j) (pm_np j) := ⟨hcB, hts _ (pm_mem v1 rfl), hts _ (pm_mem v2 rfl)⟩
  have hrecv : ∃ cell : Cell, H[pm_gk G i]? = some cell ∧ cell.vm.isStatics = false ∧ s.vm.findClass (pm_y j).cls = some cell.cls := by
    rw [m2, hc]
    exact vk_recv (pm_vkS hM.2.1.1 hM.2.1.2.1) hi hS
  have hrun := va_runV (g := F0 m pc la ((as.map (pm_v G)).reverse ++ .ref (pm_gk G i) :: rest.map (pm_v G))) (As := as.map (pm_v G)) (b := pm_gk G i) (rest := rest.map (pm_v G)) (e := e) (below := below) (meth := meth) (locs := locs) (cells := cn) (slots := sn) ⟨hM.1.1, hM.1.2.1, hM.1.2.2.1, hM.1.2.2.2.1, hts⟩ hct hcW ⟨pm_preB S _, hrecv, fun U hU hW => ⟨by simp [pm_v], pm_C.warm hW hM.2.1.1, by rw [hU]; exact pm_O.on hM.2.1.2.1 hM.2.1.2.2 hS, by rw [hU]; exact hR⟩⟩ rfl (by simpa using hn) hL.1 rfl (lv_room (pm_sm_cat hsm)) hd ⟨by omega, by omega⟩
  have e0 : (as.reverse ++ .retAddr i :: rest).map (pm_v G) = (as.map (pm_v G)).reverse ++ .ref (pm_gk G i) :: rest.map (pm_v G) := by simp [pm_v]
  rw [e0]
  exact pm_after (Q' := Q') hrun hS (fun v S' H1 locs1 hq hR1 hS1 => h v S' hq R P e s m args below meth co Z H1 locs1 la hM hR1 hS1 hL hcn1 hsn1)
end PMT
