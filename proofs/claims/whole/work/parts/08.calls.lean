/-! CALLS -/
section PMC
variable {G : pm_G} {d mi : Nat} {Q : pm_Q} {pc : Nat} {ls st : List Value} {S : pm_S} {cn sn : Nat}
/-- behind a call -/
theorem pm_after {P : Program} {e : Env} {R : Room} {s : State} {m : MethodId} {args : Array Value} {below : List Frame} {meth : Method} {co : Code} {Z : State → Prop} {H : Heap} {locs : List Loc} {la : Array Slot} {mc ms : Nat} {st0 rest : List Value} {Q' : pm_Q}
    (hr : va_Run P (pm_gl G) e R s m args below meth co H locs cn sn mc ms (F0 m pc la st0) (rest.map (pm_v G)) (fun st o t => (∃ (v : Option Value) (S' : pm_S), o = .returned (v.map (pm_v G)) ∧ Q' v S' ∧ pm_R G S' t.heap) ∧ va_F (pm_A G) st t) (pm_A G)) (hS : va_S (pm_A G) s.heap H locs)
    (kk : ∀ (v : Option Value) (S' : pm_S) (H1 : Heap) (locs1 : List Loc), Q' v S' → pm_R G S' H1 → va_S (pm_A G) s.heap H1 locs1 → W P (pm_gl G) e R s m args below meth co H1 locs1 (cn + mc) (sn + ms) Z (F0 m (pc + 3) la ((v.toList ++ rest).map (pm_v G)))) :
    W P (pm_gl G) e R s m args below meth co H locs cn sn Z (F0 m pc la st0) := by
  intro T hT X
  obtain ⟨v, st₀, t, T', L, h0, X', hL, e1, e2, ⟨⟨v', S', hv, hq, hR'⟩, hz, hk⟩, stp⟩ := hr T hT X
  rw [h0] at hz hk
  have hv' : v = v'.map (pm_v G) := by injection hv
  subst hv'
  obtain ⟨t2, a1, b1⟩ := kk v' S' T'.heap (locs ++ L) hq (by rw [e1]; exact hR') ⟨Nat.le_trans hS.1 (by rw [e1]; exact hz), fun q h1 h2 => by rw [e1, hk q (Nat.lt_of_lt_of_le h1 hS.1) h2]; exact hS.2.1 q h1 h2, fun q hq => by
      rcases List.mem_append.mp hq with h | h
      · exact hS.2.2 q h
      · exact hL q h⟩ T' rfl X'
  refine ⟨t2, stp t2 ?_, b1⟩
  have e3 : (v'.toList ++ rest).map (pm_v G) = (v'.map (pm_v G)).toList ++ rest.map (pm_v G) := by cases v' <;> simp
  rw [e3] at a1
  exact a1
theorem pm_sm_cat {rest : List Value} (h : pm_sm rest) : ((rest.map (pm_v G)).map fun v => v.category).sum ≤ 8 := by
  have c2 : ∀ v : Value, (pm_v G v).category ≤ 2 := fun v => by rcases lv_cat (pm_v G v) with q | q <;> omega
  match rest, h with
  | [], _ => simp
  | [a], _ => have := c2 a; simp; omega
  | [a, b], _ => have := c2 a; have := c2 b; simp; omega
  | [a, b, c], _ => have := c2 a; have := c2 b; have := c2 c; simp; omega
  | [a, b, c, d], _ => have := c2 a; have := c2 b; have := c2 c; have := c2 d; simp; omega
theorem pm_preB (S : pm_S) (as : List Value) : FrameBlind (va_Pc (as.map (pm_v G)) (fun U => pm_C G U ∧ pm_O G U.heap ∧ pm_R G S U.heap)) :=
  fun _ U g mk q => ⟨q.1, pm_C.same (s := U) rfl q.2.1, q.2.2.1, q.2.2.2⟩
theorem pm_O.on {s : State} {H : Heap} {locs : List Loc} (hO : pm_O G s.heap) (hb : pm_gb G ≤ s.heap.size) (hS : va_S (pm_A G) s.heap H locs) : pm_O G H := ⟨hO.1, fun _ hq => pm_old hO hb hS hq⟩
/-- words of a method -/
theorem pm_wd_in {j : Nat} (hj : j < pm_nM) : GoodIn pm_tbl (pm_wd j) := pm_goodIn (fun w hw => by
  rcases List.mem_cons.mp hw with rfl | hw
  · exact pm_code_mem j hj
  · exact hw)
theorem pm_s_virt {j c p idx : Nat} {as rest : List Value} {Q' : pm_Q} (hd : decode (pm_b mi) pc = .ok (.invokevirtual idx, 3)) (hj : j < pm_nM) (hk : pm_mk j = 1) (hc : pm_oc j = c) (hc13 : c < 13) (hn : as.length = pm_np j) (hw : Cond.methodLink (pm_cn (pm_oc mi)) idx (pm_y j) ∈ pm_tbl) (hd0 : 0 < d) (hp : pm_k S p = c) (hsm : pm_sm rest) (hcn1 : cn ≤ pm_mc mi → cn + pm_mc j ≤ pm_mc mi) (hsn1 : sn ≤ pm_ms mi → sn + pm_ms j ≤ pm_ms mi)
    (hct : pm_Ct G (d - 1) j (.ref p :: as) S Q') (h : ∀ v S', Q' v S' → pm_W G d mi Q (pc + 3) ls (v.toList ++ rest) S' (cn + pm_mc j) (sn + pm_ms j)) : pm_W G d mi Q pc ls (as.reverse ++ .ref p :: rest) S cn sn := by
  intro R P e s m args below meth co Z H locs la hM hR hS hL hcn hsn
  have hcn1 := hcn1 hcn
  have hsn1 := hsn1 hsn
  have hts := hM.1.2.2.2.2.1
  obtain ⟨m1, m2, m3, m4, m5, m6⟩ := pm_m_ok j hj
  obtain ⟨v1, v2⟩ := pm_mV_ok j hj hk
  obtain ⟨f1, f2, f3, f4⟩ := hM.2.2.1
  have hcB : CallB R s args (pm_cn (pm_oc mi)) idx (pm_y j) (pm_b j) (pm_mL j) (pm_rt j) (pm_wd j) (pm_rm (d - 1) j) (pm_mc j) (pm_ms j) (pm_np j) :=
    callB_of (pm_np j) hts (pm_wd_in hj) rfl rfl rfl (hts _ (pm_mem m1 rfl)) (hts _ hw) ⟨m3, m4, m5⟩ ⟨by show d - 1 + 1 ≤ _; omega, by show 8 + (pm_mL j + 11) + 64 * (d - 1) ≤ _; omega⟩
  have hcW : CallW R s args (pm_cn (pm_oc mi)) (pm_y j).cls idx (pm_y j) (pm_b j) (pm_mL j) (pm_rt j) (pm_wd j) (pm_rm (d - 1) j) (pm_mc j) (pm_ms j) (pm_np j) := ⟨hcB, hts _ (pm_mem v1 rfl), hts _ (pm_mem v2 rfl)⟩
  have hat := hR.cell (p := p) (by rw [hp]; omega)
  rw [pm_e_obj hp hc13] at hat
  have hrecv : ∃ cell : Cell, H[pm_gb G + p]? = some cell ∧ cell.vm.isStatics = false ∧ s.vm.findClass (pm_y j).cls = some cell.cls := by
    obtain ⟨q', h1, cell, g1, g2, g3, -⟩ := hat
    exact ⟨cell, g1, by rw [g3]; rfl, by rw [g2, m2, hc]; exact (hM.2.1.1.1.1 c _ (pm_cl_at hc13)).2.1⟩
  have hrun := va_runV (g := F0 m pc la ((as.map (pm_v G)).reverse ++ .ref (pm_gb G + p) :: rest.map (pm_v G))) (As := as.map (pm_v G)) (b := pm_gb G + p) (rest := rest.map (pm_v G)) (e := e) (below := below) (meth := meth) (locs := locs) (cells := cn) (slots := sn) ⟨hM.1.1, hM.1.2.1, hM.1.2.2.1, hM.1.2.2.2.1, hts⟩ hct hcW ⟨pm_preB S _, hrecv, fun U hU hW => ⟨by simp [pm_v], pm_C.warm hW hM.2.1.1, by rw [hU]; exact pm_O.on hM.2.1.2.1 hM.2.1.2.2 hS, by rw [hU]; exact hR⟩⟩ rfl (by simpa using hn) hL.1 rfl (lv_room (pm_sm_cat hsm)) hd ⟨by omega, by omega⟩
  have e0 : (as.reverse ++ .ref p :: rest).map (pm_v G) = (as.map (pm_v G)).reverse ++ .ref (pm_gb G + p) :: rest.map (pm_v G) := by simp [pm_v]
  rw [e0]
  exact pm_after (Q' := Q') hrun hS (fun v S' H1 locs1 hq hR1 hS1 => h v S' hq R P e s m args below meth co Z H1 locs1 la hM hR1 hS1 hL hcn1 hsn1)
theorem pm_s_stat {j idx : Nat} {as rest : List Value} {Q' : pm_Q} (hd : decode (pm_b mi) pc = .ok (.invokestatic idx, 3)) (hj : j < pm_nM) (hk : pm_mk j = 0) (hn : as.length = pm_np j) (hw : Cond.methodLink (pm_cn (pm_oc mi)) idx (pm_y j) ∈ pm_tbl ∨ ∃ e, e < 10 ∧ pm_nest.getD e (0, 0) = (idx, j) ∧ pm_oc mi = 11) (hd0 : 0 < d) (hsm : pm_sm rest) (hcn1 : cn ≤ pm_mc mi → cn + pm_mc j ≤ pm_mc mi) (hsn1 : sn ≤ pm_ms mi → sn + pm_ms j ≤ pm_ms mi)
    (hct : pm_Ct G (d - 1) j as S Q') (h : ∀ v S', Q' v S' → pm_W G d mi Q (pc + 3) ls (v.toList ++ rest) S' (cn + pm_mc j) (sn + pm_ms j)) : pm_W G d mi Q pc ls (as.reverse ++ rest) S cn sn := by
  intro R P e s m args below meth co Z H locs la hM hR hS hL hcn hsn
  have hcn1 := hcn1 hcn
  have hsn1 := hsn1 hsn
  have hts := hM.1.2.2.2.2.1
  obtain ⟨m1, m2, m3, m4, m5, m6⟩ := pm_m_ok j hj
  have v1 := pm_mS_ok j hj hk
  obtain ⟨f1, f2, f3, f4⟩ := hM.2.2.1
  have hRm : (pm_rm (d - 1) j).frames + 1 ≤ R.frames ∧ 8 + (pm_mL j + 11) + (pm_rm (d - 1) j).locals ≤ R.locals := ⟨by show d - 1 + 1 ≤ _; omega, by show 8 + (pm_mL j + 11) + 64 * (d - 1) ≤ _; omega⟩
  have hpre : PreS s H (va_Pc (as.map (pm_v G)) (fun U => pm_C G U ∧ pm_O G U.heap ∧ pm_R G S U.heap)) (as.map (pm_v G)) := ⟨pm_preB S _, fun U hU hW => ⟨rfl, pm_C.warm hW hM.2.1.1, by rw [hU]; exact pm_O.on hM.2.1.2.1 hM.2.1.2.2 hS, by rw [hU]; exact hR⟩⟩
  have e0 : (as.reverse ++ rest).map (pm_v G) = (as.map (pm_v G)).reverse ++ rest.map (pm_v G) := by simp
  rw [e0]
  rcases hw with hw | ⟨en, he1, he2, he3⟩
  · have hcB : CallB R s args (pm_cn (pm_oc mi)) idx (pm_y j) (pm_b j) (pm_mL j) (pm_rt j) (pm_wd j) (pm_rm (d - 1) j) (pm_mc j) (pm_ms j) (pm_np j) :=
      callB_of (pm_np j) hts (pm_wd_in hj) rfl rfl rfl (hts _ (pm_mem m1 rfl)) (hts _ hw) ⟨m3, m4, m5⟩ hRm
    have hrun := va_runS (g := F0 m pc la ((as.map (pm_v G)).reverse ++ rest.map (pm_v G))) (As := as.map (pm_v G)) (rest := rest.map (pm_v G)) (e := e) (below := below) (meth := meth) (locs := locs) (cells := cn) (slots := sn) ⟨hM.1.1, hM.1.2.1, hM.1.2.2.1, hM.1.2.2.2.1, hts⟩ hct ⟨hcB, hts _ (pm_mem v1 rfl)⟩ hpre rfl (by simpa using hn) hL.1 rfl (lv_room (pm_sm_cat hsm)) hd ⟨by omega, by omega⟩
    exact pm_after (Q' := Q') hrun hS (fun v S' H1 locs1 hq hR1 hS1 => h v S' hq R P e s m args below meth co Z H1 locs1 la hM hR1 hS1 hL hcn1 hsn1)
  · have hne := hM.2.1.1.2.1 en he1
    rw [he2] at hne
    have hown : pm_cn (pm_oc mi) = "WrongsDesk" := by rw [he3]; rfl
    have hrun := va_runSN (own := "WrongsDesk") (g := F0 m pc la ((as.map (pm_v G)).reverse ++ rest.map (pm_v G))) (As := as.map (pm_v G)) (rest := rest.map (pm_v G)) (e := e) (below := below) (meth := meth) (locs := locs) (cells := cn) (slots := sn) ⟨hM.1.1, hM.1.2.1, hM.1.2.2.1, by rw [← hown]; exact hM.1.2.2.2.1, hts⟩ hct ⟨va_cnB (pm_np j) hts (pm_wd_in hj) rfl rfl rfl hne (hts _ (pm_mem m1 rfl)) ⟨m3, m4, m5⟩ hRm, hts _ (pm_mem v1 rfl), trivial⟩ hpre rfl (by simpa using hn) hL.1 rfl (lv_room (pm_sm_cat hsm)) hd ⟨by omega, by omega⟩
    exact pm_after (Q' := Q') hrun hS (fun v S' H1 locs1 hq hR1 hS1 => h v S' hq R P e s m args below meth co Z H1 locs1 la hM hR1 hS1 hL hcn1 hsn1)
theorem pm_s_init {j p idx : Nat} {as rest : List Value} {Q' : pm_Q} (hd : decode (pm_b mi) pc = .ok (.invokespecial idx, 3)) (hj : j < pm_nM) (hk : pm_mk j = 2) (hn : as.length = pm_np j) (hw : Cond.methodLink (pm_cn (pm_oc mi)) idx (pm_y j) ∈ pm_tbl ∨ ∃ e, e < 10 ∧ pm_nest.getD e (0, 0) = (idx, j) ∧ pm_oc mi = 11) (hd0 : 0 < d) (hsm : pm_sm rest) (hcn1 : cn ≤ pm_mc mi → cn + pm_mc j ≤ pm_mc mi) (hsn1 : sn ≤ pm_ms mi → sn + pm_ms j ≤ pm_ms mi)
    (hct : pm_Ct G (d - 1) j (.ref p :: as) S Q') (h : ∀ v S', Q' v S' → pm_W G d mi Q (pc + 3) ls (v.toList ++ rest) S' (cn + pm_mc j) (sn + pm_ms j)) : pm_W G d mi Q pc ls (as.reverse ++ .ref p :: rest) S cn sn := by
  intro R P e s m args below meth co Z H locs la hM hR hS hL hcn hsn
  have hcn1 := hcn1 hcn
  have hsn1 := hsn1 hsn
  have hts := hM.1.2.2.2.2.1
  obtain ⟨m1, m2, m3, m4, m5, m6⟩ := pm_m_ok j hj
  obtain ⟨v1, v2, v3⟩ := pm_mI_ok j hj hk
  obtain ⟨f1, f2, f3, f4⟩ := hM.2.2.1
  have hw0 : pm_wd j = Cond.code (pm_y j) (pm_b j) (pm_mL j) none :: pm_tbl := by unfold pm_wd; rw [v3]
  have hRm : (pm_rm (d - 1) j).frames + 1 ≤ R.frames ∧ 8 + (pm_mL j + 11) + (pm_rm (d - 1) j).locals ≤ R.locals := ⟨by show d - 1 + 1 ≤ _; omega, by show 8 + (pm_mL j + 11) + 64 * (d - 1) ≤ _; omega⟩
  have hpre : PreS s H (va_Pc ((.ref p :: as).map (pm_v G)) (fun U => pm_C G U ∧ pm_O G U.heap ∧ pm_R G S U.heap)) (.ref (pm_gb G + p) :: as.map (pm_v G)) := ⟨pm_preB S _, fun U hU hW => ⟨by simp [pm_v], pm_C.warm hW hM.2.1.1, by rw [hU]; exact pm_O.on hM.2.1.2.1 hM.2.1.2.2 hS, by rw [hU]; exact hR⟩⟩
  have e0 : (as.reverse ++ .ref p :: rest).map (pm_v G) = (as.map (pm_v G)).reverse ++ .ref (pm_gb G + p) :: rest.map (pm_v G) := by simp [pm_v]
  rw [e0]
  rcases hw with hw | ⟨en, he1, he2, he3⟩
  · have hrun := va_runI (g := F0 m pc la ((as.map (pm_v G)).reverse ++ .ref (pm_gb G + p) :: rest.map (pm_v G))) (As := as.map (pm_v G)) (b := pm_gb G + p) (rest := rest.map (pm_v G)) (e := e) (below := below) (meth := meth) (locs := locs) (cells := cn) (slots := sn) ⟨hM.1.1, hM.1.2.1, hM.1.2.2.1, hM.1.2.2.2.1, hts⟩ hct (cwI (pm_np j) hts (pm_wd_in hj) hw0 rfl rfl (hts _ (pm_mem m1 rfl)) (hts _ hw) (hts _ (pm_mem v1 rfl)) v2 ⟨m3, m4, m5⟩ hRm) hpre rfl (by simpa using hn) hL.1 rfl (lv_room (pm_sm_cat hsm)) hd ⟨by omega, by omega⟩
    exact pm_after (Q' := Q') hrun hS (fun v S' H1 locs1 hq hR1 hS1 => h v S' hq R P e s m args below meth co Z H1 locs1 la hM hR1 hS1 hL hcn1 hsn1)
  · have hne := hM.2.1.1.2.1 en he1
    rw [he2] at hne
    have hown : pm_cn (pm_oc mi) = "WrongsDesk" := by rw [he3]; rfl
    have hrun := va_runIN (own := "WrongsDesk") (g := F0 m pc la ((as.map (pm_v G)).reverse ++ .ref (pm_gb G + p) :: rest.map (pm_v G))) (As := as.map (pm_v G)) (b := pm_gb G + p) (rest := rest.map (pm_v G)) (e := e) (below := below) (meth := meth) (locs := locs) (cells := cn) (slots := sn) ⟨hM.1.1, hM.1.2.1, hM.1.2.2.1, by rw [← hown]; exact hM.1.2.2.2.1, hts⟩ hct ⟨va_cnB (pm_np j) hts (pm_wd_in hj) hw0 rfl rfl hne (hts _ (pm_mem m1 rfl)) ⟨m3, m4, m5⟩ hRm, v2, hts _ (pm_mem v1 rfl)⟩ hpre rfl (by simpa using hn) hL.1 rfl (lv_room (pm_sm_cat hsm)) hd ⟨by omega, by omega⟩
    exact pm_after (Q' := Q') hrun hS (fun v S' H1 locs1 hq hR1 hS1 => h v S' hq R P e s m args below meth co Z H1 locs1 la hM hR1 hS1 hL hcn1 hsn1)
theorem pm_s_objI {p idx : Nat} {rest : List Value} (hd : decode (pm_b mi) pc = .ok (.invokespecial idx, 3)) (hw : Cond.methodLink (pm_cn (pm_oc mi)) idx Lib.objectInit ∈ pm_tbl) (hd0 : 0 < d) (hsm : pm_sm rest) (h : pm_W G d mi Q (pc + 3) ls rest S cn sn) : pm_W G d mi Q pc ls (.ref p :: rest) S cn sn := by
  intro R P e s m args below meth co Z H locs la hM hR hS hL hcn hsn
  have hts := hM.1.2.2.2.2.1
  obtain ⟨f1, f2, f3, f4⟩ := hM.2.2.1
  have hs8 := pm_sm_cat (G := G) hsm
  refine W.objInit hM.1.1 hM.1.2.1 hM.1.2.2.2.1 (hts _ hw) (hts _ (pm_mem pm_ob1 rfl)) (hts _ (pm_mem pm_ob2 rfl)) rfl (hL.1.trans hM.1.2.2.1.symm) rfl hd (by omega) ?_ (h R P e s m args below meth co Z H locs la hM hR hS hL hcn hsn)
  have := lv_room (m := m) (pc := pc) (ls := la) (rest := Value.ref (pm_gb G + p) :: rest.map (pm_v G)) hs8
  show 2 * (F0 m pc la (Value.ref (pm_gb G + p) :: rest.map (pm_v G))).monitorRoom + _ + 12 ≤ _
  omega
end PMC
