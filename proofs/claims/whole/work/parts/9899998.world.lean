/-! THE WORLD at the law's entry: what the Statement gives, in the pure machine's words -/
theorem st_find {vm : Vm} {A B : String} {c : ClassId} (h1 : vm.findClass A = some c) (h2 : vm.findClass B = some c) : A = B := by
  unfold Vm.findClass at h1 h2
  obtain ⟨i1, a1, _⟩ := Array.findIdx?_eq_some_iff_getElem.mp h1
  obtain ⟨i2, a2, _⟩ := Array.findIdx?_eq_some_iff_getElem.mp h2
  simp only [Bool.and_eq_true, beq_iff_eq] at a1 a2
  exact a1.1.1.1.symm.trans a2.1.1.1
theorem st_prim {A : Array Value} {s : State} {ty : FieldType} (h : (Cond.arrayClass ty).before A s = true) : ∃ (cA comp : ClassId) (kA : Class), s.vm.findClass ("[" ++ ty.toString) = some cA ∧ s.vm.classes[cA]? = some kA ∧ kA.kind = .array comp ty ∧ ArrOfT s cA ty := by
  obtain ⟨cA, kA, comp, h1, h2, h3⟩ := Cond.arrayClass_spec h
  exact ⟨cA, comp, kA, h1, h2, h3, fun n z => ⟨fun k h => (by cases h), kA, h2, comp, h3⟩⟩
theorem st_obj {A : Array Value} {s : State} {C : String} (h : (Cond.arrayOver (.object C)).before A s = true) : ∃ (cA comp : ClassId) (kA : Class), s.vm.classes[cA]? = some kA ∧ kA.kind = .array comp (.object C) ∧ ArrOfT s cA (.object C) ∧ va_RA s cA (.object C) := by
  obtain ⟨comp, cA, kA, h1, h2, h3, h4, h5⟩ := Cond.arrayOver_spec h
  exact ⟨cA, comp, kA, h3, h4, fun n z => ⟨fun k h => (by cases h), kA, h3, comp, h4⟩, kA, comp, h3, h4, h1, h5⟩
def st_tm (i : Nat) : Term := Term.string "WrongsDesk$LawReader" (pm_si.getD i 0)
def st_ab : Term := Term.static "WrongsDesk$Deeds" "ABOVE" "[I"
def st_F : List Cond := flatC (Jvm.Cond.and given_1 narrow_1)
theorem st_f1 : ∀ i : Nat, i < 10 → Cond.exactly (st_tm i) "java/lang/String" ∈ st_F := by decide +kernel
theorem st_f2 : ∀ i : Nat, i < 10 → Cond.eq (.field (st_tm i) "java/lang/String" "coder" "B") (.int 0) ∈ st_F := by decide +kernel
theorem st_f3 : ∀ i : Nat, i < 10 → Cond.arrayOf (.field (st_tm i) "java/lang/String" "value" "[B") .byte ∈ st_F := by decide +kernel
theorem st_f4 : ∀ i : Nat, i < 10 → Cond.eq (.length (.field (st_tm i) "java/lang/String" "value" "[B")) (.int (Int32.ofNat (pm_sl.getD i 0))) ∈ st_F := by decide +kernel
theorem st_f5 : ∀ i : Nat, i < 10 → ∀ j : Nat, j < pm_sl.getD i 0 → Cond.eq (.elem (.field (st_tm i) "java/lang/String" "value" "[B") (.int (Int32.ofNat j))) (.int ((pm_sb.getD i []).getD j 0)) ∈ st_F := by decide +kernel
theorem st_f6 : ∀ i : Nat, i < 10 → ∀ j : Nat, j < 10 → i ≠ j → Cond.not (Cond.eq (st_tm i) (st_tm j)) ∈ st_F ∨ Cond.not (Cond.eq (st_tm j) (st_tm i)) ∈ st_F := by decide +kernel
theorem st_f7 : Cond.arrayOf st_ab .int ∈ st_F ∧ Cond.eq (.length st_ab) (.int (Int32.ofNat 7)) ∈ st_F ∧ Cond.eq (.static "java/lang/String" "COMPACT_STRINGS" "Z") (.int 1) ∈ st_F ∧ Cond.isRef (.static "jdk/internal/util/Preconditions" "SIOOBE_FORMATTER" "Ljava/util/function/BiFunction;") ∈ st_F := by decide +kernel
theorem st_f8 : ∀ j : Nat, j < 7 → Cond.eq (.elem st_ab (.int (Int32.ofNat j))) (.int (pm_above j)) ∈ st_F := by decide +kernel
theorem st_t1 : ∀ i : Nat, i < 10 → Cond.stringRef "WrongsDesk$LawReader" (pm_si.getD i 0) (pm_sx.getD i "") ∈ lw_tbl := by decide +kernel
theorem st_t2 : Cond.laysStatic "java/lang/String" "COMPACT_STRINGS" "Z" ∈ lw_tbl ∧ Cond.initialized "java/lang/String" ∈ lw_tbl ∧ Cond.laysStatic "jdk/internal/util/Preconditions" "SIOOBE_FORMATTER" "Ljava/util/function/BiFunction;" ∈ lw_tbl ∧ Cond.initialized "jdk/internal/util/Preconditions" ∈ lw_tbl ∧ Cond.laysStatic "WrongsDesk$Deeds" "ABOVE" "[I" ∈ lw_tbl ∧ Cond.initialized "WrongsDesk$Deeds" ∈ lw_tbl := by decide +kernel
theorem st_t3 : Cond.arrayClass .int ∈ lw_tbl ∧ Cond.arrayClass .long ∈ lw_tbl ∧ Cond.arrayClass .boolean ∈ lw_tbl ∧ Cond.arrayOver (.object "WrongsDesk$Matter") ∈ lw_tbl ∧ Cond.arrayOver (.object "WrongsDesk$Law") ∈ lw_tbl ∧ Cond.arrayOver (.object "WrongsDesk$Tape") ∈ lw_tbl := by decide +kernel
theorem st_cn : ∀ k, k < 13 → pm_cn k = pm_cn 12 → k = 12 := by decide +kernel
theorem st_world {s : State} {b L : Nat} {xs : Nat → Int32} (l : Launch) (hts : ∀ w ∈ lw_tbl, w.before #[Value.ref b] s = true) (hX : va_X b L xs s s.heap) (hbl : b < s.heap.size) (hgv : (Jvm.Cond.and given_1 narrow_1).before #[Value.ref b] s = true) :
    ∃ G : pm_G, pm_gl G = l ∧ pm_gb G = s.heap.size ∧ pm_gH G = s.heap ∧ pm_gk G 101 = b ∧ pm_gL G = L ∧ pm_Gok G ∧ pm_C G s := by
  have hs : ∀ c ∈ st_F, c.before #[Value.ref b] s = true := flat_of_before _ hgv
  have hA : ∀ a : Nat, a < s.heap.size → ¬ (fun q : Nat => s.heap.size ≤ q) a := fun a ha => Nat.not_le.mpr ha
  -- classes
  have h0 : ∀ k : Nat, ∃ q : ClassId × (Nat → Nat), k < 13 → u_Kn s (pm_cn k) (pm_T k) (pm_nF k) q.1 q.2 := fun k => by
    by_cases hk : k < 13
    · obtain ⟨cC, iS, h⟩ := u_known (ws := lw_tbl) (C := pm_cn k) (T := pm_T k) (N := pm_nF k) (n := pm_nF k) hts (fun w hw => (List.mem_filter.mp (pm_ws hk w hw)).1) (hts _ (List.mem_of_getElem? (pm_inst_ok k hk).1))
      exact ⟨(cC, iS), fun _ => h⟩
    · exact ⟨(0, fun _ => 0), fun h => absurd h hk⟩
  obtain ⟨D, hD⟩ := Classical.axiomOfChoice h0
  -- rows
  obtain ⟨t1, t2, t3, t4, t5, t6⟩ := st_t3
  obtain ⟨g0, p0, k0, n0, c0, d0, r0⟩ := st_prim (hts _ t1)
  obtain ⟨g1, p1, k1, n1, c1, d1, r1⟩ := st_prim (hts _ t2)
  obtain ⟨g2, p2, k2, n2, c2, d2, r2⟩ := st_prim (hts _ t3)
  obtain ⟨g3, p3, k3, c3, d3, r3, n3⟩ := st_obj (hts _ t4)
  obtain ⟨g4, p4, k4, c4, d4, r4, n4⟩ := st_obj (hts _ t5)
  obtain ⟨g5, p5, k5, c5, d5, r5, n5⟩ := st_obj (hts _ t6)
  -- texts
  obtain ⟨f1, f2, f3, f4⟩ := st_f7
  obtain ⟨adK, adV, hV, hE⟩ := vk_Sof (N := 10) (tm := st_tm) (len := pm_sl) (byt := pm_sb) (A := fun q : Nat => s.heap.size ≤ q) (by decide) (fun i hi => hs _ (st_f1 i hi)) (fun i hi => hs _ (st_f2 i hi)) (fun i hi => hs _ (st_f3 i hi)) (fun i hi => hs _ (st_f4 i hi)) (fun i hi j hj => hs _ (st_f5 i hi j hj)) (fun i j hi hj hij => (st_f6 i hi j hj hij).elim (fun h => Or.inl (hs _ h)) (fun h => Or.inr (hs _ h))) hA
  obtain ⟨tA, hT, hTA⟩ := va_Tof (tm := st_ab) (ty := .int) (N := 7) (f := fun j => .int (pm_above j)) (A := fun q : Nat => s.heap.size ≤ q) (by decide) (hs _ f1) (va_eqt (hs _ f2)) (fun j hj => va_eqt (hs _ (st_f8 j hj))) hA
  obtain ⟨u1, u2, u3, u4, u5, u6⟩ := st_t2
  have hZ1 := va_Zof (A := fun q : Nat => s.heap.size ≤ q) (hts _ u1) (hts _ u2) (va_eqt (hs _ f3)) hA
  have hZ2 := va_Zqof (A := fun q : Nat => s.heap.size ≤ q) (hts _ u3) (hts _ u4) (hs _ f4) hA
  have hZ3 := va_Zof (A := fun q : Nat => s.heap.size ≤ q) (hts _ u5) (hts _ u6) hT hA
  obtain ⟨tF, vF, hvF, hZF⟩ : ∃ (t : Nat) (v : Value), (v = .null ∨ v = .retAddr 102) ∧ va_Z "jdk/internal/util/Preconditions" "SIOOBE_FORMATTER" "Ljava/util/function/BiFunction;" (match v with
      | .retAddr _ => .ref t
      | v => v) (fun q : Nat => s.heap.size ≤ q) s s.heap := by
    rcases hZ2 with h | ⟨t, h⟩
    · exact ⟨0, .null, Or.inl rfl, h⟩
    · exact ⟨t, .retAddr 102, Or.inr rfl, h⟩
  refine ⟨(l, (fun k => (D k).1, fun k => (D k).2), (fun i => if i = 0 then g0 else if i = 1 then g1 else if i = 2 then g2 else if i = 3 then g3 else if i = 4 then g4 else if i = 5 then g5 else g0), s.heap.size, s.heap, (fun i => if i < 10 then adK i else if i = 100 then tA else if i = 101 then b else if i = 102 then tF else adV (i - 20)), L, xs), rfl, rfl, rfl, rfl, rfl, ?_, ?_⟩
  · have key : ∀ (g : ClassId) (p : ClassId) (kA : Class) (ty : FieldType), s.vm.classes[g]? = some kA → kA.kind = .array p ty → g ≠ (D 12).1 := fun g p kA ty h1 h2 e => by
      obtain ⟨_, _, kC, h3, h4⟩ := hD 12 (by decide)
      rw [← e, h1] at h3
      have e2 : kA = kC := Option.some.inj h3
      rw [e2, h4] at h2; cases h2
    refine ⟨fun i => ?_, fun k hk e => ?_⟩
    · show (if i = 0 then g0 else if i = 1 then g1 else if i = 2 then g2 else if i = 3 then g3 else if i = 4 then g4 else if i = 5 then g5 else g0) ≠ (D 12).1
      repeat' split
      · exact key _ _ _ _ c0 d0
      · exact key _ _ _ _ c1 d1
      · exact key _ _ _ _ c2 d2
      · exact key _ _ _ _ c3 d3
      · exact key _ _ _ _ c4 d4
      · exact key _ _ _ _ c5 d5
      · exact key _ _ _ _ c0 d0
    · replace e : (D k).1 = (D 12).1 := e
      have a1 := (hD k hk).2.1
      have a2 := (hD 12 (by decide)).2.1
      rw [← e] at a2
      exact st_cn k hk (st_find a1 a2)
  · refine ⟨⟨fun c q hq => ?_, fun k q hq => ?_⟩, fun e he => ?_, ⟨va_AO.of (hts _ t4), va_AO.of (hts _ t5), va_AO.of (hts _ t6)⟩, ⟨hTA, hX, trivial, hbl, hZ3⟩, ⟨fun i hi => ?_, ⟨fun i hi => ?_, fun i j hi hj e => ?_⟩, hZ1, vF, hvF, ?_⟩⟩
    · by_cases hc : c < 13
      · rw [pm_cl_at hc] at hq
        cases hq
        exact hD c hc
      · have : pm_cl[c]? = none := by
          rw [List.getElem?_eq_none_iff]; show (List.map _ (List.range 13)).length ≤ c; rw [List.length_map, List.length_range]; omega
        rw [this] at hq; cases hq
    · match k, hq with
      | 0, hq => cases hq; exact ⟨r0, n0⟩
      | 1, hq => cases hq; exact ⟨r1, n1⟩
      | 2, hq => cases hq; exact ⟨r2, n2⟩
      | 3, hq => cases hq; exact ⟨r3, n3⟩
      | 4, hq => cases hq; exact ⟨r4, n4⟩
      | 5, hq => cases hq; exact ⟨r5, n5⟩
      | k + 6, hq => simp [pm_tys] at hq
    · exact va_Nw.of rfl (hts _ (List.mem_of_getElem? (pm_nest_ok e he)))
    · show vk_R "WrongsDesk$LawReader" (pm_si.getD i 0) (pm_sx.getD i "") (if i < 10 then adK i else _) s
      rw [if_pos hi]
      exact vk_R.of (hts _ (st_t1 i hi)) (hE i hi)
    · have a := hV.1 i hi
      have e1 : pm_gk (l, (fun k => (D k).1, fun k => (D k).2), (fun i => if i = 0 then g0 else if i = 1 then g1 else if i = 2 then g2 else if i = 3 then g3 else if i = 4 then g4 else if i = 5 then g5 else g0), s.heap.size, s.heap, (fun i => if i < 10 then adK i else if i = 100 then tA else if i = 101 then b else if i = 102 then tF else adV (i - 20)), L, xs) i = adK i := if_pos hi
      have e2 : pm_gk (l, (fun k => (D k).1, fun k => (D k).2), (fun i => if i = 0 then g0 else if i = 1 then g1 else if i = 2 then g2 else if i = 3 then g3 else if i = 4 then g4 else if i = 5 then g5 else g0), s.heap.size, s.heap, (fun i => if i < 10 then adK i else if i = 100 then tA else if i = 101 then b else if i = 102 then tF else adV (i - 20)), L, xs) (20 + i) = adV i := by
        show (if 20 + i < 10 then adK (20 + i) else if 20 + i = 100 then tA else if 20 + i = 101 then b else if 20 + i = 102 then tF else adV (20 + i - 20)) = adV i
        rw [if_neg (by omega), if_neg (by omega), if_neg (by omega), if_neg (by omega), show 20 + i - 20 = i by omega]
      rw [e1]
      refine ⟨a.1, a.2.1, ?_, ?_⟩
      · show va_OF "java/lang/String" "value" "[B" (.ref (pm_gk _ (20 + i))) (adK i) _ s _
        rw [e2]; exact a.2.2.1
      · show va_T .byte (pm_gk _ (20 + i)) (pm_sl.getD i 0) (fun j => .int ((pm_sb.getD i []).getD j 0)) _ s _
        rw [e2]; exact a.2.2.2
    · replace e : (if i < 10 then adK i else if i = 100 then tA else if i = 101 then b else if i = 102 then tF else adV (i - 20)) = (if j < 10 then adK j else if j = 100 then tA else if j = 101 then b else if j = 102 then tF else adV (j - 20)) := e
      rw [if_pos hi, if_pos hj] at e
      exact hV.2 i j hi hj e
    · rcases hvF with h | h
      · subst h; exact hZF
      · subst h; exact hZF
