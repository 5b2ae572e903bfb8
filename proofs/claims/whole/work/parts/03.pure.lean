/-! THE PURE MACHINE: a heap of numbered cells, typed; what an instruction asks and does, as a proposition about what comes behind it -/
/-- cells made so far; of each cell its kind, its length, its ints, its longs, its references -/
abbrev pm_S : Type := Nat × (Nat → Nat) × (Nat → Nat) × (Nat → Nat → Int32) × (Nat → Nat → Int64) × (Nat → Nat → Option Nat)
def pm_n (S : pm_S) : Nat := S.1
/-- kinds: below 13 an object of that class; 20 int[], 21 long[], 22 boolean[], 23 Matter[], 24 Law[], 25 Tape[]; 99 none -/
def pm_k (S : pm_S) : Nat → Nat := S.2.1
def pm_z (S : pm_S) : Nat → Nat := S.2.2.1
def pm_i (S : pm_S) : Nat → Nat → Int32 := S.2.2.2.1
def pm_l (S : pm_S) : Nat → Nat → Int64 := S.2.2.2.2.1
def pm_r (S : pm_S) : Nat → Nat → Option Nat := S.2.2.2.2.2
def pm_wI (S : pm_S) (p j : Nat) (v : Int32) : pm_S := (S.1, S.2.1, S.2.2.1, va_up S.2.2.2.1 p (va_up (S.2.2.2.1 p) j v), S.2.2.2.2.1, S.2.2.2.2.2)
def pm_wL (S : pm_S) (p j : Nat) (v : Int64) : pm_S := (S.1, S.2.1, S.2.2.1, S.2.2.2.1, va_up S.2.2.2.2.1 p (va_up (S.2.2.2.2.1 p) j v), S.2.2.2.2.2)
def pm_wR (S : pm_S) (p j : Nat) (v : Option Nat) : pm_S := (S.1, S.2.1, S.2.2.1, S.2.2.2.1, S.2.2.2.2.1, va_up S.2.2.2.2.2 p (va_up (S.2.2.2.2.2 p) j v))
/-- a whole row of longs -/
def pm_wM (S : pm_S) (p : Nat) (f : Nat → Int64) : pm_S := (S.1, S.2.1, S.2.2.1, S.2.2.2.1, va_up S.2.2.2.2.1 p f, S.2.2.2.2.2)
/-- a new cell -/
def pm_nw (S : pm_S) (k z : Nat) : pm_S := (S.1 + 1, va_up S.2.1 S.1 k, va_up S.2.2.1 S.1 z, va_up S.2.2.2.1 S.1 (fun _ => 0), va_up S.2.2.2.2.1 S.1 (fun _ => 0), va_up S.2.2.2.2.2 S.1 (fun _ => none))
/-- launch; classes; array classes; the first address of ours; the heap at the start; addresses of what was there (strings, a static row, the script); the script's length and values -/
abbrev pm_G : Type := Launch × va_G × (Nat → ClassId) × Nat × Heap × (Nat → Nat) × Nat × (Nat → Int32)
def pm_gl (G : pm_G) : Launch := G.1
def pm_gD (G : pm_G) : va_G := G.2.1
def pm_ga (G : pm_G) : Nat → ClassId := G.2.2.1
def pm_gb (G : pm_G) : Nat := G.2.2.2.1
def pm_gH (G : pm_G) : Heap := G.2.2.2.2.1
def pm_gk (G : pm_G) : Nat → Nat := G.2.2.2.2.2.1
def pm_gL (G : pm_G) : Nat := G.2.2.2.2.2.2.1
def pm_gx (G : pm_G) : Nat → Int32 := G.2.2.2.2.2.2.2
/-- a pure value's value on the machine; a retAddr stands for what was there at the start -/
def pm_v (G : pm_G) : Value → Value
  | .ref q => .ref (pm_gb G + q)
  | .retAddr i => .ref (pm_gk G i)
  | v => v
/-- an unknown local -/
def pm_unk : Value → Bool
  | .float _ => true
  | _ => false
def pm_ld : List Value → Nat → Value
  | [], _ => .float 0
  | v :: _, 0 => v
  | _ :: l, k + 1 => pm_ld l k
/-- a long whose second half is overwritten is lost -/
def pm_dem : Value → Value
  | .long _ => .float 0
  | .double _ => .float 0
  | v => v
/-- a local of one slot -/
def pm_st1 : List Value → Nat → Value → List Value
  | [], _, _ => []
  | _ :: l, 0, v => v :: l
  | a :: l, 1, v => pm_dem a :: pm_st1 l 0 v
  | a :: l, k + 2, v => a :: pm_st1 l (k + 1) v
/-- a local of two slots -/
def pm_st2 (l : List Value) (k : Nat) (v : Value) : List Value := pm_st1 (pm_st1 l (k + 1) (.float 0)) k v
/-- the locals at a method's start -/
def pm_en : Nat → List Value → List Value
  | n, [] => List.replicate n (.float 0)
  | n, .long x :: vs => .long x :: .float 0 :: pm_en (n - 2) vs
  | n, v :: vs => v :: pm_en (n - 1) vs
abbrev pm_Q : Type := Option Value → pm_S → Prop
abbrev pm_K : Type := List Value → List Value → pm_S → Nat → Nat → Prop
abbrev pm_J : Type := Nat → Nat → pm_K
abbrev pm_It : Type := Instr × List Nat × Value
/-- what a method owes its caller, by the kind of its answer -/
def pm_QI (q : Int32 → pm_S → Prop) : pm_Q := fun r S => ∃ x, r = some (.int x) ∧ q x S
def pm_QL (q : Int64 → pm_S → Prop) : pm_Q := fun r S => ∃ x, r = some (.long x) ∧ q x S
def pm_QV (q : pm_S → Prop) : pm_Q := fun r S => r = none ∧ q S
def pm_QR (q : Option Nat → pm_S → Prop) : pm_Q := fun r S => ∃ x, r = some (va_rf x) ∧ q x S
theorem pm_QI_at {q : Int32 → pm_S → Prop} {x : Int32} {S : pm_S} : pm_QI q (some (.int x)) S = q x S := propext ⟨fun ⟨y, h, k⟩ => by cases h; exact k, fun h => ⟨x, rfl, h⟩⟩
theorem pm_QL_at {q : Int64 → pm_S → Prop} {x : Int64} {S : pm_S} : pm_QL q (some (.long x)) S = q x S := propext ⟨fun ⟨y, h, k⟩ => by cases h; exact k, fun h => ⟨x, rfl, h⟩⟩
theorem pm_QV_at {q : pm_S → Prop} {S : pm_S} : pm_QV q none S = q S := propext ⟨fun h => h.2, fun h => ⟨rfl, h⟩⟩
theorem pm_rf_inj {x y : Option Nat} (h : va_rf x = va_rf y) : x = y := by cases x <;> cases y <;> simp [va_rf] at h ⊢; exact h
theorem pm_QR_at {q : Option Nat → pm_S → Prop} {x : Option Nat} {S : pm_S} : pm_QR q (some (va_rf x)) S = q x S := propext ⟨fun ⟨y, h, k⟩ => by rw [pm_rf_inj (Option.some.inj h)]; exact k, fun h => ⟨x, rfl, h⟩⟩
theorem pm_QR_at0 {q : Option Nat → pm_S → Prop} {S : pm_S} : pm_QR q (some .null) S = q none S := pm_QR_at (x := none)
theorem pm_QR_at1 {q : Option Nat → pm_S → Prop} {p : Nat} {S : pm_S} : pm_QR q (some (.ref p)) S = q (some p) S := pm_QR_at (x := some p)
/-! the entries of the heap -/
def pm_fs (G : pm_G) (c : Nat) (f : Nat → Int32) (r : Nat → Option Nat) : List Value := (List.range (pm_nF c)).map (fun k => if pm_fk c k = 2 then va_rf ((r k).map (fun q => pm_gb G + q)) else .int (f k))
def pm_e (G : pm_G) (S : pm_S) (p : Nat) : va_E :=
  if pm_k S p < 13 then .inr (pm_k S p, pm_fs G (pm_k S p) (pm_i S p) (pm_r S p))
  else if pm_k S p = 21 then .inl (pm_ga G 1, pm_z S p, .inr (.inl (pm_l S p)))
  else if pm_k S p < 23 then .inl (pm_ga G (pm_k S p - 20), pm_z S p, .inl (pm_i S p))
  else .inl (pm_ga G (pm_k S p - 20), pm_z S p, .inr (.inr (.inr (.inr (fun j => (pm_r S p j).map (fun q => pm_gb G + q))))))
def pm_R (G : pm_G) (S : pm_S) (H : Heap) : Prop := H.size = pm_gb G + pm_n S ∧ (∀ p, pm_n S ≤ p → pm_k S p = 99) ∧ ∀ p, p < pm_n S → va_at (pm_gD G) pm_cl (pm_gb G + p, pm_e G S p) H
def pm_tys (G : pm_G) : List (ClassId × FieldType) := [(pm_ga G 0, .int), (pm_ga G 1, .long), (pm_ga G 2, .boolean), (pm_ga G 3, .object "WrongsDesk$Matter"), (pm_ga G 4, .object "WrongsDesk$Law"), (pm_ga G 5, .object "WrongsDesk$Tape")]
def pm_above : Nat → Int32 := fun j => ([-1, 0, 0, 2, 2, 0, 3] : List Int32).getD j 0
def pm_A (G : pm_G) : Nat → Prop := fun q => pm_gb G ≤ q
/-! the class's text constants: entry, text, length, bytes -/
def pm_si : List Nat := [44, 90, 92, 102, 110, 115, 59, 68, 73, 78]
def pm_sx : List String := ["owe ", "if ", "unless ", "ate ", "each ", "scale ", "limit ", "answer ", "cap ", "few "]
def pm_sl : List Nat := [4, 3, 7, 4, 5, 6, 6, 7, 4, 4]
def pm_sb : List (List Int32) := [[111, 119, 101, 32], [105, 102, 32], [117, 110, 108, 101, 115, 115, 32], [97, 116, 101, 32], [101, 97, 99, 104, 32], [115, 99, 97, 108, 101, 32], [108, 105, 109, 105, 116, 32], [97, 110, 115, 119, 101, 114, 32], [99, 97, 112, 32], [102, 101, 119, 32]]
/-- what is told of things that were there at the start -/
def pm_X (G : pm_G) (U : State) : Prop :=
  va_T .int (pm_gk G 100) 7 (fun j => .int (pm_above j)) (pm_A G) U (pm_gH G) ∧ va_X (pm_gk G 101) (pm_gL G) (pm_gx G) U (pm_gH G) ∧ True ∧ pm_gk G 101 < pm_gb G ∧ va_Z "WrongsDesk$Deeds" "ABOVE" "[I" (.ref (pm_gk G 100)) (pm_A G) U (pm_gH G)
def pm_Y (G : pm_G) (U : State) : Prop :=
  (∀ i : Nat, i < 10 → vk_R "WrongsDesk$LawReader" (pm_si.getD i 0) (pm_sx.getD i "") (pm_gk G i) U) ∧ vk_S 10 pm_sl pm_sb (pm_gk G) (fun i => pm_gk G (20 + i)) (pm_A G) U (pm_gH G) ∧ va_Z "java/lang/String" "COMPACT_STRINGS" "Z" (.int 1) (pm_A G) U (pm_gH G) ∧
  ∃ v : Value, (v = .null ∨ v = .retAddr 102) ∧ va_Z "jdk/internal/util/Preconditions" "SIOOBE_FORMATTER" "Ljava/util/function/BiFunction;" (pm_v G v) (pm_A G) U (pm_gH G)
theorem pm_Y.warm {G : pm_G} {s U : State} (hW : s.WarmedH U.vm) (h : pm_Y G s) : pm_Y G U := by
  obtain ⟨h1, h2, h3, v, h4, h5⟩ := h
  exact ⟨fun i hi => vk_R.warm hW (h1 i hi), vk_S.moved hW.alike h2, va_Z.moved hW.alike h3, v, h4, va_Z.moved hW.alike h5⟩
theorem pm_Y.same {G : pm_G} {s U : State} (hv : s.vm = U.vm) (h : pm_Y G s) : pm_Y G U := by
  have ha : s.vm.Alike U.vm := by rw [hv]; exact Vm.Alike.refl _
  obtain ⟨h1, h2, h3, v, h4, h5⟩ := h
  exact ⟨fun i hi => vk_R.same hv.symm (h1 i hi), vk_S.moved ha h2, va_Z.moved ha h3, v, h4, va_Z.moved ha h5⟩
def pm_C (G : pm_G) (U : State) : Prop :=
  va_K (pm_gD G) pm_cl (pm_tys G) U ∧ (∀ e, e < 10 → va_Nw (.methodLinkNest "WrongsDesk" (pm_nest.getD e (0, 0)).1 (pm_y (pm_nest.getD e (0, 0)).2) "WrongsDesk") U) ∧ (va_AO "WrongsDesk$Matter" U ∧ va_AO "WrongsDesk$Law" U ∧ va_AO "WrongsDesk$Tape" U) ∧ pm_X G U ∧ pm_Y G U
theorem pm_C.warm {G : pm_G} {s U : State} (hW : s.WarmedH U.vm) (h : pm_C G s) : pm_C G U :=
  ⟨va_K.moved hW.alike h.1, fun e he => va_Nw.warmM hW (h.2.1 e he), ⟨va_AO.moved hW.alike h.2.2.1.1, va_AO.moved hW.alike h.2.2.1.2.1, va_AO.moved hW.alike h.2.2.1.2.2⟩,
    ⟨va_T.moved hW.alike h.2.2.2.1.1, va_X.moved hW.alike h.2.2.2.1.2.1, h.2.2.2.1.2.2.1, h.2.2.2.1.2.2.2.1, va_Z.moved hW.alike h.2.2.2.1.2.2.2.2⟩, pm_Y.warm hW h.2.2.2.2⟩
theorem pm_C.same {G : pm_G} {s U : State} (hv : s.vm = U.vm) (h : pm_C G s) : pm_C G U := by
  have ha : s.vm.Alike U.vm := by rw [hv]; exact Vm.Alike.refl _
  exact ⟨va_K.moved ha h.1, fun e he => va_tabs rfl hv (h.2.1 e he), ⟨va_AO.moved ha h.2.2.1.1, va_AO.moved ha h.2.2.1.2.1, va_AO.moved ha h.2.2.1.2.2⟩,
    ⟨va_T.moved ha h.2.2.2.1.1, va_X.moved ha h.2.2.2.1.2.1, h.2.2.2.1.2.2.1, h.2.2.2.1.2.2.2.1, va_Z.moved ha h.2.2.2.1.2.2.2.2⟩, pm_Y.same hv h.2.2.2.2⟩
/-- what was there at the start is as it was -/
def pm_O (G : pm_G) (H : Heap) : Prop := (pm_gH G).size = pm_gb G ∧ ∀ q : Nat, q < pm_gb G → H[q]? = (pm_gH G)[q]?
def pm_rm (d j : Nat) : Room := { frames := d, cells := pm_mc j, slots := pm_ms j, locals := 64 * d }
def pm_wd (j : Nat) : List Cond := .code (pm_y j) (pm_b j) (pm_mL j) (pm_rt j) :: pm_tbl
/-- THE CONTRACT of method j at depth d: from these arguments and this heap it comes back with Q -/
def pm_Ct (G : pm_G) (d j : Nat) (args : List Value) (S : pm_S) (Q : pm_Q) : Prop :=
  Met (pm_gl G) (pm_y j) (pm_wd j) (pm_rm d j) (va_Pc (args.map (pm_v G)) (fun U => pm_C G U ∧ pm_O G U.heap ∧ pm_R G S U.heap))
    (fun _ st o t => (∃ (v : Option Value) (S' : pm_S), o = .returned (v.map (pm_v G)) ∧ Q v S' ∧ pm_R G S' t.heap) ∧ va_F (pm_A G) st t) (pm_mc j) (pm_ms j) (pm_A G)
theorem pm_Ct.mono {G : pm_G} {d j : Nat} {args : List Value} {S : pm_S} {Q Q' : pm_Q} (h : pm_Ct G d j args S Q) (hq : ∀ v S', Q v S' → Q' v S') : pm_Ct G d j args S Q' := by
  unfold pm_Ct Met at h ⊢
  refine MetFree.mono h (fun _ _ h => h) (fun _ _ _ _ _ h => h) (fun a s o t _ hh => ?_)
  obtain ⟨⟨⟨v, S', h1, h2, h3⟩, h4⟩, h5⟩ := hh
  exact ⟨⟨⟨v, S', h1, hq v S' h2, h3⟩, h4⟩, h5⟩
def pm_CI (G : pm_G) (d j : Nat) (args : List Value) (S : pm_S) (q : Int32 → pm_S → Prop) : Prop := pm_Ct G d j args S (pm_QI q)
def pm_CL (G : pm_G) (d j : Nat) (args : List Value) (S : pm_S) (q : Int64 → pm_S → Prop) : Prop := pm_Ct G d j args S (pm_QL q)
def pm_CV (G : pm_G) (d j : Nat) (args : List Value) (S : pm_S) (q : pm_S → Prop) : Prop := pm_Ct G d j args S (pm_QV q)
def pm_CR (G : pm_G) (d j : Nat) (args : List Value) (S : pm_S) (q : Option Nat → pm_S → Prop) : Prop := pm_Ct G d j args S (pm_QR q)
theorem pm_CI.mono {G : pm_G} {d j : Nat} {args : List Value} {S : pm_S} {q q' : Int32 → pm_S → Prop} (h : pm_CI G d j args S q) (hq : ∀ x S', q x S' → q' x S') : pm_CI G d j args S q' := pm_Ct.mono h (fun _ S' ⟨x, e, k⟩ => ⟨x, e, hq x S' k⟩)
theorem pm_CL.mono {G : pm_G} {d j : Nat} {args : List Value} {S : pm_S} {q q' : Int64 → pm_S → Prop} (h : pm_CL G d j args S q) (hq : ∀ x S', q x S' → q' x S') : pm_CL G d j args S q' := pm_Ct.mono h (fun _ S' ⟨x, e, k⟩ => ⟨x, e, hq x S' k⟩)
theorem pm_CV.mono {G : pm_G} {d j : Nat} {args : List Value} {S : pm_S} {q q' : pm_S → Prop} (h : pm_CV G d j args S q) (hq : ∀ S', q S' → q' S') : pm_CV G d j args S q' := pm_Ct.mono h (fun _ S' ⟨e, k⟩ => ⟨e, hq S' k⟩)
theorem pm_CR.mono {G : pm_G} {d j : Nat} {args : List Value} {S : pm_S} {q q' : Option Nat → pm_S → Prop} (h : pm_CR G d j args S q) (hq : ∀ x S', q x S' → q' x S') : pm_CR G d j args S q' := pm_Ct.mono h (fun _ S' ⟨x, e, k⟩ => ⟨x, e, hq x S' k⟩)
/-! what an instruction asks -/
def pm_u1 (a : List Nat) (f : Nat → Prop) : Prop := match a with
  | [x] => f x
  | _ => False
def pm_u2 (a : List Nat) (f : Nat → Nat → Prop) : Prop := match a with
  | [x, y] => f x y
  | _ => False
def pm_u4 (a : List Nat) (f : Nat → Nat → Nat → Nat → Prop) : Prop := match a with
  | [x, y, z, t] => f x y z t
  | _ => False
def pm_u5 (a : List Nat) (f : Nat → Nat → Nat → Nat → Nat → Prop) : Prop := match a with
  | [x, y, z, t, u] => f x y z t u
  | _ => False
def pm_oI (v : Value) (f : Int32 → Prop) : Prop := match v with
  | .int x => f x
  | _ => False
def pm_oL (v : Value) (f : Int64 → Prop) : Prop := match v with
  | .long x => f x
  | _ => False
def pm_oR (v : Value) (f : Value → Prop) : Prop := match v with
  | .null => f .null
  | .ref q => f (.ref q)
  | .retAddr q => f (.retAddr q)
  | _ => False
theorem pm_oR_rf {r : Option Nat} {f : Value → Prop} : pm_oR (va_rf r) f = f (va_rf r) := by cases r <;> rfl
def pm_oQ (v : Value) (f : Option Nat → Prop) : Prop := match v with
  | .null => f none
  | .ref q => f (some q)
  | _ => False
theorem pm_oQ_rf {r : Option Nat} {f : Option Nat → Prop} : pm_oQ (va_rf r) f = f r := by cases r <;> rfl
theorem pm_dem_rf {r : Option Nat} : pm_dem (va_rf r) = va_rf r := by cases r <;> rfl
def pm_t1 (st : List Value) (f : Value → List Value → Prop) : Prop := match st with
  | v :: st' => f v st'
  | _ => False
def pm_i1 (st : List Value) (f : Int32 → List Value → Prop) : Prop := match st with
  | .int x :: st' => f x st'
  | _ => False
def pm_i2 (st : List Value) (f : Int32 → Int32 → List Value → Prop) : Prop := match st with
  | .int y :: .int x :: st' => f x y st'
  | _ => False
def pm_l1 (st : List Value) (f : Int64 → List Value → Prop) : Prop := match st with
  | .long x :: st' => f x st'
  | _ => False
def pm_l2 (st : List Value) (f : Int64 → Int64 → List Value → Prop) : Prop := match st with
  | .long y :: .long x :: st' => f x y st'
  | _ => False
def pm_li (st : List Value) (f : Int64 → Int32 → List Value → Prop) : Prop := match st with
  | .int y :: .long x :: st' => f x y st'
  | _ => False
def pm_p1 (st : List Value) (f : Nat → List Value → Prop) : Prop := match st with
  | .ref p :: st' => f p st'
  | _ => False
def pm_ra (st : List Value) (f : Nat → List Value → Prop) : Prop := match st with
  | .retAddr p :: st' => f p st'
  | _ => False
/-- a String's coder, a String's bytes -/
def pm_sf (x i : Nat) : Value := match x with
  | 0 => .int 0
  | _ => .retAddr (20 + i)
/-- index over a row of ours, or one that was there -/
def pm_ix (st : List Value) (f : Int32 → Nat → List Value → Prop) (g : Int32 → Nat → List Value → Prop) : Prop := match st with
  | .int j :: .ref p :: st' => f j p st'
  | .int j :: .retAddr p :: st' => g j p st'
  | _ => False
/-- a value, an index, a row -/
def pm_vx (st : List Value) (f : Value → Int32 → Nat → List Value → Prop) : Prop := match st with
  | v :: .int j :: .ref p :: st' => f v j p st'
  | _ => False
/-- the arguments, the first one first -/
def pm_sp (n : Nat) (st : List Value) (f : List Value → List Value → Prop) : Prop := match n with
  | 0 => f [] st
  | 1 => match st with
    | a :: st' => f [a] st'
    | _ => False
  | 2 => match st with
    | b :: a :: st' => f [a, b] st'
    | _ => False
  | 3 => match st with
    | c :: b :: a :: st' => f [a, b, c] st'
    | _ => False
  | 4 => match st with
    | d :: c :: b :: a :: st' => f [a, b, c, d] st'
    | _ => False
  | 5 => match st with
    | e :: d :: c :: b :: a :: st' => f [a, b, c, d, e] st'
    | _ => False
  | 6 => match st with
    | g :: e :: d :: c :: b :: a :: st' => f [a, b, c, d, e, g] st'
    | _ => False
  | _ => False
/-- a small rest of the stack -/
def pm_sm (st : List Value) : Prop := match st with
  | [] => True
  | [_] => True
  | [_, _] => True
  | [_, _, _] => True
  | [_, _, _, _] => True
  | _ => False
/-- a field's value: by its sort -/
def pm_gv (f : Nat) (S : pm_S) (p k : Nat) : Value := match f with
  | 2 => va_rf (pm_r S p k)
  | _ => .int (pm_i S p k)
/-- a call, by the sort of its answer -/
def pm_cc (G : pm_G) (d j rk : Nat) (as rest : List Value) (S : pm_S) (N : List Value → pm_S → Prop) : Prop := match rk with
  | 0 => pm_CV G (d - 1) j as S (fun S' => N rest S')
  | 1 => pm_CI G (d - 1) j as S (fun x S' => N (.int x :: rest) S')
  | 2 => pm_CL G (d - 1) j as S (fun x S' => N (.long x :: rest) S')
  | 3 => pm_CR G (d - 1) j as S (fun x S' => N (va_rf x :: rest) S')
  | _ => False
/-- a switch -/
def pm_sw (x : Int32) (J : Nat → Nat → Prop) : List Nat → Prop
  | [t, f] => J t f
  | k :: t :: f :: l => (x = Int32.ofNat k → J t f) ∧ (¬ x = Int32.ofNat k → pm_sw x J l)
  | _ => False
def pm_if (c : Prop) (a b : Prop) : Prop := (c → a) ∧ (¬ c → b)
def pm_wi (G : pm_G) (d mi : Nat) (Q : pm_Q) (J : pm_J) (N : pm_K) (i : Instr) (a : List Nat) (w : Value) (ls st : List Value) (S : pm_S) (cn sn : Nat) : Prop := match i with
  | .aconst_null => N ls (.null :: st) S cn sn
  | .iconst _ => N ls (w :: st) S cn sn
  | .bipush _ => N ls (w :: st) S cn sn
  | .sipush _ => N ls (w :: st) S cn sn
  | .lconst _ => N ls (w :: st) S cn sn
  | .ldc _ => N ls (w :: st) S cn sn
  | .ldc_w _ => N ls (w :: st) S cn sn
  | .ldc2_w _ => N ls (w :: st) S cn sn
  | .getstatic _ => (match a with
    | [_, _] => N ls (.null :: st) S cn sn ∧ N ls (.retAddr 102 :: st) S cn sn
    | [_] => N ls (w :: st) S cn sn
    | _ => False)
  | .iload _ => pm_u1 a (fun k => pm_oI (pm_ld ls k) (fun x => N ls (.int x :: st) S cn sn))
  | .iload_n _ => pm_u1 a (fun k => pm_oI (pm_ld ls k) (fun x => N ls (.int x :: st) S cn sn))
  | .lload _ => pm_u1 a (fun k => pm_oL (pm_ld ls k) (fun x => N ls (.long x :: st) S cn sn))
  | .lload_n _ => pm_u1 a (fun k => pm_oL (pm_ld ls k) (fun x => N ls (.long x :: st) S cn sn))
  | .aload _ => pm_u1 a (fun k => pm_oR (pm_ld ls k) (fun x => N ls (x :: st) S cn sn))
  | .aload_n _ => pm_u1 a (fun k => pm_oR (pm_ld ls k) (fun x => N ls (x :: st) S cn sn))
  | .istore _ => pm_u1 a (fun k => pm_i1 st (fun x st' => N (pm_st1 ls k (.int x)) st' S cn sn))
  | .istore_n _ => pm_u1 a (fun k => pm_i1 st (fun x st' => N (pm_st1 ls k (.int x)) st' S cn sn))
  | .lstore _ => pm_u1 a (fun k => pm_l1 st (fun x st' => N (pm_st2 ls k (.long x)) st' S cn sn))
  | .lstore_n _ => pm_u1 a (fun k => pm_l1 st (fun x st' => N (pm_st2 ls k (.long x)) st' S cn sn))
  | .astore _ => pm_u1 a (fun k => pm_t1 st (fun x st' => pm_oR x (fun x => N (pm_st1 ls k x) st' S cn sn)))
  | .astore_n _ => pm_u1 a (fun k => pm_t1 st (fun x st' => pm_oR x (fun x => N (pm_st1 ls k x) st' S cn sn)))
  | .iinc _ _ => pm_u1 a (fun k => pm_oI (pm_ld ls k) (fun x => pm_oI w (fun y => N (pm_st1 ls k (.int (x + y))) st S cn sn)))
  | .iadd => pm_i2 st (fun x y st' => N ls (.int (x + y) :: st') S cn sn)
  | .isub => pm_i2 st (fun x y st' => N ls (.int (x - y) :: st') S cn sn)
  | .imul => pm_i2 st (fun x y st' => N ls (.int (x * y) :: st') S cn sn)
  | .iand => pm_i2 st (fun x y st' => N ls (.int (x &&& y) :: st') S cn sn)
  | .ior => pm_i2 st (fun x y st' => N ls (.int (x ||| y) :: st') S cn sn)
  | .ixor => pm_i2 st (fun x y st' => N ls (.int (x ^^^ y) :: st') S cn sn)
  | .idiv => pm_i2 st (fun x y st' => ¬ y = 0 ∧ N ls (.int (x / y) :: st') S cn sn)
  | .irem => pm_i2 st (fun x y st' => ¬ y = 0 ∧ N ls (.int (x - x / y * y) :: st') S cn sn)
  | .ineg => pm_i1 st (fun x st' => N ls (.int (-x) :: st') S cn sn)
  | .ishl => pm_i2 st (fun x y st' => N ls (.int (x <<< (y &&& 31)) :: st') S cn sn)
  | .ishr => pm_i2 st (fun x y st' => N ls (.int (x >>> (y &&& 31)) :: st') S cn sn)
  | .iushr => pm_i2 st (fun x y st' => N ls (.int (x.toUInt32 >>> (y.toUInt32 &&& Int32.toUInt32 31)).toInt32 :: st') S cn sn)
  | .ladd => pm_l2 st (fun x y st' => N ls (.long (x + y) :: st') S cn sn)
  | .lsub => pm_l2 st (fun x y st' => N ls (.long (x - y) :: st') S cn sn)
  | .lmul => pm_l2 st (fun x y st' => N ls (.long (x * y) :: st') S cn sn)
  | .land => pm_l2 st (fun x y st' => N ls (.long (x &&& y) :: st') S cn sn)
  | .lor => pm_l2 st (fun x y st' => N ls (.long (x ||| y) :: st') S cn sn)
  | .ldiv => pm_l2 st (fun x y st' => ¬ y = 0 ∧ N ls (.long (x / y) :: st') S cn sn)
  | .lrem => pm_l2 st (fun x y st' => ¬ y = 0 ∧ N ls (.long (x - x / y * y) :: st') S cn sn)
  | .lneg => pm_l1 st (fun x st' => N ls (.long (-x) :: st') S cn sn)
  | .lshl => pm_li st (fun x y st' => N ls (.long (x <<< (y.toInt64 &&& 63)) :: st') S cn sn)
  | .lshr => pm_li st (fun x y st' => N ls (.long (x >>> (y.toInt64 &&& 63)) :: st') S cn sn)
  | .lcmp => pm_l2 st (fun x y st' => N ls (.int (lg_cmp x y) :: st') S cn sn)
  | .i2l => pm_i1 st (fun x st' => N ls (.long x.toInt64 :: st') S cn sn)
  | .l2i => pm_l1 st (fun x st' => N ls (.int x.toInt32 :: st') S cn sn)
  | .i2b => pm_i1 st (fun x st' => N ls (.int x.toInt8.toInt32 :: st') S cn sn)
  | .i2s => pm_i1 st (fun x st' => N ls (.int x.toInt16.toInt32 :: st') S cn sn)
  | .i2c => pm_i1 st (fun x st' => N ls (.int (x.toUInt32 % 65536).toInt32 :: st') S cn sn)
  | .dup => pm_t1 st (fun v st' => v.category = 1 ∧ N ls (v :: v :: st') S cn sn)
  | .pop => pm_t1 st (fun v st' => v.category = 1 ∧ N ls st' S cn sn)
  | .dup2 => pm_t1 st (fun v st' => pm_t1 st' (fun u st'' => v.category = 1 ∧ u.category = 1 ∧ N ls (v :: u :: v :: u :: st'') S cn sn))
  | .ifCond .eq _ => pm_u2 a (fun t f => pm_i1 st (fun x st' => pm_if (x = 0) (J t f ls st' S cn sn) (N ls st' S cn sn)))
  | .ifCond .ne _ => pm_u2 a (fun t f => pm_i1 st (fun x st' => pm_if (x = 0) (N ls st' S cn sn) (J t f ls st' S cn sn)))
  | .ifCond .lt _ => pm_u2 a (fun t f => pm_i1 st (fun x st' => pm_if (x < 0) (J t f ls st' S cn sn) (N ls st' S cn sn)))
  | .ifCond .ge _ => pm_u2 a (fun t f => pm_i1 st (fun x st' => pm_if (0 ≤ x) (J t f ls st' S cn sn) (N ls st' S cn sn)))
  | .ifCond .gt _ => pm_u2 a (fun t f => pm_i1 st (fun x st' => pm_if (0 < x) (J t f ls st' S cn sn) (N ls st' S cn sn)))
  | .ifCond .le _ => pm_u2 a (fun t f => pm_i1 st (fun x st' => pm_if (x ≤ 0) (J t f ls st' S cn sn) (N ls st' S cn sn)))
  | .if_icmp .eq _ => pm_u2 a (fun t f => pm_i2 st (fun x y st' => pm_if (x = y) (J t f ls st' S cn sn) (N ls st' S cn sn)))
  | .if_icmp .ne _ => pm_u2 a (fun t f => pm_i2 st (fun x y st' => pm_if (x = y) (N ls st' S cn sn) (J t f ls st' S cn sn)))
  | .if_icmp .lt _ => pm_u2 a (fun t f => pm_i2 st (fun x y st' => pm_if (x < y) (J t f ls st' S cn sn) (N ls st' S cn sn)))
  | .if_icmp .ge _ => pm_u2 a (fun t f => pm_i2 st (fun x y st' => pm_if (y ≤ x) (J t f ls st' S cn sn) (N ls st' S cn sn)))
  | .if_icmp .gt _ => pm_u2 a (fun t f => pm_i2 st (fun x y st' => pm_if (y < x) (J t f ls st' S cn sn) (N ls st' S cn sn)))
  | .if_icmp .le _ => pm_u2 a (fun t f => pm_i2 st (fun x y st' => pm_if (x ≤ y) (J t f ls st' S cn sn) (N ls st' S cn sn)))
  | .ifnull _ => pm_u2 a (fun t f => pm_t1 st (fun v st' => pm_oQ v (fun r => pm_if (r = none) (J t f ls st' S cn sn) (N ls st' S cn sn))))
  | .ifnonnull _ => pm_u2 a (fun t f => pm_t1 st (fun v st' => pm_oQ v (fun r => pm_if (r = none) (N ls st' S cn sn) (J t f ls st' S cn sn))))
  | .goto _ => pm_u2 a (fun t f => J t f ls st S cn sn)
  | .tableswitch _ _ _ _ => pm_i1 st (fun x st' => pm_sw x (fun t f => J t f ls st' S cn sn) a)
  | .lookupswitch _ _ => pm_i1 st (fun x st' => pm_sw x (fun t f => J t f ls st' S cn sn) a)
  | .getfield _ => (match a with
    | [c, k, f, _] => pm_p1 st (fun p st' => pm_k S p = c ∧ N ls (pm_gv f S p k :: st') S cn sn)
    | [x] => pm_ra st (fun i st' => i < 10 ∧ N ls (pm_sf x i :: st') S cn sn)
    | _ => False)
  | .putfield _ => pm_u5 a (fun c k f _ _ => match f with
    | 0 => pm_t1 st (fun v st1 => pm_oI v (fun x => pm_p1 st1 (fun p st' => pm_k S p = c ∧ N ls st' (pm_wI S p k x) cn sn)))
    | 1 => pm_t1 st (fun v st1 => pm_oI v (fun x => pm_p1 st1 (fun p st' => pm_k S p = c ∧ (x = 0 ∨ x = 1) ∧ N ls st' (pm_wI S p k x) cn sn)))
    | _ => pm_t1 st (fun v st1 => pm_oQ v (fun x => pm_p1 st1 (fun p st' => pm_k S p = c ∧ N ls st' (pm_wR S p k x) cn sn))))
  | .iaload => pm_ix st (fun j p st' => pm_k S p = 20 ∧ vp_in j (pm_z S p) ∧ N ls (.int (pm_i S p j.toNatClampNeg) :: st') S cn sn)
      (fun j p st' => (p = 100 ∧ vp_in j 7 ∧ N ls (.int (pm_above j.toNatClampNeg) :: st') S cn sn) ∨ (p = 101 ∧ vp_in j (pm_gL G) ∧ N ls (.int (pm_gx G j.toNatClampNeg) :: st') S cn sn))
  | .arraylength => pm_ra st (fun q st' => (q = 101 ∧ N ls (.int (Int32.ofNat (pm_gL G)) :: st') S cn sn) ∨ (20 ≤ q ∧ q < 30 ∧ N ls (.int (Int32.ofNat (pm_sl.getD (q - 20) 0)) :: st') S cn sn))
  | .baload => pm_ix st (fun j p st' => pm_k S p = 22 ∧ vp_in j (pm_z S p) ∧ N ls (.int (pm_i S p j.toNatClampNeg) :: st') S cn sn) (fun j q st' => 20 ≤ q ∧ q < 30 ∧ vp_in j (pm_sl.getD (q - 20) 0) ∧ N ls (.int ((pm_sb.getD (q - 20) []).getD j.toNatClampNeg 0) :: st') S cn sn)
  | .laload => pm_ix st (fun j p st' => pm_k S p = 21 ∧ vp_in j (pm_z S p) ∧ N ls (.long (pm_l S p j.toNatClampNeg) :: st') S cn sn) (fun _ _ _ => False)
  | .aaload => pm_u1 a (fun k => pm_ix st (fun j p st' => pm_k S p = k ∧ vp_in j (pm_z S p) ∧ N ls (va_rf (pm_r S p j.toNatClampNeg) :: st') S cn sn) (fun _ _ _ => False))
  | .iastore => pm_vx st (fun v j p st' => pm_oI v (fun x => pm_k S p = 20 ∧ vp_in j (pm_z S p) ∧ N ls st' (pm_wI S p j.toNatClampNeg x) cn sn))
  | .bastore => pm_vx st (fun v j p st' => pm_oI v (fun x => pm_k S p = 22 ∧ vp_in j (pm_z S p) ∧ (x = 0 ∨ x = 1) ∧ N ls st' (pm_wI S p j.toNatClampNeg x) cn sn))
  | .lastore => pm_vx st (fun v j p st' => pm_oL v (fun x => pm_k S p = 21 ∧ vp_in j (pm_z S p) ∧ N ls st' (pm_wL S p j.toNatClampNeg x) cn sn))
  | .aastore => pm_u2 a (fun k c => pm_vx st (fun v j p st' => pm_p1 [v] (fun q _ => pm_k S p = k ∧ pm_k S q = c ∧ vp_in j (pm_z S p) ∧ N ls st' (pm_wR S p j.toNatClampNeg (some q)) cn sn)))
  | .new _ => pm_u5 a (fun c _ z mc ms => cn + 1 ≤ mc ∧ sn + z ≤ ms ∧ N ls (.ref (pm_n S) :: st) (pm_nw S c 0) (cn + 1) (sn + z))
  | .newarray _ => pm_u5 a (fun k z _ mc ms => pm_t1 st (fun v st' => v = w ∧ cn + 1 ≤ mc ∧ sn + z ≤ ms ∧ N ls (.ref (pm_n S) :: st') (pm_nw S k z) (cn + 1) (sn + z)))
  | .anewarray _ => pm_u5 a (fun k z _ mc ms => pm_t1 st (fun v st' => v = w ∧ cn + 1 ≤ mc ∧ sn + z ≤ ms ∧ N ls (.ref (pm_n S) :: st') (pm_nw S k z) (cn + 1) (sn + z)))
  | .invokevirtual _ => (match a with
    | [j, _, np, rk] => pm_sp np st (fun as st1 => pm_ra st1 (fun i rest => i < 10 ∧ 0 < d ∧ pm_sm rest ∧ pm_cc G d j rk (.retAddr i :: as) rest S (fun st' S' => N ls st' S' cn sn)))
    | [j, c, _, np, rk] => pm_sp np st (fun as st1 => pm_p1 st1 (fun p rest => 0 < d ∧ pm_k S p = c ∧ pm_sm rest ∧ pm_cc G d j rk (.ref p :: as) rest S (fun st' S' => N ls st' S' cn sn)))
    | [j, c, _, np, rk, mc', ms', mc, ms] => pm_sp np st (fun as st1 => pm_p1 st1 (fun p rest => 0 < d ∧ pm_k S p = c ∧ pm_sm rest ∧ cn + mc' ≤ mc ∧ sn + ms' ≤ ms ∧ pm_cc G d j rk (.ref p :: as) rest S (fun st' S' => N ls st' S' (cn + mc') (sn + ms'))))
    | _ => False)
  | .invokespecial _ => (match a with
    | [_] => pm_p1 st (fun p rest => 0 < d ∧ pm_sm rest ∧ N ls rest S cn sn)
    | [j, c, _, np, mc', ms', mc, ms] => pm_sp np st (fun as st1 => pm_p1 st1 (fun p rest => 0 < d ∧ pm_k S p = c ∧ pm_sm rest ∧ cn + mc' ≤ mc ∧ sn + ms' ≤ ms ∧ pm_cc G d j 0 (.ref p :: as) rest S (fun st' S' => N ls st' S' (cn + mc') (sn + ms'))))
    | _ => False)
  | .invokestatic _ => (match a with
    | [91, _] => pm_i2 st (fun x y st' => 0 < d ∧ pm_sm st' ∧ N ls (.int (if y < x then y else x) :: st') S cn sn)
    | [92, _] => pm_l2 st (fun x y st' => 0 < d ∧ pm_sm st' ∧ N ls (.long (if y < x then y else x) :: st') S cn sn)
    | [93, _] => pm_i1 st (fun x st' => 0 < d ∧ pm_sm st' ∧ N ls (.int (if 0 ≤ x then x else 0 - x) :: st') S cn sn)
    | [94, _] => pm_l1 st (fun x st' => 0 < d ∧ pm_sm st' ∧ N ls (.long (if 0 < x then x else -x) :: st') S cn sn)
    | [95, _] => pm_sp 5 st (fun as rest => match as with
      | [.ref p, .int i, .ref q, .int j, .int n] => 0 < d ∧ pm_sm rest ∧ pm_k S p = 21 ∧ pm_k S q = 21 ∧ ¬ i < 0 ∧ ¬ j < 0 ∧ ¬ n < 0 ∧ i.toNatClampNeg + n.toNatClampNeg ≤ pm_z S p ∧ j.toNatClampNeg + n.toNatClampNeg ≤ pm_z S q ∧ N ls rest (pm_wM S q (va_cpy (pm_l S p) (pm_l S q) i.toNatClampNeg j.toNatClampNeg n.toNatClampNeg)) cn sn
      | _ => False)
    | [j, _, np, rk] => pm_sp np st (fun as rest => 0 < d ∧ pm_sm rest ∧ pm_cc G d j rk as rest S (fun st' S' => N ls st' S' cn sn))
    | _ => False)
  | .ireturn => pm_u1 a (fun t => pm_i1 st (fun x st' => st' = [] ∧ (t = 0 ∨ x = 0 ∨ x = 1 ∨ (t = 3 ∧ narrow .char (.int x) = .int x)) ∧ Q (some (.int x)) S))
  | .lreturn => pm_l1 st (fun x st' => st' = [] ∧ Q (some (.long x)) S)
  | .areturn => pm_t1 st (fun v st' => st' = [] ∧ pm_oQ v (fun r => Q (some (va_rf r)) S))
  | .return_ => st = [] ∧ Q none S
  | _ => False
