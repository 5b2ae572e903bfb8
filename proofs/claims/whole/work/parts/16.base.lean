theorem pm_pl_ok : ∀ j, j < 265 → plainName (pm_y j).cls = true := by decide +kernel
def pm_ndb (args : List Value) : Bool := args.all (fun u => match u with
  | .double _ => false
  | _ => true)
theorem pm_ndb_ok {args : List Value} (h : pm_ndb args = true) : ∀ u ∈ args, ∀ b, u ≠ .double b := by
  intro u hu b e
  subst e
  have := List.all_eq_true.mp h _ hu
  cases this
section PMB
variable {G : pm_G} {d : Nat} {args : List Value} {S : pm_S}
/-- a method's contract, out of its blocks -/
theorem pm_goI {q : Int32 → pm_S → Prop} (j n : Nat) {T : pm_Tb} (hT : pm_tok j T = true) (hj : j < 265) (hl : (lg_sl (args.map (pm_v G))).length ≤ pm_mL j) (hdb : pm_ndb args = true) (h : pm_wb G d j (pm_QI q) (pm_lk T) n 0 0 (pm_en (pm_mL j) args) [] S 0 0) : pm_CI G d j args S q :=
  pm_start (Nat.lt_of_lt_of_le hj (by decide)) (pm_pl_ok j hj) hl (pm_ndb_ok hdb) (pm_wb_ok hT n 0 0 _ _ _ _ _ h)
theorem pm_goL {q : Int64 → pm_S → Prop} (j n : Nat) {T : pm_Tb} (hT : pm_tok j T = true) (hj : j < 265) (hl : (lg_sl (args.map (pm_v G))).length ≤ pm_mL j) (hdb : pm_ndb args = true) (h : pm_wb G d j (pm_QL q) (pm_lk T) n 0 0 (pm_en (pm_mL j) args) [] S 0 0) : pm_CL G d j args S q :=
  pm_start (Nat.lt_of_lt_of_le hj (by decide)) (pm_pl_ok j hj) hl (pm_ndb_ok hdb) (pm_wb_ok hT n 0 0 _ _ _ _ _ h)
theorem pm_goV {q : pm_S → Prop} (j n : Nat) {T : pm_Tb} (hT : pm_tok j T = true) (hj : j < 265) (hl : (lg_sl (args.map (pm_v G))).length ≤ pm_mL j) (hdb : pm_ndb args = true) (h : pm_wb G d j (pm_QV q) (pm_lk T) n 0 0 (pm_en (pm_mL j) args) [] S 0 0) : pm_CV G d j args S q :=
  pm_start (Nat.lt_of_lt_of_le hj (by decide)) (pm_pl_ok j hj) hl (pm_ndb_ok hdb) (pm_wb_ok hT n 0 0 _ _ _ _ _ h)
theorem pm_goR {q : Option Nat → pm_S → Prop} (j n : Nat) {T : pm_Tb} (hT : pm_tok j T = true) (hj : j < 265) (hl : (lg_sl (args.map (pm_v G))).length ≤ pm_mL j) (hdb : pm_ndb args = true) (h : pm_wb G d j (pm_QR q) (pm_lk T) n 0 0 (pm_en (pm_mL j) args) [] S 0 0) : pm_CR G d j args S q :=
  pm_start (Nat.lt_of_lt_of_le hj (by decide)) (pm_pl_ok j hj) hl (pm_ndb_ok hdb) (pm_wb_ok hT n 0 0 _ _ _ _ _ h)
end PMB
