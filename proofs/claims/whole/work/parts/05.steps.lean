def pm_rin : Option Value → Instr
  | none => .return_
  | some (.int _) => .ireturn
  | some (.long _) => .lreturn
  | some _ => .areturn
def pm_rok (mi : Nat) : Option Value → Prop
  | none => pm_rt mi = none
  | some (.int x) => ∃ ty, pm_rt mi = some ty ∧ narrow ty (.int x) = .int x
  | some (.long _) => pm_rt mi = some .long
  | some v => (∃ rt, pm_rt mi = some rt ∧ ((∃ n, rt = .object n) ∨ ∃ t, rt = .array t)) ∧ (v = .null ∨ ∃ q, v = .ref q)
/-- what holds all through a method's run: the machine, the tables, the room; and that its return is an end with Q -/
def pm_M (G : pm_G) (d mi : Nat) (Q : pm_Q) (R : Room) (p : Program) (e : Env) (s : State) (m : MethodId) (args : Array Value) (below : List Frame) (meth : Method) (c : Code) (Z : State → Prop) : Prop :=
  (p.tables.exec = Jvm.exec ∧ c.code = pm_b mi ∧ c.maxLocals = pm_mL mi ∧ s.vm.findClass (pm_cn (pm_oc mi)) = some m.cls ∧ (∀ w ∈ pm_tbl, w.before args s = true) ∧ ((pm_y mi).name = "<init>" → meth.name = "<init>")) ∧
  (pm_C G s ∧ pm_O G s.heap ∧ pm_gb G ≤ s.heap.size) ∧ (d ≤ R.frames ∧ 64 * d ≤ R.locals ∧ pm_mc mi ≤ R.cells ∧ pm_ms mi ≤ R.slots) ∧
  ∀ (v : Option Value) (S : pm_S) (H : Heap) (locs : List Loc) (cn sn pc : Nat) (la : Array Slot), Q v S → pm_R G S H → va_S (pm_A G) s.heap H locs → cn ≤ pm_mc mi → sn ≤ pm_ms mi → pm_rok mi v → decode (pm_b mi) pc = .ok (pm_rin v, 1) →
    W p (pm_gl G) e R s m args below meth c H locs cn sn Z (F0 m pc la ((v.map (pm_v G)).toList))
/-- from this point of method mi, with these locals, this stack and this heap, the method comes back with Q -/
def pm_W (G : pm_G) (d mi : Nat) (Q : pm_Q) (pc : Nat) (ls st : List Value) (S : pm_S) (cn sn : Nat) : Prop :=
  ∀ (R : Room) (p : Program) (e : Env) (s : State) (m : MethodId) (args : Array Value) (below : List Frame) (meth : Method) (c : Code) (Z : State → Prop) (H : Heap) (locs : List Loc) (la : Array Slot),
    pm_M G d mi Q R p e s m args below meth c Z → pm_R G S H → va_S (pm_A G) s.heap H locs → pm_L G (pm_mL mi) ls la → cn ≤ pm_mc mi → sn ≤ pm_ms mi →
    W p (pm_gl G) e R s m args below meth c H locs cn sn Z (F0 m pc la (st.map (pm_v G)))
section PMS
variable {G : pm_G} {d mi : Nat} {Q : pm_Q} {pc : Nat} {ls st : List Value} {S : pm_S} {cn sn : Nat}
theorem pm_s_iadd {x y : Int32} (hd : decode (pm_b mi) pc = .ok (.iadd, 1)) (h : pm_W G d mi Q (pc + 1) ls (.int (x + y) :: st) S cn sn) : pm_W G d mi Q pc ls (.int y :: .int x :: st) S cn sn :=
  fun R p e s m args below meth c Z H locs la hM hR hS hL hcn hsn => lv_iadd hM.1.1 hM.1.2.1 hd (h R p e s m args below meth c Z H locs la hM hR hS hL hcn hsn)
theorem pm_s_isub {x y : Int32} (hd : decode (pm_b mi) pc = .ok (.isub, 1)) (h : pm_W G d mi Q (pc + 1) ls (.int (x - y) :: st) S cn sn) : pm_W G d mi Q pc ls (.int y :: .int x :: st) S cn sn :=
  fun R p e s m args below meth c Z H locs la hM hR hS hL hcn hsn => lv_isub hM.1.1 hM.1.2.1 hd (h R p e s m args below meth c Z H locs la hM hR hS hL hcn hsn)
theorem pm_s_imul {x y : Int32} (hd : decode (pm_b mi) pc = .ok (.imul, 1)) (h : pm_W G d mi Q (pc + 1) ls (.int (x * y) :: st) S cn sn) : pm_W G d mi Q pc ls (.int y :: .int x :: st) S cn sn :=
  fun R p e s m args below meth c Z H locs la hM hR hS hL hcn hsn => lv_imul hM.1.1 hM.1.2.1 hd (h R p e s m args below meth c Z H locs la hM hR hS hL hcn hsn)
theorem pm_s_iand {x y : Int32} (hd : decode (pm_b mi) pc = .ok (.iand, 1)) (h : pm_W G d mi Q (pc + 1) ls (.int (x &&& y) :: st) S cn sn) : pm_W G d mi Q pc ls (.int y :: .int x :: st) S cn sn :=
  fun R p e s m args below meth c Z H locs la hM hR hS hL hcn hsn => lv_iand hM.1.1 hM.1.2.1 hd (h R p e s m args below meth c Z H locs la hM hR hS hL hcn hsn)
theorem pm_s_ior {x y : Int32} (hd : decode (pm_b mi) pc = .ok (.ior, 1)) (h : pm_W G d mi Q (pc + 1) ls (.int (x ||| y) :: st) S cn sn) : pm_W G d mi Q pc ls (.int y :: .int x :: st) S cn sn :=
  fun R p e s m args below meth c Z H locs la hM hR hS hL hcn hsn => lv_ior hM.1.1 hM.1.2.1 hd (h R p e s m args below meth c Z H locs la hM hR hS hL hcn hsn)
theorem pm_s_ixor {x y : Int32} (hd : decode (pm_b mi) pc = .ok (.ixor, 1)) (h : pm_W G d mi Q (pc + 1) ls (.int (x ^^^ y) :: st) S cn sn) : pm_W G d mi Q pc ls (.int y :: .int x :: st) S cn sn :=
  fun R p e s m args below meth c Z H locs la hM hR hS hL hcn hsn => lv_ixor hM.1.1 hM.1.2.1 hd (h R p e s m args below meth c Z H locs la hM hR hS hL hcn hsn)
theorem pm_s_ishl {x y : Int32} (hd : decode (pm_b mi) pc = .ok (.ishl, 1)) (h : pm_W G d mi Q (pc + 1) ls (.int (x <<< (y &&& 31)) :: st) S cn sn) : pm_W G d mi Q pc ls (.int y :: .int x :: st) S cn sn :=
  fun R p e s m args below meth c Z H locs la hM hR hS hL hcn hsn => lv_ishl hM.1.1 hM.1.2.1 hd (h R p e s m args below meth c Z H locs la hM hR hS hL hcn hsn)
theorem pm_s_ishr {x y : Int32} (hd : decode (pm_b mi) pc = .ok (.ishr, 1)) (h : pm_W G d mi Q (pc + 1) ls (.int (x >>> (y &&& 31)) :: st) S cn sn) : pm_W G d mi Q pc ls (.int y :: .int x :: st) S cn sn :=
  fun R p e s m args below meth c Z H locs la hM hR hS hL hcn hsn => lv_ishr hM.1.1 hM.1.2.1 hd (h R p e s m args below meth c Z H locs la hM hR hS hL hcn hsn)
theorem pm_s_iushr {x y : Int32} (hd : decode (pm_b mi) pc = .ok (.iushr, 1)) (h : pm_W G d mi Q (pc + 1) ls (.int (x.toUInt32 >>> (y.toUInt32 &&& Int32.toUInt32 31)).toInt32 :: st) S cn sn) : pm_W G d mi Q pc ls (.int y :: .int x :: st) S cn sn :=
  fun R p e s m args below meth c Z H locs la hM hR hS hL hcn hsn => lv_iushr hM.1.1 hM.1.2.1 hd rfl (h R p e s m args below meth c Z H locs la hM hR hS hL hcn hsn)
theorem pm_s_idiv {x y : Int32} (hd : decode (pm_b mi) pc = .ok (.idiv, 1)) (hn : ¬ y = 0) (h : pm_W G d mi Q (pc + 1) ls (.int (x / y) :: st) S cn sn) : pm_W G d mi Q pc ls (.int y :: .int x :: st) S cn sn :=
  fun R p e s m args below meth c Z H locs la hM hR hS hL hcn hsn => lv_idiv hM.1.1 hM.1.2.1 hd hn (h R p e s m args below meth c Z H locs la hM hR hS hL hcn hsn)
theorem pm_s_irem {x y : Int32} (hd : decode (pm_b mi) pc = .ok (.irem, 1)) (hn : ¬ y = 0) (h : pm_W G d mi Q (pc + 1) ls (.int (x - x / y * y) :: st) S cn sn) : pm_W G d mi Q pc ls (.int y :: .int x :: st) S cn sn :=
  fun R p e s m args below meth c Z H locs la hM hR hS hL hcn hsn => lv_irem hM.1.1 hM.1.2.1 hd hn (h R p e s m args below meth c Z H locs la hM hR hS hL hcn hsn)
theorem pm_s_ladd {x y : Int64} (hd : decode (pm_b mi) pc = .ok (.ladd, 1)) (h : pm_W G d mi Q (pc + 1) ls (.long (x + y) :: st) S cn sn) : pm_W G d mi Q pc ls (.long y :: .long x :: st) S cn sn :=
  fun R p e s m args below meth c Z H locs la hM hR hS hL hcn hsn => lv_ladd hM.1.1 hM.1.2.1 hd (h R p e s m args below meth c Z H locs la hM hR hS hL hcn hsn)
theorem pm_s_lsub {x y : Int64} (hd : decode (pm_b mi) pc = .ok (.lsub, 1)) (h : pm_W G d mi Q (pc + 1) ls (.long (x - y) :: st) S cn sn) : pm_W G d mi Q pc ls (.long y :: .long x :: st) S cn sn :=
  fun R p e s m args below meth c Z H locs la hM hR hS hL hcn hsn => lv_lsub hM.1.1 hM.1.2.1 hd (h R p e s m args below meth c Z H locs la hM hR hS hL hcn hsn)
theorem pm_s_lmul {x y : Int64} (hd : decode (pm_b mi) pc = .ok (.lmul, 1)) (h : pm_W G d mi Q (pc + 1) ls (.long (x * y) :: st) S cn sn) : pm_W G d mi Q pc ls (.long y :: .long x :: st) S cn sn :=
  fun R p e s m args below meth c Z H locs la hM hR hS hL hcn hsn => lv_lmul hM.1.1 hM.1.2.1 hd (h R p e s m args below meth c Z H locs la hM hR hS hL hcn hsn)
theorem pm_s_land {x y : Int64} (hd : decode (pm_b mi) pc = .ok (.land, 1)) (h : pm_W G d mi Q (pc + 1) ls (.long (x &&& y) :: st) S cn sn) : pm_W G d mi Q pc ls (.long y :: .long x :: st) S cn sn :=
  fun R p e s m args below meth c Z H locs la hM hR hS hL hcn hsn => lv_land hM.1.1 hM.1.2.1 hd (h R p e s m args below meth c Z H locs la hM hR hS hL hcn hsn)
theorem pm_s_lor {x y : Int64} (hd : decode (pm_b mi) pc = .ok (.lor, 1)) (h : pm_W G d mi Q (pc + 1) ls (.long (x ||| y) :: st) S cn sn) : pm_W G d mi Q pc ls (.long y :: .long x :: st) S cn sn :=
  fun R p e s m args below meth c Z H locs la hM hR hS hL hcn hsn => lv_lor hM.1.1 hM.1.2.1 hd (h R p e s m args below meth c Z H locs la hM hR hS hL hcn hsn)
theorem pm_s_ldiv {x y : Int64} (hd : decode (pm_b mi) pc = .ok (.ldiv, 1)) (hn : ¬ y = 0) (h : pm_W G d mi Q (pc + 1) ls (.long (x / y) :: st) S cn sn) : pm_W G d mi Q pc ls (.long y :: .long x :: st) S cn sn :=
  fun R p e s m args below meth c Z H locs la hM hR hS hL hcn hsn => lv_ldiv hM.1.1 hM.1.2.1 hd hn (h R p e s m args below meth c Z H locs la hM hR hS hL hcn hsn)
theorem pm_s_lrem {x y : Int64} (hd : decode (pm_b mi) pc = .ok (.lrem, 1)) (hn : ¬ y = 0) (h : pm_W G d mi Q (pc + 1) ls (.long (x - x / y * y) :: st) S cn sn) : pm_W G d mi Q pc ls (.long y :: .long x :: st) S cn sn :=
  fun R p e s m args below meth c Z H locs la hM hR hS hL hcn hsn => lv_lrem hM.1.1 hM.1.2.1 hd hn (h R p e s m args below meth c Z H locs la hM hR hS hL hcn hsn)
theorem pm_s_lcmp {x y : Int64} (hd : decode (pm_b mi) pc = .ok (.lcmp, 1)) (h : pm_W G d mi Q (pc + 1) ls (.int (lg_cmp x y) :: st) S cn sn) : pm_W G d mi Q pc ls (.long y :: .long x :: st) S cn sn :=
  fun R p e s m args below meth c Z H locs la hM hR hS hL hcn hsn => W.lcmp hM.1.1 hM.1.2.1 hd (h R p e s m args below meth c Z H locs la hM hR hS hL hcn hsn)
theorem pm_s_lshl {x : Int64} {y : Int32} (hd : decode (pm_b mi) pc = .ok (.lshl, 1)) (h : pm_W G d mi Q (pc + 1) ls (.long (x <<< (y.toInt64 &&& 63)) :: st) S cn sn) : pm_W G d mi Q pc ls (.int y :: .long x :: st) S cn sn :=
  fun R p e s m args below meth c Z H locs la hM hR hS hL hcn hsn => lv_lshl hM.1.1 hM.1.2.1 hd rfl (h R p e s m args below meth c Z H locs la hM hR hS hL hcn hsn)
theorem pm_s_lshr {x : Int64} {y : Int32} (hd : decode (pm_b mi) pc = .ok (.lshr, 1)) (h : pm_W G d mi Q (pc + 1) ls (.long (x >>> (y.toInt64 &&& 63)) :: st) S cn sn) : pm_W G d mi Q pc ls (.int y :: .long x :: st) S cn sn :=
  fun R p e s m args below meth c Z H locs la hM hR hS hL hcn hsn => lv_lshr hM.1.1 hM.1.2.1 hd rfl (h R p e s m args below meth c Z H locs la hM hR hS hL hcn hsn)
theorem pm_s_ineg {x : Int32} (hd : decode (pm_b mi) pc = .ok (.ineg, 1)) (h : pm_W G d mi Q (pc + 1) ls (.int (-x) :: st) S cn sn) : pm_W G d mi Q pc ls (.int x :: st) S cn sn :=
  fun R p e s m args below meth c Z H locs la hM hR hS hL hcn hsn => lv_ineg hM.1.1 hM.1.2.1 hd (h R p e s m args below meth c Z H locs la hM hR hS hL hcn hsn)
theorem pm_s_lneg {x : Int64} (hd : decode (pm_b mi) pc = .ok (.lneg, 1)) (h : pm_W G d mi Q (pc + 1) ls (.long (-x) :: st) S cn sn) : pm_W G d mi Q pc ls (.long x :: st) S cn sn :=
  fun R p e s m args below meth c Z H locs la hM hR hS hL hcn hsn => lv_lneg hM.1.1 hM.1.2.1 hd (h R p e s m args below meth c Z H locs la hM hR hS hL hcn hsn)
theorem pm_s_i2l {x : Int32} (hd : decode (pm_b mi) pc = .ok (.i2l, 1)) (h : pm_W G d mi Q (pc + 1) ls (.long x.toInt64 :: st) S cn sn) : pm_W G d mi Q pc ls (.int x :: st) S cn sn :=
  fun R p e s m args below meth c Z H locs la hM hR hS hL hcn hsn => lv_i2l hM.1.1 hM.1.2.1 hd rfl (h R p e s m args below meth c Z H locs la hM hR hS hL hcn hsn)
theorem pm_s_l2i {x : Int64} (hd : decode (pm_b mi) pc = .ok (.l2i, 1)) (h : pm_W G d mi Q (pc + 1) ls (.int x.toInt32 :: st) S cn sn) : pm_W G d mi Q pc ls (.long x :: st) S cn sn :=
  fun R p e s m args below meth c Z H locs la hM hR hS hL hcn hsn => lv_l2i hM.1.1 hM.1.2.1 hd rfl (h R p e s m args below meth c Z H locs la hM hR hS hL hcn hsn)
theorem pm_s_i2b {x : Int32} (hd : decode (pm_b mi) pc = .ok (.i2b, 1)) (h : pm_W G d mi Q (pc + 1) ls (.int x.toInt8.toInt32 :: st) S cn sn) : pm_W G d mi Q pc ls (.int x :: st) S cn sn :=
  fun R p e s m args below meth c Z H locs la hM hR hS hL hcn hsn => lv_i2b hM.1.1 hM.1.2.1 hd rfl (h R p e s m args below meth c Z H locs la hM hR hS hL hcn hsn)
theorem pm_s_i2s {x : Int32} (hd : decode (pm_b mi) pc = .ok (.i2s, 1)) (h : pm_W G d mi Q (pc + 1) ls (.int x.toInt16.toInt32 :: st) S cn sn) : pm_W G d mi Q pc ls (.int x :: st) S cn sn :=
  fun R p e s m args below meth c Z H locs la hM hR hS hL hcn hsn => lv_i2s hM.1.1 hM.1.2.1 hd rfl (h R p e s m args below meth c Z H locs la hM hR hS hL hcn hsn)
theorem pm_s_null {u : Unit} (hd : decode (pm_b mi) pc = .ok (.aconst_null, 1)) (h : pm_W G d mi Q (pc + 1) ls (.null :: st) S cn sn) : pm_W G d mi Q pc ls (st) S cn sn :=
  fun R p e s m args below meth c Z H locs la hM hR hS hL hcn hsn => lv_null hM.1.1 hM.1.2.1 hd (h R p e s m args below meth c Z H locs la hM hR hS hL hcn hsn)
theorem pm_s_iconst {n : Int} {v : Int32} (hd : decode (pm_b mi) pc = .ok (.iconst n, 1)) (hv : Int32.ofInt n = v) (h : pm_W G d mi Q (pc + 1) ls (.int v :: st) S cn sn) : pm_W G d mi Q pc ls (st) S cn sn :=
  fun R p e s m args below meth c Z H locs la hM hR hS hL hcn hsn => lv_iconst hM.1.1 hM.1.2.1 hd hv (h R p e s m args below meth c Z H locs la hM hR hS hL hcn hsn)
theorem pm_s_bipush {n : Int} {v : Int32} (hd : decode (pm_b mi) pc = .ok (.bipush n, 2)) (hv : (Int8.ofInt n).toInt32 = v) (h : pm_W G d mi Q (pc + 2) ls (.int v :: st) S cn sn) : pm_W G d mi Q pc ls (st) S cn sn :=
  fun R p e s m args below meth c Z H locs la hM hR hS hL hcn hsn => lv_bipush hM.1.1 hM.1.2.1 hd hv (h R p e s m args below meth c Z H locs la hM hR hS hL hcn hsn)
theorem pm_s_sipush {n : Int} {v : Int32} (hd : decode (pm_b mi) pc = .ok (.sipush n, 3)) (hv : (Int16.ofInt n).toInt32 = v) (h : pm_W G d mi Q (pc + 3) ls (.int v :: st) S cn sn) : pm_W G d mi Q pc ls (st) S cn sn :=
  fun R p e s m args below meth c Z H locs la hM hR hS hL hcn hsn => lv_sipush hM.1.1 hM.1.2.1 hd hv (h R p e s m args below meth c Z H locs la hM hR hS hL hcn hsn)
theorem pm_s_lconst {n : Fin 2} {v : Int64} (hd : decode (pm_b mi) pc = .ok (.lconst n, 1)) (hv : Int64.ofNat (n : Nat) = v) (h : pm_W G d mi Q (pc + 1) ls (.long v :: st) S cn sn) : pm_W G d mi Q pc ls (st) S cn sn :=
  fun R p e s m args below meth c Z H locs la hM hR hS hL hcn hsn => lv_lconst hM.1.1 hM.1.2.1 hd hv (h R p e s m args below meth c Z H locs la hM hR hS hL hcn hsn)
theorem pm_s_iload {k : Nat} {x : Int32} (hd : decode (pm_b mi) pc = .ok (.iload k, 2)) (hk : pm_ld ls k = .int x) (h : pm_W G d mi Q (pc + 2) ls (.int x :: st) S cn sn) : pm_W G d mi Q pc ls (st) S cn sn :=
  fun R p e s m args below meth c Z H locs la hM hR hS hL hcn hsn => lv_iload hM.1.1 hM.1.2.1 hd (hL.at hk rfl) (h R p e s m args below meth c Z H locs la hM hR hS hL hcn hsn)
theorem pm_s_iload_n {n : Fin 4} {k : Nat} {x : Int32} (hd : decode (pm_b mi) pc = .ok (.iload_n n, 1)) (hn : (n : Nat) = k) (hk : pm_ld ls k = .int x) (h : pm_W G d mi Q (pc + 1) ls (.int x :: st) S cn sn) : pm_W G d mi Q pc ls (st) S cn sn :=
  fun R p e s m args below meth c Z H locs la hM hR hS hL hcn hsn => lv_iload_n hM.1.1 hM.1.2.1 hd hn (hL.at hk rfl) (h R p e s m args below meth c Z H locs la hM hR hS hL hcn hsn)
theorem pm_s_lload {k : Nat} {x : Int64} (hd : decode (pm_b mi) pc = .ok (.lload k, 2)) (hk : pm_ld ls k = .long x) (h : pm_W G d mi Q (pc + 2) ls (.long x :: st) S cn sn) : pm_W G d mi Q pc ls (st) S cn sn :=
  fun R p e s m args below meth c Z H locs la hM hR hS hL hcn hsn => lv_lload hM.1.1 hM.1.2.1 hd (hL.at hk rfl) (h R p e s m args below meth c Z H locs la hM hR hS hL hcn hsn)
theorem pm_s_lload_n {n : Fin 4} {k : Nat} {x : Int64} (hd : decode (pm_b mi) pc = .ok (.lload_n n, 1)) (hn : (n : Nat) = k) (hk : pm_ld ls k = .long x) (h : pm_W G d mi Q (pc + 1) ls (.long x :: st) S cn sn) : pm_W G d mi Q pc ls (st) S cn sn :=
  fun R p e s m args below meth c Z H locs la hM hR hS hL hcn hsn => lv_lload_n hM.1.1 hM.1.2.1 hd hn (hL.at hk rfl) (h R p e s m args below meth c Z H locs la hM hR hS hL hcn hsn)
theorem pm_s_aload {k : Nat} {q : Nat} (hd : decode (pm_b mi) pc = .ok (.aload k, 2)) (hk : pm_ld ls k = .ref q) (h : pm_W G d mi Q (pc + 2) ls (.ref q :: st) S cn sn) : pm_W G d mi Q pc ls (st) S cn sn :=
  fun R p e s m args below meth c Z H locs la hM hR hS hL hcn hsn => lv_aload hM.1.1 hM.1.2.1 hd (hL.at hk rfl) (h R p e s m args below meth c Z H locs la hM hR hS hL hcn hsn)
theorem pm_s_aload_n {n : Fin 4} {k : Nat} {q : Nat} (hd : decode (pm_b mi) pc = .ok (.aload_n n, 1)) (hn : (n : Nat) = k) (hk : pm_ld ls k = .ref q) (h : pm_W G d mi Q (pc + 1) ls (.ref q :: st) S cn sn) : pm_W G d mi Q pc ls (st) S cn sn :=
  fun R p e s m args below meth c Z H locs la hM hR hS hL hcn hsn => lv_aload_n hM.1.1 hM.1.2.1 hd hn (hL.at hk rfl) (h R p e s m args below meth c Z H locs la hM hR hS hL hcn hsn)
theorem pm_s_aloadT {k : Nat} {q : Nat} (hd : decode (pm_b mi) pc = .ok (.aload k, 2)) (hk : pm_ld ls k = .retAddr q) (h : pm_W G d mi Q (pc + 2) ls (.retAddr q :: st) S cn sn) : pm_W G d mi Q pc ls (st) S cn sn :=
  fun R p e s m args below meth c Z H locs la hM hR hS hL hcn hsn => lv_aload hM.1.1 hM.1.2.1 hd (hL.at hk rfl) (h R p e s m args below meth c Z H locs la hM hR hS hL hcn hsn)
theorem pm_s_aload_nT {n : Fin 4} {k : Nat} {q : Nat} (hd : decode (pm_b mi) pc = .ok (.aload_n n, 1)) (hn : (n : Nat) = k) (hk : pm_ld ls k = .retAddr q) (h : pm_W G d mi Q (pc + 1) ls (.retAddr q :: st) S cn sn) : pm_W G d mi Q pc ls (st) S cn sn :=
  fun R p e s m args below meth c Z H locs la hM hR hS hL hcn hsn => lv_aload_n hM.1.1 hM.1.2.1 hd hn (hL.at hk rfl) (h R p e s m args below meth c Z H locs la hM hR hS hL hcn hsn)
theorem pm_s_aloadN {k : Nat} {u : Unit} (hd : decode (pm_b mi) pc = .ok (.aload k, 2)) (hk : pm_ld ls k = .null) (h : pm_W G d mi Q (pc + 2) ls (.null :: st) S cn sn) : pm_W G d mi Q pc ls (st) S cn sn :=
  fun R p e s m args below meth c Z H locs la hM hR hS hL hcn hsn => lv_aloadN hM.1.1 hM.1.2.1 hd (hL.at hk rfl) (h R p e s m args below meth c Z H locs la hM hR hS hL hcn hsn)
theorem pm_s_aload_nN {n : Fin 4} {k : Nat} {u : Unit} (hd : decode (pm_b mi) pc = .ok (.aload_n n, 1)) (hn : (n : Nat) = k) (hk : pm_ld ls k = .null) (h : pm_W G d mi Q (pc + 1) ls (.null :: st) S cn sn) : pm_W G d mi Q pc ls (st) S cn sn :=
  fun R p e s m args below meth c Z H locs la hM hR hS hL hcn hsn => lv_aload_nN hM.1.1 hM.1.2.1 hd hn (hL.at hk rfl) (h R p e s m args below meth c Z H locs la hM hR hS hL hcn hsn)
theorem pm_s_istore {k : Nat} {x : Int32} (hd : decode (pm_b mi) pc = .ok (.istore k, 2)) (hk : k < pm_mL mi) (h : pm_W G d mi Q (pc + 2) (pm_st1 ls k (.int x)) st S cn sn) : pm_W G d mi Q pc ls (.int x :: st) S cn sn :=
  fun R p e s m args below meth c Z H locs la hM hR hS hL hcn hsn => lv_istore hM.1.1 hM.1.2.1 hd hL.has hk rfl (fun la hl => h R p e s m args below meth c Z H locs la hM hR hS (pm_L.st1 (w := .int x) hl) hcn hsn)
theorem pm_s_istore_n {n : Fin 4} {k : Nat} {x : Int32} (hd : decode (pm_b mi) pc = .ok (.istore_n n, 1)) (hn : (n : Nat) = k) (hk : k < pm_mL mi) (h : pm_W G d mi Q (pc + 1) (pm_st1 ls k (.int x)) st S cn sn) : pm_W G d mi Q pc ls (.int x :: st) S cn sn :=
  fun R p e s m args below meth c Z H locs la hM hR hS hL hcn hsn => lv_istore_n hM.1.1 hM.1.2.1 hd hn hL.has hk rfl (fun la hl => h R p e s m args below meth c Z H locs la hM hR hS (pm_L.st1 (w := .int x) hl) hcn hsn)
theorem pm_s_lstore {k : Nat} {x : Int64} (hd : decode (pm_b mi) pc = .ok (.lstore k, 2)) (hk : k + 1 < pm_mL mi) (h : pm_W G d mi Q (pc + 2) (pm_st2 ls k (.long x)) st S cn sn) : pm_W G d mi Q pc ls (.long x :: st) S cn sn :=
  fun R p e s m args below meth c Z H locs la hM hR hS hL hcn hsn => lv_lstore hM.1.1 hM.1.2.1 hd hL.has hk rfl (fun la hl => h R p e s m args below meth c Z H locs la hM hR hS (pm_L.st2 hl) hcn hsn)
theorem pm_s_lstore_n {n : Fin 4} {k : Nat} {x : Int64} (hd : decode (pm_b mi) pc = .ok (.lstore_n n, 1)) (hn : (n : Nat) = k) (hk : k + 1 < pm_mL mi) (h : pm_W G d mi Q (pc + 1) (pm_st2 ls k (.long x)) st S cn sn) : pm_W G d mi Q pc ls (.long x :: st) S cn sn :=
  fun R p e s m args below meth c Z H locs la hM hR hS hL hcn hsn => lv_lstore_n hM.1.1 hM.1.2.1 hd hn hL.has hk rfl (fun la hl => h R p e s m args below meth c Z H locs la hM hR hS (pm_L.st2 hl) hcn hsn)
theorem pm_s_astore {k : Nat} {q : Nat} (hd : decode (pm_b mi) pc = .ok (.astore k, 2)) (hk : k < pm_mL mi) (h : pm_W G d mi Q (pc + 2) (pm_st1 ls k (.ref q)) st S cn sn) : pm_W G d mi Q pc ls (.ref q :: st) S cn sn :=
  fun R p e s m args below meth c Z H locs la hM hR hS hL hcn hsn => lv_astore hM.1.1 hM.1.2.1 hd hL.has hk rfl (fun la hl => h R p e s m args below meth c Z H locs la hM hR hS (pm_L.st1 (w := .ref q) hl) hcn hsn)
theorem pm_s_astore_n {n : Fin 4} {k : Nat} {q : Nat} (hd : decode (pm_b mi) pc = .ok (.astore_n n, 1)) (hn : (n : Nat) = k) (hk : k < pm_mL mi) (h : pm_W G d mi Q (pc + 1) (pm_st1 ls k (.ref q)) st S cn sn) : pm_W G d mi Q pc ls (.ref q :: st) S cn sn :=
  fun R p e s m args below meth c Z H locs la hM hR hS hL hcn hsn => lv_astore_n hM.1.1 hM.1.2.1 hd hn hL.has hk rfl (fun la hl => h R p e s m args below meth c Z H locs la hM hR hS (pm_L.st1 (w := .ref q) hl) hcn hsn)
theorem pm_s_astoreT {k : Nat} {q : Nat} (hd : decode (pm_b mi) pc = .ok (.astore k, 2)) (hk : k < pm_mL mi) (h : pm_W G d mi Q (pc + 2) (pm_st1 ls k (.retAddr q)) st S cn sn) : pm_W G d mi Q pc ls (.retAddr q :: st) S cn sn :=
  fun R p e s m args below meth c Z H locs la hM hR hS hL hcn hsn => lv_astore hM.1.1 hM.1.2.1 hd hL.has hk rfl (fun la hl => h R p e s m args below meth c Z H locs la hM hR hS (pm_L.st1 (w := .retAddr q) hl) hcn hsn)
theorem pm_s_astore_nT {n : Fin 4} {k : Nat} {q : Nat} (hd : decode (pm_b mi) pc = .ok (.astore_n n, 1)) (hn : (n : Nat) = k) (hk : k < pm_mL mi) (h : pm_W G d mi Q (pc + 1) (pm_st1 ls k (.retAddr q)) st S cn sn) : pm_W G d mi Q pc ls (.retAddr q :: st) S cn sn :=
  fun R p e s m args below meth c Z H locs la hM hR hS hL hcn hsn => lv_astore_n hM.1.1 hM.1.2.1 hd hn hL.has hk rfl (fun la hl => h R p e s m args below meth c Z H locs la hM hR hS (pm_L.st1 (w := .retAddr q) hl) hcn hsn)
theorem pm_s_astoreN {k : Nat} {u : Unit} (hd : decode (pm_b mi) pc = .ok (.astore k, 2)) (hk : k < pm_mL mi) (h : pm_W G d mi Q (pc + 2) (pm_st1 ls k (.null)) st S cn sn) : pm_W G d mi Q pc ls (.null :: st) S cn sn :=
  fun R p e s m args below meth c Z H locs la hM hR hS hL hcn hsn => lv_astoreN hM.1.1 hM.1.2.1 hd hL.has hk rfl (fun la hl => h R p e s m args below meth c Z H locs la hM hR hS (pm_L.st1 (w := .null) hl) hcn hsn)
theorem pm_s_astore_nN {n : Fin 4} {k : Nat} {u : Unit} (hd : decode (pm_b mi) pc = .ok (.astore_n n, 1)) (hn : (n : Nat) = k) (hk : k < pm_mL mi) (h : pm_W G d mi Q (pc + 1) (pm_st1 ls k (.null)) st S cn sn) : pm_W G d mi Q pc ls (.null :: st) S cn sn :=
  fun R p e s m args below meth c Z H locs la hM hR hS hL hcn hsn => lv_astore_nN hM.1.1 hM.1.2.1 hd hn hL.has hk rfl (fun la hl => h R p e s m args below meth c Z H locs la hM hR hS (pm_L.st1 (w := .null) hl) hcn hsn)
theorem pm_s_iinc {k : Nat} {n : Int} {x y : Int32} (hd : decode (pm_b mi) pc = .ok (.iinc k n, 3)) (hk : pm_ld ls k = .int x) (hy : Int32.ofInt n = y) (hn : k < pm_mL mi) (h : pm_W G d mi Q (pc + 3) (pm_st1 ls k (.int (x + y))) st S cn sn) : pm_W G d mi Q pc ls st S cn sn := by
  intro R p e s m args below meth c Z H locs la hM hR hS hL hcn hsn
  obtain ⟨q, hq⟩ := List.getElem?_of_mem (pm_lst_mem (G := G) (q := (k, Value.int x)).mpr ⟨.int x, pm_ld_get ls k _ hk rfl, rfl, rfl⟩)
  refine lv_iinc hM.1.1 hM.1.2.1 hd hL.has hq (by rw [hy]) hn rfl (fun la hl => h R p e s m args below meth c Z H locs la hM hR hS (pm_L.st1 (w := .int (x + y)) hl) hcn hsn)
theorem pm_s_dup {v : Value} (hd : decode (pm_b mi) pc = .ok (.dup, 1)) (hv : v.category = 1) (h : pm_W G d mi Q (pc + 1) ls (v :: v :: st) S cn sn) : pm_W G d mi Q pc ls (v :: st) S cn sn :=
  fun R p e s m args below meth c Z H locs la hM hR hS hL hcn hsn => lv_dup hM.1.1 hM.1.2.1 hd (by rw [pm_v_cat]; exact hv) (h R p e s m args below meth c Z H locs la hM hR hS hL hcn hsn)
theorem pm_s_pop {v : Value} (hd : decode (pm_b mi) pc = .ok (.pop, 1)) (hv : v.category = 1) (h : pm_W G d mi Q (pc + 1) ls st S cn sn) : pm_W G d mi Q pc ls (v :: st) S cn sn :=
  fun R p e s m args below meth c Z H locs la hM hR hS hL hcn hsn => lv_pop hM.1.1 hM.1.2.1 hd (by rw [pm_v_cat]; exact hv) (h R p e s m args below meth c Z H locs la hM hR hS hL hcn hsn)
theorem pm_s_dup2 {v u : Value} (hd : decode (pm_b mi) pc = .ok (.dup2, 1)) (hv : v.category = 1) (hu : u.category = 1) (h : pm_W G d mi Q (pc + 1) ls (v :: u :: v :: u :: st) S cn sn) : pm_W G d mi Q pc ls (v :: u :: st) S cn sn :=
  fun R p e s m args below meth c Z H locs la hM hR hS hL hcn hsn => lv_dup2_11 hM.1.1 hM.1.2.1 hd (by rw [pm_v_cat]; exact hv) (by rw [pm_v_cat]; exact hu) (h R p e s m args below meth c Z H locs la hM hR hS hL hcn hsn)
theorem pm_s_if_eq {x : Int32} {off : Int} {t : Nat} (hd : decode (pm_b mi) pc = .ok (.ifCond .eq off, 3)) (ht : (pc : Int) + off = (t : Int)) (h : pm_if (x = 0) (pm_W G d mi Q t ls st S cn sn) (pm_W G d mi Q (pc + 3) ls st S cn sn)) : pm_W G d mi Q pc ls (.int x :: st) S cn sn :=
  fun R p e s m args below meth c Z H locs la hM hR hS hL hcn hsn => lv_if_eq hM.1.1 hM.1.2.1 hd ht (fun q => h.1 q R p e s m args below meth c Z H locs la hM hR hS hL hcn hsn) (fun q => h.2 q R p e s m args below meth c Z H locs la hM hR hS hL hcn hsn)
theorem pm_s_if_ne {x : Int32} {off : Int} {t : Nat} (hd : decode (pm_b mi) pc = .ok (.ifCond .ne off, 3)) (ht : (pc : Int) + off = (t : Int)) (h : pm_if (x = 0) (pm_W G d mi Q (pc + 3) ls st S cn sn) (pm_W G d mi Q t ls st S cn sn)) : pm_W G d mi Q pc ls (.int x :: st) S cn sn :=
  fun R p e s m args below meth c Z H locs la hM hR hS hL hcn hsn => lv_if_ne hM.1.1 hM.1.2.1 hd ht (fun q => h.2 q R p e s m args below meth c Z H locs la hM hR hS hL hcn hsn) (fun q => h.1 q R p e s m args below meth c Z H locs la hM hR hS hL hcn hsn)
theorem pm_s_if_lt {x : Int32} {off : Int} {t : Nat} (hd : decode (pm_b mi) pc = .ok (.ifCond .lt off, 3)) (ht : (pc : Int) + off = (t : Int)) (h : pm_if (x < 0) (pm_W G d mi Q t ls st S cn sn) (pm_W G d mi Q (pc + 3) ls st S cn sn)) : pm_W G d mi Q pc ls (.int x :: st) S cn sn :=
  fun R p e s m args below meth c Z H locs la hM hR hS hL hcn hsn => lv_if_lt hM.1.1 hM.1.2.1 hd ht (fun q => h.1 q R p e s m args below meth c Z H locs la hM hR hS hL hcn hsn) (fun q => h.2 q R p e s m args below meth c Z H locs la hM hR hS hL hcn hsn)
theorem pm_s_if_ge {x : Int32} {off : Int} {t : Nat} (hd : decode (pm_b mi) pc = .ok (.ifCond .ge off, 3)) (ht : (pc : Int) + off = (t : Int)) (h : pm_if (0 ≤ x) (pm_W G d mi Q t ls st S cn sn) (pm_W G d mi Q (pc + 3) ls st S cn sn)) : pm_W G d mi Q pc ls (.int x :: st) S cn sn :=
  fun R p e s m args below meth c Z H locs la hM hR hS hL hcn hsn => lv_if_ge hM.1.1 hM.1.2.1 hd ht (fun q => h.1 q R p e s m args below meth c Z H locs la hM hR hS hL hcn hsn) (fun q => h.2 q R p e s m args below meth c Z H locs la hM hR hS hL hcn hsn)
theorem pm_s_if_gt {x : Int32} {off : Int} {t : Nat} (hd : decode (pm_b mi) pc = .ok (.ifCond .gt off, 3)) (ht : (pc : Int) + off = (t : Int)) (h : pm_if (0 < x) (pm_W G d mi Q t ls st S cn sn) (pm_W G d mi Q (pc + 3) ls st S cn sn)) : pm_W G d mi Q pc ls (.int x :: st) S cn sn :=
  fun R p e s m args below meth c Z H locs la hM hR hS hL hcn hsn => lv_if_gt hM.1.1 hM.1.2.1 hd ht (fun q => h.1 q R p e s m args below meth c Z H locs la hM hR hS hL hcn hsn) (fun q => h.2 q R p e s m args below meth c Z H locs la hM hR hS hL hcn hsn)
theorem pm_s_if_le {x : Int32} {off : Int} {t : Nat} (hd : decode (pm_b mi) pc = .ok (.ifCond .le off, 3)) (ht : (pc : Int) + off = (t : Int)) (h : pm_if (x ≤ 0) (pm_W G d mi Q t ls st S cn sn) (pm_W G d mi Q (pc + 3) ls st S cn sn)) : pm_W G d mi Q pc ls (.int x :: st) S cn sn :=
  fun R p e s m args below meth c Z H locs la hM hR hS hL hcn hsn => lv_if_le hM.1.1 hM.1.2.1 hd ht (fun q => h.1 q R p e s m args below meth c Z H locs la hM hR hS hL hcn hsn) (fun q => h.2 q R p e s m args below meth c Z H locs la hM hR hS hL hcn hsn)
theorem pm_s_icmp_eq {x y : Int32} {off : Int} {t : Nat} (hd : decode (pm_b mi) pc = .ok (.if_icmp .eq off, 3)) (ht : (pc : Int) + off = (t : Int)) (h : pm_if (x = y) (pm_W G d mi Q t ls st S cn sn) (pm_W G d mi Q (pc + 3) ls st S cn sn)) : pm_W G d mi Q pc ls (.int y :: .int x :: st) S cn sn :=
  fun R p e s m args below meth c Z H locs la hM hR hS hL hcn hsn => lv_icmp_eq hM.1.1 hM.1.2.1 hd ht (fun q => h.1 q R p e s m args below meth c Z H locs la hM hR hS hL hcn hsn) (fun q => h.2 q R p e s m args below meth c Z H locs la hM hR hS hL hcn hsn)
theorem pm_s_icmp_ne {x y : Int32} {off : Int} {t : Nat} (hd : decode (pm_b mi) pc = .ok (.if_icmp .ne off, 3)) (ht : (pc : Int) + off = (t : Int)) (h : pm_if (x = y) (pm_W G d mi Q (pc + 3) ls st S cn sn) (pm_W G d mi Q t ls st S cn sn)) : pm_W G d mi Q pc ls (.int y :: .int x :: st) S cn sn :=
  fun R p e s m args below meth c Z H locs la hM hR hS hL hcn hsn => lv_icmp_ne hM.1.1 hM.1.2.1 hd ht (fun q => h.2 q R p e s m args below meth c Z H locs la hM hR hS hL hcn hsn) (fun q => h.1 q R p e s m args below meth c Z H locs la hM hR hS hL hcn hsn)
theorem pm_s_icmp_lt {x y : Int32} {off : Int} {t : Nat} (hd : decode (pm_b mi) pc = .ok (.if_icmp .lt off, 3)) (ht : (pc : Int) + off = (t : Int)) (h : pm_if (x < y) (pm_W G d mi Q t ls st S cn sn) (pm_W G d mi Q (pc + 3) ls st S cn sn)) : pm_W G d mi Q pc ls (.int y :: .int x :: st) S cn sn :=
  fun R p e s m args below meth c Z H locs la hM hR hS hL hcn hsn => lv_icmp_lt hM.1.1 hM.1.2.1 hd ht (fun q => h.1 q R p e s m args below meth c Z H locs la hM hR hS hL hcn hsn) (fun q => h.2 q R p e s m args below meth c Z H locs la hM hR hS hL hcn hsn)
theorem pm_s_icmp_ge {x y : Int32} {off : Int} {t : Nat} (hd : decode (pm_b mi) pc = .ok (.if_icmp .ge off, 3)) (ht : (pc : Int) + off = (t : Int)) (h : pm_if (y ≤ x) (pm_W G d mi Q t ls st S cn sn) (pm_W G d mi Q (pc + 3) ls st S cn sn)) : pm_W G d mi Q pc ls (.int y :: .int x :: st) S cn sn :=
  fun R p e s m args below meth c Z H locs la hM hR hS hL hcn hsn => lv_icmp_ge hM.1.1 hM.1.2.1 hd ht (fun q => h.1 q R p e s m args below meth c Z H locs la hM hR hS hL hcn hsn) (fun q => h.2 q R p e s m args below meth c Z H locs la hM hR hS hL hcn hsn)
theorem pm_s_icmp_gt {x y : Int32} {off : Int} {t : Nat} (hd : decode (pm_b mi) pc = .ok (.if_icmp .gt off, 3)) (ht : (pc : Int) + off = (t : Int)) (h : pm_if (y < x) (pm_W G d mi Q t ls st S cn sn) (pm_W G d mi Q (pc + 3) ls st S cn sn)) : pm_W G d mi Q pc ls (.int y :: .int x :: st) S cn sn :=
  fun R p e s m args below meth c Z H locs la hM hR hS hL hcn hsn => lv_icmp_gt hM.1.1 hM.1.2.1 hd ht (fun q => h.1 q R p e s m args below meth c Z H locs la hM hR hS hL hcn hsn) (fun q => h.2 q R p e s m args below meth c Z H locs la hM hR hS hL hcn hsn)
theorem pm_s_icmp_le {x y : Int32} {off : Int} {t : Nat} (hd : decode (pm_b mi) pc = .ok (.if_icmp .le off, 3)) (ht : (pc : Int) + off = (t : Int)) (h : pm_if (x ≤ y) (pm_W G d mi Q t ls st S cn sn) (pm_W G d mi Q (pc + 3) ls st S cn sn)) : pm_W G d mi Q pc ls (.int y :: .int x :: st) S cn sn :=
  fun R p e s m args below meth c Z H locs la hM hR hS hL hcn hsn => lv_icmp_le hM.1.1 hM.1.2.1 hd ht (fun q => h.1 q R p e s m args below meth c Z H locs la hM hR hS hL hcn hsn) (fun q => h.2 q R p e s m args below meth c Z H locs la hM hR hS hL hcn hsn)
theorem pm_s_goto {off : Int} {t : Nat} (hd : decode (pm_b mi) pc = .ok (.goto off, 3)) (ht : (pc : Int) + off = (t : Int)) (h : pm_W G d mi Q t ls st S cn sn) : pm_W G d mi Q pc ls st S cn sn :=
  fun R p e s m args below meth c Z H locs la hM hR hS hL hcn hsn => lv_goto hM.1.1 hM.1.2.1 hd ht (h R p e s m args below meth c Z H locs la hM hR hS hL hcn hsn)
theorem pm_s_ifnull {r : Option Nat} {off : Int} {t : Nat} (hd : decode (pm_b mi) pc = .ok (.ifnull off, 3)) (ht : (pc : Int) + off = (t : Int)) (h : pm_if (r = none) (pm_W G d mi Q t ls st S cn sn) (pm_W G d mi Q (pc + 3) ls st S cn sn)) : pm_W G d mi Q pc ls (va_rf r :: st) S cn sn := by
  intro R p e s m args below meth c Z H locs la hM hR hS hL hcn hsn
  cases r with
  | none => exact lv_ifnullN hM.1.1 hM.1.2.1 hd ht (h.1 rfl R p e s m args below meth c Z H locs la hM hR hS hL hcn hsn)
  | some q => exact lv_ifnull hM.1.1 hM.1.2.1 hd (h.2 (fun z => by cases z) R p e s m args below meth c Z H locs la hM hR hS hL hcn hsn)
theorem pm_s_ifnonnull {r : Option Nat} {off : Int} {t : Nat} (hd : decode (pm_b mi) pc = .ok (.ifnonnull off, 3)) (ht : (pc : Int) + off = (t : Int)) (h : pm_if (r = none) (pm_W G d mi Q (pc + 3) ls st S cn sn) (pm_W G d mi Q t ls st S cn sn)) : pm_W G d mi Q pc ls (va_rf r :: st) S cn sn := by
  intro R p e s m args below meth c Z H locs la hM hR hS hL hcn hsn
  cases r with
  | none => exact lv_ifnonnullN hM.1.1 hM.1.2.1 hd (h.1 rfl R p e s m args below meth c Z H locs la hM hR hS hL hcn hsn)
  | some q => exact lv_ifnonnull hM.1.1 hM.1.2.1 hd ht (h.2 (fun z => by cases z) R p e s m args below meth c Z H locs la hM hR hS hL hcn hsn)
theorem pm_s_table {lo hi dflt : Int} {offs : Array Int} {len : Nat} {x : Int32} {off : Int} {t : Nat} (hd : decode (pm_b mi) pc = .ok (.tableswitch dflt lo hi offs, len)) (h1 : ¬ x.toInt < lo) (h2 : ¬ hi < x.toInt) (ho : offs[(x.toInt - lo).toNat]? = some off) (ht : (pc : Int) + off = (t : Int)) (h : pm_W G d mi Q t ls st S cn sn) : pm_W G d mi Q pc ls (.int x :: st) S cn sn :=
  fun R p e s m args below meth c Z H locs la hM hR hS hL hcn hsn => lv_tableIn hM.1.1 hM.1.2.1 hd h1 h2 ho ht (h R p e s m args below meth c Z H locs la hM hR hS hL hcn hsn)
theorem pm_s_tableOut {lo hi dflt : Int} {offs : Array Int} {len : Nat} {x : Int32} {t : Nat} (hd : decode (pm_b mi) pc = .ok (.tableswitch dflt lo hi offs, len)) (h1 : x.toInt < lo ∨ hi < x.toInt) (ht : (pc : Int) + dflt = (t : Int)) (h : pm_W G d mi Q t ls st S cn sn) : pm_W G d mi Q pc ls (.int x :: st) S cn sn :=
  fun R p e s m args below meth c Z H locs la hM hR hS hL hcn hsn => lv_tableOut hM.1.1 hM.1.2.1 hd h1 ht (h R p e s m args below meth c Z H locs la hM hR hS hL hcn hsn)
theorem pm_s_lookup {dflt : Int} {ps : Array (Int × Int)} {len : Nat} {x : Int32} {off : Int} {t : Nat} (hd : decode (pm_b mi) pc = .ok (.lookupswitch dflt ps, len)) (hp : (ps.toList.zip (ps.toList.drop 1)).all (fun (a, next) => a.1 < next.1) = true) (ho : Op.lookupswitch.offset ps.toList dflt x.toInt = off) (ht : (pc : Int) + off = (t : Int)) (h : pm_W G d mi Q t ls st S cn sn) : pm_W G d mi Q pc ls (.int x :: st) S cn sn :=
  fun R p e s m args below meth c Z H locs la hM hR hS hL hcn hsn => lv_lookup hM.1.1 hM.1.2.1 hd hp ho ht (h R p e s m args below meth c Z H locs la hM hR hS hL hcn hsn)
theorem pm_s_ldc {idx : Nat} {v : Int32} (hd : decode (pm_b mi) pc = .ok (.ldc idx, 2)) (hw : Cond.constant (pm_cn (pm_oc mi)) idx v ∈ pm_tbl) (h : pm_W G d mi Q (pc + 2) ls (.int v :: st) S cn sn) : pm_W G d mi Q pc ls st S cn sn :=
  fun R p e s m args below meth c Z H locs la hM hR hS hL hcn hsn => lv_ldc hM.1.1 hM.1.2.1 hM.1.2.2.2.1 (hM.1.2.2.2.2.1 _ hw) hd (h R p e s m args below meth c Z H locs la hM hR hS hL hcn hsn)
theorem pm_s_ldcw {idx : Nat} {v : Int32} (hd : decode (pm_b mi) pc = .ok (.ldc_w idx, 3)) (hw : Cond.constant (pm_cn (pm_oc mi)) idx v ∈ pm_tbl) (h : pm_W G d mi Q (pc + 3) ls (.int v :: st) S cn sn) : pm_W G d mi Q pc ls st S cn sn :=
  fun R p e s m args below meth c Z H locs la hM hR hS hL hcn hsn => lv_ldcw hM.1.1 hM.1.2.1 hM.1.2.2.2.1 (hM.1.2.2.2.2.1 _ hw) hd (h R p e s m args below meth c Z H locs la hM hR hS hL hcn hsn)
theorem pm_s_ldc2 {idx : Nat} {v : Int64} (hd : decode (pm_b mi) pc = .ok (.ldc2_w idx, 3)) (hw : Cond.constantLong (pm_cn (pm_oc mi)) idx v ∈ pm_tbl) (h : pm_W G d mi Q (pc + 3) ls (.long v :: st) S cn sn) : pm_W G d mi Q pc ls st S cn sn :=
  fun R p e s m args below meth c Z H locs la hM hR hS hL hcn hsn => lv_ldc2 hM.1.1 hM.1.2.1 hM.1.2.2.2.1 (hM.1.2.2.2.2.1 _ hw) hd (h R p e s m args below meth c Z H locs la hM hR hS hL hcn hsn)
theorem pm_s_ret {v : Option Value} (hd : decode (pm_b mi) pc = .ok (pm_rin v, 1)) (hk : pm_rok mi v) (h : Q v S) : pm_W G d mi Q pc ls v.toList S cn sn := by
  intro R p e s m args below meth c Z H locs la hM hR hS hL hcn hsn
  have := hM.2.2.2 v S H locs cn sn pc la h hR hS hcn hsn hk hd
  cases v <;> exact this
end PMS
