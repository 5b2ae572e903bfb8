/-! the links by their entries -/
def pm_flk (o idx c k e : Nat) : Bool := decide (e < 275) && (decide ((pm_fl.getD e (0, 0, 0, 0, 0)).1 = o) && (decide ((pm_fl.getD e (0, 0, 0, 0, 0)).2.1 = idx) && (decide ((pm_fl.getD e (0, 0, 0, 0, 0)).2.2.1 = c) && decide ((pm_fl.getD e (0, 0, 0, 0, 0)).2.2.2.1 = k))))
theorem pm_flk_ok {o idx c k e : Nat} (h : pm_flk o idx c k e = true) : Cond.fieldLink (pm_cn o) idx (pm_cn c) (pm_T c k).2.1 (pm_T c k).2.2.1 ∈ pm_tbl := by
  simp only [pm_flk, Bool.and_eq_true, decide_eq_true_eq] at h
  obtain ⟨h0, h1, h2, h3, h4⟩ := h
  have := pm_fl_ok e h0
  rw [h1, h2, h3, h4] at this
  exact pm_mem this rfl
def pm_mlk (o idx j e : Nat) : Bool := decide (e < 290) && (decide ((pm_ml.getD e (0, 0, 0, 0)).1 = o) && (decide ((pm_ml.getD e (0, 0, 0, 0)).2.1 = idx) && decide ((pm_ml.getD e (0, 0, 0, 0)).2.2.1 = j)))
theorem pm_mlk_ok {o idx j e : Nat} (h : pm_mlk o idx j e = true) : Cond.methodLink (pm_cn o) idx (pm_y j) ∈ pm_tbl := by
  simp only [pm_mlk, Bool.and_eq_true, decide_eq_true_eq] at h
  obtain ⟨h0, h1, h2, h3⟩ := h
  have := pm_ml_ok e h0
  rw [h1, h2, h3] at this
  exact pm_mem this rfl
def pm_olk (o idx e : Nat) : Bool := decide (e < 13) && (decide ((pm_ol.getD e (0, 0, 0)).1 = o) && decide ((pm_ol.getD e (0, 0, 0)).2.1 = idx))
theorem pm_olk_ok {o idx e : Nat} (h : pm_olk o idx e = true) : Cond.methodLink (pm_cn o) idx Lib.objectInit ∈ pm_tbl := by
  simp only [pm_olk, Bool.and_eq_true, decide_eq_true_eq] at h
  obtain ⟨h0, h1, h2⟩ := h
  have := pm_ol_ok e h0
  rw [h1, h2] at this
  exact pm_mem this rfl
def pm_klk (o idx : Nat) (n : String) (e : Nat) : Bool := decide (e < 14) && (decide ((pm_kl.getD e (0, 0, "", 0)).1 = o) && (decide ((pm_kl.getD e (0, 0, "", 0)).2.1 = idx) && decide ((pm_kl.getD e (0, 0, "", 0)).2.2.1 = n)))
theorem pm_klk_ok {o idx e : Nat} {n : String} (h : pm_klk o idx n e = true) : Cond.classLink (pm_cn o) idx n ∈ pm_tbl := by
  simp only [pm_klk, Bool.and_eq_true, decide_eq_true_eq] at h
  obtain ⟨h0, h1, h2, h3⟩ := h
  have := pm_kl_ok e h0
  rw [h1, h2, h3] at this
  exact pm_mem this rfl
def pm_cik (o idx : Nat) (w : Value) (e : Nat) : Bool := decide (e < 5) && (decide ((pm_ci.getD e (0, 0, 0, 0)).1 = o) && (decide ((pm_ci.getD e (0, 0, 0, 0)).2.1 = idx) && decide (w = .int (pm_ci.getD e (0, 0, 0, 0)).2.2.1)))
theorem pm_cik_ok {o idx e : Nat} {w : Value} (h : pm_cik o idx w e = true) : ∃ v, w = .int v ∧ Cond.constant (pm_cn o) idx v ∈ pm_tbl := by
  simp only [pm_cik, Bool.and_eq_true, decide_eq_true_eq] at h
  obtain ⟨h0, h1, h2, h3⟩ := h
  have := pm_ci_ok e h0
  rw [h1, h2] at this
  exact ⟨_, h3, pm_mem this rfl⟩
def pm_cjk (o idx : Nat) (w : Value) (e : Nat) : Bool := decide (e < 12) && (decide ((pm_cj.getD e (0, 0, 0, 0)).1 = o) && (decide ((pm_cj.getD e (0, 0, 0, 0)).2.1 = idx) && decide (w = .long (pm_cj.getD e (0, 0, 0, 0)).2.2.1)))
theorem pm_cjk_ok {o idx e : Nat} {w : Value} (h : pm_cjk o idx w e = true) : ∃ v, w = .long v ∧ Cond.constantLong (pm_cn o) idx v ∈ pm_tbl := by
  simp only [pm_cjk, Bool.and_eq_true, decide_eq_true_eq] at h
  obtain ⟨h0, h1, h2, h3⟩ := h
  have := pm_cj_ok e h0
  rw [h1, h2] at this
  exact ⟨_, h3, pm_mem this rfl⟩
/-! switches: the keys and targets that are told -/
def pm_swk : List Nat → List (Nat × Nat)
  | k :: t :: _ :: l => (k, t) :: pm_swk l
  | _ => []
def pm_swd : List Nat → Option Nat
  | [t, _] => some t
  | _ :: _ :: _ :: l => pm_swd l
  | _ => none
def pm_br (pc : Nat) (off : Int) (a : List Nat) : Bool := match a with
  | [t, _] => decide ((pc : Int) + off = (t : Int))
  | _ => false
/-- the check of an instruction of method mi at pc: its length, its numbers, its value -/
def pm_ck (mi pc : Nat) (i : Instr) (n : Nat) (a : List Nat) (w : Value) : Bool := match i with
  | .aconst_null => decide (n = 1)
  | .iconst k => decide (n = 1) && decide (w = .int (Int32.ofInt k))
  | .bipush k => decide (n = 2) && decide (w = .int (Int8.ofInt k).toInt32)
  | .sipush k => decide (n = 3) && decide (w = .int (Int16.ofInt k).toInt32)
  | .lconst k => decide (n = 1) && decide (w = .long (Int64.ofNat (k : Nat)))
  | .ldc idx => decide (n = 2) && (match a with
    | [e] => pm_cik (pm_oc mi) idx w e
    | [i, _] => decide (pm_oc mi = 6) && (decide (i < 10) && (decide (pm_si.getD i 0 = idx) && decide (w = .retAddr i)))
    | _ => false)
  | .ldc_w idx => decide (n = 3) && (match a with
    | [e] => pm_cik (pm_oc mi) idx w e
    | _ => false)
  | .ldc2_w idx => decide (n = 3) && (match a with
    | [e] => pm_cjk (pm_oc mi) idx w e
    | _ => false)
  | .getstatic idx => decide (n = 3) && (match a with
    | [0] => decide (w = .retAddr 100) && (decide (pm_oc mi = 4) && decide (idx = 19))
    | [1] => decide (w = .int 1) && (decide (pm_oc mi = 16) && decide (idx = 38))
    | [_, _] => decide (pm_oc mi = 16) && decide (idx = 1053)
    | _ => false)
  | .iload k => decide (n = 2) && decide (a = [k])
  | .iload_n k => decide (n = 1) && decide (a = [(k : Nat)])
  | .lload k => decide (n = 2) && decide (a = [k])
  | .lload_n k => decide (n = 1) && decide (a = [(k : Nat)])
  | .aload k => decide (n = 2) && decide (a = [k])
  | .aload_n k => decide (n = 1) && decide (a = [(k : Nat)])
  | .istore k => decide (n = 2) && (decide (a = [k]) && decide (k < pm_mL mi))
  | .istore_n k => decide (n = 1) && (decide (a = [(k : Nat)]) && decide ((k : Nat) < pm_mL mi))
  | .lstore k => decide (n = 2) && (decide (a = [k]) && decide (k + 1 < pm_mL mi))
  | .lstore_n k => decide (n = 1) && (decide (a = [(k : Nat)]) && decide ((k : Nat) + 1 < pm_mL mi))
  | .astore k => decide (n = 2) && (decide (a = [k]) && decide (k < pm_mL mi))
  | .astore_n k => decide (n = 1) && (decide (a = [(k : Nat)]) && decide ((k : Nat) < pm_mL mi))
  | .iinc k c => decide (n = 3) && (decide (a = [k]) && (decide (w = .int (Int32.ofInt c)) && decide (k < pm_mL mi)))
  | .ifCond _ off => decide (n = 3) && pm_br pc off a
  | .if_icmp _ off => decide (n = 3) && pm_br pc off a
  | .ifnull off => decide (n = 3) && pm_br pc off a
  | .ifnonnull off => decide (n = 3) && pm_br pc off a
  | .goto off => decide (n = 3) && pm_br pc off a
  | .tableswitch dflt lo hi offs => decide (0 ≤ lo) && (decide (hi < 1000) && (decide (hi = lo + offs.toList.length - 1) && (decide ((pm_swk a).map (fun q => ((q.1 : Int), (q.2 : Int))) = offs.toList.zipIdx.map (fun q => (lo + (q.2 : Int), (pc : Int) + q.1))) && decide ((pm_swd a).map (fun t => (t : Int)) = some ((pc : Int) + dflt)))))
  | .lookupswitch dflt ps => ((ps.toList.zip (ps.toList.drop 1)).all (fun (a, next) => a.1 < next.1)) && (ps.toList.all (fun q => decide (0 ≤ q.1 ∧ q.1 < 100000)) && (decide ((pm_swk a).map (fun q => ((q.1 : Int), (q.2 : Int))) = ps.toList.map (fun q => (q.1, (pc : Int) + q.2))) && decide ((pm_swd a).map (fun t => (t : Int)) = some ((pc : Int) + dflt))))
  | .getfield idx => decide (n = 3) && (match a with
    | [c, k, f, e] => decide (c < 13) && (decide (k < pm_nF c) && (decide (pm_fk c k = f) && pm_flk (pm_oc mi) idx c k e))
    | [x] => decide (pm_oc mi = 16) && (decide (x = 0 ∧ idx = 15) || decide (x = 1 ∧ idx = 9))
    | _ => false)
  | .putfield idx => decide (n = 3) && (match a with
    | [c, k, f, e, fin] => decide (c < 13) && (decide (k < pm_nF c) && (decide (pm_fk c k = f) && (pm_flk (pm_oc mi) idx c k e && ((decide (fin = 0) && decide ((pm_T c k).2.2.2 = false)) || (decide ((pm_T c k).2.2.2 = true) && (decide ((pm_y mi).name = "<init>") && decide (pm_oc mi = c)))))))
    | _ => false)
  | .aaload => decide (n = 1) && (decide (a = [23]) || (decide (a = [24]) || decide (a = [25])))
  | .aastore => decide (n = 1) && (decide (a = [23, 7]) || (decide (a = [24, 5]) || decide (a = [25, 9])))
  | .new idx => decide (n = 3) && (match a with
    | [c, e, z, mc, ms] => decide (c < 13) && (decide (z = pm_nF c) && (decide (mc = pm_mc mi) && (decide (ms = pm_ms mi) && pm_klk (pm_oc mi) idx (pm_cn c) e)))
    | _ => false)
  | .newarray t => decide (n = 2) && (match a with
    | [k, z, _, mc, ms] => (decide (t = .int ∧ k = 20) || (decide (t = .long ∧ k = 21) || decide (t = .boolean ∧ k = 22))) && (decide (z < 60000) && (decide (w = .int (Int32.ofNat z)) && (decide (mc = pm_mc mi) && decide (ms = pm_ms mi))))
    | _ => false)
  | .anewarray idx => decide (n = 3) && (match a with
    | [k, z, e, mc, ms] => (decide (k = 23) || (decide (k = 24) || decide (k = 25))) && (decide (z < 60000) && (decide (w = .int (Int32.ofNat z)) && (decide (mc = pm_mc mi) && (decide (ms = pm_ms mi) && pm_klk (pm_oc mi) idx (pm_rc k) e))))
    | _ => false)
  | .invokevirtual idx => decide (n = 3) && (match a with
    | [j, e, np, _] => decide (j < pm_nM) && (decide (pm_mk j = 1) && (decide (pm_oc j = 16) && (decide (pm_np j = np) && (decide (pm_mc j = 0) && (decide (pm_ms j = 0) && pm_mlk (pm_oc mi) idx j e)))))
    | [j, c, e, np, _] => decide (j < pm_nM) && (decide (pm_mk j = 1) && (decide (pm_oc j = c) && (decide (c < 13) && (decide (pm_np j = np) && (decide (pm_mc j = 0) && (decide (pm_ms j = 0) && pm_mlk (pm_oc mi) idx j e))))))
    | [j, c, e, np, _, mc', ms', mc, ms] => decide (j < pm_nM) && (decide (pm_mk j = 1) && (decide (pm_oc j = c) && (decide (c < 13) && (decide (pm_np j = np) && (decide (pm_mc j = mc') && (decide (pm_ms j = ms') && (decide (mc = pm_mc mi) && (decide (ms = pm_ms mi) && pm_mlk (pm_oc mi) idx j e))))))))
    | _ => false)
  | .invokespecial idx => decide (n = 3) && (match a with
    | [e] => pm_olk (pm_oc mi) idx e
    | [j, c, e, np, mc', ms', mc, ms] => decide (j < pm_nM) && (decide (pm_mk j = 2) && (decide (c < 13) && (decide (pm_np j = np) && (decide (pm_mc j = mc') && (decide (pm_ms j = ms') && (decide (mc = pm_mc mi) && (decide (ms = pm_ms mi) && (pm_mlk (pm_oc mi) idx j e || (decide (1000 ≤ e) && (decide (e - 1000 < 10) && (decide (pm_nest.getD (e - 1000) (0, 0) = (idx, j)) && decide (pm_oc mi = 11))))))))))))
    | _ => false)
  | .invokestatic idx => decide (n = 3) && (match a with
    | [91, e] => pm_mlk (pm_oc mi) idx 265 e
    | [92, e] => pm_mlk (pm_oc mi) idx 266 e
    | [93, e] => pm_mlk (pm_oc mi) idx 268 e
    | [94, e] => pm_mlk (pm_oc mi) idx 267 e
    | [95, _] => decide (pm_oc mi = 11) && decide (idx = 439)
    | [j, e, np, _] => decide (j < pm_nM) && (decide (pm_mk j = 0) && (decide (pm_np j = np) && (decide (pm_mc j = 0) && (decide (pm_ms j = 0) && (pm_mlk (pm_oc mi) idx j e || (decide (1000 ≤ e) && (decide (e - 1000 < 10) && (decide (pm_nest.getD (e - 1000) (0, 0) = (idx, j)) && decide (pm_oc mi = 11)))))))))
    | _ => false)
  | .ireturn => decide (n = 1) && (decide (a = [0] ∧ pm_rt mi = some .int) || (decide (a = [1] ∧ pm_rt mi = some .boolean) || (decide (a = [2] ∧ pm_rt mi = some .byte) || decide (a = [3] ∧ pm_rt mi = some .char))))
  | .lreturn => decide (n = 1) && decide (pm_rt mi = some .long)
  | .areturn => decide (n = 1) && (match pm_rt mi with
    | some (.object _) => true
    | _ => false)
  | .return_ => decide (n = 1) && decide (pm_rt mi = none)
  | _ => decide (n = 1)
/-! eliminations -/
theorem pm_u1_el {a : List Nat} {f : Nat → Prop} (h : pm_u1 a f) : ∃ x, a = [x] ∧ f x := by
  unfold pm_u1 at h
  split at h
  · exact ⟨_, rfl, h⟩
  · exact h.elim
theorem pm_u2_el {a : List Nat} {f : Nat → Nat → Prop} (h : pm_u2 a f) : ∃ x y, a = [x, y] ∧ f x y := by
  unfold pm_u2 at h
  split at h
  · exact ⟨_, _, rfl, h⟩
  · exact h.elim
theorem pm_u4_el {a : List Nat} {f : Nat → Nat → Nat → Nat → Prop} (h : pm_u4 a f) : ∃ x y z t, a = [x, y, z, t] ∧ f x y z t := by
  unfold pm_u4 at h
  split at h
  · exact ⟨_, _, _, _, rfl, h⟩
  · exact h.elim
theorem pm_u5_el {a : List Nat} {f : Nat → Nat → Nat → Nat → Nat → Prop} (h : pm_u5 a f) : ∃ x y z t u, a = [x, y, z, t, u] ∧ f x y z t u := by
  unfold pm_u5 at h
  split at h
  · exact ⟨_, _, _, _, _, rfl, h⟩
  · exact h.elim
theorem pm_i1_el {st : List Value} {f : Int32 → List Value → Prop} (h : pm_i1 st f) : ∃ x st1, st = .int x :: st1 ∧ f x st1 := by
  unfold pm_i1 at h
  split at h
  · exact ⟨_, _, rfl, h⟩
  · exact h.elim
theorem pm_i2_el {st : List Value} {f : Int32 → Int32 → List Value → Prop} (h : pm_i2 st f) : ∃ x y st1, st = .int y :: .int x :: st1 ∧ f x y st1 := by
  unfold pm_i2 at h
  split at h
  · exact ⟨_, _, _, rfl, h⟩
  · exact h.elim
theorem pm_l1_el {st : List Value} {f : Int64 → List Value → Prop} (h : pm_l1 st f) : ∃ x st1, st = .long x :: st1 ∧ f x st1 := by
  unfold pm_l1 at h
  split at h
  · exact ⟨_, _, rfl, h⟩
  · exact h.elim
theorem pm_l2_el {st : List Value} {f : Int64 → Int64 → List Value → Prop} (h : pm_l2 st f) : ∃ x y st1, st = .long y :: .long x :: st1 ∧ f x y st1 := by
  unfold pm_l2 at h
  split at h
  · exact ⟨_, _, _, rfl, h⟩
  · exact h.elim
theorem pm_li_el {st : List Value} {f : Int64 → Int32 → List Value → Prop} (h : pm_li st f) : ∃ x y st1, st = .int y :: .long x :: st1 ∧ f x y st1 := by
  unfold pm_li at h
  split at h
  · exact ⟨_, _, _, rfl, h⟩
  · exact h.elim
theorem pm_p1_el {st : List Value} {f : Nat → List Value → Prop} (h : pm_p1 st f) : ∃ p st1, st = .ref p :: st1 ∧ f p st1 := by
  unfold pm_p1 at h
  split at h
  · exact ⟨_, _, rfl, h⟩
  · exact h.elim
theorem pm_ra_el {st : List Value} {f : Nat → List Value → Prop} (h : pm_ra st f) : ∃ p st1, st = .retAddr p :: st1 ∧ f p st1 := by
  unfold pm_ra at h
  split at h
  · exact ⟨_, _, rfl, h⟩
  · exact h.elim
theorem pm_t1_el {st : List Value} {f : Value → List Value → Prop} (h : pm_t1 st f) : ∃ v st1, st = v :: st1 ∧ f v st1 := by
  unfold pm_t1 at h
  split at h
  · exact ⟨_, _, rfl, h⟩
  · exact h.elim
theorem pm_vx_el {st : List Value} {f : Value → Int32 → Nat → List Value → Prop} (h : pm_vx st f) : ∃ v j p st1, st = v :: .int j :: .ref p :: st1 ∧ f v j p st1 := by
  unfold pm_vx at h
  split at h
  · exact ⟨_, _, _, _, rfl, h⟩
  · exact h.elim
theorem pm_oI_el {v : Value} {f : Int32 → Prop} (h : pm_oI v f) : ∃ x, v = .int x ∧ f x := by
  unfold pm_oI at h
  split at h
  · exact ⟨_, rfl, h⟩
  · exact h.elim
theorem pm_oL_el {v : Value} {f : Int64 → Prop} (h : pm_oL v f) : ∃ x, v = .long x ∧ f x := by
  unfold pm_oL at h
  split at h
  · exact ⟨_, rfl, h⟩
  · exact h.elim
theorem pm_oQ_el {v : Value} {f : Option Nat → Prop} (h : pm_oQ v f) : ∃ x, v = va_rf x ∧ f x := by
  unfold pm_oQ at h
  split at h
  · exact ⟨none, rfl, h⟩
  · exact ⟨some _, rfl, h⟩
  · exact h.elim
theorem pm_ix_el {st : List Value} {f g : Int32 → Nat → List Value → Prop} (h : pm_ix st f g) : ∃ j p st1, (st = .int j :: .ref p :: st1 ∧ f j p st1) ∨ (st = .int j :: .retAddr p :: st1 ∧ g j p st1) := by
  unfold pm_ix at h
  split at h
  · exact ⟨_, _, _, Or.inl ⟨rfl, h⟩⟩
  · exact ⟨_, _, _, Or.inr ⟨rfl, h⟩⟩
  · exact h.elim
theorem pm_sp_el {n : Nat} {st : List Value} {f : List Value → List Value → Prop} (h : pm_sp n st f) : ∃ as rest, st = as.reverse ++ rest ∧ as.length = n ∧ f as rest := by
  unfold pm_sp at h
  split at h
  · exact ⟨[], st, rfl, rfl, h⟩
  · split at h
    · exact ⟨[_], _, rfl, rfl, h⟩
    · exact h.elim
  · split at h
    · exact ⟨[_, _], _, rfl, rfl, h⟩
    · exact h.elim
  · split at h
    · exact ⟨[_, _, _], _, rfl, rfl, h⟩
    · exact h.elim
  · split at h
    · exact ⟨[_, _, _, _], _, rfl, rfl, h⟩
    · exact h.elim
  · split at h
    · exact ⟨[_, _, _, _, _], _, rfl, rfl, h⟩
    · exact h.elim
  · split at h
    · exact ⟨[_, _, _, _, _, _], _, rfl, rfl, h⟩
    · exact h.elim
  · exact h.elim
theorem pm_br_ok {pc : Nat} {off : Int} {t f : Nat} (h : pm_br pc off [t, f] = true) : (pc : Int) + off = (t : Int) := by simpa [pm_br] using h
/-- a call's answer, whatever its sort -/
theorem pm_cc_ct {G : pm_G} {d j rk : Nat} {as rest : List Value} {S : pm_S} {N : List Value → pm_S → Prop} (h : pm_cc G d j rk as rest S N) : ∃ Q' : pm_Q, pm_Ct G (d - 1) j as S Q' ∧ ∀ v S', Q' v S' → N (v.toList ++ rest) S' := by
  unfold pm_cc at h
  split at h
  · exact ⟨_, h, fun v S' hq => by obtain ⟨rfl, k⟩ := hq; exact k⟩
  · exact ⟨_, h, fun v S' hq => by obtain ⟨x, rfl, k⟩ := hq; exact k⟩
  · exact ⟨_, h, fun v S' hq => by obtain ⟨x, rfl, k⟩ := hq; exact k⟩
  · exact ⟨_, h, fun v S' hq => by obtain ⟨x, rfl, k⟩ := hq; exact k⟩
  · exact h.elim
