/-! the start: what the constructors leave is what Inv asks -/
def cx_x (p : Nat) : Bool := decide (p = 7) || (decide (p = 16) || (decide (p = 88) || (decide (p = 92) || (decide (p = 47) || (decide (p = 49) || (decide (p = 51) || (decide (p = 53) || (decide (p = 55) || decide (p = 57)))))))))
def cx_z0 (D : cx_D) : Bool := D.2.1.all (fun e => decide (e.2.2 = 0) || cx_x e.1)
def cx_z1 (D : cx_D) : Bool := (List.range 240).all (fun j => decide (cx_li D.2.1 88 j = -1))
def cx_z2 (D : cx_D) : Bool := (List.range 6).all (fun t => decide (cx_li D.2.1 92 t = -1) && (decide (cx_li D.2.1 (47 + 2 * t) 0 = -1) && decide (cx_li D.2.1 (47 + 2 * t) 1 = 0)))
def cx_z3 (D : cx_D) : Bool := decide (cx_li D.2.1 16 2 = 0) && (decide (cx_li D.2.1 16 18 = 0) && (List.range 9).all (fun f => decide (cx_li D.2.1 16 (8 + f) = nI (gx_0.2.1 (8 + f)))))
def cx_rr (D : cx_D) : Bool := sh_rr.all (fun e => decide (cx_lr D.2.2 e.1 e.2.1 = some e.2.2))
def cx_ok (D : cx_D) : Bool := decide (D.1 = sh_kz) && (decide (cx_lr D.2.2 5 3 = some 7) && (cx_rr D && (cx_z0 D && (cx_z1 D && (cx_z2 D && cx_z3 D)))))
def cx_fin (ls st : List Value) (D : cx_D) (cn sn : Nat) : Bool := match ls, st with
  | [.retAddr 101, .ref 0, .ref 59, .int x], [] => decide (x = 0) && (cx_ok D && (decide (cn ≤ 120) && decide (sn ≤ 7000)))
  | _, _ => false
theorem cx_zero : ∀ {l : List (Nat × Nat × Int32)}, l.all (fun e => decide (e.2.2 = 0) || cx_x e.1) = true → ∀ p j, cx_x p = false → cx_li l p j = 0
  | [], _, _, _, _ => rfl
  | e :: l, h, p, j, hp => by
    rw [List.all_cons, Bool.and_eq_true, Bool.or_eq_true, decide_eq_true_eq] at h
    show (if e.1 = p ∧ e.2.1 = j then e.2.2 else cx_li l p j) = 0
    by_cases c : e.1 = p ∧ e.2.1 = j
    · rw [if_pos c]
      rcases h.1 with z | z
      · exact z
      · rw [c.1, hp] at z; cases z
    · rw [if_neg c]; exact cx_zero h.2 p j hp
def cx_A : iv_A := (fun _ => 0, fun _ => 0, fun _ => 0, fun _ => 7, fun _ q => 8 + q, fun x => if x = 7 then 1000 else 100 + (x - 8))
theorem inv_start {D : cx_D} {S : pm_S} (h : ct D S) (hk : cx_ok D = true) : Inv cx_A S := by
  unfold cx_ok at hk
  rw [Bool.and_eq_true, Bool.and_eq_true, Bool.and_eq_true, Bool.and_eq_true, Bool.and_eq_true, Bool.and_eq_true, decide_eq_true_eq, decide_eq_true_eq] at hk
  obtain ⟨k1, k53, k2, k3, k4, k5, k6⟩ := hk
  unfold cx_rr at k2
  unfold cx_z1 at k4
  unfold cx_z2 at k5
  unfold cx_z3 at k6
  rw [List.all_eq_true] at k2 k4 k5
  rw [Bool.and_eq_true, Bool.and_eq_true, decide_eq_true_eq, decide_eq_true_eq, List.all_eq_true] at k6
  obtain ⟨k6, k7, k8⟩ := k6
  have len : D.1.length = 114 := by rw [k1]; rfl
  have hn : pm_n S = 114 := by rw [h.1.1, len]
  have at_ := fun p (hp : p < 114) => h.1.2 p (by omega)
  have i_ : ∀ p j, p < 114 → pm_i S p j = cx_li D.2.1 p j := fun p j hp => (at_ p hp).2.2.1 j
  have z : ∀ p j, p < 114 → cx_x p = false → pm_i S p j = 0 := fun p j hp hx => by rw [i_ p j hp]; exact cx_zero k3 p j hx
  have r : ∀ p, p < 114 → cx_x p = false → pm_i S p = fun _ => 0 := fun p hp hx => funext fun j => z p j hp hx
  have c0 : ∀ f, iv_c S f = 0 := fun f => by unfold iv_c; rw [z 59 f (by omega) rfl]; rfl
  have hS : Sh S := by
    refine ⟨by omega, fun p hp => ?_, fun e he => ?_⟩
    · have a := at_ p hp
      rw [a.1, a.2.1]
      unfold cx_k cx_z
      rw [k1]; exact ⟨rfl, rfl⟩
    · have h3 : ∀ e, e ∈ sh_rr → e.1 < 114 := by decide
      rw [(at_ e.1 (h3 e he)).2.2.2.2 e.2.1]
      exact of_decide_eq_true (k2 e he)
  have no : ∀ {P : Prop} {a f : Nat}, a < iv_c S f → P := fun ha => by rw [c0] at ha; exact absurd ha (Nat.not_lt_zero _)
  have m88 : ∀ j, j < 240 → pm_i S 88 j = -1 := fun j hj => by rw [i_ 88 j (by omega)]; exact of_decide_eq_true (k4 j (List.mem_range.mpr hj))
  have tp : ∀ t, t < 6 → pm_i S 92 t = -1 ∧ pm_i S (47 + 2 * t) 0 = -1 ∧ pm_i S (47 + 2 * t) 1 = 0 := fun t ht => by
    have a := k5 t (List.mem_range.mpr ht)
    rw [Bool.and_eq_true, Bool.and_eq_true, decide_eq_true_eq, decide_eq_true_eq, decide_eq_true_eq] at a
    rw [i_ 92 t (by omega), i_ (47 + 2 * t) 0 (by omega), i_ (47 + 2 * t) 1 (by omega)]; exact a
  have lf : ∀ f, 8 ≤ f → f ≤ 16 → pm_i S 16 f = nI (gx_0.2.1 f) := fun f h1 h2 => by
    have a := of_decide_eq_true (k8 (f - 8) (List.mem_range.mpr (by omega)))
    rw [show 8 + (f - 8) = f by omega] at a
    rw [i_ 16 f (by omega)]; exact a
  refine ⟨hS, ?_, ?_, ?_, ?_, ?_, ?_, ?_, ?_, ?_, ?_, ?_, ?_⟩
  · refine ⟨by rw [z 1 0 (by omega) rfl, z 59 0 (by omega) rfl], by rw [z 59 0 (by omega) rfl]; exact ⟨by decide, by decide⟩, by rw [r 2 (by omega) rfl, r 60 (by omega) rfl], by rw [z 1 2 (by omega) rfl, z 59 2 (by omega) rfl], by rw [z 59 2 (by omega) rfl]; exact ⟨by decide, by decide⟩, fun k hk => no hk, fun k j _ hk => no hk⟩
  · exact ⟨by rw [z 0 2 (by omega) rfl, z 59 4 (by omega) rfl], by rw [z 59 4 (by omega) rfl]; exact ⟨by decide, by decide⟩, by rw [r 3 (by omega) rfl, r 61 (by omega) rfl], fun k => Or.inl (z 61 k (by omega) rfl)⟩
  · exact ⟨by rw [z 0 4 (by omega) rfl, z 59 18 (by omega) rfl], by rw [z 59 18 (by omega) rfl]; exact ⟨by decide, by decide⟩, fun a ha => no ha, fun a _ ha => ⟨⟨z 72 a (by omega) rfl, z 73 a (by omega) rfl, z 74 a (by omega) rfl⟩, fun g hg => m88 _ (by omega)⟩⟩
  · exact ⟨by rw [z 0 5 (by omega) rfl, z 59 24 (by omega) rfl], by rw [z 59 24 (by omega) rfl]; exact ⟨by decide, by decide⟩, fun a ha => no ha, fun a ha => no ha⟩
  · exact ⟨by rw [z 5 1 (by omega) rfl, z 59 26 (by omega) rfl], by rw [z 59 26 (by omega) rfl]; exact ⟨by decide, by decide⟩, by rw [r 6 (by omega) rfl, r 80 (by omega) rfl], fun k => by rw [z 80 k (by omega) rfl]; exact ⟨by decide, by decide⟩⟩
  · refine ⟨by rw [z 14 2 (by omega) rfl, z 59 31 (by omega) rfl], by rw [z 59 31 (by omega) rfl]; exact ⟨by decide, by decide⟩, fun l hl => ?_, fun l hl => no hl, ?_, ?_⟩
    · rw [c0] at hl
      have e : l = 0 := by omega
      subst e
      refine ⟨Or.inr rfl, by show 7 < pm_n S; omega, sh_k7 hS, rfl, fun q hq => ?_⟩
      have hc : q = 0 ∨ q = 1 ∨ q = 2 ∨ q = 3 ∨ q = 4 ∨ q = 5 := by omega
      rcases hc with rfl | rfl | rfl | rfl | rfl | rfl
      · exact ⟨sh_r7_3 hS, Or.inr ⟨by decide, by decide⟩, by show 8 < pm_n S; omega, sh_k8 hS, sh_z8 hS, rfl⟩
      · exact ⟨sh_r7_4 hS, Or.inr ⟨by decide, by decide⟩, by show 9 < pm_n S; omega, sh_k9 hS, sh_z9 hS, rfl⟩
      · exact ⟨sh_r7_5 hS, Or.inr ⟨by decide, by decide⟩, by show 10 < pm_n S; omega, sh_k10 hS, sh_z10 hS, rfl⟩
      · exact ⟨sh_r7_6 hS, Or.inr ⟨by decide, by decide⟩, by show 11 < pm_n S; omega, sh_k11 hS, sh_z11 hS, rfl⟩
      · exact ⟨sh_r7_7 hS, Or.inr ⟨by decide, by decide⟩, by show 12 < pm_n S; omega, sh_k12 hS, sh_z12 hS, rfl⟩
      · exact ⟨sh_r7_17 hS, Or.inr ⟨by decide, by decide⟩, by show 13 < pm_n S; omega, sh_k13 hS, sh_z13 hS, rfl⟩
    · show pm_r S 5 3 = some (iv_l cx_A (iv_c S 31))
      rw [(at_ 5 (by omega)).2.2.2.2 3]; exact k53
    · exact ⟨by rw [i_ 16 2 (by omega)]; exact k6, by rw [i_ 16 18 (by omega)]; exact k7, by decide, by decide, lf, fun k hk => absurd hk (Nat.not_lt_zero k), fun k hk => absurd hk (Nat.not_lt_zero k)⟩
  · exact ⟨by rw [z 28 0 (by omega) rfl, z 59 35 (by omega) rfl], by rw [z 59 35 (by omega) rfl]; exact ⟨by decide, by decide⟩, ⟨by rw [r 29 (by omega) rfl, r 85 (by omega) rfl], by rw [r 30 (by omega) rfl, r 86 (by omega) rfl], by rw [r 31 (by omega) rfl, r 87 (by omega) rfl]⟩, fun k hk => no hk⟩
  · show pm_i S 0 10 = pm_i S 59 37
    rw [z 0 10 (by omega) rfl, z 59 37 (by omega) rfl]
  · exact ⟨by rw [z 33 0 (by omega) rfl, z 59 79 (by omega) rfl], by rw [z 59 79 (by omega) rfl]; exact ⟨by decide, by decide⟩, fun k hk => no hk⟩
  · exact ⟨by rw [z 38 0 (by omega) rfl, z 59 41 (by omega) rfl], by rw [z 59 41 (by omega) rfl]; exact ⟨by decide, by decide⟩, ⟨by rw [r 39 (by omega) rfl, r 89 (by omega) rfl], by rw [r 40 (by omega) rfl, r 90 (by omega) rfl], by rw [r 41 (by omega) rfl, r 91 (by omega) rfl]⟩, fun k hk => no hk⟩
  · intro t ht
    obtain ⟨t1, t2, t3⟩ := tp t ht
    have t4 : pm_i S 93 t = 0 := z 93 t (by omega) rfl
    refine ⟨by rw [t1, t2], by rw [t3, t4], by rw [t1]; exact ⟨by decide, by decide⟩, by rw [t4]; exact ⟨by decide, by decide⟩, fun _ => t4, fun i _ => ?_⟩
    rw [(at_ (48 + 2 * t) (by omega)).2.2.2.1 i, (at_ 94 (by omega)).2.2.2.1]
  · exact ⟨by rw [z 44 0 (by omega) rfl, z 59 85 (by omega) rfl], by rw [z 59 85 (by omega) rfl]; exact ⟨by decide, by decide⟩, by rw [r 45 (by omega) rfl, r 112 (by omega) rfl]⟩
def cx_b0 : List pm_It := (pm_lk pb_t280 0).1
theorem cx_run : cx_wl (cx_c 4) (fun _ => false) (fun t _ ls st D cn sn => decide (t = 18) && cx_fin ls st D cn sn) cx_b0 18 1 [.retAddr 101, .float 0, .float 0, .float 0] [] ([], [], []) 0 0 = true := by decide +kernel
