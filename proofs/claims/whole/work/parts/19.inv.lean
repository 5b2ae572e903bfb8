/-! THE INVARIANT: the class's cells say what the model's say -/
/-- addresses: MATTERS, their GRADES, ACTS, LAWS, a LAW's rows; a number for each row of ours -/
abbrev iv_A : Type := (Nat → Nat) × (Nat → Nat) × (Nat → Nat) × (Nat → Nat) × (Nat → Nat → Nat) × (Nat → Nat)
def iv_m (A : iv_A) : Nat → Nat := A.1
def iv_g (A : iv_A) : Nat → Nat := A.2.1
def iv_a (A : iv_A) : Nat → Nat := A.2.2.1
def iv_l (A : iv_A) : Nat → Nat := A.2.2.2.1
def iv_w (A : iv_A) : Nat → Nat → Nat := A.2.2.2.2.1
def iv_t (A : iv_A) : Nat → Nat := A.2.2.2.2.2
/-- a count of the model's -/
def iv_c (S : pm_S) (f : Nat) : Nat := (pm_i S 59 f).toNatClampNeg
def iv_in (x l h : Int32) : Prop := l ≤ x ∧ x ≤ h
def iv_Day (S : pm_S) : Prop := pm_i S 1 0 = pm_i S 59 0 ∧ iv_in (pm_i S 59 0) 0 9999 ∧ pm_i S 2 = pm_i S 60 ∧ pm_i S 1 2 = pm_i S 59 2 ∧ iv_in (pm_i S 59 2) 0 20 ∧
  (∀ k, k < iv_c S 2 → iv_in (pm_i S 60 k) 0 9999 ∧ (pm_i S 60 k).toNatClampNeg % 7 < 5) ∧ (∀ k j, k < j → j < iv_c S 2 → pm_i S 60 k ≠ pm_i S 60 j)
def iv_Per (S : pm_S) : Prop := pm_i S 0 2 = pm_i S 59 4 ∧ iv_in (pm_i S 59 4) 0 20 ∧ pm_i S 3 = pm_i S 61 ∧ ∀ k, pm_i S 61 k = 0 ∨ pm_i S 61 k = 1
/-- the model's row of a MATTER's field -/
def iv_f (f : Nat) : Nat := ([0, 63, 64, 65, 66, 67, 62, 68, 69, 70, 71, 72, 73, 74] : List Nat).getD f 0
def iv_mrow (A : iv_A) (S : pm_S) (a : Nat) : Prop :=
  (pm_r S 4 a = some (iv_m A a) ∧ pm_r S (iv_m A a) 16 = some (iv_g A a)) ∧
  (114 ≤ iv_m A a ∧ iv_m A a < pm_n S ∧ 114 ≤ iv_g A a ∧ iv_g A a < pm_n S) ∧
  (pm_k S (iv_m A a) = 7 ∧ pm_k S (iv_g A a) = 20 ∧ pm_z S (iv_g A a) = 6 ∧ iv_t A (iv_g A a) = a) ∧
  pm_i S (iv_m A a) 0 = nI a ∧ (∀ f, 1 ≤ f → f ≤ 13 → pm_i S (iv_m A a) f = pm_i S (iv_f f) a) ∧ (∀ h, h < 6 → pm_i S (iv_g A a) h = pm_i S 88 (40 * h + a))
def iv_mok (S : pm_S) (a : Nat) : Prop :=
  (iv_in (pm_i S 62 a) 0 6 ∧ (0 ≤ pm_i S 63 a ∧ pm_i S 63 a < pm_i S 59 4) ∧ iv_in (pm_i S 64 a) 0 5 ∧ iv_in (pm_i S 65 a) 0 9 ∧ iv_in (pm_i S 66 a) 0 (pm_i S 59 0) ∧ iv_in (pm_i S 67 a) 0 9999) ∧
  (iv_in (pm_i S 68 a) (-1) (pm_i S 59 0) ∧ iv_in (pm_i S 69 a) (-1) 99999 ∧ -1 ≤ pm_i S 70 a ∧ iv_in (pm_i S 71 a) (-1) (pm_i S 59 0)) ∧
  (pm_i S 62 a = 2 → 0 ≤ pm_i S 68 a) ∧ iv_in (pm_i S 73 a) 0 9999 ∧ iv_in (pm_i S 74 a) 0 (pm_i S 59 24) ∧ ∀ h, h < 6 → iv_in (pm_i S 88 (40 * h + a)) (-1) 9
def iv_mnew (S : pm_S) (a : Nat) : Prop := (pm_i S 72 a = 0 ∧ pm_i S 73 a = 0 ∧ pm_i S 74 a = 0) ∧ ∀ h, h < 6 → pm_i S 88 (40 * h + a) = -1
def iv_Mat (A : iv_A) (S : pm_S) : Prop := pm_i S 0 4 = pm_i S 59 18 ∧ iv_in (pm_i S 59 18) 0 40 ∧ (∀ a, a < iv_c S 18 → iv_mrow A S a ∧ iv_mok S a) ∧ ∀ a, iv_c S 18 ≤ a → a < 40 → iv_mnew S a
/-- a chain of ACTS -/
def iv_ch (A : iv_A) (S : pm_S) : Option Nat → List Nat → Prop
  | r, [] => r = none
  | r, a :: L => r = some (iv_a A a) ∧ iv_ch A S (pm_r S (iv_a A a) 5) L
/-- the ACTS of a MATTER -/
def iv_acts (S : pm_S) (m : Nat) : List Nat := (List.range (iv_c S 24)).filter (fun a => decide (pm_i S 75 a = nI m))
def iv_arow (A : iv_A) (S : pm_S) (a : Nat) : Prop :=
  (114 ≤ iv_a A a ∧ iv_a A a < pm_n S ∧ pm_k S (iv_a A a) = 0) ∧
  (pm_i S (iv_a A a) 0 = pm_i S 76 a ∧ pm_i S (iv_a A a) 1 = pm_i S 77 a ∧ pm_i S (iv_a A a) 2 = pm_i S 78 a ∧ pm_i S (iv_a A a) 3 = pm_i S 79 a ∧ pm_i S (iv_a A a) 4 = nI a) ∧
  (0 ≤ pm_i S 75 a ∧ pm_i S 75 a < pm_i S 59 18) ∧ iv_in (pm_i S 76 a) 1 9 ∧ iv_in (pm_i S 77 a) 0 (pm_i S 59 0) ∧ iv_in (pm_i S 78 a) (-99) 99 ∧ iv_in (pm_i S 79 a) 0 (pm_i S 59 0)
def iv_Act (A : iv_A) (S : pm_S) : Prop := pm_i S 0 5 = pm_i S 59 24 ∧ iv_in (pm_i S 59 24) 0 150 ∧ (∀ a, a < iv_c S 24 → iv_arow A S a) ∧
  ∀ m, m < iv_c S 18 → iv_ch A S (pm_r S (iv_m A m) 14) (iv_acts S m) ∧ pm_r S (iv_m A m) 15 = (iv_acts S m).getLast?.map (iv_a A)
def iv_Txt (S : pm_S) : Prop := pm_i S 5 1 = pm_i S 59 26 ∧ iv_in (pm_i S 59 26) 0 160 ∧ pm_i S 6 = pm_i S 80 ∧ ∀ k, iv_in (pm_i S 80 k) 0 255
/-- a LAW's field that holds a row -/
def iv_lf (q : Nat) : Nat := ([3, 4, 5, 6, 7, 17] : List Nat).getD q 0
/-- a LAW's object and rows -/
def iv_lcell (A : iv_A) (S : pm_S) (l : Nat) : Prop :=
  (114 ≤ iv_l A l ∨ iv_l A l = 7) ∧ iv_l A l < pm_n S ∧ pm_k S (iv_l A l) = 5 ∧ iv_t A (iv_l A l) = 1000 + l ∧
  ∀ q, q < 6 → pm_r S (iv_l A l) (iv_lf q) = some (iv_w A l q) ∧ (114 ≤ iv_w A l q ∨ (8 ≤ iv_w A l q ∧ iv_w A l q ≤ 13)) ∧ iv_w A l q < pm_n S ∧ pm_k S (iv_w A l q) = 20 ∧ pm_z S (iv_w A l q) = (if q = 5 then 160 else 10) ∧ iv_t A (iv_w A l q) = 100 + 10 * l + q
/-- a LAW's object says what was read -/
def iv_lrep (S : pm_S) (p : Nat) (wq : Nat → Nat) (L : gx_L) : Prop :=
  pm_i S p 2 = nI L.1.length ∧ pm_i S p 18 = nI L.2.2.length ∧ L.1.length ≤ 10 ∧ L.2.2.length ≤ 160 ∧ (∀ f, 8 ≤ f → f ≤ 16 → pm_i S p f = nI (L.2.1 f)) ∧
  (∀ k, k < L.1.length → pm_i S (wq 0) k = nI (L.1.getD k (0, 0, 0, 0, 0)).1 ∧ pm_i S (wq 1) k = nI (L.1.getD k (0, 0, 0, 0, 0)).2.1 ∧ pm_i S (wq 2) k = nI (L.1.getD k (0, 0, 0, 0, 0)).2.2.1 ∧ pm_i S (wq 3) k = nI (L.1.getD k (0, 0, 0, 0, 0)).2.2.2.1 ∧ pm_i S (wq 4) k = nI (L.1.getD k (0, 0, 0, 0, 0)).2.2.2.2) ∧
  ∀ k, k < L.2.2.length → pm_i S (wq 5) k = nI (L.2.2.getD k 0)
/-- the l-th LAW's text -/
def iv_txt (S : pm_S) (l : Nat) : Nat → Int32 := fun i => pm_i S 81 (160 * l + i)
def iv_lrow (A : iv_A) (S : pm_S) (l : Nat) : Prop :=
  pm_r S 15 l = some (iv_l A l) ∧ pm_i S (iv_l A l) 0 = pm_i S 83 l ∧ pm_i S (iv_l A l) 1 = pm_i S 84 l ∧ iv_in (pm_i S 83 l) (-1) 5 ∧ iv_in (pm_i S 84 l) 0 9999 ∧ iv_in (pm_i S 82 l) 0 160 ∧ (∀ k, k < (pm_i S 82 l).toNatClampNeg → iv_in (iv_txt S l k) 0 255) ∧
  ∃ p L, gx_read (iv_txt S l) (pm_i S 82 l).toNatClampNeg = (p, some L) ∧ iv_lrep S (iv_l A l) (iv_w A l) L
def iv_Law (A : iv_A) (S : pm_S) : Prop := pm_i S 14 2 = pm_i S 59 31 ∧ iv_in (pm_i S 59 31) 0 12 ∧ (∀ l, l ≤ iv_c S 31 → iv_lcell A S l) ∧ (∀ l, l < iv_c S 31 → iv_lrow A S l) ∧ pm_r S 5 3 = some (iv_l A (iv_c S 31)) ∧ iv_lrep S 16 (fun q => 17 + q) gx_0
def iv_Cau (S : pm_S) : Prop := pm_i S 28 0 = pm_i S 59 35 ∧ iv_in (pm_i S 59 35) 0 12 ∧ (pm_i S 29 = pm_i S 85 ∧ pm_i S 30 = pm_i S 86 ∧ pm_i S 31 = pm_i S 87) ∧ ∀ k, k < iv_c S 35 → iv_in (pm_i S 85 k) (-1) 5 ∧ iv_in (pm_i S 86 k) 0 9 ∧ iv_in (pm_i S 87 k) 0 3
def iv_Red (S : pm_S) : Prop := pm_i S 0 10 = pm_i S 59 37
def iv_Rep (S : pm_S) : Prop := pm_i S 33 0 = pm_i S 59 79 ∧ iv_in (pm_i S 59 79) 0 40 ∧ ∀ k, k < iv_c S 79 → pm_i S 35 k = pm_i S 103 k ∧ pm_i S 36 k = pm_i S 109 k ∧ pm_i S 34 k = 100 * pm_i S 104 k + 10 * pm_i S 105 k + pm_i S 106 k ∧ iv_in (pm_i S 104 k) 0 5 ∧ iv_in (pm_i S 105 k) 0 9 ∧ iv_in (pm_i S 106 k) 0 6
def iv_Wk (S : pm_S) : Prop := pm_i S 38 0 = pm_i S 59 41 ∧ iv_in (pm_i S 59 41) 0 7 ∧ (pm_i S 39 = pm_i S 89 ∧ pm_i S 40 = pm_i S 90 ∧ pm_i S 41 = pm_i S 91) ∧ ∀ k, k < iv_c S 41 → (0 ≤ pm_i S 89 k ∧ pm_i S 89 k < pm_i S 59 18) ∧ iv_in (pm_i S 90 k) 1 9 ∧ iv_in (pm_i S 91 k) 0 9999
def iv_Tp (S : pm_S) : Prop := ∀ t, t < 6 → pm_i S (47 + 2 * t) 0 = pm_i S 92 t ∧ pm_i S (47 + 2 * t) 1 = pm_i S 93 t ∧ iv_in (pm_i S 92 t) (-1) 3 ∧ iv_in (pm_i S 93 t) 0 80 ∧ (pm_i S 92 t = -1 → pm_i S 93 t = 0) ∧ ∀ i, i < 80 → pm_l S (48 + 2 * t) i = pm_l S 94 (80 * t + i)
def iv_Tr (S : pm_S) : Prop := pm_i S 44 0 = pm_i S 59 85 ∧ iv_in (pm_i S 59 85) 0 1000 ∧ pm_i S 45 = pm_i S 112
def Inv (A : iv_A) (S : pm_S) : Prop := Sh S ∧ iv_Day S ∧ iv_Per S ∧ iv_Mat A S ∧ iv_Act A S ∧ iv_Txt S ∧ iv_Law A S ∧ iv_Cau S ∧ iv_Red S ∧ iv_Rep S ∧ iv_Wk S ∧ iv_Tp S ∧ iv_Tr S
/-! what a module reads -/
def iv_rDay (p j : Nat) : Prop := (p = 1 ∧ j = 0) ∨ (p = 1 ∧ j = 2) ∨ (p = 59 ∧ j = 0) ∨ (p = 59 ∧ j = 2) ∨ p = 2 ∨ p = 60
theorem iv_Day.cg {S S' : pm_S} (h : iv_Day S) (hi : ∀ p j, iv_rDay p j → pm_i S' p j = pm_i S p j) : iv_Day S' := by
  have e1_0 : pm_i S' 1 0 = pm_i S 1 0 := hi 1 0 (by unfold iv_rDay; omega)
  have e1_2 : pm_i S' 1 2 = pm_i S 1 2 := hi 1 2 (by unfold iv_rDay; omega)
  have e59_0 : pm_i S' 59 0 = pm_i S 59 0 := hi 59 0 (by unfold iv_rDay; omega)
  have e59_2 : pm_i S' 59 2 = pm_i S 59 2 := hi 59 2 (by unfold iv_rDay; omega)
  have e2 : pm_i S' 2 = pm_i S 2 := funext (fun j => hi 2 j (by unfold iv_rDay; omega))
  have e60 : pm_i S' 60 = pm_i S 60 := funext (fun j => hi 60 j (by unfold iv_rDay; omega))
  unfold iv_Day at h ⊢
  simp only [iv_c, e1_0, e1_2, e59_0, e59_2, e2, e60] at h ⊢
  exact h
theorem iv_Day.wI {S : pm_S} {p j : Nat} {v : Int32} (hp : ¬ iv_rDay p j) (h : iv_Day S) : iv_Day (pm_wI S p j v) := h.cg (fun p' j' hr => by rw [pm_i_wI, if_neg (fun z => hp (by rw [← z.1, ← z.2]; exact hr))])
theorem iv_Day.wL {S : pm_S} {p j : Nat} {v : Int64} (h : iv_Day S) : iv_Day (pm_wL S p j v) := h
theorem iv_Day.wR {S : pm_S} {p j : Nat} {v : Option Nat} (h : iv_Day S) : iv_Day (pm_wR S p j v) := h
theorem iv_Day.wM {S : pm_S} {p : Nat} {f : Nat → Int64} (h : iv_Day S) : iv_Day (pm_wM S p f) := h
theorem iv_Day.nw {S : pm_S} {k z : Nat} (hS : Sh S) (h : iv_Day S) : iv_Day (pm_nw S k z) := h.cg (fun p j hr => by have h1 := hS.1; unfold iv_rDay at hr; rw [show pm_i (pm_nw S k z) p = pm_i S p from if_neg (fun e => by have e2 : p = pm_n S := e; omega)])
def iv_rPer (p j : Nat) : Prop := (p = 0 ∧ j = 2) ∨ (p = 59 ∧ j = 4) ∨ p = 3 ∨ p = 61
theorem iv_Per.cg {S S' : pm_S} (h : iv_Per S) (hi : ∀ p j, iv_rPer p j → pm_i S' p j = pm_i S p j) : iv_Per S' := by
  have e0_2 : pm_i S' 0 2 = pm_i S 0 2 := hi 0 2 (by unfold iv_rPer; omega)
  have e59_4 : pm_i S' 59 4 = pm_i S 59 4 := hi 59 4 (by unfold iv_rPer; omega)
  have e3 : pm_i S' 3 = pm_i S 3 := funext (fun j => hi 3 j (by unfold iv_rPer; omega))
  have e61 : pm_i S' 61 = pm_i S 61 := funext (fun j => hi 61 j (by unfold iv_rPer; omega))
  unfold iv_Per at h ⊢
  simp only [iv_c, e0_2, e59_4, e3, e61] at h ⊢
  exact h
theorem iv_Per.wI {S : pm_S} {p j : Nat} {v : Int32} (hp : ¬ iv_rPer p j) (h : iv_Per S) : iv_Per (pm_wI S p j v) := h.cg (fun p' j' hr => by rw [pm_i_wI, if_neg (fun z => hp (by rw [← z.1, ← z.2]; exact hr))])
theorem iv_Per.wL {S : pm_S} {p j : Nat} {v : Int64} (h : iv_Per S) : iv_Per (pm_wL S p j v) := h
theorem iv_Per.wR {S : pm_S} {p j : Nat} {v : Option Nat} (h : iv_Per S) : iv_Per (pm_wR S p j v) := h
theorem iv_Per.wM {S : pm_S} {p : Nat} {f : Nat → Int64} (h : iv_Per S) : iv_Per (pm_wM S p f) := h
theorem iv_Per.nw {S : pm_S} {k z : Nat} (hS : Sh S) (h : iv_Per S) : iv_Per (pm_nw S k z) := h.cg (fun p j hr => by have h1 := hS.1; unfold iv_rPer at hr; rw [show pm_i (pm_nw S k z) p = pm_i S p from if_neg (fun e => by have e2 : p = pm_n S := e; omega)])
def iv_rTxt (p j : Nat) : Prop := (p = 5 ∧ j = 1) ∨ (p = 59 ∧ j = 26) ∨ p = 6 ∨ p = 80
theorem iv_Txt.cg {S S' : pm_S} (h : iv_Txt S) (hi : ∀ p j, iv_rTxt p j → pm_i S' p j = pm_i S p j) : iv_Txt S' := by
  have e5_1 : pm_i S' 5 1 = pm_i S 5 1 := hi 5 1 (by unfold iv_rTxt; omega)
  have e59_26 : pm_i S' 59 26 = pm_i S 59 26 := hi 59 26 (by unfold iv_rTxt; omega)
  have e6 : pm_i S' 6 = pm_i S 6 := funext (fun j => hi 6 j (by unfold iv_rTxt; omega))
  have e80 : pm_i S' 80 = pm_i S 80 := funext (fun j => hi 80 j (by unfold iv_rTxt; omega))
  unfold iv_Txt at h ⊢
  simp only [iv_c, e5_1, e59_26, e6, e80] at h ⊢
  exact h
theorem iv_Txt.wI {S : pm_S} {p j : Nat} {v : Int32} (hp : ¬ iv_rTxt p j) (h : iv_Txt S) : iv_Txt (pm_wI S p j v) := h.cg (fun p' j' hr => by rw [pm_i_wI, if_neg (fun z => hp (by rw [← z.1, ← z.2]; exact hr))])
theorem iv_Txt.wL {S : pm_S} {p j : Nat} {v : Int64} (h : iv_Txt S) : iv_Txt (pm_wL S p j v) := h
theorem iv_Txt.wR {S : pm_S} {p j : Nat} {v : Option Nat} (h : iv_Txt S) : iv_Txt (pm_wR S p j v) := h
theorem iv_Txt.wM {S : pm_S} {p : Nat} {f : Nat → Int64} (h : iv_Txt S) : iv_Txt (pm_wM S p f) := h
theorem iv_Txt.nw {S : pm_S} {k z : Nat} (hS : Sh S) (h : iv_Txt S) : iv_Txt (pm_nw S k z) := h.cg (fun p j hr => by have h1 := hS.1; unfold iv_rTxt at hr; rw [show pm_i (pm_nw S k z) p = pm_i S p from if_neg (fun e => by have e2 : p = pm_n S := e; omega)])
def iv_rCau (p j : Nat) : Prop := (p = 28 ∧ j = 0) ∨ (p = 59 ∧ j = 35) ∨ p = 29 ∨ p = 30 ∨ p = 31 ∨ p = 85 ∨ p = 86 ∨ p = 87
theorem iv_Cau.cg {S S' : pm_S} (h : iv_Cau S) (hi : ∀ p j, iv_rCau p j → pm_i S' p j = pm_i S p j) : iv_Cau S' := by
  have e28_0 : pm_i S' 28 0 = pm_i S 28 0 := hi 28 0 (by unfold iv_rCau; omega)
  have e59_35 : pm_i S' 59 35 = pm_i S 59 35 := hi 59 35 (by unfold iv_rCau; omega)
  have e29 : pm_i S' 29 = pm_i S 29 := funext (fun j => hi 29 j (by unfold iv_rCau; omega))
  have e30 : pm_i S' 30 = pm_i S 30 := funext (fun j => hi 30 j (by unfold iv_rCau; omega))
  have e31 : pm_i S' 31 = pm_i S 31 := funext (fun j => hi 31 j (by unfold iv_rCau; omega))
  have e85 : pm_i S' 85 = pm_i S 85 := funext (fun j => hi 85 j (by unfold iv_rCau; omega))
  have e86 : pm_i S' 86 = pm_i S 86 := funext (fun j => hi 86 j (by unfold iv_rCau; omega))
  have e87 : pm_i S' 87 = pm_i S 87 := funext (fun j => hi 87 j (by unfold iv_rCau; omega))
  unfold iv_Cau at h ⊢
  simp only [iv_c, e28_0, e59_35, e29, e30, e31, e85, e86, e87] at h ⊢
  exact h
theorem iv_Cau.wI {S : pm_S} {p j : Nat} {v : Int32} (hp : ¬ iv_rCau p j) (h : iv_Cau S) : iv_Cau (pm_wI S p j v) := h.cg (fun p' j' hr => by rw [pm_i_wI, if_neg (fun z => hp (by rw [← z.1, ← z.2]; exact hr))])
theorem iv_Cau.wL {S : pm_S} {p j : Nat} {v : Int64} (h : iv_Cau S) : iv_Cau (pm_wL S p j v) := h
theorem iv_Cau.wR {S : pm_S} {p j : Nat} {v : Option Nat} (h : iv_Cau S) : iv_Cau (pm_wR S p j v) := h
theorem iv_Cau.wM {S : pm_S} {p : Nat} {f : Nat → Int64} (h : iv_Cau S) : iv_Cau (pm_wM S p f) := h
theorem iv_Cau.nw {S : pm_S} {k z : Nat} (hS : Sh S) (h : iv_Cau S) : iv_Cau (pm_nw S k z) := h.cg (fun p j hr => by have h1 := hS.1; unfold iv_rCau at hr; rw [show pm_i (pm_nw S k z) p = pm_i S p from if_neg (fun e => by have e2 : p = pm_n S := e; omega)])
def iv_rRed (p j : Nat) : Prop := (p = 0 ∧ j = 10) ∨ (p = 59 ∧ j = 37)
theorem iv_Red.cg {S S' : pm_S} (h : iv_Red S) (hi : ∀ p j, iv_rRed p j → pm_i S' p j = pm_i S p j) : iv_Red S' := by
  have e0_10 : pm_i S' 0 10 = pm_i S 0 10 := hi 0 10 (by unfold iv_rRed; omega)
  have e59_37 : pm_i S' 59 37 = pm_i S 59 37 := hi 59 37 (by unfold iv_rRed; omega)
  unfold iv_Red at h ⊢
  simp only [iv_c, e0_10, e59_37] at h ⊢
  exact h
theorem iv_Red.wI {S : pm_S} {p j : Nat} {v : Int32} (hp : ¬ iv_rRed p j) (h : iv_Red S) : iv_Red (pm_wI S p j v) := h.cg (fun p' j' hr => by rw [pm_i_wI, if_neg (fun z => hp (by rw [← z.1, ← z.2]; exact hr))])
theorem iv_Red.wL {S : pm_S} {p j : Nat} {v : Int64} (h : iv_Red S) : iv_Red (pm_wL S p j v) := h
theorem iv_Red.wR {S : pm_S} {p j : Nat} {v : Option Nat} (h : iv_Red S) : iv_Red (pm_wR S p j v) := h
theorem iv_Red.wM {S : pm_S} {p : Nat} {f : Nat → Int64} (h : iv_Red S) : iv_Red (pm_wM S p f) := h
theorem iv_Red.nw {S : pm_S} {k z : Nat} (hS : Sh S) (h : iv_Red S) : iv_Red (pm_nw S k z) := h.cg (fun p j hr => by have h1 := hS.1; unfold iv_rRed at hr; rw [show pm_i (pm_nw S k z) p = pm_i S p from if_neg (fun e => by have e2 : p = pm_n S := e; omega)])
def iv_rRep (p j : Nat) : Prop := (p = 33 ∧ j = 0) ∨ (p = 59 ∧ j = 79) ∨ p = 34 ∨ p = 35 ∨ p = 36 ∨ p = 103 ∨ p = 104 ∨ p = 105 ∨ p = 106 ∨ p = 109
theorem iv_Rep.cg {S S' : pm_S} (h : iv_Rep S) (hi : ∀ p j, iv_rRep p j → pm_i S' p j = pm_i S p j) : iv_Rep S' := by
  have e33_0 : pm_i S' 33 0 = pm_i S 33 0 := hi 33 0 (by unfold iv_rRep; omega)
  have e59_79 : pm_i S' 59 79 = pm_i S 59 79 := hi 59 79 (by unfold iv_rRep; omega)
  have e34 : pm_i S' 34 = pm_i S 34 := funext (fun j => hi 34 j (by unfold iv_rRep; omega))
  have e35 : pm_i S' 35 = pm_i S 35 := funext (fun j => hi 35 j (by unfold iv_rRep; omega))
  have e36 : pm_i S' 36 = pm_i S 36 := funext (fun j => hi 36 j (by unfold iv_rRep; omega))
  have e103 : pm_i S' 103 = pm_i S 103 := funext (fun j => hi 103 j (by unfold iv_rRep; omega))
  have e104 : pm_i S' 104 = pm_i S 104 := funext (fun j => hi 104 j (by unfold iv_rRep; omega))
  have e105 : pm_i S' 105 = pm_i S 105 := funext (fun j => hi 105 j (by unfold iv_rRep; omega))
  have e106 : pm_i S' 106 = pm_i S 106 := funext (fun j => hi 106 j (by unfold iv_rRep; omega))
  have e109 : pm_i S' 109 = pm_i S 109 := funext (fun j => hi 109 j (by unfold iv_rRep; omega))
  unfold iv_Rep at h ⊢
  simp only [iv_c, e33_0, e59_79, e34, e35, e36, e103, e104, e105, e106, e109] at h ⊢
  exact h
theorem iv_Rep.wI {S : pm_S} {p j : Nat} {v : Int32} (hp : ¬ iv_rRep p j) (h : iv_Rep S) : iv_Rep (pm_wI S p j v) := h.cg (fun p' j' hr => by rw [pm_i_wI, if_neg (fun z => hp (by rw [← z.1, ← z.2]; exact hr))])
theorem iv_Rep.wL {S : pm_S} {p j : Nat} {v : Int64} (h : iv_Rep S) : iv_Rep (pm_wL S p j v) := h
theorem iv_Rep.wR {S : pm_S} {p j : Nat} {v : Option Nat} (h : iv_Rep S) : iv_Rep (pm_wR S p j v) := h
theorem iv_Rep.wM {S : pm_S} {p : Nat} {f : Nat → Int64} (h : iv_Rep S) : iv_Rep (pm_wM S p f) := h
theorem iv_Rep.nw {S : pm_S} {k z : Nat} (hS : Sh S) (h : iv_Rep S) : iv_Rep (pm_nw S k z) := h.cg (fun p j hr => by have h1 := hS.1; unfold iv_rRep at hr; rw [show pm_i (pm_nw S k z) p = pm_i S p from if_neg (fun e => by have e2 : p = pm_n S := e; omega)])
def iv_rWk (p j : Nat) : Prop := (p = 38 ∧ j = 0) ∨ (p = 59 ∧ j = 41) ∨ (p = 59 ∧ j = 18) ∨ p = 39 ∨ p = 40 ∨ p = 41 ∨ p = 89 ∨ p = 90 ∨ p = 91
theorem iv_Wk.cg {S S' : pm_S} (h : iv_Wk S) (hi : ∀ p j, iv_rWk p j → pm_i S' p j = pm_i S p j) : iv_Wk S' := by
  have e38_0 : pm_i S' 38 0 = pm_i S 38 0 := hi 38 0 (by unfold iv_rWk; omega)
  have e59_41 : pm_i S' 59 41 = pm_i S 59 41 := hi 59 41 (by unfold iv_rWk; omega)
  have e59_18 : pm_i S' 59 18 = pm_i S 59 18 := hi 59 18 (by unfold iv_rWk; omega)
  have e39 : pm_i S' 39 = pm_i S 39 := funext (fun j => hi 39 j (by unfold iv_rWk; omega))
  have e40 : pm_i S' 40 = pm_i S 40 := funext (fun j => hi 40 j (by unfold iv_rWk; omega))
  have e41 : pm_i S' 41 = pm_i S 41 := funext (fun j => hi 41 j (by unfold iv_rWk; omega))
  have e89 : pm_i S' 89 = pm_i S 89 := funext (fun j => hi 89 j (by unfold iv_rWk; omega))
  have e90 : pm_i S' 90 = pm_i S 90 := funext (fun j => hi 90 j (by unfold iv_rWk; omega))
  have e91 : pm_i S' 91 = pm_i S 91 := funext (fun j => hi 91 j (by unfold iv_rWk; omega))
  unfold iv_Wk at h ⊢
  simp only [iv_c, e38_0, e59_41, e59_18, e39, e40, e41, e89, e90, e91] at h ⊢
  exact h
theorem iv_Wk.wI {S : pm_S} {p j : Nat} {v : Int32} (hp : ¬ iv_rWk p j) (h : iv_Wk S) : iv_Wk (pm_wI S p j v) := h.cg (fun p' j' hr => by rw [pm_i_wI, if_neg (fun z => hp (by rw [← z.1, ← z.2]; exact hr))])
theorem iv_Wk.wL {S : pm_S} {p j : Nat} {v : Int64} (h : iv_Wk S) : iv_Wk (pm_wL S p j v) := h
theorem iv_Wk.wR {S : pm_S} {p j : Nat} {v : Option Nat} (h : iv_Wk S) : iv_Wk (pm_wR S p j v) := h
theorem iv_Wk.wM {S : pm_S} {p : Nat} {f : Nat → Int64} (h : iv_Wk S) : iv_Wk (pm_wM S p f) := h
theorem iv_Wk.nw {S : pm_S} {k z : Nat} (hS : Sh S) (h : iv_Wk S) : iv_Wk (pm_nw S k z) := h.cg (fun p j hr => by have h1 := hS.1; unfold iv_rWk at hr; rw [show pm_i (pm_nw S k z) p = pm_i S p from if_neg (fun e => by have e2 : p = pm_n S := e; omega)])
def iv_rTr (p j : Nat) : Prop := (p = 44 ∧ j = 0) ∨ (p = 59 ∧ j = 85) ∨ p = 45 ∨ p = 112
theorem iv_Tr.cg {S S' : pm_S} (h : iv_Tr S) (hi : ∀ p j, iv_rTr p j → pm_i S' p j = pm_i S p j) : iv_Tr S' := by
  have e44_0 : pm_i S' 44 0 = pm_i S 44 0 := hi 44 0 (by unfold iv_rTr; omega)
  have e59_85 : pm_i S' 59 85 = pm_i S 59 85 := hi 59 85 (by unfold iv_rTr; omega)
  have e45 : pm_i S' 45 = pm_i S 45 := funext (fun j => hi 45 j (by unfold iv_rTr; omega))
  have e112 : pm_i S' 112 = pm_i S 112 := funext (fun j => hi 112 j (by unfold iv_rTr; omega))
  unfold iv_Tr at h ⊢
  simp only [iv_c, e44_0, e59_85, e45, e112] at h ⊢
  exact h
theorem iv_Tr.wI {S : pm_S} {p j : Nat} {v : Int32} (hp : ¬ iv_rTr p j) (h : iv_Tr S) : iv_Tr (pm_wI S p j v) := h.cg (fun p' j' hr => by rw [pm_i_wI, if_neg (fun z => hp (by rw [← z.1, ← z.2]; exact hr))])
theorem iv_Tr.wL {S : pm_S} {p j : Nat} {v : Int64} (h : iv_Tr S) : iv_Tr (pm_wL S p j v) := h
theorem iv_Tr.wR {S : pm_S} {p j : Nat} {v : Option Nat} (h : iv_Tr S) : iv_Tr (pm_wR S p j v) := h
theorem iv_Tr.wM {S : pm_S} {p : Nat} {f : Nat → Int64} (h : iv_Tr S) : iv_Tr (pm_wM S p f) := h
theorem iv_Tr.nw {S : pm_S} {k z : Nat} (hS : Sh S) (h : iv_Tr S) : iv_Tr (pm_nw S k z) := h.cg (fun p j hr => by have h1 := hS.1; unfold iv_rTr at hr; rw [show pm_i (pm_nw S k z) p = pm_i S p from if_neg (fun e => by have e2 : p = pm_n S := e; omega)])
