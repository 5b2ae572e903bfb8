/-! THE TEXT's grammar, once: places and bytes as numbers; of what is read the place behind it, or that of the fault -/
/-- the byte at a place; 256 behind the end -/
def gx_b (f : Nat → Int32) (n i : Nat) : Nat := if i < n then (f i).toNatClampNeg else 256
abbrev gx_R (α : Type) : Type := Nat × Option α
def gx_bd {α β : Type} (r : gx_R α) (f : α → Nat → gx_R β) : gx_R β := match r with
  | (p, none) => (p, none)
  | (p, some a) => f a p
def gx_w (B : Nat → Nat) : List Nat → Nat → gx_R Unit
  | [], p => (p, some ())
  | c :: l, p => if B p = c then gx_w B l (p + 1) else (p, none)
def gx_nm (B : Nat → Nat) : Nat → Nat → Nat → Nat × Nat
  | 0, p, v => (p, v)
  | k + 1, p, v => if 48 ≤ B p ∧ B p ≤ 57 then gx_nm B k (p + 1) (10 * v + (B p - 48)) else (p, v)
def gx_num (B : Nat → Nat) (least most p : Nat) : gx_R Nat :=
  if 48 + least ≤ B p ∧ B p ≤ 57 then ((gx_nm B (most - 1) (p + 1) (B p - 48)).1, some (gx_nm B (most - 1) (p + 1) (B p - 48)).2) else (p, none)
/-- a step: its kind, its SORT, its number -/
def gx_st (k s n : Nat) : Nat := k + 16 * s + 256 * n
def gx_cmp (B : Nat → Nat) (k s most p : Nat) : gx_R (List Nat) :=
  if B p = 60 then gx_bd (gx_num B 0 most (p + 1)) (fun n q => (q, some [gx_st k s n]))
  else if B p = 62 then gx_bd (gx_num B 0 most (p + 1)) (fun n q => (q, some [gx_st (k + 1) s n])) else (p, none)
def gx_test (B : Nat → Nat) (p : Nat) : gx_R (List Nat) :=
  if B p = 116 then gx_bd (gx_num B 0 1 (p + 1)) (fun n q => (q, some [gx_st 0 0 n]))
  else if B p = 97 then gx_bd (gx_num B 1 1 (p + 1)) (fun s q => (q, some [gx_st 1 s 0]))
  else if B p = 119 then gx_bd (gx_num B 1 1 (p + 1)) (fun s q => gx_cmp B 2 s 2 q)
  else if B p = 108 then gx_cmp B 4 0 4 (p + 1)
  else if B p = 100 then gx_cmp B 6 0 4 (p + 1)
  else (p, none)
/-- behind an F, and behind a T -/
def gx_T (F : Nat → gx_R (List Nat)) (B : Nat → Nat) : Nat → List Nat → Nat → gx_R (List Nat)
  | 0, s, p => (p, some s)
  | g + 1, s, p => if B p = 38 then gx_bd (F (p + 1)) (fun t q => gx_T F B g (s ++ (t ++ [9])) q) else (p, some s)
def gx_TT (F : Nat → gx_R (List Nat)) (B : Nat → Nat) (g p : Nat) : gx_R (List Nat) := gx_bd (F p) (fun s q => gx_T F B g s q)
def gx_E (F : Nat → gx_R (List Nat)) (B : Nat → Nat) (g0 : Nat) : Nat → List Nat → Nat → gx_R (List Nat)
  | 0, s, p => (p, some s)
  | g + 1, s, p => if B p = 124 then gx_bd (gx_TT F B g0 (p + 1)) (fun t q => gx_E F B g0 g (s ++ (t ++ [10])) q) else (p, some s)
def gx_EE (F : Nat → gx_R (List Nat)) (B : Nat → Nat) (g p : Nat) : gx_R (List Nat) := gx_bd (gx_TT F B g p) (fun s q => gx_E F B g g s q)
/-- F, with so many ( and ! left -/
def gx_F (B : Nat → Nat) (g : Nat) : Nat → Nat → gx_R (List Nat)
  | 0, p => gx_test B p
  | k + 1, p => if B p = 33 then gx_bd (gx_F B g k (p + 1)) (fun s q => (q, some (s ++ [8])))
    else if B p = 40 then gx_bd (gx_EE (gx_F B g k) B g (p + 1)) (fun s q => if B q = 41 then (q + 1, some s) else (q, none))
    else gx_test B p
/-- E of a clause -/
def gx_e (B : Nat → Nat) (p : Nat) : gx_R (List Nat) := gx_EE (gx_F B 160 6) B 160 p
/-- a LAW: its owe (SORT, WORKING DAYS, 0 always 1 if 2 unless, first step, last step), its numbers by the class's fields (8 reachStart, 9 reachStop, 10 limit .. 16 few), its steps -/
abbrev gx_L : Type := List (Nat × Nat × Nat × Nat × Nat) × (Nat → Nat) × List Nat
def gx_0 : gx_L := ([], fun f => ([0, 0, 9999, 30, 0, 1, 9999, 0, 1] : List Nat).getD (f - 8) 0, [])
def gx_one (B : Nat → Nat) (L : gx_L) (f : Nat) (ws : List Nat) (p : Nat) : gx_R gx_L :=
  gx_bd (gx_w B ws p) (fun _ q => gx_bd (gx_num B 0 4 q) (fun n q => (q, some (L.1, va_up L.2.1 f n, L.2.2))))
def gx_owe (B : Nat → Nat) (L : gx_L) (p : Nat) : gx_R gx_L :=
  gx_bd (gx_w B [111, 119, 101, 32] p) (fun _ q => gx_bd (gx_num B 1 1 q) (fun s q => gx_bd (gx_w B [32] q) (fun _ q => gx_bd (gx_num B 0 4 q) (fun n q =>
    if B q = 32 then
      gx_bd (if B (q + 1) = 105 then gx_w B [105, 102, 32] (q + 1) else gx_w B [117, 110, 108, 101, 115, 115, 32] (q + 1)) (fun _ r =>
        gx_bd (gx_e B r) (fun e r => (r, some (L.1 ++ [(s, n, if B (q + 1) = 105 then 1 else 2, L.2.2.length, L.2.2.length + e.length)], L.2.1, L.2.2 ++ e))))
    else (q, some (L.1 ++ [(s, n, 0, L.2.2.length, L.2.2.length)], L.2.1, L.2.2))))))
def gx_reach (B : Nat → Nat) (L : gx_L) (p : Nat) : gx_R gx_L :=
  gx_bd (gx_w B [101, 97, 99, 104, 32] p) (fun _ q => gx_bd (gx_e B q) (fun e q => (q, some (L.1, va_up (va_up L.2.1 8 L.2.2.length) 9 (L.2.2.length + e.length), L.2.2 ++ e))))
def gx_scale (B : Nat → Nat) (L : gx_L) (p : Nat) : gx_R gx_L :=
  gx_bd (gx_w B [115, 99, 97, 108, 101, 32] p) (fun _ q => gx_bd (gx_num B 0 4 q) (fun n q => gx_bd (gx_w B [32] q) (fun _ q => gx_bd (gx_num B 1 4 q) (fun m q => (q, some (L.1, va_up (va_up L.2.1 12 n) 13 m, L.2.2))))))
def gx_clause (B : Nat → Nat) (L : gx_L) (p : Nat) : gx_R gx_L :=
  if B p = 111 then gx_owe B L p
  else if B p = 114 then (if B (p + 1) = 97 then gx_one B L 15 [97, 116, 101, 32] (p + 1) else gx_reach B L (p + 1))
  else if B p = 115 then gx_scale B L p
  else if B p = 108 then gx_one B L 10 [108, 105, 109, 105, 116, 32] p
  else if B p = 97 then gx_one B L 11 [97, 110, 115, 119, 101, 114, 32] p
  else if B p = 99 then gx_one B L 14 [99, 97, 112, 32] p
  else if B p = 102 then gx_one B L 16 [102, 101, 119, 32] p
  else (p, none)
def gx_law (B : Nat → Nat) (n : Nat) : Nat → gx_L → Nat → gx_R gx_L
  | 0, _, p => (p, none)
  | g + 1, L, p => gx_bd (gx_clause B L p) (fun L q => if n ≤ q then (q, some L) else if g = 0 then (q, none) else if B q = 59 then gx_law B n g L (q + 1) else (q, none))
/-- THE TEXT read: its law, or the fault -/
def gx_read (f : Nat → Int32) (n : Nat) : gx_R gx_L := gx_law (gx_b f n) n 10 gx_0 0
/-- steps judged, with t for the tests -/
def gx_s1 (t : Nat → Bool) (s : Nat) (st : List Bool) : List Bool := match s % 16, st with
  | 8, a :: r => (!a) :: r
  | 9, a :: b :: r => (b && a) :: r
  | 10, a :: b :: r => (b || a) :: r
  | _, st => t s :: st
def gx_run (t : Nat → Bool) : List Nat → List Bool → List Bool
  | [], st => st
  | s :: l, st => gx_run t l (gx_s1 t s st)
theorem gx_run_app (t : Nat → Bool) (l m : List Nat) (st : List Bool) : gx_run t (l ++ m) st = gx_run t m (gx_run t l st) := by
  induction l generalizing st with
  | nil => rfl
  | cons s l ih => exact ih _
