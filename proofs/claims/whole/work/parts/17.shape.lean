/-! THE FIXED CELLS: 0 the class with its parts, 59 the model with its rows -/
def sh_kz : List (Nat × Nat) := [(11, 0), (3, 0), (20, 20), (20, 20), (23, 40), (6, 0), (20, 160), (5, 0), (20, 10), (20, 10), (20, 10), (20, 10), (20, 10), (20, 160), (1, 0), (24, 12), (5, 0), (20, 10), (20, 10), (20, 10), (20, 10), (20, 10), (20, 160), (20, 10), (20, 10), (20, 10), (20, 10), (20, 10), (2, 0), (20, 12), (20, 12), (20, 12), (21, 12), (8, 0), (20, 40), (20, 40), (22, 40), (20, 40), (10, 0), (20, 7), (20, 7), (20, 7), (20, 128), (21, 128), (4, 0), (20, 20), (25, 6), (9, 0), (21, 80), (9, 0), (21, 80), (9, 0), (21, 80), (9, 0), (21, 80), (9, 0), (21, 80), (9, 0), (21, 80), (12, 0), (20, 20), (22, 20), (20, 40), (20, 40), (20, 40), (20, 40), (20, 40), (20, 40), (20, 40), (20, 40), (20, 40), (20, 40), (20, 40), (20, 40), (20, 40), (20, 150), (20, 150), (20, 150), (20, 150), (20, 150), (20, 160), (20, 1920), (20, 12), (20, 12), (20, 12), (20, 12), (20, 12), (20, 12), (20, 240), (20, 7), (20, 7), (20, 7), (20, 6), (20, 6), (21, 480), (20, 10), (20, 10), (22, 10), (20, 10), (20, 10), (20, 10), (20, 10), (20, 40), (20, 40), (20, 40), (20, 40), (20, 40), (20, 40), (20, 40), (22, 40), (20, 7), (20, 7), (20, 20), (21, 80)]
def sh_rr : List (Nat × Nat × Nat) := [(0, 0, 1), (1, 1, 2), (0, 1, 3), (0, 3, 4), (0, 6, 5), (5, 0, 6), (7, 3, 8), (7, 4, 9), (7, 5, 10), (7, 6, 11), (7, 7, 12), (7, 17, 13), (0, 7, 14), (14, 0, 1), (14, 1, 15), (14, 3, 16), (16, 3, 17), (16, 4, 18), (16, 5, 19), (16, 6, 20), (16, 7, 21), (16, 17, 22), (14, 5, 23), (14, 6, 24), (14, 7, 25), (14, 8, 26), (14, 9, 27), (0, 8, 28), (28, 1, 29), (28, 2, 30), (28, 3, 31), (28, 4, 32), (0, 9, 33), (33, 1, 34), (33, 2, 35), (33, 3, 36), (33, 4, 37), (0, 11, 38), (38, 1, 39), (38, 2, 40), (38, 3, 41), (38, 4, 42), (38, 5, 43), (0, 12, 44), (44, 1, 45), (0, 13, 46), (47, 2, 48), (46, 0, 47), (49, 2, 50), (46, 1, 49), (51, 2, 52), (46, 2, 51), (53, 2, 54), (46, 3, 53), (55, 2, 56), (46, 4, 55), (57, 2, 58), (46, 5, 57), (59, 1, 60), (59, 3, 61), (59, 5, 62), (59, 6, 63), (59, 7, 64), (59, 8, 65), (59, 9, 66), (59, 10, 67), (59, 11, 68), (59, 12, 69), (59, 13, 70), (59, 14, 71), (59, 15, 72), (59, 16, 73), (59, 17, 74), (59, 19, 75), (59, 20, 76), (59, 21, 77), (59, 22, 78), (59, 23, 79), (59, 25, 80), (59, 27, 81), (59, 28, 82), (59, 29, 83), (59, 30, 84), (59, 32, 85), (59, 33, 86), (59, 34, 87), (59, 36, 88), (59, 38, 89), (59, 39, 90), (59, 40, 91), (59, 42, 92), (59, 43, 93), (59, 44, 94), (59, 60, 95), (59, 61, 96), (59, 62, 97), (59, 64, 98), (59, 65, 99), (59, 66, 100), (59, 67, 101), (59, 71, 102), (59, 72, 103), (59, 73, 104), (59, 74, 105), (59, 75, 106), (59, 76, 107), (59, 77, 108), (59, 78, 109), (59, 80, 110), (59, 81, 111), (59, 84, 112), (59, 87, 113)]
def Sh (S : pm_S) : Prop := 114 ≤ pm_n S ∧ (∀ p, p < 114 → pm_k S p = (sh_kz.getD p (99, 0)).1 ∧ pm_z S p = (sh_kz.getD p (99, 0)).2) ∧ ∀ e, e ∈ sh_rr → pm_r S e.1 e.2.1 = some e.2.2
theorem sh_k0 {S : pm_S} (h : Sh S) : pm_k S 0 = 11 := (h.2.1 0 (by decide)).1
theorem sh_k1 {S : pm_S} (h : Sh S) : pm_k S 1 = 3 := (h.2.1 1 (by decide)).1
theorem sh_k2 {S : pm_S} (h : Sh S) : pm_k S 2 = 20 := (h.2.1 2 (by decide)).1
theorem sh_k3 {S : pm_S} (h : Sh S) : pm_k S 3 = 20 := (h.2.1 3 (by decide)).1
theorem sh_k4 {S : pm_S} (h : Sh S) : pm_k S 4 = 23 := (h.2.1 4 (by decide)).1
theorem sh_k5 {S : pm_S} (h : Sh S) : pm_k S 5 = 6 := (h.2.1 5 (by decide)).1
theorem sh_k6 {S : pm_S} (h : Sh S) : pm_k S 6 = 20 := (h.2.1 6 (by decide)).1
theorem sh_k7 {S : pm_S} (h : Sh S) : pm_k S 7 = 5 := (h.2.1 7 (by decide)).1
theorem sh_k8 {S : pm_S} (h : Sh S) : pm_k S 8 = 20 := (h.2.1 8 (by decide)).1
theorem sh_k9 {S : pm_S} (h : Sh S) : pm_k S 9 = 20 := (h.2.1 9 (by decide)).1
theorem sh_k10 {S : pm_S} (h : Sh S) : pm_k S 10 = 20 := (h.2.1 10 (by decide)).1
theorem sh_k11 {S : pm_S} (h : Sh S) : pm_k S 11 = 20 := (h.2.1 11 (by decide)).1
theorem sh_k12 {S : pm_S} (h : Sh S) : pm_k S 12 = 20 := (h.2.1 12 (by decide)).1
theorem sh_k13 {S : pm_S} (h : Sh S) : pm_k S 13 = 20 := (h.2.1 13 (by decide)).1
theorem sh_k14 {S : pm_S} (h : Sh S) : pm_k S 14 = 1 := (h.2.1 14 (by decide)).1
theorem sh_k15 {S : pm_S} (h : Sh S) : pm_k S 15 = 24 := (h.2.1 15 (by decide)).1
theorem sh_k16 {S : pm_S} (h : Sh S) : pm_k S 16 = 5 := (h.2.1 16 (by decide)).1
theorem sh_k17 {S : pm_S} (h : Sh S) : pm_k S 17 = 20 := (h.2.1 17 (by decide)).1
theorem sh_k18 {S : pm_S} (h : Sh S) : pm_k S 18 = 20 := (h.2.1 18 (by decide)).1
theorem sh_k19 {S : pm_S} (h : Sh S) : pm_k S 19 = 20 := (h.2.1 19 (by decide)).1
theorem sh_k20 {S : pm_S} (h : Sh S) : pm_k S 20 = 20 := (h.2.1 20 (by decide)).1
theorem sh_k21 {S : pm_S} (h : Sh S) : pm_k S 21 = 20 := (h.2.1 21 (by decide)).1
theorem sh_k22 {S : pm_S} (h : Sh S) : pm_k S 22 = 20 := (h.2.1 22 (by decide)).1
theorem sh_k23 {S : pm_S} (h : Sh S) : pm_k S 23 = 20 := (h.2.1 23 (by decide)).1
theorem sh_k24 {S : pm_S} (h : Sh S) : pm_k S 24 = 20 := (h.2.1 24 (by decide)).1
theorem sh_k25 {S : pm_S} (h : Sh S) : pm_k S 25 = 20 := (h.2.1 25 (by decide)).1
theorem sh_k26 {S : pm_S} (h : Sh S) : pm_k S 26 = 20 := (h.2.1 26 (by decide)).1
theorem sh_k27 {S : pm_S} (h : Sh S) : pm_k S 27 = 20 := (h.2.1 27 (by decide)).1
theorem sh_k28 {S : pm_S} (h : Sh S) : pm_k S 28 = 2 := (h.2.1 28 (by decide)).1
theorem sh_k29 {S : pm_S} (h : Sh S) : pm_k S 29 = 20 := (h.2.1 29 (by decide)).1
theorem sh_k30 {S : pm_S} (h : Sh S) : pm_k S 30 = 20 := (h.2.1 30 (by decide)).1
theorem sh_k31 {S : pm_S} (h : Sh S) : pm_k S 31 = 20 := (h.2.1 31 (by decide)).1
theorem sh_k32 {S : pm_S} (h : Sh S) : pm_k S 32 = 21 := (h.2.1 32 (by decide)).1
theorem sh_k33 {S : pm_S} (h : Sh S) : pm_k S 33 = 8 := (h.2.1 33 (by decide)).1
theorem sh_k34 {S : pm_S} (h : Sh S) : pm_k S 34 = 20 := (h.2.1 34 (by decide)).1
theorem sh_k35 {S : pm_S} (h : Sh S) : pm_k S 35 = 20 := (h.2.1 35 (by decide)).1
theorem sh_k36 {S : pm_S} (h : Sh S) : pm_k S 36 = 22 := (h.2.1 36 (by decide)).1
theorem sh_k37 {S : pm_S} (h : Sh S) : pm_k S 37 = 20 := (h.2.1 37 (by decide)).1
theorem sh_k38 {S : pm_S} (h : Sh S) : pm_k S 38 = 10 := (h.2.1 38 (by decide)).1
theorem sh_k39 {S : pm_S} (h : Sh S) : pm_k S 39 = 20 := (h.2.1 39 (by decide)).1
theorem sh_k40 {S : pm_S} (h : Sh S) : pm_k S 40 = 20 := (h.2.1 40 (by decide)).1
theorem sh_k41 {S : pm_S} (h : Sh S) : pm_k S 41 = 20 := (h.2.1 41 (by decide)).1
theorem sh_k42 {S : pm_S} (h : Sh S) : pm_k S 42 = 20 := (h.2.1 42 (by decide)).1
theorem sh_k43 {S : pm_S} (h : Sh S) : pm_k S 43 = 21 := (h.2.1 43 (by decide)).1
theorem sh_k44 {S : pm_S} (h : Sh S) : pm_k S 44 = 4 := (h.2.1 44 (by decide)).1
theorem sh_k45 {S : pm_S} (h : Sh S) : pm_k S 45 = 20 := (h.2.1 45 (by decide)).1
theorem sh_k46 {S : pm_S} (h : Sh S) : pm_k S 46 = 25 := (h.2.1 46 (by decide)).1
theorem sh_k47 {S : pm_S} (h : Sh S) : pm_k S 47 = 9 := (h.2.1 47 (by decide)).1
theorem sh_k48 {S : pm_S} (h : Sh S) : pm_k S 48 = 21 := (h.2.1 48 (by decide)).1
theorem sh_k49 {S : pm_S} (h : Sh S) : pm_k S 49 = 9 := (h.2.1 49 (by decide)).1
theorem sh_k50 {S : pm_S} (h : Sh S) : pm_k S 50 = 21 := (h.2.1 50 (by decide)).1
theorem sh_k51 {S : pm_S} (h : Sh S) : pm_k S 51 = 9 := (h.2.1 51 (by decide)).1
theorem sh_k52 {S : pm_S} (h : Sh S) : pm_k S 52 = 21 := (h.2.1 52 (by decide)).1
theorem sh_k53 {S : pm_S} (h : Sh S) : pm_k S 53 = 9 := (h.2.1 53 (by decide)).1
theorem sh_k54 {S : pm_S} (h : Sh S) : pm_k S 54 = 21 := (h.2.1 54 (by decide)).1
theorem sh_k55 {S : pm_S} (h : Sh S) : pm_k S 55 = 9 := (h.2.1 55 (by decide)).1
theorem sh_k56 {S : pm_S} (h : Sh S) : pm_k S 56 = 21 := (h.2.1 56 (by decide)).1
theorem sh_k57 {S : pm_S} (h : Sh S) : pm_k S 57 = 9 := (h.2.1 57 (by decide)).1
theorem sh_k58 {S : pm_S} (h : Sh S) : pm_k S 58 = 21 := (h.2.1 58 (by decide)).1
theorem sh_k59 {S : pm_S} (h : Sh S) : pm_k S 59 = 12 := (h.2.1 59 (by decide)).1
theorem sh_k60 {S : pm_S} (h : Sh S) : pm_k S 60 = 20 := (h.2.1 60 (by decide)).1
theorem sh_k61 {S : pm_S} (h : Sh S) : pm_k S 61 = 22 := (h.2.1 61 (by decide)).1
theorem sh_k62 {S : pm_S} (h : Sh S) : pm_k S 62 = 20 := (h.2.1 62 (by decide)).1
theorem sh_k63 {S : pm_S} (h : Sh S) : pm_k S 63 = 20 := (h.2.1 63 (by decide)).1
theorem sh_k64 {S : pm_S} (h : Sh S) : pm_k S 64 = 20 := (h.2.1 64 (by decide)).1
theorem sh_k65 {S : pm_S} (h : Sh S) : pm_k S 65 = 20 := (h.2.1 65 (by decide)).1
theorem sh_k66 {S : pm_S} (h : Sh S) : pm_k S 66 = 20 := (h.2.1 66 (by decide)).1
theorem sh_k67 {S : pm_S} (h : Sh S) : pm_k S 67 = 20 := (h.2.1 67 (by decide)).1
theorem sh_k68 {S : pm_S} (h : Sh S) : pm_k S 68 = 20 := (h.2.1 68 (by decide)).1
theorem sh_k69 {S : pm_S} (h : Sh S) : pm_k S 69 = 20 := (h.2.1 69 (by decide)).1
theorem sh_k70 {S : pm_S} (h : Sh S) : pm_k S 70 = 20 := (h.2.1 70 (by decide)).1
theorem sh_k71 {S : pm_S} (h : Sh S) : pm_k S 71 = 20 := (h.2.1 71 (by decide)).1
theorem sh_k72 {S : pm_S} (h : Sh S) : pm_k S 72 = 20 := (h.2.1 72 (by decide)).1
theorem sh_k73 {S : pm_S} (h : Sh S) : pm_k S 73 = 20 := (h.2.1 73 (by decide)).1
theorem sh_k74 {S : pm_S} (h : Sh S) : pm_k S 74 = 20 := (h.2.1 74 (by decide)).1
theorem sh_k75 {S : pm_S} (h : Sh S) : pm_k S 75 = 20 := (h.2.1 75 (by decide)).1
theorem sh_k76 {S : pm_S} (h : Sh S) : pm_k S 76 = 20 := (h.2.1 76 (by decide)).1
theorem sh_k77 {S : pm_S} (h : Sh S) : pm_k S 77 = 20 := (h.2.1 77 (by decide)).1
theorem sh_k78 {S : pm_S} (h : Sh S) : pm_k S 78 = 20 := (h.2.1 78 (by decide)).1
theorem sh_k79 {S : pm_S} (h : Sh S) : pm_k S 79 = 20 := (h.2.1 79 (by decide)).1
theorem sh_k80 {S : pm_S} (h : Sh S) : pm_k S 80 = 20 := (h.2.1 80 (by decide)).1
theorem sh_k81 {S : pm_S} (h : Sh S) : pm_k S 81 = 20 := (h.2.1 81 (by decide)).1
theorem sh_k82 {S : pm_S} (h : Sh S) : pm_k S 82 = 20 := (h.2.1 82 (by decide)).1
theorem sh_k83 {S : pm_S} (h : Sh S) : pm_k S 83 = 20 := (h.2.1 83 (by decide)).1
theorem sh_k84 {S : pm_S} (h : Sh S) : pm_k S 84 = 20 := (h.2.1 84 (by decide)).1
theorem sh_k85 {S : pm_S} (h : Sh S) : pm_k S 85 = 20 := (h.2.1 85 (by decide)).1
theorem sh_k86 {S : pm_S} (h : Sh S) : pm_k S 86 = 20 := (h.2.1 86 (by decide)).1
theorem sh_k87 {S : pm_S} (h : Sh S) : pm_k S 87 = 20 := (h.2.1 87 (by decide)).1
theorem sh_k88 {S : pm_S} (h : Sh S) : pm_k S 88 = 20 := (h.2.1 88 (by decide)).1
theorem sh_k89 {S : pm_S} (h : Sh S) : pm_k S 89 = 20 := (h.2.1 89 (by decide)).1
theorem sh_k90 {S : pm_S} (h : Sh S) : pm_k S 90 = 20 := (h.2.1 90 (by decide)).1
theorem sh_k91 {S : pm_S} (h : Sh S) : pm_k S 91 = 20 := (h.2.1 91 (by decide)).1
theorem sh_k92 {S : pm_S} (h : Sh S) : pm_k S 92 = 20 := (h.2.1 92 (by decide)).1
theorem sh_k93 {S : pm_S} (h : Sh S) : pm_k S 93 = 20 := (h.2.1 93 (by decide)).1
theorem sh_k94 {S : pm_S} (h : Sh S) : pm_k S 94 = 21 := (h.2.1 94 (by decide)).1
theorem sh_k95 {S : pm_S} (h : Sh S) : pm_k S 95 = 20 := (h.2.1 95 (by decide)).1
theorem sh_k96 {S : pm_S} (h : Sh S) : pm_k S 96 = 20 := (h.2.1 96 (by decide)).1
theorem sh_k97 {S : pm_S} (h : Sh S) : pm_k S 97 = 22 := (h.2.1 97 (by decide)).1
theorem sh_k98 {S : pm_S} (h : Sh S) : pm_k S 98 = 20 := (h.2.1 98 (by decide)).1
theorem sh_k99 {S : pm_S} (h : Sh S) : pm_k S 99 = 20 := (h.2.1 99 (by decide)).1
theorem sh_k100 {S : pm_S} (h : Sh S) : pm_k S 100 = 20 := (h.2.1 100 (by decide)).1
theorem sh_k101 {S : pm_S} (h : Sh S) : pm_k S 101 = 20 := (h.2.1 101 (by decide)).1
theorem sh_k102 {S : pm_S} (h : Sh S) : pm_k S 102 = 20 := (h.2.1 102 (by decide)).1
theorem sh_k103 {S : pm_S} (h : Sh S) : pm_k S 103 = 20 := (h.2.1 103 (by decide)).1
theorem sh_k104 {S : pm_S} (h : Sh S) : pm_k S 104 = 20 := (h.2.1 104 (by decide)).1
theorem sh_k105 {S : pm_S} (h : Sh S) : pm_k S 105 = 20 := (h.2.1 105 (by decide)).1
theorem sh_k106 {S : pm_S} (h : Sh S) : pm_k S 106 = 20 := (h.2.1 106 (by decide)).1
theorem sh_k107 {S : pm_S} (h : Sh S) : pm_k S 107 = 20 := (h.2.1 107 (by decide)).1
theorem sh_k108 {S : pm_S} (h : Sh S) : pm_k S 108 = 20 := (h.2.1 108 (by decide)).1
theorem sh_k109 {S : pm_S} (h : Sh S) : pm_k S 109 = 22 := (h.2.1 109 (by decide)).1
theorem sh_k110 {S : pm_S} (h : Sh S) : pm_k S 110 = 20 := (h.2.1 110 (by decide)).1
theorem sh_k111 {S : pm_S} (h : Sh S) : pm_k S 111 = 20 := (h.2.1 111 (by decide)).1
theorem sh_k112 {S : pm_S} (h : Sh S) : pm_k S 112 = 20 := (h.2.1 112 (by decide)).1
theorem sh_k113 {S : pm_S} (h : Sh S) : pm_k S 113 = 21 := (h.2.1 113 (by decide)).1
theorem sh_z2 {S : pm_S} (h : Sh S) : pm_z S 2 = 20 := (h.2.1 2 (by decide)).2
theorem sh_z3 {S : pm_S} (h : Sh S) : pm_z S 3 = 20 := (h.2.1 3 (by decide)).2
theorem sh_z4 {S : pm_S} (h : Sh S) : pm_z S 4 = 40 := (h.2.1 4 (by decide)).2
theorem sh_z6 {S : pm_S} (h : Sh S) : pm_z S 6 = 160 := (h.2.1 6 (by decide)).2
theorem sh_z8 {S : pm_S} (h : Sh S) : pm_z S 8 = 10 := (h.2.1 8 (by decide)).2
theorem sh_z9 {S : pm_S} (h : Sh S) : pm_z S 9 = 10 := (h.2.1 9 (by decide)).2
theorem sh_z10 {S : pm_S} (h : Sh S) : pm_z S 10 = 10 := (h.2.1 10 (by decide)).2
theorem sh_z11 {S : pm_S} (h : Sh S) : pm_z S 11 = 10 := (h.2.1 11 (by decide)).2
theorem sh_z12 {S : pm_S} (h : Sh S) : pm_z S 12 = 10 := (h.2.1 12 (by decide)).2
theorem sh_z13 {S : pm_S} (h : Sh S) : pm_z S 13 = 160 := (h.2.1 13 (by decide)).2
theorem sh_z15 {S : pm_S} (h : Sh S) : pm_z S 15 = 12 := (h.2.1 15 (by decide)).2
theorem sh_z17 {S : pm_S} (h : Sh S) : pm_z S 17 = 10 := (h.2.1 17 (by decide)).2
theorem sh_z18 {S : pm_S} (h : Sh S) : pm_z S 18 = 10 := (h.2.1 18 (by decide)).2
theorem sh_z19 {S : pm_S} (h : Sh S) : pm_z S 19 = 10 := (h.2.1 19 (by decide)).2
theorem sh_z20 {S : pm_S} (h : Sh S) : pm_z S 20 = 10 := (h.2.1 20 (by decide)).2
theorem sh_z21 {S : pm_S} (h : Sh S) : pm_z S 21 = 10 := (h.2.1 21 (by decide)).2
theorem sh_z22 {S : pm_S} (h : Sh S) : pm_z S 22 = 160 := (h.2.1 22 (by decide)).2
theorem sh_z23 {S : pm_S} (h : Sh S) : pm_z S 23 = 10 := (h.2.1 23 (by decide)).2
theorem sh_z24 {S : pm_S} (h : Sh S) : pm_z S 24 = 10 := (h.2.1 24 (by decide)).2
theorem sh_z25 {S : pm_S} (h : Sh S) : pm_z S 25 = 10 := (h.2.1 25 (by decide)).2
theorem sh_z26 {S : pm_S} (h : Sh S) : pm_z S 26 = 10 := (h.2.1 26 (by decide)).2
theorem sh_z27 {S : pm_S} (h : Sh S) : pm_z S 27 = 10 := (h.2.1 27 (by decide)).2
theorem sh_z29 {S : pm_S} (h : Sh S) : pm_z S 29 = 12 := (h.2.1 29 (by decide)).2
theorem sh_z30 {S : pm_S} (h : Sh S) : pm_z S 30 = 12 := (h.2.1 30 (by decide)).2
theorem sh_z31 {S : pm_S} (h : Sh S) : pm_z S 31 = 12 := (h.2.1 31 (by decide)).2
theorem sh_z32 {S : pm_S} (h : Sh S) : pm_z S 32 = 12 := (h.2.1 32 (by decide)).2
theorem sh_z34 {S : pm_S} (h : Sh S) : pm_z S 34 = 40 := (h.2.1 34 (by decide)).2
theorem sh_z35 {S : pm_S} (h : Sh S) : pm_z S 35 = 40 := (h.2.1 35 (by decide)).2
theorem sh_z36 {S : pm_S} (h : Sh S) : pm_z S 36 = 40 := (h.2.1 36 (by decide)).2
theorem sh_z37 {S : pm_S} (h : Sh S) : pm_z S 37 = 40 := (h.2.1 37 (by decide)).2
theorem sh_z39 {S : pm_S} (h : Sh S) : pm_z S 39 = 7 := (h.2.1 39 (by decide)).2
theorem sh_z40 {S : pm_S} (h : Sh S) : pm_z S 40 = 7 := (h.2.1 40 (by decide)).2
theorem sh_z41 {S : pm_S} (h : Sh S) : pm_z S 41 = 7 := (h.2.1 41 (by decide)).2
theorem sh_z42 {S : pm_S} (h : Sh S) : pm_z S 42 = 128 := (h.2.1 42 (by decide)).2
theorem sh_z43 {S : pm_S} (h : Sh S) : pm_z S 43 = 128 := (h.2.1 43 (by decide)).2
theorem sh_z45 {S : pm_S} (h : Sh S) : pm_z S 45 = 20 := (h.2.1 45 (by decide)).2
theorem sh_z46 {S : pm_S} (h : Sh S) : pm_z S 46 = 6 := (h.2.1 46 (by decide)).2
theorem sh_z48 {S : pm_S} (h : Sh S) : pm_z S 48 = 80 := (h.2.1 48 (by decide)).2
theorem sh_z50 {S : pm_S} (h : Sh S) : pm_z S 50 = 80 := (h.2.1 50 (by decide)).2
theorem sh_z52 {S : pm_S} (h : Sh S) : pm_z S 52 = 80 := (h.2.1 52 (by decide)).2
theorem sh_z54 {S : pm_S} (h : Sh S) : pm_z S 54 = 80 := (h.2.1 54 (by decide)).2
theorem sh_z56 {S : pm_S} (h : Sh S) : pm_z S 56 = 80 := (h.2.1 56 (by decide)).2
theorem sh_z58 {S : pm_S} (h : Sh S) : pm_z S 58 = 80 := (h.2.1 58 (by decide)).2
theorem sh_z60 {S : pm_S} (h : Sh S) : pm_z S 60 = 20 := (h.2.1 60 (by decide)).2
theorem sh_z61 {S : pm_S} (h : Sh S) : pm_z S 61 = 20 := (h.2.1 61 (by decide)).2
theorem sh_z62 {S : pm_S} (h : Sh S) : pm_z S 62 = 40 := (h.2.1 62 (by decide)).2
theorem sh_z63 {S : pm_S} (h : Sh S) : pm_z S 63 = 40 := (h.2.1 63 (by decide)).2
theorem sh_z64 {S : pm_S} (h : Sh S) : pm_z S 64 = 40 := (h.2.1 64 (by decide)).2
theorem sh_z65 {S : pm_S} (h : Sh S) : pm_z S 65 = 40 := (h.2.1 65 (by decide)).2
theorem sh_z66 {S : pm_S} (h : Sh S) : pm_z S 66 = 40 := (h.2.1 66 (by decide)).2
theorem sh_z67 {S : pm_S} (h : Sh S) : pm_z S 67 = 40 := (h.2.1 67 (by decide)).2
theorem sh_z68 {S : pm_S} (h : Sh S) : pm_z S 68 = 40 := (h.2.1 68 (by decide)).2
theorem sh_z69 {S : pm_S} (h : Sh S) : pm_z S 69 = 40 := (h.2.1 69 (by decide)).2
theorem sh_z70 {S : pm_S} (h : Sh S) : pm_z S 70 = 40 := (h.2.1 70 (by decide)).2
theorem sh_z71 {S : pm_S} (h : Sh S) : pm_z S 71 = 40 := (h.2.1 71 (by decide)).2
theorem sh_z72 {S : pm_S} (h : Sh S) : pm_z S 72 = 40 := (h.2.1 72 (by decide)).2
theorem sh_z73 {S : pm_S} (h : Sh S) : pm_z S 73 = 40 := (h.2.1 73 (by decide)).2
theorem sh_z74 {S : pm_S} (h : Sh S) : pm_z S 74 = 40 := (h.2.1 74 (by decide)).2
theorem sh_z75 {S : pm_S} (h : Sh S) : pm_z S 75 = 150 := (h.2.1 75 (by decide)).2
theorem sh_z76 {S : pm_S} (h : Sh S) : pm_z S 76 = 150 := (h.2.1 76 (by decide)).2
theorem sh_z77 {S : pm_S} (h : Sh S) : pm_z S 77 = 150 := (h.2.1 77 (by decide)).2
theorem sh_z78 {S : pm_S} (h : Sh S) : pm_z S 78 = 150 := (h.2.1 78 (by decide)).2
theorem sh_z79 {S : pm_S} (h : Sh S) : pm_z S 79 = 150 := (h.2.1 79 (by decide)).2
theorem sh_z80 {S : pm_S} (h : Sh S) : pm_z S 80 = 160 := (h.2.1 80 (by decide)).2
theorem sh_z81 {S : pm_S} (h : Sh S) : pm_z S 81 = 1920 := (h.2.1 81 (by decide)).2
theorem sh_z82 {S : pm_S} (h : Sh S) : pm_z S 82 = 12 := (h.2.1 82 (by decide)).2
theorem sh_z83 {S : pm_S} (h : Sh S) : pm_z S 83 = 12 := (h.2.1 83 (by decide)).2
theorem sh_z84 {S : pm_S} (h : Sh S) : pm_z S 84 = 12 := (h.2.1 84 (by decide)).2
theorem sh_z85 {S : pm_S} (h : Sh S) : pm_z S 85 = 12 := (h.2.1 85 (by decide)).2
theorem sh_z86 {S : pm_S} (h : Sh S) : pm_z S 86 = 12 := (h.2.1 86 (by decide)).2
theorem sh_z87 {S : pm_S} (h : Sh S) : pm_z S 87 = 12 := (h.2.1 87 (by decide)).2
theorem sh_z88 {S : pm_S} (h : Sh S) : pm_z S 88 = 240 := (h.2.1 88 (by decide)).2
theorem sh_z89 {S : pm_S} (h : Sh S) : pm_z S 89 = 7 := (h.2.1 89 (by decide)).2
theorem sh_z90 {S : pm_S} (h : Sh S) : pm_z S 90 = 7 := (h.2.1 90 (by decide)).2
theorem sh_z91 {S : pm_S} (h : Sh S) : pm_z S 91 = 7 := (h.2.1 91 (by decide)).2
theorem sh_z92 {S : pm_S} (h : Sh S) : pm_z S 92 = 6 := (h.2.1 92 (by decide)).2
theorem sh_z93 {S : pm_S} (h : Sh S) : pm_z S 93 = 6 := (h.2.1 93 (by decide)).2
theorem sh_z94 {S : pm_S} (h : Sh S) : pm_z S 94 = 480 := (h.2.1 94 (by decide)).2
theorem sh_z95 {S : pm_S} (h : Sh S) : pm_z S 95 = 10 := (h.2.1 95 (by decide)).2
theorem sh_z96 {S : pm_S} (h : Sh S) : pm_z S 96 = 10 := (h.2.1 96 (by decide)).2
theorem sh_z97 {S : pm_S} (h : Sh S) : pm_z S 97 = 10 := (h.2.1 97 (by decide)).2
theorem sh_z98 {S : pm_S} (h : Sh S) : pm_z S 98 = 10 := (h.2.1 98 (by decide)).2
theorem sh_z99 {S : pm_S} (h : Sh S) : pm_z S 99 = 10 := (h.2.1 99 (by decide)).2
theorem sh_z100 {S : pm_S} (h : Sh S) : pm_z S 100 = 10 := (h.2.1 100 (by decide)).2
theorem sh_z101 {S : pm_S} (h : Sh S) : pm_z S 101 = 10 := (h.2.1 101 (by decide)).2
theorem sh_z102 {S : pm_S} (h : Sh S) : pm_z S 102 = 40 := (h.2.1 102 (by decide)).2
theorem sh_z103 {S : pm_S} (h : Sh S) : pm_z S 103 = 40 := (h.2.1 103 (by decide)).2
theorem sh_z104 {S : pm_S} (h : Sh S) : pm_z S 104 = 40 := (h.2.1 104 (by decide)).2
theorem sh_z105 {S : pm_S} (h : Sh S) : pm_z S 105 = 40 := (h.2.1 105 (by decide)).2
theorem sh_z106 {S : pm_S} (h : Sh S) : pm_z S 106 = 40 := (h.2.1 106 (by decide)).2
theorem sh_z107 {S : pm_S} (h : Sh S) : pm_z S 107 = 40 := (h.2.1 107 (by decide)).2
theorem sh_z108 {S : pm_S} (h : Sh S) : pm_z S 108 = 40 := (h.2.1 108 (by decide)).2
theorem sh_z109 {S : pm_S} (h : Sh S) : pm_z S 109 = 40 := (h.2.1 109 (by decide)).2
theorem sh_z110 {S : pm_S} (h : Sh S) : pm_z S 110 = 7 := (h.2.1 110 (by decide)).2
theorem sh_z111 {S : pm_S} (h : Sh S) : pm_z S 111 = 7 := (h.2.1 111 (by decide)).2
theorem sh_z112 {S : pm_S} (h : Sh S) : pm_z S 112 = 20 := (h.2.1 112 (by decide)).2
theorem sh_z113 {S : pm_S} (h : Sh S) : pm_z S 113 = 80 := (h.2.1 113 (by decide)).2
theorem sh_r0_0 {S : pm_S} (h : Sh S) : pm_r S 0 0 = some 1 := h.2.2 (0, 0, 1) (List.mem_of_getElem? (i := 0) rfl)
theorem sh_r1_1 {S : pm_S} (h : Sh S) : pm_r S 1 1 = some 2 := h.2.2 (1, 1, 2) (List.mem_of_getElem? (i := 1) rfl)
theorem sh_r0_1 {S : pm_S} (h : Sh S) : pm_r S 0 1 = some 3 := h.2.2 (0, 1, 3) (List.mem_of_getElem? (i := 2) rfl)
theorem sh_r0_3 {S : pm_S} (h : Sh S) : pm_r S 0 3 = some 4 := h.2.2 (0, 3, 4) (List.mem_of_getElem? (i := 3) rfl)
theorem sh_r0_6 {S : pm_S} (h : Sh S) : pm_r S 0 6 = some 5 := h.2.2 (0, 6, 5) (List.mem_of_getElem? (i := 4) rfl)
theorem sh_r5_0 {S : pm_S} (h : Sh S) : pm_r S 5 0 = some 6 := h.2.2 (5, 0, 6) (List.mem_of_getElem? (i := 5) rfl)
theorem sh_r7_3 {S : pm_S} (h : Sh S) : pm_r S 7 3 = some 8 := h.2.2 (7, 3, 8) (List.mem_of_getElem? (i := 6) rfl)
theorem sh_r7_4 {S : pm_S} (h : Sh S) : pm_r S 7 4 = some 9 := h.2.2 (7, 4, 9) (List.mem_of_getElem? (i := 7) rfl)
theorem sh_r7_5 {S : pm_S} (h : Sh S) : pm_r S 7 5 = some 10 := h.2.2 (7, 5, 10) (List.mem_of_getElem? (i := 8) rfl)
theorem sh_r7_6 {S : pm_S} (h : Sh S) : pm_r S 7 6 = some 11 := h.2.2 (7, 6, 11) (List.mem_of_getElem? (i := 9) rfl)
theorem sh_r7_7 {S : pm_S} (h : Sh S) : pm_r S 7 7 = some 12 := h.2.2 (7, 7, 12) (List.mem_of_getElem? (i := 10) rfl)
theorem sh_r7_17 {S : pm_S} (h : Sh S) : pm_r S 7 17 = some 13 := h.2.2 (7, 17, 13) (List.mem_of_getElem? (i := 11) rfl)
theorem sh_r0_7 {S : pm_S} (h : Sh S) : pm_r S 0 7 = some 14 := h.2.2 (0, 7, 14) (List.mem_of_getElem? (i := 12) rfl)
theorem sh_r14_0 {S : pm_S} (h : Sh S) : pm_r S 14 0 = some 1 := h.2.2 (14, 0, 1) (List.mem_of_getElem? (i := 13) rfl)
theorem sh_r14_1 {S : pm_S} (h : Sh S) : pm_r S 14 1 = some 15 := h.2.2 (14, 1, 15) (List.mem_of_getElem? (i := 14) rfl)
theorem sh_r14_3 {S : pm_S} (h : Sh S) : pm_r S 14 3 = some 16 := h.2.2 (14, 3, 16) (List.mem_of_getElem? (i := 15) rfl)
theorem sh_r16_3 {S : pm_S} (h : Sh S) : pm_r S 16 3 = some 17 := h.2.2 (16, 3, 17) (List.mem_of_getElem? (i := 16) rfl)
theorem sh_r16_4 {S : pm_S} (h : Sh S) : pm_r S 16 4 = some 18 := h.2.2 (16, 4, 18) (List.mem_of_getElem? (i := 17) rfl)
theorem sh_r16_5 {S : pm_S} (h : Sh S) : pm_r S 16 5 = some 19 := h.2.2 (16, 5, 19) (List.mem_of_getElem? (i := 18) rfl)
theorem sh_r16_6 {S : pm_S} (h : Sh S) : pm_r S 16 6 = some 20 := h.2.2 (16, 6, 20) (List.mem_of_getElem? (i := 19) rfl)
theorem sh_r16_7 {S : pm_S} (h : Sh S) : pm_r S 16 7 = some 21 := h.2.2 (16, 7, 21) (List.mem_of_getElem? (i := 20) rfl)
theorem sh_r16_17 {S : pm_S} (h : Sh S) : pm_r S 16 17 = some 22 := h.2.2 (16, 17, 22) (List.mem_of_getElem? (i := 21) rfl)
theorem sh_r14_5 {S : pm_S} (h : Sh S) : pm_r S 14 5 = some 23 := h.2.2 (14, 5, 23) (List.mem_of_getElem? (i := 22) rfl)
theorem sh_r14_6 {S : pm_S} (h : Sh S) : pm_r S 14 6 = some 24 := h.2.2 (14, 6, 24) (List.mem_of_getElem? (i := 23) rfl)
theorem sh_r14_7 {S : pm_S} (h : Sh S) : pm_r S 14 7 = some 25 := h.2.2 (14, 7, 25) (List.mem_of_getElem? (i := 24) rfl)
theorem sh_r14_8 {S : pm_S} (h : Sh S) : pm_r S 14 8 = some 26 := h.2.2 (14, 8, 26) (List.mem_of_getElem? (i := 25) rfl)
theorem sh_r14_9 {S : pm_S} (h : Sh S) : pm_r S 14 9 = some 27 := h.2.2 (14, 9, 27) (List.mem_of_getElem? (i := 26) rfl)
theorem sh_r0_8 {S : pm_S} (h : Sh S) : pm_r S 0 8 = some 28 := h.2.2 (0, 8, 28) (List.mem_of_getElem? (i := 27) rfl)
theorem sh_r28_1 {S : pm_S} (h : Sh S) : pm_r S 28 1 = some 29 := h.2.2 (28, 1, 29) (List.mem_of_getElem? (i := 28) rfl)
theorem sh_r28_2 {S : pm_S} (h : Sh S) : pm_r S 28 2 = some 30 := h.2.2 (28, 2, 30) (List.mem_of_getElem? (i := 29) rfl)
theorem sh_r28_3 {S : pm_S} (h : Sh S) : pm_r S 28 3 = some 31 := h.2.2 (28, 3, 31) (List.mem_of_getElem? (i := 30) rfl)
theorem sh_r28_4 {S : pm_S} (h : Sh S) : pm_r S 28 4 = some 32 := h.2.2 (28, 4, 32) (List.mem_of_getElem? (i := 31) rfl)
theorem sh_r0_9 {S : pm_S} (h : Sh S) : pm_r S 0 9 = some 33 := h.2.2 (0, 9, 33) (List.mem_of_getElem? (i := 32) rfl)
theorem sh_r33_1 {S : pm_S} (h : Sh S) : pm_r S 33 1 = some 34 := h.2.2 (33, 1, 34) (List.mem_of_getElem? (i := 33) rfl)
theorem sh_r33_2 {S : pm_S} (h : Sh S) : pm_r S 33 2 = some 35 := h.2.2 (33, 2, 35) (List.mem_of_getElem? (i := 34) rfl)
theorem sh_r33_3 {S : pm_S} (h : Sh S) : pm_r S 33 3 = some 36 := h.2.2 (33, 3, 36) (List.mem_of_getElem? (i := 35) rfl)
theorem sh_r33_4 {S : pm_S} (h : Sh S) : pm_r S 33 4 = some 37 := h.2.2 (33, 4, 37) (List.mem_of_getElem? (i := 36) rfl)
theorem sh_r0_11 {S : pm_S} (h : Sh S) : pm_r S 0 11 = some 38 := h.2.2 (0, 11, 38) (List.mem_of_getElem? (i := 37) rfl)
theorem sh_r38_1 {S : pm_S} (h : Sh S) : pm_r S 38 1 = some 39 := h.2.2 (38, 1, 39) (List.mem_of_getElem? (i := 38) rfl)
theorem sh_r38_2 {S : pm_S} (h : Sh S) : pm_r S 38 2 = some 40 := h.2.2 (38, 2, 40) (List.mem_of_getElem? (i := 39) rfl)
theorem sh_r38_3 {S : pm_S} (h : Sh S) : pm_r S 38 3 = some 41 := h.2.2 (38, 3, 41) (List.mem_of_getElem? (i := 40) rfl)
theorem sh_r38_4 {S : pm_S} (h : Sh S) : pm_r S 38 4 = some 42 := h.2.2 (38, 4, 42) (List.mem_of_getElem? (i := 41) rfl)
theorem sh_r38_5 {S : pm_S} (h : Sh S) : pm_r S 38 5 = some 43 := h.2.2 (38, 5, 43) (List.mem_of_getElem? (i := 42) rfl)
theorem sh_r0_12 {S : pm_S} (h : Sh S) : pm_r S 0 12 = some 44 := h.2.2 (0, 12, 44) (List.mem_of_getElem? (i := 43) rfl)
theorem sh_r44_1 {S : pm_S} (h : Sh S) : pm_r S 44 1 = some 45 := h.2.2 (44, 1, 45) (List.mem_of_getElem? (i := 44) rfl)
theorem sh_r0_13 {S : pm_S} (h : Sh S) : pm_r S 0 13 = some 46 := h.2.2 (0, 13, 46) (List.mem_of_getElem? (i := 45) rfl)
theorem sh_r47_2 {S : pm_S} (h : Sh S) : pm_r S 47 2 = some 48 := h.2.2 (47, 2, 48) (List.mem_of_getElem? (i := 46) rfl)
theorem sh_r46_0 {S : pm_S} (h : Sh S) : pm_r S 46 0 = some 47 := h.2.2 (46, 0, 47) (List.mem_of_getElem? (i := 47) rfl)
theorem sh_r49_2 {S : pm_S} (h : Sh S) : pm_r S 49 2 = some 50 := h.2.2 (49, 2, 50) (List.mem_of_getElem? (i := 48) rfl)
theorem sh_r46_1 {S : pm_S} (h : Sh S) : pm_r S 46 1 = some 49 := h.2.2 (46, 1, 49) (List.mem_of_getElem? (i := 49) rfl)
theorem sh_r51_2 {S : pm_S} (h : Sh S) : pm_r S 51 2 = some 52 := h.2.2 (51, 2, 52) (List.mem_of_getElem? (i := 50) rfl)
theorem sh_r46_2 {S : pm_S} (h : Sh S) : pm_r S 46 2 = some 51 := h.2.2 (46, 2, 51) (List.mem_of_getElem? (i := 51) rfl)
theorem sh_r53_2 {S : pm_S} (h : Sh S) : pm_r S 53 2 = some 54 := h.2.2 (53, 2, 54) (List.mem_of_getElem? (i := 52) rfl)
theorem sh_r46_3 {S : pm_S} (h : Sh S) : pm_r S 46 3 = some 53 := h.2.2 (46, 3, 53) (List.mem_of_getElem? (i := 53) rfl)
theorem sh_r55_2 {S : pm_S} (h : Sh S) : pm_r S 55 2 = some 56 := h.2.2 (55, 2, 56) (List.mem_of_getElem? (i := 54) rfl)
theorem sh_r46_4 {S : pm_S} (h : Sh S) : pm_r S 46 4 = some 55 := h.2.2 (46, 4, 55) (List.mem_of_getElem? (i := 55) rfl)
theorem sh_r57_2 {S : pm_S} (h : Sh S) : pm_r S 57 2 = some 58 := h.2.2 (57, 2, 58) (List.mem_of_getElem? (i := 56) rfl)
theorem sh_r46_5 {S : pm_S} (h : Sh S) : pm_r S 46 5 = some 57 := h.2.2 (46, 5, 57) (List.mem_of_getElem? (i := 57) rfl)
theorem sh_r59_1 {S : pm_S} (h : Sh S) : pm_r S 59 1 = some 60 := h.2.2 (59, 1, 60) (List.mem_of_getElem? (i := 58) rfl)
theorem sh_r59_3 {S : pm_S} (h : Sh S) : pm_r S 59 3 = some 61 := h.2.2 (59, 3, 61) (List.mem_of_getElem? (i := 59) rfl)
theorem sh_r59_5 {S : pm_S} (h : Sh S) : pm_r S 59 5 = some 62 := h.2.2 (59, 5, 62) (List.mem_of_getElem? (i := 60) rfl)
theorem sh_r59_6 {S : pm_S} (h : Sh S) : pm_r S 59 6 = some 63 := h.2.2 (59, 6, 63) (List.mem_of_getElem? (i := 61) rfl)
theorem sh_r59_7 {S : pm_S} (h : Sh S) : pm_r S 59 7 = some 64 := h.2.2 (59, 7, 64) (List.mem_of_getElem? (i := 62) rfl)
theorem sh_r59_8 {S : pm_S} (h : Sh S) : pm_r S 59 8 = some 65 := h.2.2 (59, 8, 65) (List.mem_of_getElem? (i := 63) rfl)
theorem sh_r59_9 {S : pm_S} (h : Sh S) : pm_r S 59 9 = some 66 := h.2.2 (59, 9, 66) (List.mem_of_getElem? (i := 64) rfl)
theorem sh_r59_10 {S : pm_S} (h : Sh S) : pm_r S 59 10 = some 67 := h.2.2 (59, 10, 67) (List.mem_of_getElem? (i := 65) rfl)
theorem sh_r59_11 {S : pm_S} (h : Sh S) : pm_r S 59 11 = some 68 := h.2.2 (59, 11, 68) (List.mem_of_getElem? (i := 66) rfl)
theorem sh_r59_12 {S : pm_S} (h : Sh S) : pm_r S 59 12 = some 69 := h.2.2 (59, 12, 69) (List.mem_of_getElem? (i := 67) rfl)
theorem sh_r59_13 {S : pm_S} (h : Sh S) : pm_r S 59 13 = some 70 := h.2.2 (59, 13, 70) (List.mem_of_getElem? (i := 68) rfl)
theorem sh_r59_14 {S : pm_S} (h : Sh S) : pm_r S 59 14 = some 71 := h.2.2 (59, 14, 71) (List.mem_of_getElem? (i := 69) rfl)
theorem sh_r59_15 {S : pm_S} (h : Sh S) : pm_r S 59 15 = some 72 := h.2.2 (59, 15, 72) (List.mem_of_getElem? (i := 70) rfl)
theorem sh_r59_16 {S : pm_S} (h : Sh S) : pm_r S 59 16 = some 73 := h.2.2 (59, 16, 73) (List.mem_of_getElem? (i := 71) rfl)
theorem sh_r59_17 {S : pm_S} (h : Sh S) : pm_r S 59 17 = some 74 := h.2.2 (59, 17, 74) (List.mem_of_getElem? (i := 72) rfl)
theorem sh_r59_19 {S : pm_S} (h : Sh S) : pm_r S 59 19 = some 75 := h.2.2 (59, 19, 75) (List.mem_of_getElem? (i := 73) rfl)
theorem sh_r59_20 {S : pm_S} (h : Sh S) : pm_r S 59 20 = some 76 := h.2.2 (59, 20, 76) (List.mem_of_getElem? (i := 74) rfl)
theorem sh_r59_21 {S : pm_S} (h : Sh S) : pm_r S 59 21 = some 77 := h.2.2 (59, 21, 77) (List.mem_of_getElem? (i := 75) rfl)
theorem sh_r59_22 {S : pm_S} (h : Sh S) : pm_r S 59 22 = some 78 := h.2.2 (59, 22, 78) (List.mem_of_getElem? (i := 76) rfl)
theorem sh_r59_23 {S : pm_S} (h : Sh S) : pm_r S 59 23 = some 79 := h.2.2 (59, 23, 79) (List.mem_of_getElem? (i := 77) rfl)
theorem sh_r59_25 {S : pm_S} (h : Sh S) : pm_r S 59 25 = some 80 := h.2.2 (59, 25, 80) (List.mem_of_getElem? (i := 78) rfl)
theorem sh_r59_27 {S : pm_S} (h : Sh S) : pm_r S 59 27 = some 81 := h.2.2 (59, 27, 81) (List.mem_of_getElem? (i := 79) rfl)
theorem sh_r59_28 {S : pm_S} (h : Sh S) : pm_r S 59 28 = some 82 := h.2.2 (59, 28, 82) (List.mem_of_getElem? (i := 80) rfl)
theorem sh_r59_29 {S : pm_S} (h : Sh S) : pm_r S 59 29 = some 83 := h.2.2 (59, 29, 83) (List.mem_of_getElem? (i := 81) rfl)
theorem sh_r59_30 {S : pm_S} (h : Sh S) : pm_r S 59 30 = some 84 := h.2.2 (59, 30, 84) (List.mem_of_getElem? (i := 82) rfl)
theorem sh_r59_32 {S : pm_S} (h : Sh S) : pm_r S 59 32 = some 85 := h.2.2 (59, 32, 85) (List.mem_of_getElem? (i := 83) rfl)
theorem sh_r59_33 {S : pm_S} (h : Sh S) : pm_r S 59 33 = some 86 := h.2.2 (59, 33, 86) (List.mem_of_getElem? (i := 84) rfl)
theorem sh_r59_34 {S : pm_S} (h : Sh S) : pm_r S 59 34 = some 87 := h.2.2 (59, 34, 87) (List.mem_of_getElem? (i := 85) rfl)
theorem sh_r59_36 {S : pm_S} (h : Sh S) : pm_r S 59 36 = some 88 := h.2.2 (59, 36, 88) (List.mem_of_getElem? (i := 86) rfl)
theorem sh_r59_38 {S : pm_S} (h : Sh S) : pm_r S 59 38 = some 89 := h.2.2 (59, 38, 89) (List.mem_of_getElem? (i := 87) rfl)
theorem sh_r59_39 {S : pm_S} (h : Sh S) : pm_r S 59 39 = some 90 := h.2.2 (59, 39, 90) (List.mem_of_getElem? (i := 88) rfl)
theorem sh_r59_40 {S : pm_S} (h : Sh S) : pm_r S 59 40 = some 91 := h.2.2 (59, 40, 91) (List.mem_of_getElem? (i := 89) rfl)
theorem sh_r59_42 {S : pm_S} (h : Sh S) : pm_r S 59 42 = some 92 := h.2.2 (59, 42, 92) (List.mem_of_getElem? (i := 90) rfl)
theorem sh_r59_43 {S : pm_S} (h : Sh S) : pm_r S 59 43 = some 93 := h.2.2 (59, 43, 93) (List.mem_of_getElem? (i := 91) rfl)
theorem sh_r59_44 {S : pm_S} (h : Sh S) : pm_r S 59 44 = some 94 := h.2.2 (59, 44, 94) (List.mem_of_getElem? (i := 92) rfl)
theorem sh_r59_60 {S : pm_S} (h : Sh S) : pm_r S 59 60 = some 95 := h.2.2 (59, 60, 95) (List.mem_of_getElem? (i := 93) rfl)
theorem sh_r59_61 {S : pm_S} (h : Sh S) : pm_r S 59 61 = some 96 := h.2.2 (59, 61, 96) (List.mem_of_getElem? (i := 94) rfl)
theorem sh_r59_62 {S : pm_S} (h : Sh S) : pm_r S 59 62 = some 97 := h.2.2 (59, 62, 97) (List.mem_of_getElem? (i := 95) rfl)
theorem sh_r59_64 {S : pm_S} (h : Sh S) : pm_r S 59 64 = some 98 := h.2.2 (59, 64, 98) (List.mem_of_getElem? (i := 96) rfl)
theorem sh_r59_65 {S : pm_S} (h : Sh S) : pm_r S 59 65 = some 99 := h.2.2 (59, 65, 99) (List.mem_of_getElem? (i := 97) rfl)
theorem sh_r59_66 {S : pm_S} (h : Sh S) : pm_r S 59 66 = some 100 := h.2.2 (59, 66, 100) (List.mem_of_getElem? (i := 98) rfl)
theorem sh_r59_67 {S : pm_S} (h : Sh S) : pm_r S 59 67 = some 101 := h.2.2 (59, 67, 101) (List.mem_of_getElem? (i := 99) rfl)
theorem sh_r59_71 {S : pm_S} (h : Sh S) : pm_r S 59 71 = some 102 := h.2.2 (59, 71, 102) (List.mem_of_getElem? (i := 100) rfl)
theorem sh_r59_72 {S : pm_S} (h : Sh S) : pm_r S 59 72 = some 103 := h.2.2 (59, 72, 103) (List.mem_of_getElem? (i := 101) rfl)
theorem sh_r59_73 {S : pm_S} (h : Sh S) : pm_r S 59 73 = some 104 := h.2.2 (59, 73, 104) (List.mem_of_getElem? (i := 102) rfl)
theorem sh_r59_74 {S : pm_S} (h : Sh S) : pm_r S 59 74 = some 105 := h.2.2 (59, 74, 105) (List.mem_of_getElem? (i := 103) rfl)
theorem sh_r59_75 {S : pm_S} (h : Sh S) : pm_r S 59 75 = some 106 := h.2.2 (59, 75, 106) (List.mem_of_getElem? (i := 104) rfl)
theorem sh_r59_76 {S : pm_S} (h : Sh S) : pm_r S 59 76 = some 107 := h.2.2 (59, 76, 107) (List.mem_of_getElem? (i := 105) rfl)
theorem sh_r59_77 {S : pm_S} (h : Sh S) : pm_r S 59 77 = some 108 := h.2.2 (59, 77, 108) (List.mem_of_getElem? (i := 106) rfl)
theorem sh_r59_78 {S : pm_S} (h : Sh S) : pm_r S 59 78 = some 109 := h.2.2 (59, 78, 109) (List.mem_of_getElem? (i := 107) rfl)
theorem sh_r59_80 {S : pm_S} (h : Sh S) : pm_r S 59 80 = some 110 := h.2.2 (59, 80, 110) (List.mem_of_getElem? (i := 108) rfl)
theorem sh_r59_81 {S : pm_S} (h : Sh S) : pm_r S 59 81 = some 111 := h.2.2 (59, 81, 111) (List.mem_of_getElem? (i := 109) rfl)
theorem sh_r59_84 {S : pm_S} (h : Sh S) : pm_r S 59 84 = some 112 := h.2.2 (59, 84, 112) (List.mem_of_getElem? (i := 110) rfl)
theorem sh_r59_87 {S : pm_S} (h : Sh S) : pm_r S 59 87 = some 113 := h.2.2 (59, 87, 113) (List.mem_of_getElem? (i := 111) rfl)
theorem Sh.wI {S : pm_S} {p j : Nat} {v : Int32} (h : Sh S) : Sh (pm_wI S p j v) := h
theorem Sh.wL {S : pm_S} {p j : Nat} {v : Int64} (h : Sh S) : Sh (pm_wL S p j v) := h
theorem Sh.wM {S : pm_S} {p : Nat} {f : Nat → Int64} (h : Sh S) : Sh (pm_wM S p f) := h
theorem Sh.wR {S : pm_S} {p j : Nat} {v : Option Nat} (hp : sh_rr.all (fun e => !(e.1 == p && e.2.1 == j)) = true) (h : Sh S) : Sh (pm_wR S p j v) :=
  ⟨h.1, h.2.1, fun e he => by rw [pm_r_wR, if_neg (fun z => by have := List.all_eq_true.mp hp e he; simp [z.1, z.2] at this)]; exact h.2.2 e he⟩
theorem Sh.wR' {S : pm_S} {p j : Nat} {v : Option Nat} (hp : 114 ≤ p) (h : Sh S) : Sh (pm_wR S p j v) :=
  h.wR (List.all_eq_true.mpr (fun e he => by
    have : ∀ e, e ∈ sh_rr → e.1 < 114 := by decide
    have h1 := this e he
    have h2 : e.1 ≠ p := by omega
    simp [h2]))
theorem Sh.wR4 {S : pm_S} {j : Nat} {v : Option Nat} (h : Sh S) : Sh (pm_wR S 4 j v) :=
  h.wR (List.all_eq_true.mpr (fun e he => by
    have : ∀ e, e ∈ sh_rr → e.1 ≠ 4 := by decide
    simp [this e he]))
theorem Sh.wR15 {S : pm_S} {j : Nat} {v : Option Nat} (h : Sh S) : Sh (pm_wR S 15 j v) :=
  h.wR (List.all_eq_true.mpr (fun e he => by
    have : ∀ e, e ∈ sh_rr → e.1 ≠ 15 := by decide
    simp [this e he]))
theorem Sh.nw {S : pm_S} {k z : Nat} (h : Sh S) : Sh (pm_nw S k z) := by
  have h1 := h.1
  have e : ∀ p, p < 114 → p ≠ S.1 := fun p hp z => absurd (show 114 ≤ S.1 from h1) (by omega)
  refine ⟨Nat.le_succ_of_le h1, fun p hp => ?_, fun e' he => ?_⟩
  · have := h.2.1 p hp
    rw [show pm_k (pm_nw S k z) p = pm_k S p from if_neg (e p hp), show pm_z (pm_nw S k z) p = pm_z S p from if_neg (e p hp)]; exact this
  · have h3 : ∀ e, e ∈ sh_rr → e.1 < 114 := by decide
    rw [show pm_r (pm_nw S k z) e'.1 = pm_r S e'.1 from if_neg (e _ (h3 e' he))]; exact h.2.2 e' he
