/-! names, fields, methods and links as tables; each checked against the words of lw_tbl by its place -/
def pm_cns : List String := ["WrongsDesk$Act", "WrongsDesk$Bench", "WrongsDesk$Causes", "WrongsDesk$Days", "WrongsDesk$Deeds", "WrongsDesk$Law", "WrongsDesk$LawReader", "WrongsDesk$Matter", "WrongsDesk$Report", "WrongsDesk$Tape", "WrongsDesk$Week", "WrongsDesk", "WrongsDeskModel", "WrongsDeskLaw", "java/lang/Integer", "java/lang/Math", "java/lang/String", "java/lang/StringLatin1", "jdk/internal/util/Preconditions", "java/lang/StringUTF16"]
def pm_cn (c : Nat) : String := pm_cns.getD c ""
def pm_F0 : List (String × String × String × Bool) := [("WrongsDesk$Act", "sort", "I", true), ("WrongsDesk$Act", "day", "I", true), ("WrongsDesk$Act", "word", "I", true), ("WrongsDesk$Act", "entered", "I", true), ("WrongsDesk$Act", "order", "I", true), ("WrongsDesk$Act", "next", "LWrongsDesk$Act;", false)]
def pm_F1 : List (String × String × String × Bool) := [("WrongsDesk$Bench", "days", "LWrongsDesk$Days;", true), ("WrongsDesk$Bench", "laws", "[LWrongsDesk$Law;", true), ("WrongsDesk$Bench", "lawCount", "I", false), ("WrongsDesk$Bench", "noLaw", "LWrongsDesk$Law;", true), ("WrongsDesk$Bench", "owedCount", "I", false), ("WrongsDesk$Bench", "sorts", "[I", true), ("WrongsDesk$Bench", "dues", "[I", true), ("WrongsDesk$Bench", "wrongs", "[I", true), ("WrongsDesk$Bench", "clauses", "[I", true), ("WrongsDesk$Bench", "daysLate", "[I", true)]
def pm_F2 : List (String × String × String × Bool) := [("WrongsDesk$Causes", "size", "I", false), ("WrongsDesk$Causes", "bodies", "[I", true), ("WrongsDesk$Causes", "sorts", "[I", true), ("WrongsDesk$Causes", "wrongs", "[I", true), ("WrongsDesk$Causes", "reached", "[J", true)]
def pm_F3 : List (String × String × String × Bool) := [("WrongsDesk$Days", "today", "I", false), ("WrongsDesk$Days", "feasts", "[I", true), ("WrongsDesk$Days", "feastCount", "I", false)]
def pm_F4 : List (String × String × String × Bool) := [("WrongsDesk$Deeds", "ran", "I", false), ("WrongsDesk$Deeds", "began", "[I", true)]
def pm_F5 : List (String × String × String × Bool) := [("WrongsDesk$Law", "body", "I", false), ("WrongsDesk$Law", "from", "I", false), ("WrongsDesk$Law", "owes", "I", false), ("WrongsDesk$Law", "sorts", "[I", true), ("WrongsDesk$Law", "workingDays", "[I", true), ("WrongsDesk$Law", "whens", "[I", true), ("WrongsDesk$Law", "starts", "[I", true), ("WrongsDesk$Law", "stops", "[I", true), ("WrongsDesk$Law", "reachStart", "I", false), ("WrongsDesk$Law", "reachStop", "I", false), ("WrongsDesk$Law", "limit", "I", false), ("WrongsDesk$Law", "answer", "I", false), ("WrongsDesk$Law", "scale", "I", false), ("WrongsDesk$Law", "scaleDays", "I", false), ("WrongsDesk$Law", "cap", "I", false), ("WrongsDesk$Law", "rate", "I", false), ("WrongsDesk$Law", "few", "I", false), ("WrongsDesk$Law", "steps", "[I", true), ("WrongsDesk$Law", "stepCount", "I", false)]
def pm_F6 : List (String × String × String × Bool) := [("WrongsDesk$LawReader", "text", "[I", true), ("WrongsDesk$LawReader", "length", "I", false), ("WrongsDesk$LawReader", "place", "I", false), ("WrongsDesk$LawReader", "draft", "LWrongsDesk$Law;", false)]
def pm_F7 : List (String × String × String × Bool) := [("WrongsDesk$Matter", "number", "I", true), ("WrongsDesk$Matter", "person", "I", true), ("WrongsDesk$Matter", "body", "I", true), ("WrongsDesk$Matter", "topic", "I", true), ("WrongsDesk$Matter", "happened", "I", true), ("WrongsDesk$Matter", "loss", "I", true), ("WrongsDesk$Matter", "kind", "I", false), ("WrongsDesk$Matter", "asked", "I", false), ("WrongsDesk$Matter", "award", "I", false), ("WrongsDesk$Matter", "joinedTo", "I", false), ("WrongsDesk$Matter", "torn", "I", false), ("WrongsDesk$Matter", "promiseSort", "I", false), ("WrongsDesk$Matter", "promiseDay", "I", false), ("WrongsDesk$Matter", "promiseOrder", "I", false), ("WrongsDesk$Matter", "firstEntered", "LWrongsDesk$Act;", false), ("WrongsDesk$Matter", "lastEntered", "LWrongsDesk$Act;", false), ("WrongsDesk$Matter", "grades", "[I", true), ("WrongsDesk$Matter", "wrongs", "I", false)]
def pm_F8 : List (String × String × String × Bool) := [("WrongsDesk$Report", "size", "I", false), ("WrongsDesk$Report", "keys", "[I", true), ("WrongsDesk$Report", "counts", "[I", true), ("WrongsDesk$Report", "hidden", "[Z", true), ("WrongsDesk$Report", "onlyPerson", "[I", true)]
def pm_F9 : List (String × String × String × Bool) := [("WrongsDesk$Tape", "sort", "I", false), ("WrongsDesk$Tape", "length", "I", false), ("WrongsDesk$Tape", "items", "[J", true)]
def pm_F10 : List (String × String × String × Bool) := [("WrongsDesk$Week", "size", "I", false), ("WrongsDesk$Week", "numbers", "[I", true), ("WrongsDesk$Week", "works", "[I", true), ("WrongsDesk$Week", "lastDays", "[I", true), ("WrongsDesk$Week", "doneOn", "[I", true), ("WrongsDesk$Week", "best", "[J", true)]
def pm_F11 : List (String × String × String × Bool) := [("WrongsDesk", "days", "LWrongsDesk$Days;", true), ("WrongsDesk", "lets", "[I", true), ("WrongsDesk", "persons", "I", false), ("WrongsDesk", "matters", "[LWrongsDesk$Matter;", true), ("WrongsDesk", "matterCount", "I", false), ("WrongsDesk", "acts", "I", false), ("WrongsDesk", "reader", "LWrongsDesk$LawReader;", true), ("WrongsDesk", "bench", "LWrongsDesk$Bench;", true), ("WrongsDesk", "causes", "LWrongsDesk$Causes;", true), ("WrongsDesk", "shown", "LWrongsDesk$Report;", true), ("WrongsDesk", "readings", "I", false), ("WrongsDesk", "planned", "LWrongsDesk$Week;", true), ("WrongsDesk", "deeds", "LWrongsDesk$Deeds;", true), ("WrongsDesk", "tapes", "[LWrongsDesk$Tape;", true)]
def pm_F12 : List (String × String × String × Bool) := [("WrongsDeskModel", "today", "I", false), ("WrongsDeskModel", "feast", "[I", true), ("WrongsDeskModel", "feasts", "I", false), ("WrongsDeskModel", "isLet", "[Z", true), ("WrongsDeskModel", "persons", "I", false), ("WrongsDeskModel", "kind", "[I", true), ("WrongsDeskModel", "person", "[I", true), ("WrongsDeskModel", "body", "[I", true), ("WrongsDeskModel", "topic", "[I", true), ("WrongsDeskModel", "happened", "[I", true), ("WrongsDeskModel", "loss", "[I", true), ("WrongsDeskModel", "askedOn", "[I", true), ("WrongsDeskModel", "award", "[I", true), ("WrongsDeskModel", "joinedTo", "[I", true), ("WrongsDeskModel", "tornFrom", "[I", true), ("WrongsDeskModel", "promiseSort", "[I", true), ("WrongsDeskModel", "promiseDay", "[I", true), ("WrongsDeskModel", "promiseBehind", "[I", true), ("WrongsDeskModel", "matters", "I", false), ("WrongsDeskModel", "actMatter", "[I", true), ("WrongsDeskModel", "actSort", "[I", true), ("WrongsDeskModel", "actDay", "[I", true), ("WrongsDeskModel", "actWord", "[I", true), ("WrongsDeskModel", "actEntered", "[I", true), ("WrongsDeskModel", "acts", "I", false), ("WrongsDeskModel", "text", "[I", true), ("WrongsDeskModel", "textMany", "I", false), ("WrongsDeskModel", "lawText", "[I", true), ("WrongsDeskModel", "lawMany", "[I", true), ("WrongsDeskModel", "lawBody", "[I", true), ("WrongsDeskModel", "lawDay", "[I", true), ("WrongsDeskModel", "laws", "I", false), ("WrongsDeskModel", "causeBody", "[I", true), ("WrongsDeskModel", "causeSort", "[I", true), ("WrongsDeskModel", "causeWrong", "[I", true), ("WrongsDeskModel", "causes", "I", false), ("WrongsDeskModel", "grade", "[I", true), ("WrongsDeskModel", "readings", "I", false), ("WrongsDeskModel", "planned", "[I", true), ("WrongsDeskModel", "plannedWork", "[I", true), ("WrongsDeskModel", "plannedDay", "[I", true), ("WrongsDeskModel", "plans", "I", false), ("WrongsDeskModel", "tapeSort", "[I", true), ("WrongsDeskModel", "tapeMany", "[I", true), ("WrongsDeskModel", "items", "[J", true), ("WrongsDeskModel", "base", "I", false), ("WrongsDeskModel", "at", "I", false), ("WrongsDeskModel", "ends", "I", false), ("WrongsDeskModel", "fault", "I", false), ("WrongsDeskModel", "open", "I", false), ("WrongsDeskModel", "ofMatter", "I", false), ("WrongsDeskModel", "ofDay", "I", false), ("WrongsDeskModel", "reaches", "Z", false), ("WrongsDeskModel", "limit", "I", false), ("WrongsDeskModel", "answer", "I", false), ("WrongsDeskModel", "scaleN", "I", false), ("WrongsDeskModel", "scaleM", "I", false), ("WrongsDeskModel", "cap", "I", false), ("WrongsDeskModel", "rate", "I", false), ("WrongsDeskModel", "few", "I", false), ("WrongsDeskModel", "duty", "[I", true), ("WrongsDeskModel", "dutyDays", "[I", true), ("WrongsDeskModel", "dutyHolds", "[Z", true), ("WrongsDeskModel", "duties", "I", false), ("WrongsDeskModel", "owedSort", "[I", true), ("WrongsDeskModel", "owedDue", "[I", true), ("WrongsDeskModel", "owedWrong", "[I", true), ("WrongsDeskModel", "owedClause", "[I", true), ("WrongsDeskModel", "owedMany", "I", false), ("WrongsDeskModel", "lateSorts", "I", false), ("WrongsDeskModel", "lackSorts", "I", false), ("WrongsDeskModel", "reached", "[I", true), ("WrongsDeskModel", "rowMany", "[I", true), ("WrongsDeskModel", "rowBody", "[I", true), ("WrongsDeskModel", "rowTopic", "[I", true), ("WrongsDeskModel", "rowKind", "[I", true), ("WrongsDeskModel", "rowKey", "[I", true), ("WrongsDeskModel", "rowPerson", "[I", true), ("WrongsDeskModel", "isHidden", "[Z", true), ("WrongsDeskModel", "rows", "I", false), ("WrongsDeskModel", "trying", "[I", true), ("WrongsDeskModel", "best", "[I", true), ("WrongsDeskModel", "bestMissed", "I", false), ("WrongsDeskModel", "bestOver", "I", false), ("WrongsDeskModel", "trace", "[I", true), ("WrongsDeskModel", "ran", "I", false), ("WrongsDeskModel", "runs", "I", false), ("WrongsDeskModel", "carried", "[J", true)]
def pm_Fs : List (List (String × String × String × Bool)) := [pm_F0, pm_F1, pm_F2, pm_F3, pm_F4, pm_F5, pm_F6, pm_F7, pm_F8, pm_F9, pm_F10, pm_F11, pm_F12]
def pm_T (c : Nat) : u_T := fun k => (pm_Fs.getD c []).getD k ("", "", "", false)
def pm_nFs : List Nat := [6, 10, 5, 3, 2, 19, 4, 18, 5, 3, 6, 14, 88]
def pm_nF (c : Nat) : Nat := pm_nFs.getD c 0
def pm_fks : List (List Nat) := [[0, 0, 0, 0, 0, 2], [2, 2, 0, 2, 0, 2, 2, 2, 2, 2], [0, 2, 2, 2, 2], [0, 2, 0], [0, 2], [0, 0, 0, 2, 2, 2, 2, 2, 0, 0, 0, 0, 0, 0, 0, 0, 0, 2, 0], [2, 0, 0, 2], [0, 0, 0, 0, 0, 0, 0, 0, 0, 0, 0, 0, 0, 0, 2, 2, 2, 0], [0, 2, 2, 2, 2], [0, 0, 2], [0, 2, 2, 2, 2, 2], [2, 2, 0, 2, 0, 0, 2, 2, 2, 2, 0, 2, 2, 2], [0, 2, 0, 2, 0, 2, 2, 2, 2, 2, 2, 2, 2, 2, 2, 2, 2, 2, 0, 2, 2, 2, 2, 2, 0, 2, 0, 2, 2, 2, 2, 0, 2, 2, 2, 0, 2, 0, 2, 2, 2, 0, 2, 2, 2, 0, 0, 0, 0, 0, 0, 0, 1, 0, 0, 0, 0, 0, 0, 0, 2, 2, 2, 0, 2, 2, 2, 2, 0, 0, 0, 2, 2, 2, 2, 2, 2, 2, 2, 0, 2, 2, 0, 0, 2, 0, 0, 2]]
/-- 0 an int, 1 a boolean, 2 a reference -/
def pm_fk (c k : Nat) : Nat := (pm_fks.getD c []).getD k 0
def pm_tyss : List (List FieldType) := [[.int, .int, .int, .int, .int, .object "WrongsDesk$Act"], [.object "WrongsDesk$Days", .array (.object "WrongsDesk$Law"), .int, .object "WrongsDesk$Law", .int, .array .int, .array .int, .array .int, .array .int, .array .int], [.int, .array .int, .array .int, .array .int, .array .long], [.int, .array .int, .int], [.int, .array .int], [.int, .int, .int, .array .int, .array .int, .array .int, .array .int, .array .int, .int, .int, .int, .int, .int, .int, .int, .int, .int, .array .int, .int], [.array .int, .int, .int, .object "WrongsDesk$Law"], [.int, .int, .int, .int, .int, .int, .int, .int, .int, .int, .int, .int, .int, .int, .object "WrongsDesk$Act", .object "WrongsDesk$Act", .array .int, .int], [.int, .array .int, .array .int, .array .boolean, .array .int], [.int, .int, .array .long], [.int, .array .int, .array .int, .array .int, .array .int, .array .long], [.object "WrongsDesk$Days", .array .int, .int, .array (.object "WrongsDesk$Matter"), .int, .int, .object "WrongsDesk$LawReader", .object "WrongsDesk$Bench", .object "WrongsDesk$Causes", .object "WrongsDesk$Report", .int, .object "WrongsDesk$Week", .object "WrongsDesk$Deeds", .array (.object "WrongsDesk$Tape")], [.int, .array .int, .int, .array .boolean, .int, .array .int, .array .int, .array .int, .array .int, .array .int, .array .int, .array .int, .array .int, .array .int, .array .int, .array .int, .array .int, .array .int, .int, .array .int, .array .int, .array .int, .array .int, .array .int, .int, .array .int, .int, .array .int, .array .int, .array .int, .array .int, .int, .array .int, .array .int, .array .int, .int, .array .int, .int, .array .int, .array .int, .array .int, .int, .array .int, .array .int, .array .long, .int, .int, .int, .int, .int, .int, .int, .boolean, .int, .int, .int, .int, .int, .int, .int, .array .int, .array .int, .array .boolean, .int, .array .int, .array .int, .array .int, .array .int, .int, .int, .int, .array .int, .array .int, .array .int, .array .int, .array .int, .array .int, .array .int, .array .boolean, .int, .array .int, .array .int, .int, .int, .array .int, .int, .int, .array .long]]
def pm_ty (c k : Nat) : FieldType := (pm_tyss.getD c []).getD k .int
def pm_cl : List vw_C := (List.range 13).map (fun c => (pm_cn c, pm_T c, pm_nF c))
theorem pm_cl_at {c : Nat} (h : c < 13) : pm_cl[c]? = some (pm_cn c, pm_T c, pm_nF c) := by simp [pm_cl, h]
theorem pm_ty_ok : ∀ c, c < 13 → ∀ k, k < pm_nF c → parseFieldDescriptor (pm_T c k).2.2.1 = some (pm_ty c k) := by decide +kernel
theorem pm_nm_ok : ∀ c, c < 13 → ∀ a, a < pm_nF c → ∀ b, b < pm_nF c → a ≠ b → (pm_T c a).2.1 ≠ (pm_T c b).2.1 := by decide +kernel
theorem pm_fk_ty : ∀ c, c < 13 → ∀ k, k < pm_nF c → (pm_fk c k = 0 ∧ pm_ty c k = .int) ∨ (pm_fk c k = 1 ∧ pm_ty c k = .boolean) ∨ (pm_fk c k = 2 ∧ refKind (pm_ty c k) = true) := by decide +kernel
theorem pm_decl : ∀ c, c < 13 → ∀ k, k < pm_nF c → (pm_T c k).1 = pm_cn c := by decide +kernel
/-- the good words of the tables -/
def pm_tbl : List Cond := lw_tbl.filter goodWord
theorem pm_mem {i : Nat} {w : Cond} (h : lw_tbl[i]? = some w) (hg : goodWord w = true) : w ∈ pm_tbl := List.mem_filter.mpr ⟨List.mem_of_getElem? h, hg⟩
theorem pm_good : ∀ w ∈ pm_tbl, (w.onTables && w.keeps) = true ∨ ∃ ty, w = .arrayClass ty := fun _ h => good_of_word (List.mem_filter.mp h).2
theorem pm_goodIn {ws : List Cond} (h : ∀ w ∈ ws, w ∈ pm_tbl) : GoodIn pm_tbl ws := fun w hw => ⟨h w hw, pm_good w (h w hw)⟩
def pm_lp0 : List Nat := [745, 747, 749, 751, 753, 755]
def pm_lp1 : List Nat := [271, 273, 275, 277, 279, 281, 283, 285, 287, 289]
def pm_lp2 : List Nat := [304, 306, 308, 310, 312]
def pm_lp3 : List Nat := [116, 118, 120]
def pm_lp4 : List Nat := [379, 381]
def pm_lp5 : List Nat := [190, 192, 194, 196, 198, 200, 202, 204, 206, 208, 210, 212, 214, 216, 218, 220, 222, 224, 226]
def pm_lp6 : List Nat := [235, 237, 239, 241]
def pm_lp7 : List Nat := [559, 561, 563, 565, 567, 569, 571, 573, 575, 577, 579, 581, 583, 585, 587, 589, 591, 593]
def pm_lp8 : List Nat := [331, 333, 335, 337, 339]
def pm_lp9 : List Nat := [397, 399, 401]
def pm_lp10 : List Nat := [356, 358, 360, 362, 364, 366]
def pm_lp11 : List Nat := [418, 420, 422, 424, 426, 428, 430, 432, 434, 436, 438, 440, 442, 444]
def pm_lp12 : List Nat := [1331, 1333, 1335, 1337, 1339, 1341, 1343, 1345, 1347, 1349, 1351, 1353, 1355, 1357, 1359, 1361, 1363, 1365, 1367, 1369, 1371, 1373, 1375, 1377, 1379, 1381, 1383, 1385, 1387, 1389, 1391, 1393, 1395, 1397, 1399, 1401, 1403, 1405, 1407, 1409, 1411, 1413, 1415, 1417, 1419, 1421, 1423, 1425, 1427, 1429, 1431, 1433, 1435, 1437, 1439, 1441, 1443, 1445, 1447, 1449, 1451, 1453, 1455, 1457, 1459, 1461, 1463, 1465, 1467, 1469, 1471, 1473, 1475, 1477, 1479, 1481, 1483, 1485, 1487, 1489, 1491, 1493, 1495, 1497, 1499, 1501, 1503, 1505]
def pm_lps : List (List Nat) := [pm_lp0, pm_lp1, pm_lp2, pm_lp3, pm_lp4, pm_lp5, pm_lp6, pm_lp7, pm_lp8, pm_lp9, pm_lp10, pm_lp11, pm_lp12]
theorem pm_lay_ok : ∀ c, c < 13 → ∀ k, k < pm_nF c → lw_tbl[(pm_lps.getD c []).getD k 0]? = some (u_lay (pm_cn c) (pm_T c) k) := by decide +kernel
theorem pm_lay_g (c k : Nat) : goodWord (u_lay (pm_cn c) (pm_T c) k) = true := by
  unfold u_lay
  split <;> rfl
theorem pm_ws {c : Nat} (h : c < 13) : ∀ w ∈ u_ws (pm_cn c) (pm_T c) (pm_nF c), w ∈ pm_tbl := by
  intro w hw
  obtain ⟨k, hk, rfl⟩ := List.mem_map.mp hw
  exact pm_mem (pm_lay_ok c h k (List.mem_range.mp hk)) (pm_lay_g c k)
def pm_m0 : MethodName × ByteArray × Nat × Option FieldType × Nat × Nat × Nat × Nat := (⟨"WrongsDesk$Act", "<init>", "(IIIII)V"⟩, prog_2_method_1_code, 6, none, 0, 5, 0, 0)
def pm_m1 : MethodName × ByteArray × Nat × Option FieldType × Nat × Nat × Nat × Nat := (⟨"WrongsDesk$Bench", "<init>", "(LWrongsDesk$Days;)V"⟩, prog_3_method_1_code, 2, none, 1, 1, 13, 291)
def pm_m2 : MethodName × ByteArray × Nat × Option FieldType × Nat × Nat × Nat × Nat := (⟨"WrongsDesk$Bench", "inReach", "(LWrongsDesk$Matter;I)Z"⟩, prog_3_method_5_code, 4, (some (FieldType.boolean)), 1, 2, 0, 0)
def pm_m3 : MethodName × ByteArray × Nat × Option FieldType × Nat × Nat × Nat × Nat := (⟨"WrongsDesk$Bench", "lawOn", "(II)LWrongsDesk$Law;"⟩, prog_3_method_4_code, 4, (some ((FieldType.object "WrongsDesk$Law"))), 1, 2, 0, 0)
def pm_m4 : MethodName × ByteArray × Nat × Option FieldType × Nat × Nat × Nat × Nat := (⟨"WrongsDesk$Bench", "lawNumber", "(II)I"⟩, prog_3_method_3_code, 6, (some (FieldType.int)), 1, 2, 0, 0)
def pm_m5 : MethodName × ByteArray × Nat × Option FieldType × Nat × Nat × Nat × Nat := (⟨"WrongsDesk$Bench", "endOf", "(LWrongsDesk$Matter;)I"⟩, prog_3_method_6_code, 2, (some (FieldType.int)), 1, 1, 0, 0)
def pm_m6 : MethodName × ByteArray × Nat × Option FieldType × Nat × Nat × Nat × Nat := (⟨"WrongsDesk$Bench", "lateOrLacking", "(LWrongsDesk$Matter;I)I"⟩, prog_3_method_9_code, 5, (some (FieldType.int)), 1, 2, 0, 0)
def pm_m7 : MethodName × ByteArray × Nat × Option FieldType × Nat × Nat × Nat × Nat := (⟨"WrongsDesk$Bench", "weigh", "(LWrongsDesk$Matter;I)I"⟩, prog_3_method_7_code, 7, (some (FieldType.int)), 1, 2, 0, 0)
def pm_m8 : MethodName × ByteArray × Nat × Option FieldType × Nat × Nat × Nat × Nat := (⟨"WrongsDesk$Bench", "wrongOf", "(LWrongsDesk$Matter;IILWrongsDesk$Act;)I"⟩, prog_3_method_8_code, 4, (some (FieldType.int)), 1, 4, 0, 0)
def pm_m9 : MethodName × ByteArray × Nat × Option FieldType × Nat × Nat × Nat × Nat := (⟨"WrongsDesk$Bench", "isLateOrLacks", "(I)Z"⟩, prog_3_method_11_code, 2, (some (FieldType.boolean)), 1, 1, 0, 0)
def pm_m10 : MethodName × ByteArray × Nat × Option FieldType × Nat × Nat × Nat × Nat := (⟨"WrongsDesk$Bench", "adopt", "(LWrongsDesk$Law;II)I"⟩, prog_3_method_2_code, 4, (some (FieldType.int)), 1, 3, 0, 0)
def pm_m11 : MethodName × ByteArray × Nat × Option FieldType × Nat × Nat × Nat × Nat := (⟨"WrongsDesk$Bench", "goodOf", "(LWrongsDesk$Matter;I)I"⟩, prog_3_method_12_code, 8, (some (FieldType.int)), 1, 2, 0, 0)
def pm_m12 : MethodName × ByteArray × Nat × Option FieldType × Nat × Nat × Nat × Nat := (⟨"WrongsDesk$Bench", "wrongSet", "(LWrongsDesk$Matter;I)I"⟩, prog_3_method_10_code, 5, (some (FieldType.int)), 1, 2, 0, 0)
def pm_m13 : MethodName × ByteArray × Nat × Option FieldType × Nat × Nat × Nat × Nat := (⟨"WrongsDesk$Causes", "<init>", "()V"⟩, prog_4_method_1_code, 1, none, 2, 0, 4, 48)
def pm_m14 : MethodName × ByteArray × Nat × Option FieldType × Nat × Nat × Nat × Nat := (⟨"WrongsDesk$Causes", "add", "(III)Z"⟩, prog_4_method_2_code, 4, (some (FieldType.boolean)), 2, 3, 0, 0)
def pm_m15 : MethodName × ByteArray × Nat × Option FieldType × Nat × Nat × Nat × Nat := (⟨"WrongsDesk$Causes", "touches", "(ILWrongsDesk$Matter;LWrongsDesk$Bench;)Z"⟩, prog_4_method_3_code, 7, (some (FieldType.boolean)), 2, 3, 0, 0)
def pm_m16 : MethodName × ByteArray × Nat × Option FieldType × Nat × Nat × Nat × Nat := (⟨"WrongsDesk$Causes", "forget", "()V"⟩, prog_4_method_4_code, 2, none, 2, 0, 0, 0)
def pm_m17 : MethodName × ByteArray × Nat × Option FieldType × Nat × Nat × Nat × Nat := (⟨"WrongsDesk$Causes", "note", "(LWrongsDesk$Matter;LWrongsDesk$Bench;)V"⟩, prog_4_method_5_code, 4, none, 2, 2, 0, 0)
def pm_m18 : MethodName × ByteArray × Nat × Option FieldType × Nat × Nat × Nat × Nat := (⟨"WrongsDesk$Causes", "leastCover", "()I"⟩, prog_4_method_6_code, 7, (some (FieldType.int)), 2, 0, 0, 0)
def pm_m19 : MethodName × ByteArray × Nat × Option FieldType × Nat × Nat × Nat × Nat := (⟨"WrongsDesk$Causes", "cover", "(I)J"⟩, prog_4_method_7_code, 5, (some (FieldType.long)), 2, 1, 0, 0)
def pm_m20 : MethodName × ByteArray × Nat × Option FieldType × Nat × Nat × Nat × Nat := (⟨"WrongsDesk$Days", "<init>", "()V"⟩, prog_5_method_1_code, 1, none, 3, 0, 1, 20)
def pm_m21 : MethodName × ByteArray × Nat × Option FieldType × Nat × Nat × Nat × Nat := (⟨"WrongsDesk$Days", "isOff", "(I)Z"⟩, prog_5_method_3_code, 2, (some (FieldType.boolean)), 3, 1, 0, 0)
def pm_m22 : MethodName × ByteArray × Nat × Option FieldType × Nat × Nat × Nat × Nat := (⟨"WrongsDesk$Days", "feastsIn", "(II)I"⟩, prog_5_method_5_code, 5, (some (FieldType.int)), 3, 2, 0, 0)
def pm_m23 : MethodName × ByteArray × Nat × Option FieldType × Nat × Nat × Nat × Nat := (⟨"WrongsDesk$Days", "addFeast", "(I)Z"⟩, prog_5_method_2_code, 2, (some (FieldType.boolean)), 3, 1, 0, 0)
def pm_m24 : MethodName × ByteArray × Nat × Option FieldType × Nat × Nat × Nat × Nat := (⟨"WrongsDesk$Days", "workingDay", "(II)I"⟩, prog_5_method_4_code, 6, (some (FieldType.int)), 3, 2, 0, 0)
def pm_m25 : MethodName × ByteArray × Nat × Option FieldType × Nat × Nat × Nat × Nat := (⟨"WrongsDesk$Days", "weekdayBehind", "(II)I"⟩, prog_5_method_6_code, 4, (some (FieldType.int)), 3, 2, 0, 0)
def pm_m26 : MethodName × ByteArray × Nat × Option FieldType × Nat × Nat × Nat × Nat := (⟨"WrongsDesk$Deeds", "<init>", "()V"⟩, prog_6_method_1_code, 1, none, 4, 0, 1, 20)
def pm_m27 : MethodName × ByteArray × Nat × Option FieldType × Nat × Nat × Nat × Nat := (⟨"WrongsDesk$Deeds", "waits", "(LWrongsDesk$Matter;II)I"⟩, prog_6_method_4_code, 4, (some (FieldType.int)), 4, 3, 0, 0)
def pm_m28 : MethodName × ByteArray × Nat × Option FieldType × Nat × Nat × Nat × Nat := (⟨"WrongsDesk$Deeds", "begin", "(I)V"⟩, prog_6_method_3_code, 2, none, 4, 1, 0, 0)
def pm_m29 : MethodName × ByteArray × Nat × Option FieldType × Nat × Nat × Nat × Nat := (⟨"WrongsDesk$Deeds", "binds", "(LWrongsDesk$Matter;II)I"⟩, prog_6_method_5_code, 4, (some (FieldType.int)), 4, 3, 0, 0)
def pm_m30 : MethodName × ByteArray × Nat × Option FieldType × Nat × Nat × Nat × Nat := (⟨"WrongsDesk$Deeds", "shows", "(LWrongsDesk$Matter;II)I"⟩, prog_6_method_6_code, 4, (some (FieldType.int)), 4, 3, 0, 0)
def pm_m31 : MethodName × ByteArray × Nat × Option FieldType × Nat × Nat × Nat × Nat := (⟨"WrongsDesk$Deeds", "isUnder", "(II)Z"⟩, prog_6_method_2_code, 4, (some (FieldType.boolean)), 4, 2, 0, 0)
def pm_m32 : MethodName × ByteArray × Nat × Option FieldType × Nat × Nat × Nat × Nat := (⟨"WrongsDesk$Law", "<init>", "()V"⟩, prog_7_method_1_code, 1, none, 5, 0, 6, 210)
def pm_m33 : MethodName × ByteArray × Nat × Option FieldType × Nat × Nat × Nat × Nat := (⟨"WrongsDesk$Law", "clear", "()V"⟩, prog_7_method_2_code, 1, none, 5, 0, 0, 0)
def pm_m34 : MethodName × ByteArray × Nat × Option FieldType × Nat × Nat × Nat × Nat := (⟨"WrongsDesk$Law", "reachHolds", "(LWrongsDesk$Matter;I)Z"⟩, prog_7_method_6_code, 3, (some (FieldType.boolean)), 5, 2, 0, 0)
def pm_m35 : MethodName × ByteArray × Nat × Option FieldType × Nat × Nat × Nat × Nat := (⟨"WrongsDesk$Law", "holds", "(IILWrongsDesk$Matter;I)Z"⟩, prog_7_method_7_code, 9, (some (FieldType.boolean)), 5, 4, 0, 0)
def pm_m36 : MethodName × ByteArray × Nat × Option FieldType × Nat × Nat × Nat × Nat := (⟨"WrongsDesk$Law", "passes", "(ILWrongsDesk$Matter;I)Z"⟩, prog_7_method_8_code, 6, (some (FieldType.boolean)), 5, 3, 0, 0)
def pm_m37 : MethodName × ByteArray × Nat × Option FieldType × Nat × Nat × Nat × Nat := (⟨"WrongsDesk$Law", "isOwed", "(ILWrongsDesk$Matter;I)Z"⟩, prog_7_method_5_code, 4, (some (FieldType.boolean)), 5, 3, 0, 0)
def pm_m38 : MethodName × ByteArray × Nat × Option FieldType × Nat × Nat × Nat × Nat := (⟨"WrongsDesk$Law", "addStep", "(III)V"⟩, prog_7_method_3_code, 4, none, 5, 3, 0, 0)
def pm_m39 : MethodName × ByteArray × Nat × Option FieldType × Nat × Nat × Nat × Nat := (⟨"WrongsDesk$Law", "addOwe", "(IIII)V"⟩, prog_7_method_4_code, 5, none, 5, 4, 0, 0)
def pm_m40 : MethodName × ByteArray × Nat × Option FieldType × Nat × Nat × Nat × Nat := (⟨"WrongsDesk$LawReader", "<init>", "()V"⟩, prog_8_method_1_code, 1, none, 6, 0, 8, 389)
def pm_m41 : MethodName × ByteArray × Nat × Option FieldType × Nat × Nat × Nat × Nat := (⟨"WrongsDesk$LawReader", "append", "(II)Z"⟩, prog_8_method_2_code, 4, (some (FieldType.boolean)), 6, 2, 0, 0)
def pm_m42 : MethodName × ByteArray × Nat × Option FieldType × Nat × Nat × Nat × Nat := (⟨"WrongsDesk$LawReader", "readLaw", "()Z"⟩, prog_8_method_3_code, 2, (some (FieldType.boolean)), 6, 0, 0, 0)
def pm_m43 : MethodName × ByteArray × Nat × Option FieldType × Nat × Nat × Nat × Nat := (⟨"WrongsDesk$LawReader", "clause", "()Z"⟩, prog_8_method_5_code, 1, (some (FieldType.boolean)), 6, 0, 0, 0)
def pm_m44 : MethodName × ByteArray × Nat × Option FieldType × Nat × Nat × Nat × Nat := (⟨"WrongsDesk$LawReader", "sign", "()I"⟩, prog_8_method_18_code, 1, (some (FieldType.int)), 6, 0, 0, 0)
def pm_m45 : MethodName × ByteArray × Nat × Option FieldType × Nat × Nat × Nat × Nat := (⟨"WrongsDesk$LawReader", "takesAll", "(Ljava/lang/String;)Z"⟩, prog_8_method_16_code, 3, (some (FieldType.boolean)), 6, 1, 0, 0)
def pm_m46 : MethodName × ByteArray × Nat × Option FieldType × Nat × Nat × Nat × Nat := (⟨"WrongsDesk$LawReader", "takes", "(C)Z"⟩, prog_8_method_17_code, 2, (some (FieldType.boolean)), 6, 1, 0, 0)
def pm_m47 : MethodName × ByteArray × Nat × Option FieldType × Nat × Nat × Nat × Nat := (⟨"WrongsDesk$LawReader", "owe", "()Z"⟩, prog_8_method_6_code, 5, (some (FieldType.boolean)), 6, 0, 0, 0)
def pm_m48 : MethodName × ByteArray × Nat × Option FieldType × Nat × Nat × Nat × Nat := (⟨"WrongsDesk$LawReader", "number", "(II)I"⟩, prog_8_method_15_code, 6, (some (FieldType.int)), 6, 2, 0, 0)
def pm_m49 : MethodName × ByteArray × Nat × Option FieldType × Nat × Nat × Nat × Nat := (⟨"WrongsDesk$LawReader", "either", "(I)Z"⟩, prog_8_method_9_code, 5, (some (FieldType.boolean)), 6, 1, 0, 0)
def pm_m50 : MethodName × ByteArray × Nat × Option FieldType × Nat × Nat × Nat × Nat := (⟨"WrongsDesk$LawReader", "single", "(I)Z"⟩, prog_8_method_10_code, 5, (some (FieldType.boolean)), 6, 1, 0, 0)
def pm_m51 : MethodName × ByteArray × Nat × Option FieldType × Nat × Nat × Nat × Nat := (⟨"WrongsDesk$LawReader", "test", "()Z"⟩, prog_8_method_11_code, 5, (some (FieldType.boolean)), 6, 0, 0, 0)
def pm_m52 : MethodName × ByteArray × Nat × Option FieldType × Nat × Nat × Nat × Nat := (⟨"WrongsDesk$LawReader", "testKind", "(I)I"⟩, prog_8_method_12_code, 1, (some (FieldType.int)), 6, 1, 0, 0)
def pm_m53 : MethodName × ByteArray × Nat × Option FieldType × Nat × Nat × Nat × Nat := (⟨"WrongsDesk$LawReader", "mostDigits", "(I)I"⟩, prog_8_method_13_code, 1, (some (FieldType.int)), 6, 1, 0, 0)
def pm_m54 : MethodName × ByteArray × Nat × Option FieldType × Nat × Nat × Nat × Nat := (⟨"WrongsDesk$LawReader", "reachOrRate", "()Z"⟩, prog_8_method_7_code, 1, (some (FieldType.boolean)), 6, 0, 0, 0)
def pm_m55 : MethodName × ByteArray × Nat × Option FieldType × Nat × Nat × Nat × Nat := (⟨"WrongsDesk$LawReader", "numberBehind", "(Ljava/lang/String;)I"⟩, prog_8_method_14_code, 2, (some (FieldType.int)), 6, 1, 0, 0)
def pm_m56 : MethodName × ByteArray × Nat × Option FieldType × Nat × Nat × Nat × Nat := (⟨"WrongsDesk$LawReader", "scale", "()Z"⟩, prog_8_method_8_code, 1, (some (FieldType.boolean)), 6, 0, 0, 0)
def pm_m57 : MethodName × ByteArray × Nat × Option FieldType × Nat × Nat × Nat × Nat := (⟨"WrongsDesk$LawReader", "handOver", "()LWrongsDesk$Law;"⟩, prog_8_method_4_code, 2, (some ((FieldType.object "WrongsDesk$Law"))), 6, 0, 7, 229)
def pm_m58 : MethodName × ByteArray × Nat × Option FieldType × Nat × Nat × Nat × Nat := (⟨"WrongsDesk$Matter", "<init>", "(IIIIII)V"⟩, prog_9_method_1_code, 7, none, 7, 6, 1, 6)
def pm_m59 : MethodName × ByteArray × Nat × Option FieldType × Nat × Nat × Nat × Nat := (⟨"WrongsDesk$Matter", "firstOf", "(II)LWrongsDesk$Act;"⟩, prog_9_method_5_code, 5, (some ((FieldType.object "WrongsDesk$Act"))), 7, 2, 0, 0)
def pm_m60 : MethodName × ByteArray × Nat × Option FieldType × Nat × Nat × Nat × Nat := (⟨"WrongsDesk$Matter", "latestOf", "(II)LWrongsDesk$Act;"⟩, prog_9_method_6_code, 5, (some ((FieldType.object "WrongsDesk$Act"))), 7, 2, 0, 0)
def pm_m61 : MethodName × ByteArray × Nat × Option FieldType × Nat × Nat × Nat × Nat := (⟨"WrongsDesk$Matter", "isTorn", "(I)Z"⟩, prog_9_method_9_code, 2, (some (FieldType.boolean)), 7, 1, 0, 0)
def pm_m62 : MethodName × ByteArray × Nat × Option FieldType × Nat × Nat × Nat × Nat := (⟨"WrongsDesk$Matter", "promise", "(III)V"⟩, prog_9_method_10_code, 4, none, 7, 3, 0, 0)
def pm_m63 : MethodName × ByteArray × Nat × Option FieldType × Nat × Nat × Nat × Nat := (⟨"WrongsDesk$Matter", "hasDay", "(I)Z"⟩, prog_9_method_3_code, 2, (some (FieldType.boolean)), 7, 1, 0, 0)
def pm_m64 : MethodName × ByteArray × Nat × Option FieldType × Nat × Nat × Nat × Nat := (⟨"WrongsDesk$Matter", "promiseState", "(I)I"⟩, prog_9_method_11_code, 4, (some (FieldType.int)), 7, 1, 0, 0)
def pm_m65 : MethodName × ByteArray × Nat × Option FieldType × Nat × Nat × Nat × Nat := (⟨"WrongsDesk$Matter", "append", "(LWrongsDesk$Act;)V"⟩, prog_9_method_4_code, 2, none, 7, 1, 0, 0)
def pm_m66 : MethodName × ByteArray × Nat × Option FieldType × Nat × Nat × Nat × Nat := (⟨"WrongsDesk$Matter", "tear", "(I)V"⟩, prog_9_method_8_code, 2, none, 7, 1, 0, 0)
def pm_m67 : MethodName × ByteArray × Nat × Option FieldType × Nat × Nat × Nat × Nat := (⟨"WrongsDesk$Matter", "howMany", "(II)I"⟩, prog_9_method_7_code, 5, (some (FieldType.int)), 7, 2, 0, 0)
def pm_m68 : MethodName × ByteArray × Nat × Option FieldType × Nat × Nat × Nat × Nat := (⟨"WrongsDesk$Matter", "isFound", "()Z"⟩, prog_9_method_2_code, 1, (some (FieldType.boolean)), 7, 0, 0, 0)
def pm_m69 : MethodName × ByteArray × Nat × Option FieldType × Nat × Nat × Nat × Nat := (⟨"WrongsDesk$Matter", "isShared", "(I)Z"⟩, prog_9_method_12_code, 2, (some (FieldType.boolean)), 7, 1, 0, 0)
def pm_m70 : MethodName × ByteArray × Nat × Option FieldType × Nat × Nat × Nat × Nat := (⟨"WrongsDesk$Matter", "otherHands", "(I)I"⟩, prog_9_method_14_code, 4, (some (FieldType.int)), 7, 1, 0, 0)
def pm_m71 : MethodName × ByteArray × Nat × Option FieldType × Nat × Nat × Nat × Nat := (⟨"WrongsDesk$Matter", "leaning", "(I)I"⟩, prog_9_method_13_code, 5, (some (FieldType.int)), 7, 1, 0, 0)
def pm_m72 : MethodName × ByteArray × Nat × Option FieldType × Nat × Nat × Nat × Nat := (⟨"WrongsDesk$Report", "<init>", "()V"⟩, prog_10_method_1_code, 1, none, 8, 0, 4, 160)
def pm_m73 : MethodName × ByteArray × Nat × Option FieldType × Nat × Nat × Nat × Nat := (⟨"WrongsDesk$Report", "make", "([LWrongsDesk$Matter;II)V"⟩, prog_10_method_2_code, 7, none, 8, 3, 0, 0)
def pm_m74 : MethodName × ByteArray × Nat × Option FieldType × Nat × Nat × Nat × Nat := (⟨"WrongsDesk$Report", "leastAbove", "(I[LWrongsDesk$Matter;II)I"⟩, prog_10_method_3_code, 7, (some (FieldType.int)), 8, 4, 0, 0)
def pm_m75 : MethodName × ByteArray × Nat × Option FieldType × Nat × Nat × Nat × Nat := (⟨"WrongsDesk$Report", "keyOf", "(LWrongsDesk$Matter;I)I"⟩, prog_10_method_4_code, 5, (some (FieldType.int)), 8, 2, 0, 0)
def pm_m76 : MethodName × ByteArray × Nat × Option FieldType × Nat × Nat × Nat × Nat := (⟨"WrongsDesk$Report", "gather", "([LWrongsDesk$Matter;II)V"⟩, prog_10_method_5_code, 6, none, 8, 3, 0, 0)
def pm_m77 : MethodName × ByteArray × Nat × Option FieldType × Nat × Nat × Nat × Nat := (⟨"WrongsDesk$Report", "hide", "([II)V"⟩, prog_10_method_6_code, 6, none, 8, 2, 0, 0)
def pm_m78 : MethodName × ByteArray × Nat × Option FieldType × Nat × Nat × Nat × Nat := (⟨"WrongsDesk$Report", "smallestShown", "()I"⟩, prog_10_method_7_code, 3, (some (FieldType.int)), 8, 0, 0, 0)
def pm_m79 : MethodName × ByteArray × Nat × Option FieldType × Nat × Nat × Nat × Nat := (⟨"WrongsDesk$Tape", "<init>", "()V"⟩, prog_11_method_1_code, 1, none, 9, 0, 1, 80)
def pm_m80 : MethodName × ByteArray × Nat × Option FieldType × Nat × Nat × Nat × Nat := (⟨"WrongsDesk$Tape", "holds", "(JI)Z"⟩, prog_11_method_3_code, 4, (some (FieldType.boolean)), 9, 2, 0, 0)
def pm_m81 : MethodName × ByteArray × Nat × Option FieldType × Nat × Nat × Nat × Nat := (⟨"WrongsDesk$Tape", "valueAt", "(I)J"⟩, prog_11_method_5_code, 2, (some (FieldType.long)), 9, 1, 0, 0)
def pm_m82 : MethodName × ByteArray × Nat × Option FieldType × Nat × Nat × Nat × Nat := (⟨"WrongsDesk$Tape", "become", "(II)V"⟩, prog_11_method_2_code, 4, none, 9, 2, 0, 0)
def pm_m83 : MethodName × ByteArray × Nat × Option FieldType × Nat × Nat × Nat × Nat := (⟨"WrongsDesk$Tape", "put", "(IJ)V"⟩, prog_11_method_4_code, 4, none, 9, 2, 0, 0)
def pm_m84 : MethodName × ByteArray × Nat × Option FieldType × Nat × Nat × Nat × Nat := (⟨"WrongsDesk$Week", "<init>", "()V"⟩, prog_12_method_1_code, 1, none, 10, 0, 5, 277)
def pm_m85 : MethodName × ByteArray × Nat × Option FieldType × Nat × Nat × Nat × Nat := (⟨"WrongsDesk$Week", "has", "(I)Z"⟩, prog_12_method_2_code, 3, (some (FieldType.boolean)), 10, 1, 0, 0)
def pm_m86 : MethodName × ByteArray × Nat × Option FieldType × Nat × Nat × Nat × Nat := (⟨"WrongsDesk$Week", "add", "(III)Z"⟩, prog_12_method_3_code, 4, (some (FieldType.boolean)), 10, 3, 0, 0)
def pm_m87 : MethodName × ByteArray × Nat × Option FieldType × Nat × Nat × Nat × Nat := (⟨"WrongsDesk$Week", "weighOrders", "(LWrongsDesk$Days;)V"⟩, prog_12_method_4_code, 5, none, 10, 1, 0, 0)
def pm_m88 : MethodName × ByteArray × Nat × Option FieldType × Nat × Nat × Nat × Nat := (⟨"WrongsDesk$Week", "workOf", "(I)I"⟩, prog_12_method_11_code, 4, (some (FieldType.int)), 10, 1, 0, 0)
def pm_m89 : MethodName × ByteArray × Nat × Option FieldType × Nat × Nat × Nat × Nat := (⟨"WrongsDesk$Week", "isOpen", "(II)Z"⟩, prog_12_method_12_code, 2, (some (FieldType.boolean)), 10, 2, 0, 0)
def pm_m90 : MethodName × ByteArray × Nat × Option FieldType × Nat × Nat × Nat × Nat := (⟨"WrongsDesk$Week", "costWith", "(II)J"⟩, prog_12_method_9_code, 5, (some (FieldType.long)), 10, 2, 0, 0)
def pm_m91 : MethodName × ByteArray × Nat × Option FieldType × Nat × Nat × Nat × Nat := (⟨"WrongsDesk$Week", "leastMissed", "()I"⟩, prog_12_method_5_code, 1, (some (FieldType.int)), 10, 0, 0, 0)
def pm_m92 : MethodName × ByteArray × Nat × Option FieldType × Nat × Nat × Nat × Nat := (⟨"WrongsDesk$Week", "leastOver", "()I"⟩, prog_12_method_6_code, 1, (some (FieldType.int)), 10, 0, 0, 0)
def pm_m93 : MethodName × ByteArray × Nat × Option FieldType × Nat × Nat × Nat × Nat := (⟨"WrongsDesk$Week", "bestAt", "(I)I"⟩, prog_12_method_7_code, 5, (some (FieldType.int)), 10, 1, 0, 0)
def pm_m94 : MethodName × ByteArray × Nat × Option FieldType × Nat × Nat × Nat × Nat := (⟨"WrongsDesk$Week", "firstBest", "(I)I"⟩, prog_12_method_8_code, 3, (some (FieldType.int)), 10, 1, 0, 0)
def pm_m95 : MethodName × ByteArray × Nat × Option FieldType × Nat × Nat × Nat × Nat := (⟨"WrongsDesk$Week", "missedInOrder", "(LWrongsDesk$Tape;LWrongsDesk$Days;)I"⟩, prog_12_method_10_code, 10, (some (FieldType.int)), 10, 2, 0, 0)
def pm_m96 : MethodName × ByteArray × Nat × Option FieldType × Nat × Nat × Nat × Nat := (⟨"WrongsDesk", "<init>", "()V"⟩, prog_1_method_1_code, 2, none, 11, 0, 58, 1804)
def pm_m97 : MethodName × ByteArray × Nat × Option FieldType × Nat × Nat × Nat × Nat := (⟨"WrongsDesk", "pass", "(I)I"⟩, prog_1_method_2_code, 2, (some (FieldType.int)), 11, 1, 0, 0)
def pm_m98 : MethodName × ByteArray × Nat × Option FieldType × Nat × Nat × Nat × Nat := (⟨"WrongsDesk", "feast", "(I)I"⟩, prog_1_method_3_code, 2, (some (FieldType.int)), 11, 1, 0, 0)
def pm_m99 : MethodName × ByteArray × Nat × Option FieldType × Nat × Nat × Nat × Nat := (⟨"WrongsDesk", "isDay", "(I)Z"⟩, prog_1_method_50_code, 1, (some (FieldType.boolean)), 11, 1, 0, 0)
def pm_m100 : MethodName × ByteArray × Nat × Option FieldType × Nat × Nat × Nat × Nat := (⟨"WrongsDesk", "working", "(II)I"⟩, prog_1_method_4_code, 3, (some (FieldType.int)), 11, 2, 0, 0)
def pm_m101 : MethodName × ByteArray × Nat × Option FieldType × Nat × Nat × Nat × Nat := (⟨"WrongsDesk", "person", "(I)I"⟩, prog_1_method_5_code, 2, (some (FieldType.int)), 11, 1, 0, 0)
def pm_m102 : MethodName × ByteArray × Nat × Option FieldType × Nat × Nat × Nat × Nat := (⟨"WrongsDesk", "isFlag", "(I)Z"⟩, prog_1_method_51_code, 1, (some (FieldType.boolean)), 11, 1, 0, 0)
def pm_m103 : MethodName × ByteArray × Nat × Option FieldType × Nat × Nat × Nat × Nat := (⟨"WrongsDesk", "let", "(II)I"⟩, prog_1_method_6_code, 4, (some (FieldType.int)), 11, 2, 0, 0)
def pm_m104 : MethodName × ByteArray × Nat × Option FieldType × Nat × Nat × Nat × Nat := (⟨"WrongsDesk", "isPerson", "(I)Z"⟩, prog_1_method_55_code, 2, (some (FieldType.boolean)), 11, 1, 0, 0)
def pm_m105 : MethodName × ByteArray × Nat × Option FieldType × Nat × Nat × Nat × Nat := (⟨"WrongsDesk", "matter", "(IIIII)I"⟩, prog_1_method_7_code, 7, (some (FieldType.int)), 11, 5, 2, 24)
def pm_m106 : MethodName × ByteArray × Nat × Option FieldType × Nat × Nat × Nat × Nat := (⟨"WrongsDesk", "isBody", "(I)Z"⟩, prog_1_method_52_code, 1, (some (FieldType.boolean)), 11, 1, 0, 0)
def pm_m107 : MethodName × ByteArray × Nat × Option FieldType × Nat × Nat × Nat × Nat := (⟨"WrongsDesk", "of", "(II)I"⟩, prog_1_method_8_code, 4, (some (FieldType.int)), 11, 2, 0, 0)
def pm_m108 : MethodName × ByteArray × Nat × Option FieldType × Nat × Nat × Nat × Nat := (⟨"WrongsDesk", "matterAt", "(I)LWrongsDesk$Matter;"⟩, prog_1_method_56_code, 2, (some ((FieldType.object "WrongsDesk$Matter"))), 11, 1, 0, 0)
def pm_m109 : MethodName × ByteArray × Nat × Option FieldType × Nat × Nat × Nat × Nat := (⟨"WrongsDesk", "out", "(I)I"⟩, prog_1_method_9_code, 3, (some (FieldType.int)), 11, 1, 0, 0)
def pm_m110 : MethodName × ByteArray × Nat × Option FieldType × Nat × Nat × Nat × Nat := (⟨"WrongsDesk", "ask", "(I)I"⟩, prog_1_method_10_code, 3, (some (FieldType.int)), 11, 1, 0, 0)
def pm_m111 : MethodName × ByteArray × Nat × Option FieldType × Nat × Nat × Nat × Nat := (⟨"WrongsDesk", "find", "(II)I"⟩, prog_1_method_11_code, 5, (some (FieldType.int)), 11, 2, 0, 0)
def pm_m112 : MethodName × ByteArray × Nat × Option FieldType × Nat × Nat × Nat × Nat := (⟨"WrongsDesk", "settle", "(I)I"⟩, prog_1_method_12_code, 3, (some (FieldType.int)), 11, 1, 0, 0)
def pm_m113 : MethodName × ByteArray × Nat × Option FieldType × Nat × Nat × Nat × Nat := (⟨"WrongsDesk", "join", "(II)I"⟩, prog_1_method_13_code, 5, (some (FieldType.int)), 11, 2, 0, 0)
def pm_m114 : MethodName × ByteArray × Nat × Option FieldType × Nat × Nat × Nat × Nat := (⟨"WrongsDesk", "watch", "(III)I"⟩, prog_1_method_14_code, 5, (some (FieldType.int)), 11, 3, 0, 0)
def pm_m115 : MethodName × ByteArray × Nat × Option FieldType × Nat × Nat × Nat × Nat := (⟨"WrongsDesk", "isSort", "(I)Z"⟩, prog_1_method_53_code, 1, (some (FieldType.boolean)), 11, 1, 0, 0)
def pm_m116 : MethodName × ByteArray × Nat × Option FieldType × Nat × Nat × Nat × Nat := (⟨"WrongsDesk", "reach", "(II)I"⟩, prog_1_method_15_code, 4, (some (FieldType.int)), 11, 2, 0, 0)
def pm_m117 : MethodName × ByteArray × Nat × Option FieldType × Nat × Nat × Nat × Nat := (⟨"WrongsDesk", "end", "(II)I"⟩, prog_1_method_16_code, 5, (some (FieldType.int)), 11, 2, 0, 0)
def pm_m118 : MethodName × ByteArray × Nat × Option FieldType × Nat × Nat × Nat × Nat := (⟨"WrongsDesk", "kept", "(I)I"⟩, prog_1_method_17_code, 3, (some (FieldType.int)), 11, 1, 0, 0)
def pm_m119 : MethodName × ByteArray × Nat × Option FieldType × Nat × Nat × Nat × Nat := (⟨"WrongsDesk", "file", "(IIII)I"⟩, prog_1_method_18_code, 6, (some (FieldType.int)), 11, 4, 1, 6)
def pm_m120 : MethodName × ByteArray × Nat × Option FieldType × Nat × Nat × Nat × Nat := (⟨"WrongsDesk", "enter", "(LWrongsDesk$Matter;III)I"⟩, prog_1_method_58_code, 5, (some (FieldType.int)), 11, 4, 1, 6)
def pm_m121 : MethodName × ByteArray × Nat × Option FieldType × Nat × Nat × Nat × Nat := (⟨"WrongsDesk", "papers", "(IIII)I"⟩, prog_1_method_19_code, 14, (some (FieldType.int)), 11, 4, 20, 120)
def pm_m122 : MethodName × ByteArray × Nat × Option FieldType × Nat × Nat × Nat × Nat := (⟨"WrongsDesk", "tapeAt", "(I)LWrongsDesk$Tape;"⟩, prog_1_method_57_code, 2, (some ((FieldType.object "WrongsDesk$Tape"))), 11, 1, 0, 0)
def pm_m123 : MethodName × ByteArray × Nat × Option FieldType × Nat × Nat × Nat × Nat := (⟨"WrongsDesk", "patch", "(I)I"⟩, prog_1_method_20_code, 3, (some (FieldType.int)), 11, 1, 0, 0)
def pm_m124 : MethodName × ByteArray × Nat × Option FieldType × Nat × Nat × Nat × Nat := (⟨"WrongsDesk", "filed", "(IIII)I"⟩, prog_1_method_21_code, 7, (some (FieldType.int)), 11, 4, 0, 0)
def pm_m125 : MethodName × ByteArray × Nat × Option FieldType × Nat × Nat × Nat × Nat := (⟨"WrongsDesk", "feed", "(II)I"⟩, prog_1_method_22_code, 3, (some (FieldType.int)), 11, 2, 0, 0)
def pm_m126 : MethodName × ByteArray × Nat × Option FieldType × Nat × Nat × Nat × Nat := (⟨"WrongsDesk", "law", "(II)I"⟩, prog_1_method_23_code, 4, (some (FieldType.int)), 11, 2, 7, 229)
def pm_m127 : MethodName × ByteArray × Nat × Option FieldType × Nat × Nat × Nat × Nat := (⟨"WrongsDesk", "lawful", "(III)I"⟩, prog_1_method_24_code, 5, (some (FieldType.int)), 11, 3, 0, 0)
def pm_m128 : MethodName × ByteArray × Nat × Option FieldType × Nat × Nat × Nat × Nat := (⟨"WrongsDesk", "owes", "(II)I"⟩, prog_1_method_25_code, 4, (some (FieldType.int)), 11, 2, 0, 0)
def pm_m129 : MethodName × ByteArray × Nat × Option FieldType × Nat × Nat × Nat × Nat := (⟨"WrongsDesk", "owed", "(IIII)I"⟩, prog_1_method_26_code, 6, (some (FieldType.int)), 11, 4, 0, 0)
def pm_m130 : MethodName × ByteArray × Nat × Option FieldType × Nat × Nat × Nat × Nat := (⟨"WrongsDesk", "good", "(II)I"⟩, prog_1_method_27_code, 4, (some (FieldType.int)), 11, 2, 0, 0)
def pm_m131 : MethodName × ByteArray × Nat × Option FieldType × Nat × Nat × Nat × Nat := (⟨"WrongsDesk", "alike", "(II)I"⟩, prog_1_method_28_code, 5, (some (FieldType.int)), 11, 2, 0, 0)
def pm_m132 : MethodName × ByteArray × Nat × Option FieldType × Nat × Nat × Nat × Nat := (⟨"WrongsDesk", "weighWrongs", "()V"⟩, prog_1_method_59_code, 2, none, 11, 0, 0, 0)
def pm_m133 : MethodName × ByteArray × Nat × Option FieldType × Nat × Nat × Nat × Nat := (⟨"WrongsDesk", "areAlike", "(LWrongsDesk$Matter;LWrongsDesk$Matter;)Z"⟩, prog_1_method_60_code, 2, (some (FieldType.boolean)), 11, 2, 0, 0)
def pm_m134 : MethodName × ByteArray × Nat × Option FieldType × Nat × Nat × Nat × Nat := (⟨"WrongsDesk", "unlike", "(I)I"⟩, prog_1_method_29_code, 5, (some (FieldType.int)), 11, 1, 0, 0)
def pm_m135 : MethodName × ByteArray × Nat × Option FieldType × Nat × Nat × Nat × Nat := (⟨"WrongsDesk", "cause", "(III)I"⟩, prog_1_method_30_code, 4, (some (FieldType.int)), 11, 3, 0, 0)
def pm_m136 : MethodName × ByteArray × Nat × Option FieldType × Nat × Nat × Nat × Nat := (⟨"WrongsDesk", "reaches", "(II)I"⟩, prog_1_method_31_code, 6, (some (FieldType.int)), 11, 2, 0, 0)
def pm_m137 : MethodName × ByteArray × Nat × Option FieldType × Nat × Nat × Nat × Nat := (⟨"WrongsDesk", "fewest", "()I"⟩, prog_1_method_32_code, 2, (some (FieldType.int)), 11, 0, 0, 0)
def pm_m138 : MethodName × ByteArray × Nat × Option FieldType × Nat × Nat × Nat × Nat := (⟨"WrongsDesk", "report", "(I)I"⟩, prog_1_method_33_code, 2, (some (FieldType.int)), 11, 1, 0, 0)
def pm_m139 : MethodName × ByteArray × Nat × Option FieldType × Nat × Nat × Nat × Nat := (⟨"WrongsDesk", "row", "(II)I"⟩, prog_1_method_34_code, 3, (some (FieldType.int)), 11, 2, 0, 0)
def pm_m140 : MethodName × ByteArray × Nat × Option FieldType × Nat × Nat × Nat × Nat := (⟨"WrongsDesk", "grade", "(III)I"⟩, prog_1_method_35_code, 5, (some (FieldType.int)), 11, 3, 0, 0)
def pm_m141 : MethodName × ByteArray × Nat × Option FieldType × Nat × Nat × Nat × Nat := (⟨"WrongsDesk", "isHand", "(I)Z"⟩, prog_1_method_54_code, 1, (some (FieldType.boolean)), 11, 1, 0, 0)
def pm_m142 : MethodName × ByteArray × Nat × Option FieldType × Nat × Nat × Nat × Nat := (⟨"WrongsDesk", "habit", "(II)J"⟩, prog_1_method_36_code, 9, (some (FieldType.long)), 11, 2, 0, 0)
def pm_m143 : MethodName × ByteArray × Nat × Option FieldType × Nat × Nat × Nat × Nat := (⟨"WrongsDesk", "commonDivisor", "(JJ)J"⟩, prog_1_method_61_code, 11, (some (FieldType.long)), 11, 2, 0, 0)
def pm_m144 : MethodName × ByteArray × Nat × Option FieldType × Nat × Nat × Nat × Nat := (⟨"WrongsDesk", "agreed", "(II)I"⟩, prog_1_method_37_code, 7, (some (FieldType.int)), 11, 2, 0, 0)
def pm_m145 : MethodName × ByteArray × Nat × Option FieldType × Nat × Nat × Nat × Nat := (⟨"WrongsDesk", "plan", "(III)I"⟩, prog_1_method_38_code, 4, (some (FieldType.int)), 11, 3, 0, 0)
def pm_m146 : MethodName × ByteArray × Nat × Option FieldType × Nat × Nat × Nat × Nat := (⟨"WrongsDesk", "planless", "()I"⟩, prog_1_method_39_code, 2, (some (FieldType.int)), 11, 0, 0, 0)
def pm_m147 : MethodName × ByteArray × Nat × Option FieldType × Nat × Nat × Nat × Nat := (⟨"WrongsDesk", "week", "(I)I"⟩, prog_1_method_40_code, 3, (some (FieldType.int)), 11, 1, 0, 0)
def pm_m148 : MethodName × ByteArray × Nat × Option FieldType × Nat × Nat × Nat × Nat := (⟨"WrongsDesk", "judge", "(I)I"⟩, prog_1_method_41_code, 3, (some (FieldType.int)), 11, 1, 0, 0)
def pm_m149 : MethodName × ByteArray × Nat × Option FieldType × Nat × Nat × Nat × Nat := (⟨"WrongsDesk", "act", "(III)I"⟩, prog_1_method_42_code, 5, (some (FieldType.int)), 11, 3, 0, 0)
def pm_m150 : MethodName × ByteArray × Nat × Option FieldType × Nat × Nat × Nat × Nat := (⟨"WrongsDesk", "trace", "(I)I"⟩, prog_1_method_43_code, 2, (some (FieldType.int)), 11, 1, 0, 0)
def pm_m151 : MethodName × ByteArray × Nat × Option FieldType × Nat × Nat × Nat × Nat := (⟨"WrongsDesk", "taken", "(II)I"⟩, prog_1_method_44_code, 4, (some (FieldType.int)), 11, 2, 0, 0)
def pm_m152 : MethodName × ByteArray × Nat × Option FieldType × Nat × Nat × Nat × Nat := (⟨"WrongsDesk", "count", "(I)I"⟩, prog_1_method_45_code, 2, (some (FieldType.int)), 11, 1, 0, 0)
def pm_m153 : MethodName × ByteArray × Nat × Option FieldType × Nat × Nat × Nat × Nat := (⟨"WrongsDesk", "tape", "(III)I"⟩, prog_1_method_46_code, 5, (some (FieldType.int)), 11, 3, 0, 0)
def pm_m154 : MethodName × ByteArray × Nat × Option FieldType × Nat × Nat × Nat × Nat := (⟨"WrongsDesk", "item", "(IIJ)I"⟩, prog_1_method_47_code, 6, (some (FieldType.int)), 11, 3, 0, 0)
def pm_m155 : MethodName × ByteArray × Nat × Option FieldType × Nat × Nat × Nat × Nat := (⟨"WrongsDesk", "read", "(II)J"⟩, prog_1_method_48_code, 4, (some (FieldType.long)), 11, 2, 0, 0)
def pm_m156 : MethodName × ByteArray × Nat × Option FieldType × Nat × Nat × Nat × Nat := (⟨"WrongsDesk", "shift", "(IIIII)I"⟩, prog_1_method_49_code, 8, (some (FieldType.int)), 11, 5, 0, 0)
def pm_m157 : MethodName × ByteArray × Nat × Option FieldType × Nat × Nat × Nat × Nat := (⟨"WrongsDeskModel", "<init>", "()V"⟩, prog_14_method_1_code, 2, none, 12, 0, 54, 4719)
def pm_m158 : MethodName × ByteArray × Nat × Option FieldType × Nat × Nat × Nat × Nat := (⟨"WrongsDeskModel", "pass", "(I)I"⟩, prog_14_method_7_code, 2, (some (FieldType.int)), 12, 1, 0, 0)
def pm_m159 : MethodName × ByteArray × Nat × Option FieldType × Nat × Nat × Nat × Nat := (⟨"WrongsDeskModel", "within", "(III)Z"⟩, prog_14_method_2_code, 3, (some (FieldType.boolean)), 12, 3, 0, 0)
def pm_m160 : MethodName × ByteArray × Nat × Option FieldType × Nat × Nat × Nat × Nat := (⟨"WrongsDeskModel", "feast", "(I)I"⟩, prog_14_method_9_code, 2, (some (FieldType.int)), 12, 1, 0, 0)
def pm_m161 : MethodName × ByteArray × Nat × Option FieldType × Nat × Nat × Nat × Nat := (⟨"WrongsDeskModel", "isDay", "(I)Z"⟩, prog_14_method_3_code, 1, (some (FieldType.boolean)), 12, 1, 0, 0)
def pm_m162 : MethodName × ByteArray × Nat × Option FieldType × Nat × Nat × Nat × Nat := (⟨"WrongsDeskModel", "isOff", "(I)Z"⟩, prog_14_method_8_code, 4, (some (FieldType.boolean)), 12, 1, 0, 0)
def pm_m163 : MethodName × ByteArray × Nat × Option FieldType × Nat × Nat × Nat × Nat := (⟨"WrongsDeskModel", "working", "(II)I"⟩, prog_14_method_13_code, 3, (some (FieldType.int)), 12, 2, 0, 0)
def pm_m164 : MethodName × ByteArray × Nat × Option FieldType × Nat × Nat × Nat × Nat := (⟨"WrongsDeskModel", "workingBehind", "(II)I"⟩, prog_14_method_12_code, 5, (some (FieldType.int)), 12, 2, 0, 0)
def pm_m165 : MethodName × ByteArray × Nat × Option FieldType × Nat × Nat × Nat × Nat := (⟨"WrongsDeskModel", "weekdayBehind", "(II)I"⟩, prog_14_method_10_code, 3, (some (FieldType.int)), 12, 2, 0, 0)
def pm_m166 : MethodName × ByteArray × Nat × Option FieldType × Nat × Nat × Nat × Nat := (⟨"WrongsDeskModel", "feastsWithin", "(II)I"⟩, prog_14_method_11_code, 5, (some (FieldType.int)), 12, 2, 0, 0)
def pm_m167 : MethodName × ByteArray × Nat × Option FieldType × Nat × Nat × Nat × Nat := (⟨"WrongsDeskModel", "person", "(I)I"⟩, prog_14_method_14_code, 2, (some (FieldType.int)), 12, 1, 0, 0)
def pm_m168 : MethodName × ByteArray × Nat × Option FieldType × Nat × Nat × Nat × Nat := (⟨"WrongsDeskModel", "let", "(II)I"⟩, prog_14_method_15_code, 4, (some (FieldType.int)), 12, 2, 0, 0)
def pm_m169 : MethodName × ByteArray × Nat × Option FieldType × Nat × Nat × Nat × Nat := (⟨"WrongsDeskModel", "isPerson", "(I)Z"⟩, prog_14_method_6_code, 2, (some (FieldType.boolean)), 12, 1, 0, 0)
def pm_m170 : MethodName × ByteArray × Nat × Option FieldType × Nat × Nat × Nat × Nat := (⟨"WrongsDeskModel", "matter", "(IIIII)I"⟩, prog_14_method_16_code, 7, (some (FieldType.int)), 12, 5, 0, 0)
def pm_m171 : MethodName × ByteArray × Nat × Option FieldType × Nat × Nat × Nat × Nat := (⟨"WrongsDeskModel", "isBody", "(I)Z"⟩, prog_14_method_4_code, 1, (some (FieldType.boolean)), 12, 1, 0, 0)
def pm_m172 : MethodName × ByteArray × Nat × Option FieldType × Nat × Nat × Nat × Nat := (⟨"WrongsDeskModel", "of", "(II)I"⟩, prog_14_method_17_code, 3, (some (FieldType.int)), 12, 2, 0, 0)
def pm_m173 : MethodName × ByteArray × Nat × Option FieldType × Nat × Nat × Nat × Nat := (⟨"WrongsDeskModel", "isMatter", "(I)Z"⟩, prog_14_method_5_code, 2, (some (FieldType.boolean)), 12, 1, 0, 0)
def pm_m174 : MethodName × ByteArray × Nat × Option FieldType × Nat × Nat × Nat × Nat := (⟨"WrongsDeskModel", "out", "(I)I"⟩, prog_14_method_18_code, 2, (some (FieldType.int)), 12, 1, 0, 0)
def pm_m175 : MethodName × ByteArray × Nat × Option FieldType × Nat × Nat × Nat × Nat := (⟨"WrongsDeskModel", "isInReach", "(II)Z"⟩, prog_14_method_26_code, 3, (some (FieldType.boolean)), 12, 2, 0, 0)
def pm_m176 : MethodName × ByteArray × Nat × Option FieldType × Nat × Nat × Nat × Nat := (⟨"WrongsDeskModel", "lawOf", "(II)I"⟩, prog_14_method_63_code, 5, (some (FieldType.int)), 12, 2, 0, 0)
def pm_m177 : MethodName × ByteArray × Nat × Option FieldType × Nat × Nat × Nat × Nat := (⟨"WrongsDeskModel", "readLaw", "(III)V"⟩, prog_14_method_62_code, 4, none, 12, 3, 0, 0)
def pm_m178 : MethodName × ByteArray × Nat × Option FieldType × Nat × Nat × Nat × Nat := (⟨"WrongsDeskModel", "standAtFirst", "()V"⟩, prog_14_method_60_code, 1, none, 12, 0, 0, 0)
def pm_m179 : MethodName × ByteArray × Nat × Option FieldType × Nat × Nat × Nat × Nat := (⟨"WrongsDeskModel", "goThrough", "(II)V"⟩, prog_14_method_61_code, 6, none, 12, 2, 0, 0)
def pm_m180 : MethodName × ByteArray × Nat × Option FieldType × Nat × Nat × Nat × Nat := (⟨"WrongsDeskModel", "clause", "()V"⟩, prog_14_method_59_code, 3, none, 12, 0, 0, 0)
def pm_m181 : MethodName × ByteArray × Nat × Option FieldType × Nat × Nat × Nat × Nat := (⟨"WrongsDeskModel", "byteAt", "()I"⟩, prog_14_method_43_code, 1, (some (FieldType.int)), 12, 0, 0, 0)
def pm_m182 : MethodName × ByteArray × Nat × Option FieldType × Nat × Nat × Nat × Nat := (⟨"WrongsDeskModel", "owe", "()V"⟩, prog_14_method_57_code, 6, none, 12, 0, 0, 0)
def pm_m183 : MethodName × ByteArray × Nat × Option FieldType × Nat × Nat × Nat × Nat := (⟨"WrongsDeskModel", "letters", "(IIIII)J"⟩, prog_14_method_48_code, 7, (some (FieldType.long)), 12, 5, 0, 0)
def pm_m184 : MethodName × ByteArray × Nat × Option FieldType × Nat × Nat × Nat × Nat := (⟨"WrongsDeskModel", "word", "(J)V"⟩, prog_14_method_47_code, 5, none, 12, 1, 0, 0)
def pm_m185 : MethodName × ByteArray × Nat × Option FieldType × Nat × Nat × Nat × Nat := (⟨"WrongsDeskModel", "need", "(I)V"⟩, prog_14_method_46_code, 3, none, 12, 1, 0, 0)
def pm_m186 : MethodName × ByteArray × Nat × Option FieldType × Nat × Nat × Nat × Nat := (⟨"WrongsDeskModel", "take", "(I)Z"⟩, prog_14_method_45_code, 2, (some (FieldType.boolean)), 12, 1, 0, 0)
def pm_m187 : MethodName × ByteArray × Nat × Option FieldType × Nat × Nat × Nat × Nat := (⟨"WrongsDeskModel", "wrong", "()I"⟩, prog_14_method_44_code, 1, (some (FieldType.int)), 12, 0, 0, 0)
def pm_m188 : MethodName × ByteArray × Nat × Option FieldType × Nat × Nat × Nat × Nat := (⟨"WrongsDeskModel", "sort", "()I"⟩, prog_14_method_51_code, 1, (some (FieldType.int)), 12, 0, 0, 0)
def pm_m189 : MethodName × ByteArray × Nat × Option FieldType × Nat × Nat × Nat × Nat := (⟨"WrongsDeskModel", "number", "(I)I"⟩, prog_14_method_50_code, 4, (some (FieldType.int)), 12, 1, 0, 0)
def pm_m190 : MethodName × ByteArray × Nat × Option FieldType × Nat × Nat × Nat × Nat := (⟨"WrongsDeskModel", "isDigit", "()Z"⟩, prog_14_method_49_code, 1, (some (FieldType.boolean)), 12, 0, 0, 0)
def pm_m191 : MethodName × ByteArray × Nat × Option FieldType × Nat × Nat × Nat × Nat := (⟨"WrongsDeskModel", "either", "()Z"⟩, prog_14_method_52_code, 3, (some (FieldType.boolean)), 12, 0, 0, 0)
def pm_m192 : MethodName × ByteArray × Nat × Option FieldType × Nat × Nat × Nat × Nat := (⟨"WrongsDeskModel", "both", "()Z"⟩, prog_14_method_53_code, 3, (some (FieldType.boolean)), 12, 0, 0, 0)
def pm_m193 : MethodName × ByteArray × Nat × Option FieldType × Nat × Nat × Nat × Nat := (⟨"WrongsDeskModel", "factor", "()Z"⟩, prog_14_method_54_code, 3, (some (FieldType.boolean)), 12, 0, 0, 0)
def pm_m194 : MethodName × ByteArray × Nat × Option FieldType × Nat × Nat × Nat × Nat := (⟨"WrongsDeskModel", "test", "(I)Z"⟩, prog_14_method_56_code, 4, (some (FieldType.boolean)), 12, 1, 0, 0)
def pm_m195 : MethodName × ByteArray × Nat × Option FieldType × Nat × Nat × Nat × Nat := (⟨"WrongsDeskModel", "first", "(III)I"⟩, prog_14_method_40_code, 6, (some (FieldType.int)), 12, 3, 0, 0)
def pm_m196 : MethodName × ByteArray × Nat × Option FieldType × Nat × Nat × Nat × Nat := (⟨"WrongsDeskModel", "isFiled", "(IIII)Z"⟩, prog_14_method_38_code, 5, (some (FieldType.boolean)), 12, 4, 0, 0)
def pm_m197 : MethodName × ByteArray × Nat × Option FieldType × Nat × Nat × Nat × Nat := (⟨"WrongsDeskModel", "latest", "(III)I"⟩, prog_14_method_39_code, 6, (some (FieldType.int)), 12, 3, 0, 0)
def pm_m198 : MethodName × ByteArray × Nat × Option FieldType × Nat × Nat × Nat × Nat := (⟨"WrongsDeskModel", "against", "(IZI)Z"⟩, prog_14_method_55_code, 6, (some (FieldType.boolean)), 12, 3, 0, 0)
def pm_m199 : MethodName × ByteArray × Nat × Option FieldType × Nat × Nat × Nat × Nat := (⟨"WrongsDeskModel", "oneNumber", "(J)I"⟩, prog_14_method_58_code, 3, (some (FieldType.int)), 12, 1, 0, 0)
def pm_m200 : MethodName × ByteArray × Nat × Option FieldType × Nat × Nat × Nat × Nat := (⟨"WrongsDeskModel", "ask", "(I)I"⟩, prog_14_method_19_code, 2, (some (FieldType.int)), 12, 1, 0, 0)
def pm_m201 : MethodName × ByteArray × Nat × Option FieldType × Nat × Nat × Nat × Nat := (⟨"WrongsDeskModel", "endOf", "(I)I"⟩, prog_14_method_29_code, 2, (some (FieldType.int)), 12, 1, 0, 0)
def pm_m202 : MethodName × ByteArray × Nat × Option FieldType × Nat × Nat × Nat × Nat := (⟨"WrongsDeskModel", "find", "(II)I"⟩, prog_14_method_21_code, 4, (some (FieldType.int)), 12, 2, 0, 0)
def pm_m203 : MethodName × ByteArray × Nat × Option FieldType × Nat × Nat × Nat × Nat := (⟨"WrongsDeskModel", "wrongs", "(I)I"⟩, prog_14_method_20_code, 4, (some (FieldType.int)), 12, 1, 0, 0)
def pm_m204 : MethodName × ByteArray × Nat × Option FieldType × Nat × Nat × Nat × Nat := (⟨"WrongsDeskModel", "findOwed", "(II)V"⟩, prog_14_method_67_code, 5, none, 12, 2, 0, 0)
def pm_m205 : MethodName × ByteArray × Nat × Option FieldType × Nat × Nat × Nat × Nat := (⟨"WrongsDeskModel", "wrongOf", "(IIII)I"⟩, prog_14_method_66_code, 7, (some (FieldType.int)), 12, 4, 0, 0)
def pm_m206 : MethodName × ByteArray × Nat × Option FieldType × Nat × Nat × Nat × Nat := (⟨"WrongsDeskModel", "settle", "(I)I"⟩, prog_14_method_22_code, 2, (some (FieldType.int)), 12, 1, 0, 0)
def pm_m207 : MethodName × ByteArray × Nat × Option FieldType × Nat × Nat × Nat × Nat := (⟨"WrongsDeskModel", "join", "(II)I"⟩, prog_14_method_23_code, 3, (some (FieldType.int)), 12, 2, 0, 0)
def pm_m208 : MethodName × ByteArray × Nat × Option FieldType × Nat × Nat × Nat × Nat := (⟨"WrongsDeskModel", "watch", "(III)I"⟩, prog_14_method_25_code, 4, (some (FieldType.int)), 12, 3, 0, 0)
def pm_m209 : MethodName × ByteArray × Nat × Option FieldType × Nat × Nat × Nat × Nat := (⟨"WrongsDeskModel", "isSort", "(I)Z"⟩, prog_14_method_24_code, 1, (some (FieldType.boolean)), 12, 1, 0, 0)
def pm_m210 : MethodName × ByteArray × Nat × Option FieldType × Nat × Nat × Nat × Nat := (⟨"WrongsDeskModel", "reach", "(II)I"⟩, prog_14_method_28_code, 3, (some (FieldType.int)), 12, 2, 0, 0)
def pm_m211 : MethodName × ByteArray × Nat × Option FieldType × Nat × Nat × Nat × Nat := (⟨"WrongsDeskModel", "mayAsk", "(II)Z"⟩, prog_14_method_27_code, 3, (some (FieldType.boolean)), 12, 2, 0, 0)
def pm_m212 : MethodName × ByteArray × Nat × Option FieldType × Nat × Nat × Nat × Nat := (⟨"WrongsDeskModel", "end", "(II)I"⟩, prog_14_method_30_code, 4, (some (FieldType.int)), 12, 2, 0, 0)
def pm_m213 : MethodName × ByteArray × Nat × Option FieldType × Nat × Nat × Nat × Nat := (⟨"WrongsDeskModel", "kept", "(I)I"⟩, prog_14_method_31_code, 6, (some (FieldType.int)), 12, 1, 0, 0)
def pm_m214 : MethodName × ByteArray × Nat × Option FieldType × Nat × Nat × Nat × Nat := (⟨"WrongsDeskModel", "file", "(IIII)I"⟩, prog_14_method_34_code, 5, (some (FieldType.int)), 12, 4, 0, 0)
def pm_m215 : MethodName × ByteArray × Nat × Option FieldType × Nat × Nat × Nat × Nat := (⟨"WrongsDeskModel", "mayFile", "(III)Z"⟩, prog_14_method_32_code, 4, (some (FieldType.boolean)), 12, 3, 0, 0)
def pm_m216 : MethodName × ByteArray × Nat × Option FieldType × Nat × Nat × Nat × Nat := (⟨"WrongsDeskModel", "enter", "(IIII)V"⟩, prog_14_method_33_code, 5, none, 12, 4, 0, 0)
def pm_m217 : MethodName × ByteArray × Nat × Option FieldType × Nat × Nat × Nat × Nat := (⟨"WrongsDeskModel", "papers", "(IIII)I"⟩, prog_14_method_36_code, 12, (some (FieldType.int)), 12, 4, 0, 0)
def pm_m218 : MethodName × ByteArray × Nat × Option FieldType × Nat × Nat × Nat × Nat := (⟨"WrongsDeskModel", "isTape", "(I)Z"⟩, prog_14_method_35_code, 1, (some (FieldType.boolean)), 12, 1, 0, 0)
def pm_m219 : MethodName × ByteArray × Nat × Option FieldType × Nat × Nat × Nat × Nat := (⟨"WrongsDeskModel", "patch", "(I)I"⟩, prog_14_method_37_code, 2, (some (FieldType.int)), 12, 1, 0, 0)
def pm_m220 : MethodName × ByteArray × Nat × Option FieldType × Nat × Nat × Nat × Nat := (⟨"WrongsDeskModel", "filed", "(IIII)I"⟩, prog_14_method_41_code, 7, (some (FieldType.int)), 12, 4, 0, 0)
def pm_m221 : MethodName × ByteArray × Nat × Option FieldType × Nat × Nat × Nat × Nat := (⟨"WrongsDeskModel", "feed", "(II)I"⟩, prog_14_method_42_code, 4, (some (FieldType.int)), 12, 2, 0, 0)
def pm_m222 : MethodName × ByteArray × Nat × Option FieldType × Nat × Nat × Nat × Nat := (⟨"WrongsDeskModel", "law", "(II)I"⟩, prog_14_method_64_code, 5, (some (FieldType.int)), 12, 2, 0, 0)
def pm_m223 : MethodName × ByteArray × Nat × Option FieldType × Nat × Nat × Nat × Nat := (⟨"WrongsDeskModel", "lawful", "(III)I"⟩, prog_14_method_65_code, 5, (some (FieldType.int)), 12, 3, 0, 0)
def pm_m224 : MethodName × ByteArray × Nat × Option FieldType × Nat × Nat × Nat × Nat := (⟨"WrongsDeskModel", "owes", "(II)I"⟩, prog_14_method_68_code, 3, (some (FieldType.int)), 12, 2, 0, 0)
def pm_m225 : MethodName × ByteArray × Nat × Option FieldType × Nat × Nat × Nat × Nat := (⟨"WrongsDeskModel", "owed", "(IIII)I"⟩, prog_14_method_69_code, 5, (some (FieldType.int)), 12, 4, 0, 0)
def pm_m226 : MethodName × ByteArray × Nat × Option FieldType × Nat × Nat × Nat × Nat := (⟨"WrongsDeskModel", "good", "(II)I"⟩, prog_14_method_70_code, 6, (some (FieldType.int)), 12, 2, 0, 0)
def pm_m227 : MethodName × ByteArray × Nat × Option FieldType × Nat × Nat × Nat × Nat := (⟨"WrongsDeskModel", "alike", "(II)I"⟩, prog_14_method_74_code, 3, (some (FieldType.int)), 12, 2, 0, 0)
def pm_m228 : MethodName × ByteArray × Nat × Option FieldType × Nat × Nat × Nat × Nat := (⟨"WrongsDeskModel", "isFound", "(I)Z"⟩, prog_14_method_71_code, 2, (some (FieldType.boolean)), 12, 1, 0, 0)
def pm_m229 : MethodName × ByteArray × Nat × Option FieldType × Nat × Nat × Nat × Nat := (⟨"WrongsDeskModel", "areAlike", "(II)Z"⟩, prog_14_method_73_code, 5, (some (FieldType.boolean)), 12, 2, 0, 0)
def pm_m230 : MethodName × ByteArray × Nat × Option FieldType × Nat × Nat × Nat × Nat := (⟨"WrongsDeskModel", "findSorts", "(I)V"⟩, prog_14_method_72_code, 3, none, 12, 1, 0, 0)
def pm_m231 : MethodName × ByteArray × Nat × Option FieldType × Nat × Nat × Nat × Nat := (⟨"WrongsDeskModel", "unlike", "(I)I"⟩, prog_14_method_75_code, 7, (some (FieldType.int)), 12, 1, 0, 0)
def pm_m232 : MethodName × ByteArray × Nat × Option FieldType × Nat × Nat × Nat × Nat := (⟨"WrongsDeskModel", "cause", "(III)I"⟩, prog_14_method_76_code, 4, (some (FieldType.int)), 12, 3, 0, 0)
def pm_m233 : MethodName × ByteArray × Nat × Option FieldType × Nat × Nat × Nat × Nat := (⟨"WrongsDeskModel", "reaches", "(II)I"⟩, prog_14_method_78_code, 5, (some (FieldType.int)), 12, 2, 0, 0)
def pm_m234 : MethodName × ByteArray × Nat × Option FieldType × Nat × Nat × Nat × Nat := (⟨"WrongsDeskModel", "reachedBy", "(I)I"⟩, prog_14_method_77_code, 8, (some (FieldType.int)), 12, 1, 0, 0)
def pm_m235 : MethodName × ByteArray × Nat × Option FieldType × Nat × Nat × Nat × Nat := (⟨"WrongsDeskModel", "fewest", "()I"⟩, prog_14_method_80_code, 5, (some (FieldType.int)), 12, 0, 0, 0)
def pm_m236 : MethodName × ByteArray × Nat × Option FieldType × Nat × Nat × Nat × Nat := (⟨"WrongsDeskModel", "bitsOf", "(I)I"⟩, prog_14_method_79_code, 3, (some (FieldType.int)), 12, 1, 0, 0)
def pm_m237 : MethodName × ByteArray × Nat × Option FieldType × Nat × Nat × Nat × Nat := (⟨"WrongsDeskModel", "report", "(I)I"⟩, prog_14_method_82_code, 7, (some (FieldType.int)), 12, 1, 0, 0)
def pm_m238 : MethodName × ByteArray × Nat × Option FieldType × Nat × Nat × Nat × Nat := (⟨"WrongsDeskModel", "keyOf", "(II)I"⟩, prog_14_method_81_code, 6, (some (FieldType.int)), 12, 2, 0, 0)
def pm_m239 : MethodName × ByteArray × Nat × Option FieldType × Nat × Nat × Nat × Nat := (⟨"WrongsDeskModel", "addRow", "(II)V"⟩, prog_14_method_83_code, 5, none, 12, 2, 0, 0)
def pm_m240 : MethodName × ByteArray × Nat × Option FieldType × Nat × Nat × Nat × Nat := (⟨"WrongsDeskModel", "row", "(II)I"⟩, prog_14_method_84_code, 3, (some (FieldType.int)), 12, 2, 0, 0)
def pm_m241 : MethodName × ByteArray × Nat × Option FieldType × Nat × Nat × Nat × Nat := (⟨"WrongsDeskModel", "grade", "(III)I"⟩, prog_14_method_86_code, 4, (some (FieldType.int)), 12, 3, 0, 0)
def pm_m242 : MethodName × ByteArray × Nat × Option FieldType × Nat × Nat × Nat × Nat := (⟨"WrongsDeskModel", "isHand", "(I)Z"⟩, prog_14_method_85_code, 1, (some (FieldType.boolean)), 12, 1, 0, 0)
def pm_m243 : MethodName × ByteArray × Nat × Option FieldType × Nat × Nat × Nat × Nat := (⟨"WrongsDeskModel", "habit", "(II)J"⟩, prog_14_method_88_code, 10, (some (FieldType.long)), 12, 2, 0, 0)
def pm_m244 : MethodName × ByteArray × Nat × Option FieldType × Nat × Nat × Nat × Nat := (⟨"WrongsDeskModel", "divisor", "(JJ)J"⟩, prog_14_method_87_code, 10, (some (FieldType.long)), 12, 2, 0, 0)
def pm_m245 : MethodName × ByteArray × Nat × Option FieldType × Nat × Nat × Nat × Nat := (⟨"WrongsDeskModel", "agreed", "(II)I"⟩, prog_14_method_89_code, 7, (some (FieldType.int)), 12, 2, 0, 0)
def pm_m246 : MethodName × ByteArray × Nat × Option FieldType × Nat × Nat × Nat × Nat := (⟨"WrongsDeskModel", "plan", "(III)I"⟩, prog_14_method_90_code, 5, (some (FieldType.int)), 12, 3, 0, 0)
def pm_m247 : MethodName × ByteArray × Nat × Option FieldType × Nat × Nat × Nat × Nat := (⟨"WrongsDeskModel", "planless", "()I"⟩, prog_14_method_91_code, 2, (some (FieldType.int)), 12, 0, 0, 0)
def pm_m248 : MethodName × ByteArray × Nat × Option FieldType × Nat × Nat × Nat × Nat := (⟨"WrongsDeskModel", "week", "(I)I"⟩, prog_14_method_93_code, 2, (some (FieldType.int)), 12, 1, 0, 0)
def pm_m249 : MethodName × ByteArray × Nat × Option FieldType × Nat × Nat × Nat × Nat := (⟨"WrongsDeskModel", "go", "(IIII)V"⟩, prog_14_method_92_code, 9, none, 12, 4, 0, 0)
def pm_m250 : MethodName × ByteArray × Nat × Option FieldType × Nat × Nat × Nat × Nat := (⟨"WrongsDeskModel", "judge", "(I)I"⟩, prog_14_method_94_code, 7, (some (FieldType.int)), 12, 1, 0, 0)
def pm_m251 : MethodName × ByteArray × Nat × Option FieldType × Nat × Nat × Nat × Nat := (⟨"WrongsDeskModel", "act", "(III)I"⟩, prog_14_method_100_code, 4, (some (FieldType.int)), 12, 3, 0, 0)
def pm_m252 : MethodName × ByteArray × Nat × Option FieldType × Nat × Nat × Nat × Nat := (⟨"WrongsDeskModel", "waits", "(II)I"⟩, prog_14_method_97_code, 3, (some (FieldType.int)), 12, 2, 0, 0)
def pm_m253 : MethodName × ByteArray × Nat × Option FieldType × Nat × Nat × Nat × Nat := (⟨"WrongsDeskModel", "begins", "(I)V"⟩, prog_14_method_96_code, 2, none, 12, 1, 0, 0)
def pm_m254 : MethodName × ByteArray × Nat × Option FieldType × Nat × Nat × Nat × Nat := (⟨"WrongsDeskModel", "above", "(I)I"⟩, prog_14_method_95_code, 1, (some (FieldType.int)), 12, 1, 0, 0)
def pm_m255 : MethodName × ByteArray × Nat × Option FieldType × Nat × Nat × Nat × Nat := (⟨"WrongsDeskModel", "binds", "(II)I"⟩, prog_14_method_98_code, 4, (some (FieldType.int)), 12, 2, 0, 0)
def pm_m256 : MethodName × ByteArray × Nat × Option FieldType × Nat × Nat × Nat × Nat := (⟨"WrongsDeskModel", "shows", "(II)I"⟩, prog_14_method_99_code, 3, (some (FieldType.int)), 12, 2, 0, 0)
def pm_m257 : MethodName × ByteArray × Nat × Option FieldType × Nat × Nat × Nat × Nat := (⟨"WrongsDeskModel", "trace", "(I)I"⟩, prog_14_method_101_code, 2, (some (FieldType.int)), 12, 1, 0, 0)
def pm_m258 : MethodName × ByteArray × Nat × Option FieldType × Nat × Nat × Nat × Nat := (⟨"WrongsDeskModel", "taken", "(II)I"⟩, prog_14_method_102_code, 4, (some (FieldType.int)), 12, 2, 0, 0)
def pm_m259 : MethodName × ByteArray × Nat × Option FieldType × Nat × Nat × Nat × Nat := (⟨"WrongsDeskModel", "count", "(I)I"⟩, prog_14_method_103_code, 2, (some (FieldType.int)), 12, 1, 0, 0)
def pm_m260 : MethodName × ByteArray × Nat × Option FieldType × Nat × Nat × Nat × Nat := (⟨"WrongsDeskModel", "tape", "(III)I"⟩, prog_14_method_104_code, 5, (some (FieldType.int)), 12, 3, 0, 0)
def pm_m261 : MethodName × ByteArray × Nat × Option FieldType × Nat × Nat × Nat × Nat := (⟨"WrongsDeskModel", "item", "(IIJ)I"⟩, prog_14_method_105_code, 5, (some (FieldType.int)), 12, 3, 0, 0)
def pm_m262 : MethodName × ByteArray × Nat × Option FieldType × Nat × Nat × Nat × Nat := (⟨"WrongsDeskModel", "read", "(II)J"⟩, prog_14_method_106_code, 3, (some (FieldType.long)), 12, 2, 0, 0)
def pm_m263 : MethodName × ByteArray × Nat × Option FieldType × Nat × Nat × Nat × Nat := (⟨"WrongsDeskModel", "shift", "(IIIII)I"⟩, prog_14_method_107_code, 7, (some (FieldType.int)), 12, 5, 0, 0)
def pm_m264 : MethodName × ByteArray × Nat × Option FieldType × Nat × Nat × Nat × Nat := (⟨"java/lang/Integer", "bitCount", "(I)I"⟩, prog_15_method_49_code, 1, (some (FieldType.int)), 14, 1, 0, 0)
def pm_m265 : MethodName × ByteArray × Nat × Option FieldType × Nat × Nat × Nat × Nat := (⟨"java/lang/Math", "min", "(II)I"⟩, prog_16_method_69_code, 2, (some (FieldType.int)), 15, 2, 0, 0)
def pm_m266 : MethodName × ByteArray × Nat × Option FieldType × Nat × Nat × Nat × Nat := (⟨"java/lang/Math", "min", "(JJ)J"⟩, prog_16_method_70_code, 4, (some (FieldType.long)), 15, 2, 0, 0)
def pm_m267 : MethodName × ByteArray × Nat × Option FieldType × Nat × Nat × Nat × Nat := (⟨"java/lang/Math", "abs", "(J)J"⟩, prog_16_method_61_code, 2, (some (FieldType.long)), 15, 1, 0, 0)
def pm_m268 : MethodName × ByteArray × Nat × Option FieldType × Nat × Nat × Nat × Nat := (⟨"java/lang/Math", "abs", "(I)I"⟩, prog_16_method_59_code, 1, (some (FieldType.int)), 15, 1, 0, 0)
def pm_m269 : MethodName × ByteArray × Nat × Option FieldType × Nat × Nat × Nat × Nat := (⟨"java/lang/String", "length", "()I"⟩, prog_17_method_54_code, 1, (some (FieldType.int)), 16, 0, 0, 0)
def pm_m270 : MethodName × ByteArray × Nat × Option FieldType × Nat × Nat × Nat × Nat := (⟨"java/lang/String", "coder", "()B"⟩, prog_17_method_152_code, 1, (some (FieldType.byte)), 16, 0, 0, 0)
def pm_m271 : MethodName × ByteArray × Nat × Option FieldType × Nat × Nat × Nat × Nat := (⟨"java/lang/String", "charAt", "(I)C"⟩, prog_17_method_56_code, 2, (some (FieldType.char)), 16, 1, 0, 0)
def pm_m272 : MethodName × ByteArray × Nat × Option FieldType × Nat × Nat × Nat × Nat := (⟨"java/lang/String", "isLatin1", "()Z"⟩, prog_17_method_154_code, 1, (some (FieldType.boolean)), 16, 0, 0, 0)
def pm_m273 : MethodName × ByteArray × Nat × Option FieldType × Nat × Nat × Nat × Nat := (⟨"java/lang/String", "checkIndex", "(II)V"⟩, prog_17_method_155_code, 2, none, 16, 2, 0, 0)
def pm_m274 : MethodName × ByteArray × Nat × Option FieldType × Nat × Nat × Nat × Nat := (⟨"java/lang/StringLatin1", "charAt", "([BI)C"⟩, prog_18_method_2_code, 2, (some (FieldType.char)), 17, 2, 0, 0)
def pm_m275 : MethodName × ByteArray × Nat × Option FieldType × Nat × Nat × Nat × Nat := (⟨"jdk/internal/util/Preconditions", "checkIndex", "(IILjava/util/function/BiFunction;)I"⟩, prog_21_method_11_code, 3, (some (FieldType.int)), 18, 3, 0, 0)
def pm_m276 : MethodName × ByteArray × Nat × Option FieldType × Nat × Nat × Nat × Nat := (⟨"java/lang/StringUTF16", "charAt", "([BI)C"⟩, prog_19_method_83_code, 2, (some (FieldType.char)), 19, 2, 0, 0)
def pm_m277 : MethodName × ByteArray × Nat × Option FieldType × Nat × Nat × Nat × Nat := (⟨"java/lang/StringUTF16", "checkIndex", "(I[B)V"⟩, prog_19_method_91_code, 2, none, 19, 2, 0, 0)
def pm_m278 : MethodName × ByteArray × Nat × Option FieldType × Nat × Nat × Nat × Nat := (⟨"java/lang/StringUTF16", "length", "([B)I"⟩, prog_19_method_6_code, 1, (some (FieldType.int)), 19, 1, 0, 0)
def pm_m279 : MethodName × ByteArray × Nat × Option FieldType × Nat × Nat × Nat × Nat := (⟨"java/lang/StringUTF16", "getChar", "([BI)C"⟩, prog_19_method_5_code, 2, (some (FieldType.char)), 19, 2, 0, 0)
def pm_m280 : MethodName × ByteArray × Nat × Option FieldType × Nat × Nat × Nat × Nat := (⟨"WrongsDeskLaw", "law", "([I)Z"⟩, code, 4, (some (FieldType.boolean)), 13, 1, 600000, 7302250)
def pm_mt : List (MethodName × ByteArray × Nat × Option FieldType × Nat × Nat × Nat × Nat) := [pm_m0, pm_m1, pm_m2, pm_m3, pm_m4, pm_m5, pm_m6, pm_m7, pm_m8, pm_m9, pm_m10, pm_m11, pm_m12, pm_m13, pm_m14, pm_m15, pm_m16, pm_m17, pm_m18, pm_m19, pm_m20, pm_m21, pm_m22, pm_m23, pm_m24, pm_m25, pm_m26, pm_m27, pm_m28, pm_m29, pm_m30, pm_m31, pm_m32, pm_m33, pm_m34, pm_m35, pm_m36, pm_m37, pm_m38, pm_m39, pm_m40, pm_m41, pm_m42, pm_m43, pm_m44, pm_m45, pm_m46, pm_m47, pm_m48, pm_m49, pm_m50, pm_m51, pm_m52, pm_m53, pm_m54, pm_m55, pm_m56, pm_m57, pm_m58, pm_m59, pm_m60, pm_m61, pm_m62, pm_m63, pm_m64, pm_m65, pm_m66, pm_m67, pm_m68, pm_m69, pm_m70, pm_m71, pm_m72, pm_m73, pm_m74, pm_m75, pm_m76, pm_m77, pm_m78, pm_m79, pm_m80, pm_m81, pm_m82, pm_m83, pm_m84, pm_m85, pm_m86, pm_m87, pm_m88, pm_m89, pm_m90, pm_m91, pm_m92, pm_m93, pm_m94, pm_m95, pm_m96, pm_m97, pm_m98, pm_m99, pm_m100, pm_m101, pm_m102, pm_m103, pm_m104, pm_m105, pm_m106, pm_m107, pm_m108, pm_m109, pm_m110, pm_m111, pm_m112, pm_m113, pm_m114, pm_m115, pm_m116, pm_m117, pm_m118, pm_m119, pm_m120, pm_m121, pm_m122, pm_m123, pm_m124, pm_m125, pm_m126, pm_m127, pm_m128, pm_m129, pm_m130, pm_m131, pm_m132, pm_m133, pm_m134, pm_m135, pm_m136, pm_m137, pm_m138, pm_m139, pm_m140, pm_m141, pm_m142, pm_m143, pm_m144, pm_m145, pm_m146, pm_m147, pm_m148, pm_m149, pm_m150, pm_m151, pm_m152, pm_m153, pm_m154, pm_m155, pm_m156, pm_m157, pm_m158, pm_m159, pm_m160, pm_m161, pm_m162, pm_m163, pm_m164, pm_m165, pm_m166, pm_m167, pm_m168, pm_m169, pm_m170, pm_m171, pm_m172, pm_m173, pm_m174, pm_m175, pm_m176, pm_m177, pm_m178, pm_m179, pm_m180, pm_m181, pm_m182, pm_m183, pm_m184, pm_m185, pm_m186, pm_m187, pm_m188, pm_m189, pm_m190, pm_m191, pm_m192, pm_m193, pm_m194, pm_m195, pm_m196, pm_m197, pm_m198, pm_m199, pm_m200, pm_m201, pm_m202, pm_m203, pm_m204, pm_m205, pm_m206, pm_m207, pm_m208, pm_m209, pm_m210, pm_m211, pm_m212, pm_m213, pm_m214, pm_m215, pm_m216, pm_m217, pm_m218, pm_m219, pm_m220, pm_m221, pm_m222, pm_m223, pm_m224, pm_m225, pm_m226, pm_m227, pm_m228, pm_m229, pm_m230, pm_m231, pm_m232, pm_m233, pm_m234, pm_m235, pm_m236, pm_m237, pm_m238, pm_m239, pm_m240, pm_m241, pm_m242, pm_m243, pm_m244, pm_m245, pm_m246, pm_m247, pm_m248, pm_m249, pm_m250, pm_m251, pm_m252, pm_m253, pm_m254, pm_m255, pm_m256, pm_m257, pm_m258, pm_m259, pm_m260, pm_m261, pm_m262, pm_m263, pm_m264, pm_m265, pm_m266, pm_m267, pm_m268, pm_m269, pm_m270, pm_m271, pm_m272, pm_m273, pm_m274, pm_m275, pm_m276, pm_m277, pm_m278, pm_m279, pm_m280]
def pm_nM : Nat := 280
def pm_mr (j : Nat) : MethodName × ByteArray × Nat × Option FieldType × Nat × Nat × Nat × Nat := pm_mt.getD j pm_m0
def pm_y (j : Nat) : MethodName := (pm_mr j).1
def pm_b (j : Nat) : ByteArray := (pm_mr j).2.1
def pm_mL (j : Nat) : Nat := (pm_mr j).2.2.1
def pm_rt (j : Nat) : Option FieldType := (pm_mr j).2.2.2.1
def pm_oc (j : Nat) : Nat := (pm_mr j).2.2.2.2.1
def pm_np (j : Nat) : Nat := (pm_mr j).2.2.2.2.2.1
def pm_mc (j : Nat) : Nat := (pm_mr j).2.2.2.2.2.2.1
def pm_ms (j : Nat) : Nat := (pm_mr j).2.2.2.2.2.2.2
def pm_mks : List Nat := [2, 2, 1, 1, 1, 1, 1, 1, 0, 1, 1, 1, 1, 2, 1, 1, 1, 1, 1, 1, 2, 1, 1, 1, 1, 0, 2, 1, 1, 1, 1, 0, 2, 1, 1, 1, 0, 1, 1, 1, 2, 1, 1, 1, 1, 1, 1, 1, 1, 1, 1, 1, 0, 0, 1, 1, 1, 1, 2, 1, 1, 1, 1, 1, 1, 1, 1, 1, 1, 1, 1, 1, 2, 1, 0, 0, 1, 1, 1, 2, 1, 1, 1, 1, 2, 1, 1, 1, 1, 0, 1, 1, 1, 1, 1, 1, 2, 1, 1, 0, 1, 1, 0, 1, 1, 1, 0, 1, 1, 1, 1, 1, 1, 1, 1, 0, 1, 1, 1, 1, 1, 1, 1, 1, 1, 1, 1, 1, 1, 1, 1, 1, 1, 0, 1, 1, 1, 1, 1, 1, 1, 0, 1, 0, 1, 1, 1, 1, 1, 1, 1, 1, 1, 1, 1, 1, 1, 2, 1, 0, 1, 0, 1, 1, 1, 0, 1, 1, 1, 1, 1, 0, 1, 1, 1, 1, 1, 1, 1, 1, 1, 1, 1, 0, 1, 1, 1, 1, 1, 1, 1, 1, 1, 1, 1, 1, 1, 1, 1, 1, 1, 1, 1, 1, 1, 1, 1, 1, 1, 0, 1, 1, 1, 1, 1, 1, 1, 1, 0, 1, 1, 1, 1, 1, 1, 1, 1, 1, 1, 1, 1, 1, 1, 1, 1, 1, 0, 1, 1, 1, 1, 1, 0, 1, 0, 1, 1, 1, 1, 1, 1, 1, 1, 1, 0, 1, 1, 1, 1, 1, 1, 1, 1, 1, 0, 0, 0, 0, 0, 1, 1, 1, 1, 0, 0, 0, 0, 0, 0, 0]
/-- 0 static, 1 of an object, 2 a constructor -/
def pm_mk (j : Nat) : Nat := pm_mks.getD j 0
def pm_plC : List Nat := [728, 248, 611, 615, 619, 646, 656, 660, 668, 676, 942, 966, 987, 296, 1002, 1010, 1018, 1022, 1027, 1031, 108, 461, 465, 469, 477, 480, 373, 1177, 1181, 1186, 1191, 1203, 136, 141, 623, 627, 630, 664, 911, 915, 130, 805, 813, 818, 822, 827, 879, 883, 887, 893, 897, 901, 904, 907, 919, 924, 929, 938, 509, 634, 638, 672, 695, 703, 715, 761, 778, 795, 979, 1083, 1087, 1091, 320, 1045, 1048, 1051, 1055, 1059, 1063, 389, 774, 782, 1217, 1225, 347, 1113, 1117, 1129, 1133, 1136, 1142, 1148, 1152, 1156, 1160, 1168, 100, 450, 454, 457, 473, 487, 490, 494, 498, 502, 505, 599, 603, 607, 642, 651, 680, 684, 688, 691, 699, 707, 711, 719, 723, 765, 769, 787, 791, 801, 809, 947, 953, 958, 962, 975, 983, 990, 994, 998, 1006, 1014, 1041, 1067, 1071, 1074, 1078, 1098, 1102, 1109, 1121, 1125, 1164, 1173, 1196, 1200, 1209, 1213, 1221, 1229, 1233, 1241, 1511, 1514, 1518, 1521, 1525, 1529, 1533, 1536, 1540, 1544, 1548, 1552, 1556, 1559, 1563, 1567, 1571, 1575, 1579, 1583, 1587, 1591, 1595, 1599, 1603, 1606, 1610, 1615, 1619, 1623, 1627, 1631, 1635, 1639, 1643, 1647, 1651, 1655, 1659, 1663, 1667, 1671, 1675, 1679, 1683, 1688, 1692, 1696, 1700, 1704, 1708, 1711, 1715, 1719, 1723, 1727, 1731, 1735, 1739, 1743, 1746, 1751, 1755, 1759, 1763, 1767, 1771, 1775, 1780, 1785, 1789, 1793, 1797, 1801, 1805, 1809, 1813, 1817, 1820, 1824, 1828, 1832, 1836, 1840, 1843, 1847, 1852, 1856, 1860, 1864, 1868, 1872, 1876, 1880, 1884, 1888, 1891, 1895, 1899, 1903, 1907, 1911, 1915, 1919, 1923, 1927, 1034, 483, 970, 1095, 1105, 831, 835, 841, 845, 851, 848, 856, 859, 862, 865, 869]
def pm_plK : List Nat := [727, 247, 609, 613, 617, 644, 654, 658, 667, 675, 940, 964, 985, 295, 1000, 1008, 1016, 1020, 1025, 1030, 107, 459, 464, 467, 475, 479, 372, 1175, 1180, 1184, 1189, 1202, 135, 139, 621, 626, 629, 662, 909, 913, 129, 803, 811, 817, 821, 826, 878, 882, 886, 892, 896, 900, 903, 906, 918, 923, 928, 936, 508, 632, 636, 670, 693, 701, 713, 759, 776, 793, 977, 1081, 1086, 1089, 319, 1043, 1047, 1050, 1054, 1057, 1062, 388, 772, 780, 1215, 1223, 346, 1111, 1115, 1127, 1132, 1135, 1141, 1146, 1150, 1154, 1159, 1166, 99, 448, 452, 456, 471, 485, 489, 492, 497, 500, 504, 597, 602, 605, 640, 649, 678, 682, 686, 690, 697, 705, 709, 717, 722, 763, 768, 785, 789, 799, 807, 945, 951, 956, 960, 973, 982, 989, 992, 996, 1004, 1012, 1039, 1065, 1069, 1073, 1076, 1097, 1100, 1107, 1119, 1123, 1162, 1171, 1194, 1198, 1207, 1211, 1219, 1227, 1231, 1240, 1509, 1513, 1516, 1520, 1524, 1527, 1532, 1535, 1539, 1542, 1546, 1551, 1554, 1558, 1561, 1566, 1569, 1574, 1578, 1582, 1586, 1590, 1594, 1598, 1602, 1605, 1609, 1614, 1618, 1622, 1626, 1630, 1634, 1638, 1642, 1646, 1650, 1654, 1658, 1662, 1666, 1670, 1673, 1678, 1681, 1687, 1691, 1695, 1698, 1702, 1706, 1710, 1713, 1718, 1721, 1725, 1729, 1734, 1738, 1741, 1745, 1749, 1753, 1757, 1761, 1765, 1769, 1773, 1778, 1783, 1788, 1792, 1796, 1799, 1803, 1807, 1812, 1815, 1819, 1822, 1827, 1831, 1834, 1838, 1842, 1845, 1851, 1854, 1858, 1862, 1866, 1871, 1874, 1878, 1883, 1887, 1890, 1894, 1898, 1901, 1905, 1909, 1913, 1917, 1921, 1925, 1033, 482, 969, 1094, 1104, 829, 833, 839, 843, 850, 847, 855, 858, 861, 864, 868]
def pm_plS : List Nat := [0, 0, 610, 614, 618, 645, 655, 659, 0, 4, 941, 965, 986, 0, 1001, 1009, 1017, 1021, 1026, 20, 0, 460, 0, 468, 476, 0, 0, 1176, 27, 1185, 1190, 0, 0, 140, 622, 3, 0, 663, 910, 914, 0, 804, 812, 7, 8, 9, 10, 11, 12, 13, 14, 15, 0, 0, 16, 17, 18, 937, 0, 633, 637, 671, 694, 702, 714, 760, 777, 794, 978, 1082, 23, 1090, 0, 1044, 0, 0, 21, 1058, 22, 0, 773, 781, 1216, 1224, 0, 1112, 1116, 1128, 24, 0, 25, 1147, 1151, 1155, 26, 1167, 0, 449, 453, 0, 472, 486, 0, 493, 1, 501, 0, 598, 2, 606, 641, 650, 679, 683, 687, 0, 698, 706, 710, 718, 5, 764, 6, 786, 790, 800, 808, 946, 952, 957, 961, 974, 19, 0, 993, 997, 1005, 1013, 1040, 1066, 1070, 0, 1077, 0, 1101, 1108, 1120, 1124, 1163, 1172, 1195, 1199, 1208, 1212, 1220, 1228, 1232, 0, 1510, 0, 1517, 0, 28, 1528, 29, 0, 30, 1543, 1547, 31, 1555, 0, 1562, 32, 1570, 33, 34, 35, 36, 37, 38, 39, 40, 0, 41, 42, 43, 44, 45, 46, 47, 48, 49, 50, 51, 52, 53, 54, 55, 56, 1674, 57, 1682, 58, 59, 60, 1699, 1703, 1707, 0, 1714, 61, 1722, 1726, 1730, 62, 63, 1742, 0, 1750, 1754, 1758, 1762, 1766, 1770, 1774, 1779, 1784, 64, 65, 66, 1800, 1804, 1808, 67, 1816, 0, 1823, 68, 69, 1835, 1839, 0, 1846, 0, 1855, 1859, 1863, 1867, 70, 1875, 1879, 71, 72, 0, 73, 74, 1902, 1906, 1910, 1914, 1918, 1922, 1926, 0, 0, 0, 0, 0, 830, 834, 840, 844, 0, 0, 0, 0, 0, 0, 0]
def pm_plI : List Nat := [89, 80, 80, 80, 80, 80, 80, 80, 80, 80, 80, 80, 80, 81, 81, 81, 81, 81, 81, 81, 77, 77, 77, 77, 77, 77, 84, 84, 84, 84, 84, 84, 79, 79, 79, 79, 79, 79, 79, 79, 78, 78, 78, 78, 78, 78, 78, 78, 78, 78, 78, 78, 78, 78, 78, 78, 78, 78, 88, 88, 88, 88, 88, 88, 88, 88, 88, 88, 88, 88, 88, 88, 82, 82, 82, 82, 82, 82, 82, 85, 85, 85, 85, 85, 83, 83, 83, 83, 83, 83, 83, 83, 83, 83, 83, 83, 76, 76, 76, 76, 76, 76, 76, 76, 76, 76, 76, 76, 76, 76, 76, 76, 76, 76, 76, 76, 76, 76, 76, 76, 76, 76, 76, 76, 76, 76, 76, 76, 76, 76, 76, 76, 76, 76, 76, 76, 76, 76, 76, 76, 76, 76, 76, 76, 76, 76, 76, 76, 76, 76, 76, 76, 76, 76, 76, 76, 76, 86, 86, 86, 86, 86, 86, 86, 86, 86, 86, 86, 86, 86, 86, 86, 86, 86, 86, 86, 86, 86, 86, 86, 86, 86, 86, 86, 86, 86, 86, 86, 86, 86, 86, 86, 86, 86, 86, 86, 86, 86, 86, 86, 86, 86, 86, 86, 86, 86, 86, 86, 86, 86, 86, 86, 86, 86, 86, 86, 86, 86, 86, 86, 86, 86, 86, 86, 86, 86, 86, 86, 86, 86, 86, 86, 86, 86, 86, 86, 86, 86, 86, 86, 86, 86, 86, 86, 86, 86, 86, 86, 86, 86, 86, 86, 86, 86, 86, 86, 86, 86, 86, 86, 86, 86, 86, 86, 94, 87, 87, 87, 87, 90, 90, 90, 90, 90, 91, 92, 93, 93, 93, 93]
set_option maxRecDepth 20000 in
theorem pm_co0 : lw_tbl[728]? = some (.code (pm_y 0) (pm_b 0) (pm_mL 0) (pm_rt 0)) := rfl
set_option maxRecDepth 20000 in
theorem pm_co1 : lw_tbl[248]? = some (.code (pm_y 1) (pm_b 1) (pm_mL 1) (pm_rt 1)) := rfl
set_option maxRecDepth 20000 in
theorem pm_co2 : lw_tbl[611]? = some (.code (pm_y 2) (pm_b 2) (pm_mL 2) (pm_rt 2)) := rfl
set_option maxRecDepth 20000 in
theorem pm_co3 : lw_tbl[615]? = some (.code (pm_y 3) (pm_b 3) (pm_mL 3) (pm_rt 3)) := rfl
set_option maxRecDepth 20000 in
theorem pm_co4 : lw_tbl[619]? = some (.code (pm_y 4) (pm_b 4) (pm_mL 4) (pm_rt 4)) := rfl
set_option maxRecDepth 20000 in
theorem pm_co5 : lw_tbl[646]? = some (.code (pm_y 5) (pm_b 5) (pm_mL 5) (pm_rt 5)) := rfl
set_option maxRecDepth 20000 in
theorem pm_co6 : lw_tbl[656]? = some (.code (pm_y 6) (pm_b 6) (pm_mL 6) (pm_rt 6)) := rfl
set_option maxRecDepth 20000 in
theorem pm_co7 : lw_tbl[660]? = some (.code (pm_y 7) (pm_b 7) (pm_mL 7) (pm_rt 7)) := rfl
set_option maxRecDepth 20000 in
theorem pm_co8 : lw_tbl[668]? = some (.code (pm_y 8) (pm_b 8) (pm_mL 8) (pm_rt 8)) := rfl
set_option maxRecDepth 20000 in
theorem pm_co9 : lw_tbl[676]? = some (.code (pm_y 9) (pm_b 9) (pm_mL 9) (pm_rt 9)) := rfl
set_option maxRecDepth 20000 in
theorem pm_co10 : lw_tbl[942]? = some (.code (pm_y 10) (pm_b 10) (pm_mL 10) (pm_rt 10)) := rfl
set_option maxRecDepth 20000 in
theorem pm_co11 : lw_tbl[966]? = some (.code (pm_y 11) (pm_b 11) (pm_mL 11) (pm_rt 11)) := rfl
set_option maxRecDepth 20000 in
theorem pm_co12 : lw_tbl[987]? = some (.code (pm_y 12) (pm_b 12) (pm_mL 12) (pm_rt 12)) := rfl
set_option maxRecDepth 20000 in
theorem pm_co13 : lw_tbl[296]? = some (.code (pm_y 13) (pm_b 13) (pm_mL 13) (pm_rt 13)) := rfl
set_option maxRecDepth 20000 in
theorem pm_co14 : lw_tbl[1002]? = some (.code (pm_y 14) (pm_b 14) (pm_mL 14) (pm_rt 14)) := rfl
set_option maxRecDepth 20000 in
theorem pm_co15 : lw_tbl[1010]? = some (.code (pm_y 15) (pm_b 15) (pm_mL 15) (pm_rt 15)) := rfl
set_option maxRecDepth 20000 in
theorem pm_co16 : lw_tbl[1018]? = some (.code (pm_y 16) (pm_b 16) (pm_mL 16) (pm_rt 16)) := rfl
set_option maxRecDepth 20000 in
theorem pm_co17 : lw_tbl[1022]? = some (.code (pm_y 17) (pm_b 17) (pm_mL 17) (pm_rt 17)) := rfl
set_option maxRecDepth 20000 in
theorem pm_co18 : lw_tbl[1027]? = some (.code (pm_y 18) (pm_b 18) (pm_mL 18) (pm_rt 18)) := rfl
set_option maxRecDepth 20000 in
theorem pm_co19 : lw_tbl[1031]? = some (.code (pm_y 19) (pm_b 19) (pm_mL 19) (pm_rt 19)) := rfl
set_option maxRecDepth 20000 in
theorem pm_co20 : lw_tbl[108]? = some (.code (pm_y 20) (pm_b 20) (pm_mL 20) (pm_rt 20)) := rfl
set_option maxRecDepth 20000 in
theorem pm_co21 : lw_tbl[461]? = some (.code (pm_y 21) (pm_b 21) (pm_mL 21) (pm_rt 21)) := rfl
set_option maxRecDepth 20000 in
theorem pm_co22 : lw_tbl[465]? = some (.code (pm_y 22) (pm_b 22) (pm_mL 22) (pm_rt 22)) := rfl
set_option maxRecDepth 20000 in
theorem pm_co23 : lw_tbl[469]? = some (.code (pm_y 23) (pm_b 23) (pm_mL 23) (pm_rt 23)) := rfl
set_option maxRecDepth 20000 in
theorem pm_co24 : lw_tbl[477]? = some (.code (pm_y 24) (pm_b 24) (pm_mL 24) (pm_rt 24)) := rfl
set_option maxRecDepth 20000 in
theorem pm_co25 : lw_tbl[480]? = some (.code (pm_y 25) (pm_b 25) (pm_mL 25) (pm_rt 25)) := rfl
set_option maxRecDepth 20000 in
theorem pm_co26 : lw_tbl[373]? = some (.code (pm_y 26) (pm_b 26) (pm_mL 26) (pm_rt 26)) := rfl
set_option maxRecDepth 20000 in
theorem pm_co27 : lw_tbl[1177]? = some (.code (pm_y 27) (pm_b 27) (pm_mL 27) (pm_rt 27)) := rfl
set_option maxRecDepth 20000 in
theorem pm_co28 : lw_tbl[1181]? = some (.code (pm_y 28) (pm_b 28) (pm_mL 28) (pm_rt 28)) := rfl
set_option maxRecDepth 20000 in
theorem pm_co29 : lw_tbl[1186]? = some (.code (pm_y 29) (pm_b 29) (pm_mL 29) (pm_rt 29)) := rfl
set_option maxRecDepth 20000 in
theorem pm_co30 : lw_tbl[1191]? = some (.code (pm_y 30) (pm_b 30) (pm_mL 30) (pm_rt 30)) := rfl
set_option maxRecDepth 20000 in
theorem pm_co31 : lw_tbl[1203]? = some (.code (pm_y 31) (pm_b 31) (pm_mL 31) (pm_rt 31)) := rfl
set_option maxRecDepth 20000 in
theorem pm_co32 : lw_tbl[136]? = some (.code (pm_y 32) (pm_b 32) (pm_mL 32) (pm_rt 32)) := rfl
set_option maxRecDepth 20000 in
theorem pm_co33 : lw_tbl[141]? = some (.code (pm_y 33) (pm_b 33) (pm_mL 33) (pm_rt 33)) := rfl
set_option maxRecDepth 20000 in
theorem pm_co34 : lw_tbl[623]? = some (.code (pm_y 34) (pm_b 34) (pm_mL 34) (pm_rt 34)) := rfl
set_option maxRecDepth 20000 in
theorem pm_co35 : lw_tbl[627]? = some (.code (pm_y 35) (pm_b 35) (pm_mL 35) (pm_rt 35)) := rfl
set_option maxRecDepth 20000 in
theorem pm_co36 : lw_tbl[630]? = some (.code (pm_y 36) (pm_b 36) (pm_mL 36) (pm_rt 36)) := rfl
set_option maxRecDepth 20000 in
theorem pm_co37 : lw_tbl[664]? = some (.code (pm_y 37) (pm_b 37) (pm_mL 37) (pm_rt 37)) := rfl
set_option maxRecDepth 20000 in
theorem pm_co38 : lw_tbl[911]? = some (.code (pm_y 38) (pm_b 38) (pm_mL 38) (pm_rt 38)) := rfl
set_option maxRecDepth 20000 in
theorem pm_co39 : lw_tbl[915]? = some (.code (pm_y 39) (pm_b 39) (pm_mL 39) (pm_rt 39)) := rfl
set_option maxRecDepth 20000 in
theorem pm_co40 : lw_tbl[130]? = some (.code (pm_y 40) (pm_b 40) (pm_mL 40) (pm_rt 40)) := rfl
set_option maxRecDepth 20000 in
theorem pm_co41 : lw_tbl[805]? = some (.code (pm_y 41) (pm_b 41) (pm_mL 41) (pm_rt 41)) := rfl
set_option maxRecDepth 20000 in
theorem pm_co42 : lw_tbl[813]? = some (.code (pm_y 42) (pm_b 42) (pm_mL 42) (pm_rt 42)) := rfl
set_option maxRecDepth 20000 in
theorem pm_co43 : lw_tbl[818]? = some (.code (pm_y 43) (pm_b 43) (pm_mL 43) (pm_rt 43)) := rfl
set_option maxRecDepth 20000 in
theorem pm_co44 : lw_tbl[822]? = some (.code (pm_y 44) (pm_b 44) (pm_mL 44) (pm_rt 44)) := rfl
set_option maxRecDepth 20000 in
theorem pm_co45 : lw_tbl[827]? = some (.code (pm_y 45) (pm_b 45) (pm_mL 45) (pm_rt 45)) := rfl
set_option maxRecDepth 20000 in
theorem pm_co46 : lw_tbl[879]? = some (.code (pm_y 46) (pm_b 46) (pm_mL 46) (pm_rt 46)) := rfl
set_option maxRecDepth 20000 in
theorem pm_co47 : lw_tbl[883]? = some (.code (pm_y 47) (pm_b 47) (pm_mL 47) (pm_rt 47)) := rfl
set_option maxRecDepth 20000 in
theorem pm_co48 : lw_tbl[887]? = some (.code (pm_y 48) (pm_b 48) (pm_mL 48) (pm_rt 48)) := rfl
set_option maxRecDepth 20000 in
theorem pm_co49 : lw_tbl[893]? = some (.code (pm_y 49) (pm_b 49) (pm_mL 49) (pm_rt 49)) := rfl
set_option maxRecDepth 20000 in
theorem pm_co50 : lw_tbl[897]? = some (.code (pm_y 50) (pm_b 50) (pm_mL 50) (pm_rt 50)) := rfl
set_option maxRecDepth 20000 in
theorem pm_co51 : lw_tbl[901]? = some (.code (pm_y 51) (pm_b 51) (pm_mL 51) (pm_rt 51)) := rfl
set_option maxRecDepth 20000 in
theorem pm_co52 : lw_tbl[904]? = some (.code (pm_y 52) (pm_b 52) (pm_mL 52) (pm_rt 52)) := rfl
set_option maxRecDepth 20000 in
theorem pm_co53 : lw_tbl[907]? = some (.code (pm_y 53) (pm_b 53) (pm_mL 53) (pm_rt 53)) := rfl
set_option maxRecDepth 20000 in
theorem pm_co54 : lw_tbl[919]? = some (.code (pm_y 54) (pm_b 54) (pm_mL 54) (pm_rt 54)) := rfl
set_option maxRecDepth 20000 in
theorem pm_co55 : lw_tbl[924]? = some (.code (pm_y 55) (pm_b 55) (pm_mL 55) (pm_rt 55)) := rfl
set_option maxRecDepth 20000 in
theorem pm_co56 : lw_tbl[929]? = some (.code (pm_y 56) (pm_b 56) (pm_mL 56) (pm_rt 56)) := rfl
set_option maxRecDepth 20000 in
theorem pm_co57 : lw_tbl[938]? = some (.code (pm_y 57) (pm_b 57) (pm_mL 57) (pm_rt 57)) := rfl
set_option maxRecDepth 20000 in
theorem pm_co58 : lw_tbl[509]? = some (.code (pm_y 58) (pm_b 58) (pm_mL 58) (pm_rt 58)) := rfl
set_option maxRecDepth 20000 in
theorem pm_co59 : lw_tbl[634]? = some (.code (pm_y 59) (pm_b 59) (pm_mL 59) (pm_rt 59)) := rfl
set_option maxRecDepth 20000 in
theorem pm_co60 : lw_tbl[638]? = some (.code (pm_y 60) (pm_b 60) (pm_mL 60) (pm_rt 60)) := rfl
set_option maxRecDepth 20000 in
theorem pm_co61 : lw_tbl[672]? = some (.code (pm_y 61) (pm_b 61) (pm_mL 61) (pm_rt 61)) := rfl
set_option maxRecDepth 20000 in
theorem pm_co62 : lw_tbl[695]? = some (.code (pm_y 62) (pm_b 62) (pm_mL 62) (pm_rt 62)) := rfl
set_option maxRecDepth 20000 in
theorem pm_co63 : lw_tbl[703]? = some (.code (pm_y 63) (pm_b 63) (pm_mL 63) (pm_rt 63)) := rfl
set_option maxRecDepth 20000 in
theorem pm_co64 : lw_tbl[715]? = some (.code (pm_y 64) (pm_b 64) (pm_mL 64) (pm_rt 64)) := rfl
set_option maxRecDepth 20000 in
theorem pm_co65 : lw_tbl[761]? = some (.code (pm_y 65) (pm_b 65) (pm_mL 65) (pm_rt 65)) := rfl
set_option maxRecDepth 20000 in
theorem pm_co66 : lw_tbl[778]? = some (.code (pm_y 66) (pm_b 66) (pm_mL 66) (pm_rt 66)) := rfl
set_option maxRecDepth 20000 in
theorem pm_co67 : lw_tbl[795]? = some (.code (pm_y 67) (pm_b 67) (pm_mL 67) (pm_rt 67)) := rfl
set_option maxRecDepth 20000 in
theorem pm_co68 : lw_tbl[979]? = some (.code (pm_y 68) (pm_b 68) (pm_mL 68) (pm_rt 68)) := rfl
set_option maxRecDepth 20000 in
theorem pm_co69 : lw_tbl[1083]? = some (.code (pm_y 69) (pm_b 69) (pm_mL 69) (pm_rt 69)) := rfl
set_option maxRecDepth 20000 in
theorem pm_co70 : lw_tbl[1087]? = some (.code (pm_y 70) (pm_b 70) (pm_mL 70) (pm_rt 70)) := rfl
set_option maxRecDepth 20000 in
theorem pm_co71 : lw_tbl[1091]? = some (.code (pm_y 71) (pm_b 71) (pm_mL 71) (pm_rt 71)) := rfl
set_option maxRecDepth 20000 in
theorem pm_co72 : lw_tbl[320]? = some (.code (pm_y 72) (pm_b 72) (pm_mL 72) (pm_rt 72)) := rfl
set_option maxRecDepth 20000 in
theorem pm_co73 : lw_tbl[1045]? = some (.code (pm_y 73) (pm_b 73) (pm_mL 73) (pm_rt 73)) := rfl
set_option maxRecDepth 20000 in
theorem pm_co74 : lw_tbl[1048]? = some (.code (pm_y 74) (pm_b 74) (pm_mL 74) (pm_rt 74)) := rfl
set_option maxRecDepth 20000 in
theorem pm_co75 : lw_tbl[1051]? = some (.code (pm_y 75) (pm_b 75) (pm_mL 75) (pm_rt 75)) := rfl
set_option maxRecDepth 20000 in
theorem pm_co76 : lw_tbl[1055]? = some (.code (pm_y 76) (pm_b 76) (pm_mL 76) (pm_rt 76)) := rfl
set_option maxRecDepth 20000 in
theorem pm_co77 : lw_tbl[1059]? = some (.code (pm_y 77) (pm_b 77) (pm_mL 77) (pm_rt 77)) := rfl
set_option maxRecDepth 20000 in
theorem pm_co78 : lw_tbl[1063]? = some (.code (pm_y 78) (pm_b 78) (pm_mL 78) (pm_rt 78)) := rfl
set_option maxRecDepth 20000 in
theorem pm_co79 : lw_tbl[389]? = some (.code (pm_y 79) (pm_b 79) (pm_mL 79) (pm_rt 79)) := rfl
set_option maxRecDepth 20000 in
theorem pm_co80 : lw_tbl[774]? = some (.code (pm_y 80) (pm_b 80) (pm_mL 80) (pm_rt 80)) := rfl
set_option maxRecDepth 20000 in
theorem pm_co81 : lw_tbl[782]? = some (.code (pm_y 81) (pm_b 81) (pm_mL 81) (pm_rt 81)) := rfl
set_option maxRecDepth 20000 in
theorem pm_co82 : lw_tbl[1217]? = some (.code (pm_y 82) (pm_b 82) (pm_mL 82) (pm_rt 82)) := rfl
set_option maxRecDepth 20000 in
theorem pm_co83 : lw_tbl[1225]? = some (.code (pm_y 83) (pm_b 83) (pm_mL 83) (pm_rt 83)) := rfl
set_option maxRecDepth 20000 in
theorem pm_co84 : lw_tbl[347]? = some (.code (pm_y 84) (pm_b 84) (pm_mL 84) (pm_rt 84)) := rfl
set_option maxRecDepth 20000 in
theorem pm_co85 : lw_tbl[1113]? = some (.code (pm_y 85) (pm_b 85) (pm_mL 85) (pm_rt 85)) := rfl
set_option maxRecDepth 20000 in
theorem pm_co86 : lw_tbl[1117]? = some (.code (pm_y 86) (pm_b 86) (pm_mL 86) (pm_rt 86)) := rfl
set_option maxRecDepth 20000 in
theorem pm_co87 : lw_tbl[1129]? = some (.code (pm_y 87) (pm_b 87) (pm_mL 87) (pm_rt 87)) := rfl
set_option maxRecDepth 20000 in
theorem pm_co88 : lw_tbl[1133]? = some (.code (pm_y 88) (pm_b 88) (pm_mL 88) (pm_rt 88)) := rfl
set_option maxRecDepth 20000 in
theorem pm_co89 : lw_tbl[1136]? = some (.code (pm_y 89) (pm_b 89) (pm_mL 89) (pm_rt 89)) := rfl
set_option maxRecDepth 20000 in
theorem pm_co90 : lw_tbl[1142]? = some (.code (pm_y 90) (pm_b 90) (pm_mL 90) (pm_rt 90)) := rfl
set_option maxRecDepth 20000 in
theorem pm_co91 : lw_tbl[1148]? = some (.code (pm_y 91) (pm_b 91) (pm_mL 91) (pm_rt 91)) := rfl
set_option maxRecDepth 20000 in
theorem pm_co92 : lw_tbl[1152]? = some (.code (pm_y 92) (pm_b 92) (pm_mL 92) (pm_rt 92)) := rfl
set_option maxRecDepth 20000 in
theorem pm_co93 : lw_tbl[1156]? = some (.code (pm_y 93) (pm_b 93) (pm_mL 93) (pm_rt 93)) := rfl
set_option maxRecDepth 20000 in
theorem pm_co94 : lw_tbl[1160]? = some (.code (pm_y 94) (pm_b 94) (pm_mL 94) (pm_rt 94)) := rfl
set_option maxRecDepth 20000 in
theorem pm_co95 : lw_tbl[1168]? = some (.code (pm_y 95) (pm_b 95) (pm_mL 95) (pm_rt 95)) := rfl
set_option maxRecDepth 20000 in
theorem pm_co96 : lw_tbl[100]? = some (.code (pm_y 96) (pm_b 96) (pm_mL 96) (pm_rt 96)) := rfl
set_option maxRecDepth 20000 in
theorem pm_co97 : lw_tbl[450]? = some (.code (pm_y 97) (pm_b 97) (pm_mL 97) (pm_rt 97)) := rfl
set_option maxRecDepth 20000 in
theorem pm_co98 : lw_tbl[454]? = some (.code (pm_y 98) (pm_b 98) (pm_mL 98) (pm_rt 98)) := rfl
set_option maxRecDepth 20000 in
theorem pm_co99 : lw_tbl[457]? = some (.code (pm_y 99) (pm_b 99) (pm_mL 99) (pm_rt 99)) := rfl
set_option maxRecDepth 20000 in
theorem pm_co100 : lw_tbl[473]? = some (.code (pm_y 100) (pm_b 100) (pm_mL 100) (pm_rt 100)) := rfl
set_option maxRecDepth 20000 in
theorem pm_co101 : lw_tbl[487]? = some (.code (pm_y 101) (pm_b 101) (pm_mL 101) (pm_rt 101)) := rfl
set_option maxRecDepth 20000 in
theorem pm_co102 : lw_tbl[490]? = some (.code (pm_y 102) (pm_b 102) (pm_mL 102) (pm_rt 102)) := rfl
set_option maxRecDepth 20000 in
theorem pm_co103 : lw_tbl[494]? = some (.code (pm_y 103) (pm_b 103) (pm_mL 103) (pm_rt 103)) := rfl
set_option maxRecDepth 20000 in
theorem pm_co104 : lw_tbl[498]? = some (.code (pm_y 104) (pm_b 104) (pm_mL 104) (pm_rt 104)) := rfl
set_option maxRecDepth 20000 in
theorem pm_co105 : lw_tbl[502]? = some (.code (pm_y 105) (pm_b 105) (pm_mL 105) (pm_rt 105)) := rfl
set_option maxRecDepth 20000 in
theorem pm_co106 : lw_tbl[505]? = some (.code (pm_y 106) (pm_b 106) (pm_mL 106) (pm_rt 106)) := rfl
set_option maxRecDepth 20000 in
theorem pm_co107 : lw_tbl[599]? = some (.code (pm_y 107) (pm_b 107) (pm_mL 107) (pm_rt 107)) := rfl
set_option maxRecDepth 20000 in
theorem pm_co108 : lw_tbl[603]? = some (.code (pm_y 108) (pm_b 108) (pm_mL 108) (pm_rt 108)) := rfl
set_option maxRecDepth 20000 in
theorem pm_co109 : lw_tbl[607]? = some (.code (pm_y 109) (pm_b 109) (pm_mL 109) (pm_rt 109)) := rfl
set_option maxRecDepth 20000 in
theorem pm_co110 : lw_tbl[642]? = some (.code (pm_y 110) (pm_b 110) (pm_mL 110) (pm_rt 110)) := rfl
set_option maxRecDepth 20000 in
theorem pm_co111 : lw_tbl[651]? = some (.code (pm_y 111) (pm_b 111) (pm_mL 111) (pm_rt 111)) := rfl
set_option maxRecDepth 20000 in
theorem pm_co112 : lw_tbl[680]? = some (.code (pm_y 112) (pm_b 112) (pm_mL 112) (pm_rt 112)) := rfl
set_option maxRecDepth 20000 in
theorem pm_co113 : lw_tbl[684]? = some (.code (pm_y 113) (pm_b 113) (pm_mL 113) (pm_rt 113)) := rfl
set_option maxRecDepth 20000 in
theorem pm_co114 : lw_tbl[688]? = some (.code (pm_y 114) (pm_b 114) (pm_mL 114) (pm_rt 114)) := rfl
set_option maxRecDepth 20000 in
theorem pm_co115 : lw_tbl[691]? = some (.code (pm_y 115) (pm_b 115) (pm_mL 115) (pm_rt 115)) := rfl
set_option maxRecDepth 20000 in
theorem pm_co116 : lw_tbl[699]? = some (.code (pm_y 116) (pm_b 116) (pm_mL 116) (pm_rt 116)) := rfl
set_option maxRecDepth 20000 in
theorem pm_co117 : lw_tbl[707]? = some (.code (pm_y 117) (pm_b 117) (pm_mL 117) (pm_rt 117)) := rfl
set_option maxRecDepth 20000 in
theorem pm_co118 : lw_tbl[711]? = some (.code (pm_y 118) (pm_b 118) (pm_mL 118) (pm_rt 118)) := rfl
set_option maxRecDepth 20000 in
theorem pm_co119 : lw_tbl[719]? = some (.code (pm_y 119) (pm_b 119) (pm_mL 119) (pm_rt 119)) := rfl
set_option maxRecDepth 20000 in
theorem pm_co120 : lw_tbl[723]? = some (.code (pm_y 120) (pm_b 120) (pm_mL 120) (pm_rt 120)) := rfl
set_option maxRecDepth 20000 in
theorem pm_co121 : lw_tbl[765]? = some (.code (pm_y 121) (pm_b 121) (pm_mL 121) (pm_rt 121)) := rfl
set_option maxRecDepth 20000 in
theorem pm_co122 : lw_tbl[769]? = some (.code (pm_y 122) (pm_b 122) (pm_mL 122) (pm_rt 122)) := rfl
set_option maxRecDepth 20000 in
theorem pm_co123 : lw_tbl[787]? = some (.code (pm_y 123) (pm_b 123) (pm_mL 123) (pm_rt 123)) := rfl
set_option maxRecDepth 20000 in
theorem pm_co124 : lw_tbl[791]? = some (.code (pm_y 124) (pm_b 124) (pm_mL 124) (pm_rt 124)) := rfl
set_option maxRecDepth 20000 in
theorem pm_co125 : lw_tbl[801]? = some (.code (pm_y 125) (pm_b 125) (pm_mL 125) (pm_rt 125)) := rfl
set_option maxRecDepth 20000 in
theorem pm_co126 : lw_tbl[809]? = some (.code (pm_y 126) (pm_b 126) (pm_mL 126) (pm_rt 126)) := rfl
set_option maxRecDepth 20000 in
theorem pm_co127 : lw_tbl[947]? = some (.code (pm_y 127) (pm_b 127) (pm_mL 127) (pm_rt 127)) := rfl
set_option maxRecDepth 20000 in
theorem pm_co128 : lw_tbl[953]? = some (.code (pm_y 128) (pm_b 128) (pm_mL 128) (pm_rt 128)) := rfl
set_option maxRecDepth 20000 in
theorem pm_co129 : lw_tbl[958]? = some (.code (pm_y 129) (pm_b 129) (pm_mL 129) (pm_rt 129)) := rfl
set_option maxRecDepth 20000 in
theorem pm_co130 : lw_tbl[962]? = some (.code (pm_y 130) (pm_b 130) (pm_mL 130) (pm_rt 130)) := rfl
set_option maxRecDepth 20000 in
theorem pm_co131 : lw_tbl[975]? = some (.code (pm_y 131) (pm_b 131) (pm_mL 131) (pm_rt 131)) := rfl
set_option maxRecDepth 20000 in
theorem pm_co132 : lw_tbl[983]? = some (.code (pm_y 132) (pm_b 132) (pm_mL 132) (pm_rt 132)) := rfl
set_option maxRecDepth 20000 in
theorem pm_co133 : lw_tbl[990]? = some (.code (pm_y 133) (pm_b 133) (pm_mL 133) (pm_rt 133)) := rfl
set_option maxRecDepth 20000 in
theorem pm_co134 : lw_tbl[994]? = some (.code (pm_y 134) (pm_b 134) (pm_mL 134) (pm_rt 134)) := rfl
set_option maxRecDepth 20000 in
theorem pm_co135 : lw_tbl[998]? = some (.code (pm_y 135) (pm_b 135) (pm_mL 135) (pm_rt 135)) := rfl
set_option maxRecDepth 20000 in
theorem pm_co136 : lw_tbl[1006]? = some (.code (pm_y 136) (pm_b 136) (pm_mL 136) (pm_rt 136)) := rfl
set_option maxRecDepth 20000 in
theorem pm_co137 : lw_tbl[1014]? = some (.code (pm_y 137) (pm_b 137) (pm_mL 137) (pm_rt 137)) := rfl
set_option maxRecDepth 20000 in
theorem pm_co138 : lw_tbl[1041]? = some (.code (pm_y 138) (pm_b 138) (pm_mL 138) (pm_rt 138)) := rfl
set_option maxRecDepth 20000 in
theorem pm_co139 : lw_tbl[1067]? = some (.code (pm_y 139) (pm_b 139) (pm_mL 139) (pm_rt 139)) := rfl
set_option maxRecDepth 20000 in
theorem pm_co140 : lw_tbl[1071]? = some (.code (pm_y 140) (pm_b 140) (pm_mL 140) (pm_rt 140)) := rfl
set_option maxRecDepth 20000 in
theorem pm_co141 : lw_tbl[1074]? = some (.code (pm_y 141) (pm_b 141) (pm_mL 141) (pm_rt 141)) := rfl
set_option maxRecDepth 20000 in
theorem pm_co142 : lw_tbl[1078]? = some (.code (pm_y 142) (pm_b 142) (pm_mL 142) (pm_rt 142)) := rfl
set_option maxRecDepth 20000 in
theorem pm_co143 : lw_tbl[1098]? = some (.code (pm_y 143) (pm_b 143) (pm_mL 143) (pm_rt 143)) := rfl
set_option maxRecDepth 20000 in
theorem pm_co144 : lw_tbl[1102]? = some (.code (pm_y 144) (pm_b 144) (pm_mL 144) (pm_rt 144)) := rfl
set_option maxRecDepth 20000 in
theorem pm_co145 : lw_tbl[1109]? = some (.code (pm_y 145) (pm_b 145) (pm_mL 145) (pm_rt 145)) := rfl
set_option maxRecDepth 20000 in
theorem pm_co146 : lw_tbl[1121]? = some (.code (pm_y 146) (pm_b 146) (pm_mL 146) (pm_rt 146)) := rfl
set_option maxRecDepth 20000 in
theorem pm_co147 : lw_tbl[1125]? = some (.code (pm_y 147) (pm_b 147) (pm_mL 147) (pm_rt 147)) := rfl
set_option maxRecDepth 20000 in
theorem pm_co148 : lw_tbl[1164]? = some (.code (pm_y 148) (pm_b 148) (pm_mL 148) (pm_rt 148)) := rfl
set_option maxRecDepth 20000 in
theorem pm_co149 : lw_tbl[1173]? = some (.code (pm_y 149) (pm_b 149) (pm_mL 149) (pm_rt 149)) := rfl
set_option maxRecDepth 20000 in
theorem pm_co150 : lw_tbl[1196]? = some (.code (pm_y 150) (pm_b 150) (pm_mL 150) (pm_rt 150)) := rfl
set_option maxRecDepth 20000 in
theorem pm_co151 : lw_tbl[1200]? = some (.code (pm_y 151) (pm_b 151) (pm_mL 151) (pm_rt 151)) := rfl
set_option maxRecDepth 20000 in
theorem pm_co152 : lw_tbl[1209]? = some (.code (pm_y 152) (pm_b 152) (pm_mL 152) (pm_rt 152)) := rfl
set_option maxRecDepth 20000 in
theorem pm_co153 : lw_tbl[1213]? = some (.code (pm_y 153) (pm_b 153) (pm_mL 153) (pm_rt 153)) := rfl
set_option maxRecDepth 20000 in
theorem pm_co154 : lw_tbl[1221]? = some (.code (pm_y 154) (pm_b 154) (pm_mL 154) (pm_rt 154)) := rfl
set_option maxRecDepth 20000 in
theorem pm_co155 : lw_tbl[1229]? = some (.code (pm_y 155) (pm_b 155) (pm_mL 155) (pm_rt 155)) := rfl
set_option maxRecDepth 20000 in
theorem pm_co156 : lw_tbl[1233]? = some (.code (pm_y 156) (pm_b 156) (pm_mL 156) (pm_rt 156)) := rfl
set_option maxRecDepth 20000 in
theorem pm_co157 : lw_tbl[1241]? = some (.code (pm_y 157) (pm_b 157) (pm_mL 157) (pm_rt 157)) := rfl
set_option maxRecDepth 20000 in
theorem pm_co158 : lw_tbl[1511]? = some (.code (pm_y 158) (pm_b 158) (pm_mL 158) (pm_rt 158)) := rfl
set_option maxRecDepth 20000 in
theorem pm_co159 : lw_tbl[1514]? = some (.code (pm_y 159) (pm_b 159) (pm_mL 159) (pm_rt 159)) := rfl
set_option maxRecDepth 20000 in
theorem pm_co160 : lw_tbl[1518]? = some (.code (pm_y 160) (pm_b 160) (pm_mL 160) (pm_rt 160)) := rfl
set_option maxRecDepth 20000 in
theorem pm_co161 : lw_tbl[1521]? = some (.code (pm_y 161) (pm_b 161) (pm_mL 161) (pm_rt 161)) := rfl
set_option maxRecDepth 20000 in
theorem pm_co162 : lw_tbl[1525]? = some (.code (pm_y 162) (pm_b 162) (pm_mL 162) (pm_rt 162)) := rfl
set_option maxRecDepth 20000 in
theorem pm_co163 : lw_tbl[1529]? = some (.code (pm_y 163) (pm_b 163) (pm_mL 163) (pm_rt 163)) := rfl
set_option maxRecDepth 20000 in
theorem pm_co164 : lw_tbl[1533]? = some (.code (pm_y 164) (pm_b 164) (pm_mL 164) (pm_rt 164)) := rfl
set_option maxRecDepth 20000 in
theorem pm_co165 : lw_tbl[1536]? = some (.code (pm_y 165) (pm_b 165) (pm_mL 165) (pm_rt 165)) := rfl
set_option maxRecDepth 20000 in
theorem pm_co166 : lw_tbl[1540]? = some (.code (pm_y 166) (pm_b 166) (pm_mL 166) (pm_rt 166)) := rfl
set_option maxRecDepth 20000 in
theorem pm_co167 : lw_tbl[1544]? = some (.code (pm_y 167) (pm_b 167) (pm_mL 167) (pm_rt 167)) := rfl
set_option maxRecDepth 20000 in
theorem pm_co168 : lw_tbl[1548]? = some (.code (pm_y 168) (pm_b 168) (pm_mL 168) (pm_rt 168)) := rfl
set_option maxRecDepth 20000 in
theorem pm_co169 : lw_tbl[1552]? = some (.code (pm_y 169) (pm_b 169) (pm_mL 169) (pm_rt 169)) := rfl
set_option maxRecDepth 20000 in
theorem pm_co170 : lw_tbl[1556]? = some (.code (pm_y 170) (pm_b 170) (pm_mL 170) (pm_rt 170)) := rfl
set_option maxRecDepth 20000 in
theorem pm_co171 : lw_tbl[1559]? = some (.code (pm_y 171) (pm_b 171) (pm_mL 171) (pm_rt 171)) := rfl
set_option maxRecDepth 20000 in
theorem pm_co172 : lw_tbl[1563]? = some (.code (pm_y 172) (pm_b 172) (pm_mL 172) (pm_rt 172)) := rfl
set_option maxRecDepth 20000 in
theorem pm_co173 : lw_tbl[1567]? = some (.code (pm_y 173) (pm_b 173) (pm_mL 173) (pm_rt 173)) := rfl
set_option maxRecDepth 20000 in
theorem pm_co174 : lw_tbl[1571]? = some (.code (pm_y 174) (pm_b 174) (pm_mL 174) (pm_rt 174)) := rfl
set_option maxRecDepth 20000 in
theorem pm_co175 : lw_tbl[1575]? = some (.code (pm_y 175) (pm_b 175) (pm_mL 175) (pm_rt 175)) := rfl
set_option maxRecDepth 20000 in
theorem pm_co176 : lw_tbl[1579]? = some (.code (pm_y 176) (pm_b 176) (pm_mL 176) (pm_rt 176)) := rfl
set_option maxRecDepth 20000 in
theorem pm_co177 : lw_tbl[1583]? = some (.code (pm_y 177) (pm_b 177) (pm_mL 177) (pm_rt 177)) := rfl
set_option maxRecDepth 20000 in
theorem pm_co178 : lw_tbl[1587]? = some (.code (pm_y 178) (pm_b 178) (pm_mL 178) (pm_rt 178)) := rfl
set_option maxRecDepth 20000 in
theorem pm_co179 : lw_tbl[1591]? = some (.code (pm_y 179) (pm_b 179) (pm_mL 179) (pm_rt 179)) := rfl
set_option maxRecDepth 20000 in
theorem pm_co180 : lw_tbl[1595]? = some (.code (pm_y 180) (pm_b 180) (pm_mL 180) (pm_rt 180)) := rfl
set_option maxRecDepth 20000 in
theorem pm_co181 : lw_tbl[1599]? = some (.code (pm_y 181) (pm_b 181) (pm_mL 181) (pm_rt 181)) := rfl
set_option maxRecDepth 20000 in
theorem pm_co182 : lw_tbl[1603]? = some (.code (pm_y 182) (pm_b 182) (pm_mL 182) (pm_rt 182)) := rfl
set_option maxRecDepth 20000 in
theorem pm_co183 : lw_tbl[1606]? = some (.code (pm_y 183) (pm_b 183) (pm_mL 183) (pm_rt 183)) := rfl
set_option maxRecDepth 20000 in
theorem pm_co184 : lw_tbl[1610]? = some (.code (pm_y 184) (pm_b 184) (pm_mL 184) (pm_rt 184)) := rfl
set_option maxRecDepth 20000 in
theorem pm_co185 : lw_tbl[1615]? = some (.code (pm_y 185) (pm_b 185) (pm_mL 185) (pm_rt 185)) := rfl
set_option maxRecDepth 20000 in
theorem pm_co186 : lw_tbl[1619]? = some (.code (pm_y 186) (pm_b 186) (pm_mL 186) (pm_rt 186)) := rfl
set_option maxRecDepth 20000 in
theorem pm_co187 : lw_tbl[1623]? = some (.code (pm_y 187) (pm_b 187) (pm_mL 187) (pm_rt 187)) := rfl
set_option maxRecDepth 20000 in
theorem pm_co188 : lw_tbl[1627]? = some (.code (pm_y 188) (pm_b 188) (pm_mL 188) (pm_rt 188)) := rfl
set_option maxRecDepth 20000 in
theorem pm_co189 : lw_tbl[1631]? = some (.code (pm_y 189) (pm_b 189) (pm_mL 189) (pm_rt 189)) := rfl
set_option maxRecDepth 20000 in
theorem pm_co190 : lw_tbl[1635]? = some (.code (pm_y 190) (pm_b 190) (pm_mL 190) (pm_rt 190)) := rfl
set_option maxRecDepth 20000 in
theorem pm_co191 : lw_tbl[1639]? = some (.code (pm_y 191) (pm_b 191) (pm_mL 191) (pm_rt 191)) := rfl
set_option maxRecDepth 20000 in
theorem pm_co192 : lw_tbl[1643]? = some (.code (pm_y 192) (pm_b 192) (pm_mL 192) (pm_rt 192)) := rfl
set_option maxRecDepth 20000 in
theorem pm_co193 : lw_tbl[1647]? = some (.code (pm_y 193) (pm_b 193) (pm_mL 193) (pm_rt 193)) := rfl
set_option maxRecDepth 20000 in
theorem pm_co194 : lw_tbl[1651]? = some (.code (pm_y 194) (pm_b 194) (pm_mL 194) (pm_rt 194)) := rfl
set_option maxRecDepth 20000 in
theorem pm_co195 : lw_tbl[1655]? = some (.code (pm_y 195) (pm_b 195) (pm_mL 195) (pm_rt 195)) := rfl
set_option maxRecDepth 20000 in
theorem pm_co196 : lw_tbl[1659]? = some (.code (pm_y 196) (pm_b 196) (pm_mL 196) (pm_rt 196)) := rfl
set_option maxRecDepth 20000 in
theorem pm_co197 : lw_tbl[1663]? = some (.code (pm_y 197) (pm_b 197) (pm_mL 197) (pm_rt 197)) := rfl
set_option maxRecDepth 20000 in
theorem pm_co198 : lw_tbl[1667]? = some (.code (pm_y 198) (pm_b 198) (pm_mL 198) (pm_rt 198)) := rfl
set_option maxRecDepth 20000 in
theorem pm_co199 : lw_tbl[1671]? = some (.code (pm_y 199) (pm_b 199) (pm_mL 199) (pm_rt 199)) := rfl
set_option maxRecDepth 20000 in
theorem pm_co200 : lw_tbl[1675]? = some (.code (pm_y 200) (pm_b 200) (pm_mL 200) (pm_rt 200)) := rfl
set_option maxRecDepth 20000 in
theorem pm_co201 : lw_tbl[1679]? = some (.code (pm_y 201) (pm_b 201) (pm_mL 201) (pm_rt 201)) := rfl
set_option maxRecDepth 20000 in
theorem pm_co202 : lw_tbl[1683]? = some (.code (pm_y 202) (pm_b 202) (pm_mL 202) (pm_rt 202)) := rfl
set_option maxRecDepth 20000 in
theorem pm_co203 : lw_tbl[1688]? = some (.code (pm_y 203) (pm_b 203) (pm_mL 203) (pm_rt 203)) := rfl
set_option maxRecDepth 20000 in
theorem pm_co204 : lw_tbl[1692]? = some (.code (pm_y 204) (pm_b 204) (pm_mL 204) (pm_rt 204)) := rfl
set_option maxRecDepth 20000 in
theorem pm_co205 : lw_tbl[1696]? = some (.code (pm_y 205) (pm_b 205) (pm_mL 205) (pm_rt 205)) := rfl
set_option maxRecDepth 20000 in
theorem pm_co206 : lw_tbl[1700]? = some (.code (pm_y 206) (pm_b 206) (pm_mL 206) (pm_rt 206)) := rfl
set_option maxRecDepth 20000 in
theorem pm_co207 : lw_tbl[1704]? = some (.code (pm_y 207) (pm_b 207) (pm_mL 207) (pm_rt 207)) := rfl
set_option maxRecDepth 20000 in
theorem pm_co208 : lw_tbl[1708]? = some (.code (pm_y 208) (pm_b 208) (pm_mL 208) (pm_rt 208)) := rfl
set_option maxRecDepth 20000 in
theorem pm_co209 : lw_tbl[1711]? = some (.code (pm_y 209) (pm_b 209) (pm_mL 209) (pm_rt 209)) := rfl
set_option maxRecDepth 20000 in
theorem pm_co210 : lw_tbl[1715]? = some (.code (pm_y 210) (pm_b 210) (pm_mL 210) (pm_rt 210)) := rfl
set_option maxRecDepth 20000 in
theorem pm_co211 : lw_tbl[1719]? = some (.code (pm_y 211) (pm_b 211) (pm_mL 211) (pm_rt 211)) := rfl
set_option maxRecDepth 20000 in
theorem pm_co212 : lw_tbl[1723]? = some (.code (pm_y 212) (pm_b 212) (pm_mL 212) (pm_rt 212)) := rfl
set_option maxRecDepth 20000 in
theorem pm_co213 : lw_tbl[1727]? = some (.code (pm_y 213) (pm_b 213) (pm_mL 213) (pm_rt 213)) := rfl
set_option maxRecDepth 20000 in
theorem pm_co214 : lw_tbl[1731]? = some (.code (pm_y 214) (pm_b 214) (pm_mL 214) (pm_rt 214)) := rfl
set_option maxRecDepth 20000 in
theorem pm_co215 : lw_tbl[1735]? = some (.code (pm_y 215) (pm_b 215) (pm_mL 215) (pm_rt 215)) := rfl
set_option maxRecDepth 20000 in
theorem pm_co216 : lw_tbl[1739]? = some (.code (pm_y 216) (pm_b 216) (pm_mL 216) (pm_rt 216)) := rfl
set_option maxRecDepth 20000 in
theorem pm_co217 : lw_tbl[1743]? = some (.code (pm_y 217) (pm_b 217) (pm_mL 217) (pm_rt 217)) := rfl
set_option maxRecDepth 20000 in
theorem pm_co218 : lw_tbl[1746]? = some (.code (pm_y 218) (pm_b 218) (pm_mL 218) (pm_rt 218)) := rfl
set_option maxRecDepth 20000 in
theorem pm_co219 : lw_tbl[1751]? = some (.code (pm_y 219) (pm_b 219) (pm_mL 219) (pm_rt 219)) := rfl
set_option maxRecDepth 20000 in
theorem pm_co220 : lw_tbl[1755]? = some (.code (pm_y 220) (pm_b 220) (pm_mL 220) (pm_rt 220)) := rfl
set_option maxRecDepth 20000 in
theorem pm_co221 : lw_tbl[1759]? = some (.code (pm_y 221) (pm_b 221) (pm_mL 221) (pm_rt 221)) := rfl
set_option maxRecDepth 20000 in
theorem pm_co222 : lw_tbl[1763]? = some (.code (pm_y 222) (pm_b 222) (pm_mL 222) (pm_rt 222)) := rfl
set_option maxRecDepth 20000 in
theorem pm_co223 : lw_tbl[1767]? = some (.code (pm_y 223) (pm_b 223) (pm_mL 223) (pm_rt 223)) := rfl
set_option maxRecDepth 20000 in
theorem pm_co224 : lw_tbl[1771]? = some (.code (pm_y 224) (pm_b 224) (pm_mL 224) (pm_rt 224)) := rfl
set_option maxRecDepth 20000 in
theorem pm_co225 : lw_tbl[1775]? = some (.code (pm_y 225) (pm_b 225) (pm_mL 225) (pm_rt 225)) := rfl
set_option maxRecDepth 20000 in
theorem pm_co226 : lw_tbl[1780]? = some (.code (pm_y 226) (pm_b 226) (pm_mL 226) (pm_rt 226)) := rfl
set_option maxRecDepth 20000 in
theorem pm_co227 : lw_tbl[1785]? = some (.code (pm_y 227) (pm_b 227) (pm_mL 227) (pm_rt 227)) := rfl
set_option maxRecDepth 20000 in
theorem pm_co228 : lw_tbl[1789]? = some (.code (pm_y 228) (pm_b 228) (pm_mL 228) (pm_rt 228)) := rfl
set_option maxRecDepth 20000 in
theorem pm_co229 : lw_tbl[1793]? = some (.code (pm_y 229) (pm_b 229) (pm_mL 229) (pm_rt 229)) := rfl
set_option maxRecDepth 20000 in
theorem pm_co230 : lw_tbl[1797]? = some (.code (pm_y 230) (pm_b 230) (pm_mL 230) (pm_rt 230)) := rfl
set_option maxRecDepth 20000 in
theorem pm_co231 : lw_tbl[1801]? = some (.code (pm_y 231) (pm_b 231) (pm_mL 231) (pm_rt 231)) := rfl
set_option maxRecDepth 20000 in
theorem pm_co232 : lw_tbl[1805]? = some (.code (pm_y 232) (pm_b 232) (pm_mL 232) (pm_rt 232)) := rfl
set_option maxRecDepth 20000 in
theorem pm_co233 : lw_tbl[1809]? = some (.code (pm_y 233) (pm_b 233) (pm_mL 233) (pm_rt 233)) := rfl
set_option maxRecDepth 20000 in
theorem pm_co234 : lw_tbl[1813]? = some (.code (pm_y 234) (pm_b 234) (pm_mL 234) (pm_rt 234)) := rfl
set_option maxRecDepth 20000 in
theorem pm_co235 : lw_tbl[1817]? = some (.code (pm_y 235) (pm_b 235) (pm_mL 235) (pm_rt 235)) := rfl
set_option maxRecDepth 20000 in
theorem pm_co236 : lw_tbl[1820]? = some (.code (pm_y 236) (pm_b 236) (pm_mL 236) (pm_rt 236)) := rfl
set_option maxRecDepth 20000 in
theorem pm_co237 : lw_tbl[1824]? = some (.code (pm_y 237) (pm_b 237) (pm_mL 237) (pm_rt 237)) := rfl
set_option maxRecDepth 20000 in
theorem pm_co238 : lw_tbl[1828]? = some (.code (pm_y 238) (pm_b 238) (pm_mL 238) (pm_rt 238)) := rfl
set_option maxRecDepth 20000 in
theorem pm_co239 : lw_tbl[1832]? = some (.code (pm_y 239) (pm_b 239) (pm_mL 239) (pm_rt 239)) := rfl
set_option maxRecDepth 20000 in
theorem pm_co240 : lw_tbl[1836]? = some (.code (pm_y 240) (pm_b 240) (pm_mL 240) (pm_rt 240)) := rfl
set_option maxRecDepth 20000 in
theorem pm_co241 : lw_tbl[1840]? = some (.code (pm_y 241) (pm_b 241) (pm_mL 241) (pm_rt 241)) := rfl
set_option maxRecDepth 20000 in
theorem pm_co242 : lw_tbl[1843]? = some (.code (pm_y 242) (pm_b 242) (pm_mL 242) (pm_rt 242)) := rfl
set_option maxRecDepth 20000 in
theorem pm_co243 : lw_tbl[1847]? = some (.code (pm_y 243) (pm_b 243) (pm_mL 243) (pm_rt 243)) := rfl
set_option maxRecDepth 20000 in
theorem pm_co244 : lw_tbl[1852]? = some (.code (pm_y 244) (pm_b 244) (pm_mL 244) (pm_rt 244)) := rfl
set_option maxRecDepth 20000 in
theorem pm_co245 : lw_tbl[1856]? = some (.code (pm_y 245) (pm_b 245) (pm_mL 245) (pm_rt 245)) := rfl
set_option maxRecDepth 20000 in
theorem pm_co246 : lw_tbl[1860]? = some (.code (pm_y 246) (pm_b 246) (pm_mL 246) (pm_rt 246)) := rfl
set_option maxRecDepth 20000 in
theorem pm_co247 : lw_tbl[1864]? = some (.code (pm_y 247) (pm_b 247) (pm_mL 247) (pm_rt 247)) := rfl
set_option maxRecDepth 20000 in
theorem pm_co248 : lw_tbl[1868]? = some (.code (pm_y 248) (pm_b 248) (pm_mL 248) (pm_rt 248)) := rfl
set_option maxRecDepth 20000 in
theorem pm_co249 : lw_tbl[1872]? = some (.code (pm_y 249) (pm_b 249) (pm_mL 249) (pm_rt 249)) := rfl
set_option maxRecDepth 20000 in
theorem pm_co250 : lw_tbl[1876]? = some (.code (pm_y 250) (pm_b 250) (pm_mL 250) (pm_rt 250)) := rfl
set_option maxRecDepth 20000 in
theorem pm_co251 : lw_tbl[1880]? = some (.code (pm_y 251) (pm_b 251) (pm_mL 251) (pm_rt 251)) := rfl
set_option maxRecDepth 20000 in
theorem pm_co252 : lw_tbl[1884]? = some (.code (pm_y 252) (pm_b 252) (pm_mL 252) (pm_rt 252)) := rfl
set_option maxRecDepth 20000 in
theorem pm_co253 : lw_tbl[1888]? = some (.code (pm_y 253) (pm_b 253) (pm_mL 253) (pm_rt 253)) := rfl
set_option maxRecDepth 20000 in
theorem pm_co254 : lw_tbl[1891]? = some (.code (pm_y 254) (pm_b 254) (pm_mL 254) (pm_rt 254)) := rfl
set_option maxRecDepth 20000 in
theorem pm_co255 : lw_tbl[1895]? = some (.code (pm_y 255) (pm_b 255) (pm_mL 255) (pm_rt 255)) := rfl
set_option maxRecDepth 20000 in
theorem pm_co256 : lw_tbl[1899]? = some (.code (pm_y 256) (pm_b 256) (pm_mL 256) (pm_rt 256)) := rfl
set_option maxRecDepth 20000 in
theorem pm_co257 : lw_tbl[1903]? = some (.code (pm_y 257) (pm_b 257) (pm_mL 257) (pm_rt 257)) := rfl
set_option maxRecDepth 20000 in
theorem pm_co258 : lw_tbl[1907]? = some (.code (pm_y 258) (pm_b 258) (pm_mL 258) (pm_rt 258)) := rfl
set_option maxRecDepth 20000 in
theorem pm_co259 : lw_tbl[1911]? = some (.code (pm_y 259) (pm_b 259) (pm_mL 259) (pm_rt 259)) := rfl
set_option maxRecDepth 20000 in
theorem pm_co260 : lw_tbl[1915]? = some (.code (pm_y 260) (pm_b 260) (pm_mL 260) (pm_rt 260)) := rfl
set_option maxRecDepth 20000 in
theorem pm_co261 : lw_tbl[1919]? = some (.code (pm_y 261) (pm_b 261) (pm_mL 261) (pm_rt 261)) := rfl
set_option maxRecDepth 20000 in
theorem pm_co262 : lw_tbl[1923]? = some (.code (pm_y 262) (pm_b 262) (pm_mL 262) (pm_rt 262)) := rfl
set_option maxRecDepth 20000 in
theorem pm_co263 : lw_tbl[1927]? = some (.code (pm_y 263) (pm_b 263) (pm_mL 263) (pm_rt 263)) := rfl
set_option maxRecDepth 20000 in
theorem pm_co264 : lw_tbl[1034]? = some (.code (pm_y 264) (pm_b 264) (pm_mL 264) (pm_rt 264)) := rfl
set_option maxRecDepth 20000 in
theorem pm_co265 : lw_tbl[483]? = some (.code (pm_y 265) (pm_b 265) (pm_mL 265) (pm_rt 265)) := rfl
set_option maxRecDepth 20000 in
theorem pm_co266 : lw_tbl[970]? = some (.code (pm_y 266) (pm_b 266) (pm_mL 266) (pm_rt 266)) := rfl
set_option maxRecDepth 20000 in
theorem pm_co267 : lw_tbl[1095]? = some (.code (pm_y 267) (pm_b 267) (pm_mL 267) (pm_rt 267)) := rfl
set_option maxRecDepth 20000 in
theorem pm_co268 : lw_tbl[1105]? = some (.code (pm_y 268) (pm_b 268) (pm_mL 268) (pm_rt 268)) := rfl
set_option maxRecDepth 20000 in
theorem pm_co269 : lw_tbl[831]? = some (.code (pm_y 269) (pm_b 269) (pm_mL 269) (pm_rt 269)) := rfl
set_option maxRecDepth 20000 in
theorem pm_co270 : lw_tbl[835]? = some (.code (pm_y 270) (pm_b 270) (pm_mL 270) (pm_rt 270)) := rfl
set_option maxRecDepth 20000 in
theorem pm_co271 : lw_tbl[841]? = some (.code (pm_y 271) (pm_b 271) (pm_mL 271) (pm_rt 271)) := rfl
set_option maxRecDepth 20000 in
theorem pm_co272 : lw_tbl[845]? = some (.code (pm_y 272) (pm_b 272) (pm_mL 272) (pm_rt 272)) := rfl
set_option maxRecDepth 20000 in
theorem pm_co273 : lw_tbl[851]? = some (.code (pm_y 273) (pm_b 273) (pm_mL 273) (pm_rt 273)) := rfl
set_option maxRecDepth 20000 in
theorem pm_co274 : lw_tbl[848]? = some (.code (pm_y 274) (pm_b 274) (pm_mL 274) (pm_rt 274)) := rfl
set_option maxRecDepth 20000 in
theorem pm_co275 : lw_tbl[856]? = some (.code (pm_y 275) (pm_b 275) (pm_mL 275) (pm_rt 275)) := rfl
set_option maxRecDepth 20000 in
theorem pm_co276 : lw_tbl[859]? = some (.code (pm_y 276) (pm_b 276) (pm_mL 276) (pm_rt 276)) := rfl
set_option maxRecDepth 20000 in
theorem pm_co277 : lw_tbl[862]? = some (.code (pm_y 277) (pm_b 277) (pm_mL 277) (pm_rt 277)) := rfl
set_option maxRecDepth 20000 in
theorem pm_co278 : lw_tbl[865]? = some (.code (pm_y 278) (pm_b 278) (pm_mL 278) (pm_rt 278)) := rfl
set_option maxRecDepth 20000 in
theorem pm_co279 : lw_tbl[869]? = some (.code (pm_y 279) (pm_b 279) (pm_mL 279) (pm_rt 279)) := rfl
theorem pm_code_mem : ∀ j, j < pm_nM → Cond.code (pm_y j) (pm_b j) (pm_mL j) (pm_rt j) ∈ pm_tbl
  | 0, _ => pm_mem pm_co0 rfl
  | 1, _ => pm_mem pm_co1 rfl
  | 2, _ => pm_mem pm_co2 rfl
  | 3, _ => pm_mem pm_co3 rfl
  | 4, _ => pm_mem pm_co4 rfl
  | 5, _ => pm_mem pm_co5 rfl
  | 6, _ => pm_mem pm_co6 rfl
  | 7, _ => pm_mem pm_co7 rfl
  | 8, _ => pm_mem pm_co8 rfl
  | 9, _ => pm_mem pm_co9 rfl
  | 10, _ => pm_mem pm_co10 rfl
  | 11, _ => pm_mem pm_co11 rfl
  | 12, _ => pm_mem pm_co12 rfl
  | 13, _ => pm_mem pm_co13 rfl
  | 14, _ => pm_mem pm_co14 rfl
  | 15, _ => pm_mem pm_co15 rfl
  | 16, _ => pm_mem pm_co16 rfl
  | 17, _ => pm_mem pm_co17 rfl
  | 18, _ => pm_mem pm_co18 rfl
  | 19, _ => pm_mem pm_co19 rfl
  | 20, _ => pm_mem pm_co20 rfl
  | 21, _ => pm_mem pm_co21 rfl
  | 22, _ => pm_mem pm_co22 rfl
  | 23, _ => pm_mem pm_co23 rfl
  | 24, _ => pm_mem pm_co24 rfl
  | 25, _ => pm_mem pm_co25 rfl
  | 26, _ => pm_mem pm_co26 rfl
  | 27, _ => pm_mem pm_co27 rfl
  | 28, _ => pm_mem pm_co28 rfl
  | 29, _ => pm_mem pm_co29 rfl
  | 30, _ => pm_mem pm_co30 rfl
  | 31, _ => pm_mem pm_co31 rfl
  | 32, _ => pm_mem pm_co32 rfl
  | 33, _ => pm_mem pm_co33 rfl
  | 34, _ => pm_mem pm_co34 rfl
  | 35, _ => pm_mem pm_co35 rfl
  | 36, _ => pm_mem pm_co36 rfl
  | 37, _ => pm_mem pm_co37 rfl
  | 38, _ => pm_mem pm_co38 rfl
  | 39, _ => pm_mem pm_co39 rfl
  | 40, _ => pm_mem pm_co40 rfl
  | 41, _ => pm_mem pm_co41 rfl
  | 42, _ => pm_mem pm_co42 rfl
  | 43, _ => pm_mem pm_co43 rfl
  | 44, _ => pm_mem pm_co44 rfl
  | 45, _ => pm_mem pm_co45 rfl
  | 46, _ => pm_mem pm_co46 rfl
  | 47, _ => pm_mem pm_co47 rfl
  | 48, _ => pm_mem pm_co48 rfl
  | 49, _ => pm_mem pm_co49 rfl
  | 50, _ => pm_mem pm_co50 rfl
  | 51, _ => pm_mem pm_co51 rfl
  | 52, _ => pm_mem pm_co52 rfl
  | 53, _ => pm_mem pm_co53 rfl
  | 54, _ => pm_mem pm_co54 rfl
  | 55, _ => pm_mem pm_co55 rfl
  | 56, _ => pm_mem pm_co56 rfl
  | 57, _ => pm_mem pm_co57 rfl
  | 58, _ => pm_mem pm_co58 rfl
  | 59, _ => pm_mem pm_co59 rfl
  | 60, _ => pm_mem pm_co60 rfl
  | 61, _ => pm_mem pm_co61 rfl
  | 62, _ => pm_mem pm_co62 rfl
  | 63, _ => pm_mem pm_co63 rfl
  | 64, _ => pm_mem pm_co64 rfl
  | 65, _ => pm_mem pm_co65 rfl
  | 66, _ => pm_mem pm_co66 rfl
  | 67, _ => pm_mem pm_co67 rfl
  | 68, _ => pm_mem pm_co68 rfl
  | 69, _ => pm_mem pm_co69 rfl
  | 70, _ => pm_mem pm_co70 rfl
  | 71, _ => pm_mem pm_co71 rfl
  | 72, _ => pm_mem pm_co72 rfl
  | 73, _ => pm_mem pm_co73 rfl
  | 74, _ => pm_mem pm_co74 rfl
  | 75, _ => pm_mem pm_co75 rfl
  | 76, _ => pm_mem pm_co76 rfl
  | 77, _ => pm_mem pm_co77 rfl
  | 78, _ => pm_mem pm_co78 rfl
  | 79, _ => pm_mem pm_co79 rfl
  | 80, _ => pm_mem pm_co80 rfl
  | 81, _ => pm_mem pm_co81 rfl
  | 82, _ => pm_mem pm_co82 rfl
  | 83, _ => pm_mem pm_co83 rfl
  | 84, _ => pm_mem pm_co84 rfl
  | 85, _ => pm_mem pm_co85 rfl
  | 86, _ => pm_mem pm_co86 rfl
  | 87, _ => pm_mem pm_co87 rfl
  | 88, _ => pm_mem pm_co88 rfl
  | 89, _ => pm_mem pm_co89 rfl
  | 90, _ => pm_mem pm_co90 rfl
  | 91, _ => pm_mem pm_co91 rfl
  | 92, _ => pm_mem pm_co92 rfl
  | 93, _ => pm_mem pm_co93 rfl
  | 94, _ => pm_mem pm_co94 rfl
  | 95, _ => pm_mem pm_co95 rfl
  | 96, _ => pm_mem pm_co96 rfl
  | 97, _ => pm_mem pm_co97 rfl
  | 98, _ => pm_mem pm_co98 rfl
  | 99, _ => pm_mem pm_co99 rfl
  | 100, _ => pm_mem pm_co100 rfl
  | 101, _ => pm_mem pm_co101 rfl
  | 102, _ => pm_mem pm_co102 rfl
  | 103, _ => pm_mem pm_co103 rfl
  | 104, _ => pm_mem pm_co104 rfl
  | 105, _ => pm_mem pm_co105 rfl
  | 106, _ => pm_mem pm_co106 rfl
  | 107, _ => pm_mem pm_co107 rfl
  | 108, _ => pm_mem pm_co108 rfl
  | 109, _ => pm_mem pm_co109 rfl
  | 110, _ => pm_mem pm_co110 rfl
  | 111, _ => pm_mem pm_co111 rfl
  | 112, _ => pm_mem pm_co112 rfl
  | 113, _ => pm_mem pm_co113 rfl
  | 114, _ => pm_mem pm_co114 rfl
  | 115, _ => pm_mem pm_co115 rfl
  | 116, _ => pm_mem pm_co116 rfl
  | 117, _ => pm_mem pm_co117 rfl
  | 118, _ => pm_mem pm_co118 rfl
  | 119, _ => pm_mem pm_co119 rfl
  | 120, _ => pm_mem pm_co120 rfl
  | 121, _ => pm_mem pm_co121 rfl
  | 122, _ => pm_mem pm_co122 rfl
  | 123, _ => pm_mem pm_co123 rfl
  | 124, _ => pm_mem pm_co124 rfl
  | 125, _ => pm_mem pm_co125 rfl
  | 126, _ => pm_mem pm_co126 rfl
  | 127, _ => pm_mem pm_co127 rfl
  | 128, _ => pm_mem pm_co128 rfl
  | 129, _ => pm_mem pm_co129 rfl
  | 130, _ => pm_mem pm_co130 rfl
  | 131, _ => pm_mem pm_co131 rfl
  | 132, _ => pm_mem pm_co132 rfl
  | 133, _ => pm_mem pm_co133 rfl
  | 134, _ => pm_mem pm_co134 rfl
  | 135, _ => pm_mem pm_co135 rfl
  | 136, _ => pm_mem pm_co136 rfl
  | 137, _ => pm_mem pm_co137 rfl
  | 138, _ => pm_mem pm_co138 rfl
  | 139, _ => pm_mem pm_co139 rfl
  | 140, _ => pm_mem pm_co140 rfl
  | 141, _ => pm_mem pm_co141 rfl
  | 142, _ => pm_mem pm_co142 rfl
  | 143, _ => pm_mem pm_co143 rfl
  | 144, _ => pm_mem pm_co144 rfl
  | 145, _ => pm_mem pm_co145 rfl
  | 146, _ => pm_mem pm_co146 rfl
  | 147, _ => pm_mem pm_co147 rfl
  | 148, _ => pm_mem pm_co148 rfl
  | 149, _ => pm_mem pm_co149 rfl
  | 150, _ => pm_mem pm_co150 rfl
  | 151, _ => pm_mem pm_co151 rfl
  | 152, _ => pm_mem pm_co152 rfl
  | 153, _ => pm_mem pm_co153 rfl
  | 154, _ => pm_mem pm_co154 rfl
  | 155, _ => pm_mem pm_co155 rfl
  | 156, _ => pm_mem pm_co156 rfl
  | 157, _ => pm_mem pm_co157 rfl
  | 158, _ => pm_mem pm_co158 rfl
  | 159, _ => pm_mem pm_co159 rfl
  | 160, _ => pm_mem pm_co160 rfl
  | 161, _ => pm_mem pm_co161 rfl
  | 162, _ => pm_mem pm_co162 rfl
  | 163, _ => pm_mem pm_co163 rfl
  | 164, _ => pm_mem pm_co164 rfl
  | 165, _ => pm_mem pm_co165 rfl
  | 166, _ => pm_mem pm_co166 rfl
  | 167, _ => pm_mem pm_co167 rfl
  | 168, _ => pm_mem pm_co168 rfl
  | 169, _ => pm_mem pm_co169 rfl
  | 170, _ => pm_mem pm_co170 rfl
  | 171, _ => pm_mem pm_co171 rfl
  | 172, _ => pm_mem pm_co172 rfl
  | 173, _ => pm_mem pm_co173 rfl
  | 174, _ => pm_mem pm_co174 rfl
  | 175, _ => pm_mem pm_co175 rfl
  | 176, _ => pm_mem pm_co176 rfl
  | 177, _ => pm_mem pm_co177 rfl
  | 178, _ => pm_mem pm_co178 rfl
  | 179, _ => pm_mem pm_co179 rfl
  | 180, _ => pm_mem pm_co180 rfl
  | 181, _ => pm_mem pm_co181 rfl
  | 182, _ => pm_mem pm_co182 rfl
  | 183, _ => pm_mem pm_co183 rfl
  | 184, _ => pm_mem pm_co184 rfl
  | 185, _ => pm_mem pm_co185 rfl
  | 186, _ => pm_mem pm_co186 rfl
  | 187, _ => pm_mem pm_co187 rfl
  | 188, _ => pm_mem pm_co188 rfl
  | 189, _ => pm_mem pm_co189 rfl
  | 190, _ => pm_mem pm_co190 rfl
  | 191, _ => pm_mem pm_co191 rfl
  | 192, _ => pm_mem pm_co192 rfl
  | 193, _ => pm_mem pm_co193 rfl
  | 194, _ => pm_mem pm_co194 rfl
  | 195, _ => pm_mem pm_co195 rfl
  | 196, _ => pm_mem pm_co196 rfl
  | 197, _ => pm_mem pm_co197 rfl
  | 198, _ => pm_mem pm_co198 rfl
  | 199, _ => pm_mem pm_co199 rfl
  | 200, _ => pm_mem pm_co200 rfl
  | 201, _ => pm_mem pm_co201 rfl
  | 202, _ => pm_mem pm_co202 rfl
  | 203, _ => pm_mem pm_co203 rfl
  | 204, _ => pm_mem pm_co204 rfl
  | 205, _ => pm_mem pm_co205 rfl
  | 206, _ => pm_mem pm_co206 rfl
  | 207, _ => pm_mem pm_co207 rfl
  | 208, _ => pm_mem pm_co208 rfl
  | 209, _ => pm_mem pm_co209 rfl
  | 210, _ => pm_mem pm_co210 rfl
  | 211, _ => pm_mem pm_co211 rfl
  | 212, _ => pm_mem pm_co212 rfl
  | 213, _ => pm_mem pm_co213 rfl
  | 214, _ => pm_mem pm_co214 rfl
  | 215, _ => pm_mem pm_co215 rfl
  | 216, _ => pm_mem pm_co216 rfl
  | 217, _ => pm_mem pm_co217 rfl
  | 218, _ => pm_mem pm_co218 rfl
  | 219, _ => pm_mem pm_co219 rfl
  | 220, _ => pm_mem pm_co220 rfl
  | 221, _ => pm_mem pm_co221 rfl
  | 222, _ => pm_mem pm_co222 rfl
  | 223, _ => pm_mem pm_co223 rfl
  | 224, _ => pm_mem pm_co224 rfl
  | 225, _ => pm_mem pm_co225 rfl
  | 226, _ => pm_mem pm_co226 rfl
  | 227, _ => pm_mem pm_co227 rfl
  | 228, _ => pm_mem pm_co228 rfl
  | 229, _ => pm_mem pm_co229 rfl
  | 230, _ => pm_mem pm_co230 rfl
  | 231, _ => pm_mem pm_co231 rfl
  | 232, _ => pm_mem pm_co232 rfl
  | 233, _ => pm_mem pm_co233 rfl
  | 234, _ => pm_mem pm_co234 rfl
  | 235, _ => pm_mem pm_co235 rfl
  | 236, _ => pm_mem pm_co236 rfl
  | 237, _ => pm_mem pm_co237 rfl
  | 238, _ => pm_mem pm_co238 rfl
  | 239, _ => pm_mem pm_co239 rfl
  | 240, _ => pm_mem pm_co240 rfl
  | 241, _ => pm_mem pm_co241 rfl
  | 242, _ => pm_mem pm_co242 rfl
  | 243, _ => pm_mem pm_co243 rfl
  | 244, _ => pm_mem pm_co244 rfl
  | 245, _ => pm_mem pm_co245 rfl
  | 246, _ => pm_mem pm_co246 rfl
  | 247, _ => pm_mem pm_co247 rfl
  | 248, _ => pm_mem pm_co248 rfl
  | 249, _ => pm_mem pm_co249 rfl
  | 250, _ => pm_mem pm_co250 rfl
  | 251, _ => pm_mem pm_co251 rfl
  | 252, _ => pm_mem pm_co252 rfl
  | 253, _ => pm_mem pm_co253 rfl
  | 254, _ => pm_mem pm_co254 rfl
  | 255, _ => pm_mem pm_co255 rfl
  | 256, _ => pm_mem pm_co256 rfl
  | 257, _ => pm_mem pm_co257 rfl
  | 258, _ => pm_mem pm_co258 rfl
  | 259, _ => pm_mem pm_co259 rfl
  | 260, _ => pm_mem pm_co260 rfl
  | 261, _ => pm_mem pm_co261 rfl
  | 262, _ => pm_mem pm_co262 rfl
  | 263, _ => pm_mem pm_co263 rfl
  | 264, _ => pm_mem pm_co264 rfl
  | 265, _ => pm_mem pm_co265 rfl
  | 266, _ => pm_mem pm_co266 rfl
  | 267, _ => pm_mem pm_co267 rfl
  | 268, _ => pm_mem pm_co268 rfl
  | 269, _ => pm_mem pm_co269 rfl
  | 270, _ => pm_mem pm_co270 rfl
  | 271, _ => pm_mem pm_co271 rfl
  | 272, _ => pm_mem pm_co272 rfl
  | 273, _ => pm_mem pm_co273 rfl
  | 274, _ => pm_mem pm_co274 rfl
  | 275, _ => pm_mem pm_co275 rfl
  | 276, _ => pm_mem pm_co276 rfl
  | 277, _ => pm_mem pm_co277 rfl
  | 278, _ => pm_mem pm_co278 rfl
  | 279, _ => pm_mem pm_co279 rfl
  | n + 280, h => absurd (show n + 280 < 280 from h) (by omega)
theorem pm_m_ok : ∀ j, j < pm_nM → (lw_tbl[pm_plI.getD j 0]? = some (.initialized (pm_y j).cls) ∧ (pm_y j).cls = pm_cn (pm_oc j) ∧ (pm_y j).cls ≠ "java/lang/invoke/MethodHandle" ∧ (pm_y j).cls ≠ "java/lang/invoke/VarHandle" ∧ (parseMethodDescriptor (pm_y j).desc).map (fun d => d.parameters.length) = some (pm_np j) ∧ pm_mL j ≤ 40) := by decide +kernel
theorem pm_mS_ok : ∀ j, j < pm_nM → pm_mk j = 0 → lw_tbl[pm_plK.getD j 0]? = some (.static (pm_y j)) := by decide +kernel
theorem pm_mV_ok : ∀ j, j < pm_nM → pm_mk j = 1 → lw_tbl[pm_plK.getD j 0]? = some (.instanceMethod (pm_y j)) ∧ lw_tbl[pm_plS.getD j 0]? = some (.selects (pm_y j).cls (pm_y j) (pm_y j)) := by decide +kernel
theorem pm_mI_ok : ∀ j, j < pm_nM → pm_mk j = 2 → lw_tbl[pm_plK.getD j 0]? = some (.instanceMethod (pm_y j)) ∧ (pm_y j).name = "<init>" ∧ pm_rt j = none := by decide +kernel
/-- links of fields: own class, entry, class, place of the field, place of the word -/
def pm_fl : List (Nat × Nat × Nat × Nat × Nat) := [(3, 9, 3, 0, 110), (11, 92, 3, 0, 111), (10, 32, 3, 0, 112), (3, 15, 3, 1, 113), (3, 19, 3, 2, 114), (11, 105, 3, 2, 115), (5, 9, 5, 0, 142), (1, 49, 5, 0, 143), (5, 15, 5, 1, 144), (1, 52, 5, 1, 145), (5, 40, 5, 2, 146), (1, 87, 5, 2, 147), (11, 263, 5, 2, 148), (5, 18, 5, 3, 149), (1, 97, 5, 3, 150), (5, 22, 5, 4, 151), (1, 94, 5, 4, 152), (5, 25, 5, 5, 153), (5, 28, 5, 6, 154), (5, 31, 5, 7, 155), (5, 43, 5, 8, 156), (6, 107, 5, 8, 157), (5, 46, 5, 9, 158), (6, 112, 5, 9, 159), (5, 49, 5, 10, 160), (1, 68, 5, 10, 161), (6, 65, 5, 10, 162), (11, 268, 5, 10, 163), (5, 52, 5, 11, 164), (6, 70, 5, 11, 165), (1, 78, 5, 11, 166), (11, 271, 5, 11, 167), (5, 55, 5, 12, 168), (6, 117, 5, 12, 169), (1, 125, 5, 12, 170), (11, 274, 5, 12, 171), (5, 58, 5, 13, 172), (6, 119, 5, 13, 173), (1, 122, 5, 13, 174), (11, 277, 5, 13, 175), (5, 61, 5, 14, 176), (6, 75, 5, 14, 177), (1, 131, 5, 14, 178), (11, 280, 5, 14, 179), (5, 64, 5, 15, 180), (6, 104, 5, 15, 181), (1, 144, 5, 15, 182), (11, 283, 5, 15, 183), (5, 67, 5, 16, 184), (6, 80, 5, 16, 185), (11, 286, 5, 16, 186), (5, 34, 5, 17, 187), (5, 70, 5, 18, 188), (6, 87, 5, 18, 189), (6, 9, 6, 0, 229), (6, 15, 6, 1, 230), (11, 235, 6, 1, 231), (6, 19, 6, 2, 232), (11, 253, 6, 2, 233), (6, 25, 6, 3, 234), (1, 45, 1, 0, 253), (1, 11, 1, 1, 254), (1, 17, 1, 2, 255), (11, 238, 1, 2, 256), (1, 22, 1, 3, 257), (1, 26, 1, 4, 258), (2, 34, 1, 4, 259), (1, 29, 1, 5, 260), (2, 39, 1, 5, 261), (11, 292, 1, 5, 262), (1, 33, 1, 6, 263), (11, 295, 1, 6, 264), (1, 36, 1, 7, 265), (2, 40, 1, 7, 266), (11, 298, 1, 7, 267), (1, 39, 1, 8, 268), (11, 301, 1, 8, 269), (1, 42, 1, 9, 270), (2, 9, 2, 0, 298), (11, 321, 2, 0, 299), (2, 15, 2, 1, 300), (2, 19, 2, 2, 301), (2, 22, 2, 3, 302), (2, 25, 2, 4, 303), (8, 9, 8, 0, 322), (11, 347, 8, 0, 323), (8, 15, 8, 1, 324), (11, 355, 8, 1, 325), (8, 19, 8, 2, 326), (11, 352, 8, 2, 327), (8, 22, 8, 3, 328), (11, 348, 8, 3, 329), (8, 26, 8, 4, 330), (10, 9, 10, 0, 349), (11, 390, 10, 0, 350), (10, 15, 10, 1, 351), (10, 19, 10, 2, 352), (10, 22, 10, 3, 353), (10, 25, 10, 4, 354), (10, 28, 10, 5, 355), (4, 9, 4, 0, 375), (11, 408, 4, 0, 376), (4, 15, 4, 1, 377), (11, 421, 4, 1, 378), (9, 9, 9, 0, 391), (11, 196, 9, 0, 392), (9, 15, 9, 1, 393), (11, 403, 9, 1, 394), (9, 18, 9, 2, 395), (11, 435, 9, 2, 396), (11, 12, 11, 0, 404), (11, 18, 11, 1, 405), (11, 22, 11, 2, 406), (11, 28, 11, 3, 407), (11, 32, 11, 4, 408), (11, 35, 11, 5, 409), (11, 41, 11, 6, 410), (11, 50, 11, 7, 411), (11, 57, 11, 8, 412), (11, 64, 11, 9, 413), (11, 68, 11, 10, 414), (11, 74, 11, 11, 415), (11, 81, 11, 12, 416), (11, 87, 11, 13, 417), (7, 50, 7, 0, 511), (4, 35, 7, 0, 512), (2, 45, 7, 0, 513), (11, 124, 7, 0, 514), (7, 53, 7, 1, 515), (8, 52, 7, 1, 516), (11, 134, 7, 1, 517), (7, 56, 7, 2, 518), (2, 29, 7, 2, 519), (8, 41, 7, 2, 520), (4, 30, 7, 2, 521), (1, 86, 7, 2, 522), (11, 137, 7, 2, 523), (7, 59, 7, 3, 524), (8, 46, 7, 3, 525), (4, 47, 7, 3, 526), (5, 81, 7, 3, 527), (11, 140, 7, 3, 528), (7, 62, 7, 4, 529), (1, 63, 7, 4, 530), (11, 143, 7, 4, 531), (5, 93, 7, 4, 532), (7, 65, 7, 5, 533), (11, 146, 7, 5, 534), (5, 90, 7, 5, 535), (1, 128, 7, 5, 536), (7, 9, 7, 6, 537), (8, 49, 7, 6, 538), (4, 41, 7, 6, 539), (11, 131, 7, 6, 540), (7, 15, 7, 7, 541), (1, 75, 7, 7, 542), (11, 149, 7, 7, 543), (7, 18, 7, 8, 544), (11, 152, 7, 8, 545), (7, 21, 7, 9, 546), (11, 155, 7, 9, 547), (7, 24, 7, 10, 548), (11, 158, 7, 10, 549), (7, 27, 7, 11, 550), (7, 30, 7, 12, 551), (7, 33, 7, 13, 552), (7, 36, 7, 14, 553), (7, 40, 7, 15, 554), (7, 43, 7, 16, 555), (11, 361, 7, 16, 556), (7, 47, 7, 17, 557), (11, 454, 7, 17, 558), (0, 13, 0, 0, 730), (7, 73, 0, 0, 731), (0, 17, 0, 1, 732), (7, 79, 0, 1, 733), (1, 102, 0, 1, 734), (11, 228, 0, 1, 735), (0, 20, 0, 2, 736), (5, 99, 0, 2, 737), (11, 223, 0, 2, 738), (0, 23, 0, 3, 739), (7, 76, 0, 3, 740), (0, 26, 0, 4, 741), (7, 82, 0, 4, 742), (0, 7, 0, 5, 743), (7, 68, 0, 5, 744), (12, 187, 12, 0, 1243), (12, 11, 12, 1, 1244), (12, 190, 12, 2, 1245), (12, 15, 12, 3, 1246), (12, 184, 12, 4, 1247), (12, 19, 12, 5, 1248), (12, 22, 12, 6, 1249), (12, 25, 12, 7, 1250), (12, 28, 12, 8, 1251), (12, 31, 12, 9, 1252), (12, 34, 12, 10, 1253), (12, 37, 12, 11, 1254), (12, 40, 12, 12, 1255), (12, 43, 12, 13, 1256), (12, 46, 12, 14, 1257), (12, 49, 12, 15, 1258), (12, 52, 12, 16, 1259), (12, 55, 12, 17, 1260), (12, 180, 12, 18, 1261), (12, 58, 12, 19, 1262), (12, 61, 12, 20, 1263), (12, 64, 12, 21, 1264), (12, 67, 12, 22, 1265), (12, 70, 12, 23, 1266), (12, 241, 12, 24, 1267), (12, 73, 12, 25, 1268), (12, 287, 12, 26, 1269), (12, 76, 12, 27, 1270), (12, 79, 12, 28, 1271), (12, 82, 12, 29, 1272), (12, 85, 12, 30, 1273), (12, 395, 12, 31, 1274), (12, 88, 12, 32, 1275), (12, 91, 12, 33, 1276), (12, 94, 12, 34, 1277), (12, 422, 12, 35, 1278), (12, 97, 12, 36, 1279), (12, 443, 12, 37, 1280), (12, 100, 12, 38, 1281), (12, 103, 12, 39, 1282), (12, 106, 12, 40, 1283), (12, 454, 12, 41, 1284), (12, 109, 12, 42, 1285), (12, 112, 12, 43, 1286), (12, 115, 12, 44, 1287), (12, 296, 12, 45, 1288), (12, 290, 12, 46, 1289), (12, 293, 12, 47, 1290), (12, 299, 12, 48, 1291), (12, 328, 12, 49, 1292), (12, 340, 12, 50, 1293), (12, 346, 12, 51, 1294), (12, 251, 12, 52, 1295), (12, 255, 12, 53, 1296), (12, 261, 12, 54, 1297), (12, 377, 12, 55, 1298), (12, 380, 12, 56, 1299), (12, 371, 12, 57, 1300), (12, 383, 12, 58, 1301), (12, 374, 12, 59, 1302), (12, 119, 12, 60, 1303), (12, 122, 12, 61, 1304), (12, 125, 12, 62, 1305), (12, 361, 12, 63, 1306), (12, 128, 12, 64, 1307), (12, 131, 12, 65, 1308), (12, 134, 12, 66, 1309), (12, 137, 12, 67, 1310), (12, 231, 12, 68, 1311), (12, 407, 12, 69, 1312), (12, 410, 12, 70, 1313), (12, 140, 12, 71, 1314), (12, 143, 12, 72, 1315), (12, 146, 12, 73, 1316), (12, 149, 12, 74, 1317), (12, 152, 12, 75, 1318), (12, 155, 12, 76, 1319), (12, 158, 12, 77, 1320), (12, 161, 12, 78, 1321), (12, 431, 12, 79, 1322), (12, 164, 12, 80, 1323), (12, 167, 12, 81, 1324), (12, 457, 12, 82, 1325), (12, 460, 12, 83, 1326), (12, 170, 12, 84, 1327), (12, 466, 12, 85, 1328), (12, 472, 12, 86, 1329), (12, 173, 12, 87, 1330)]
theorem pm_fl_ok : ∀ e, e < 275 → lw_tbl[(pm_fl.getD e (0, 0, 0, 0, 0)).2.2.2.2]? = some (.fieldLink (pm_cn (pm_fl.getD e (0, 0, 0, 0, 0)).1) (pm_fl.getD e (0, 0, 0, 0, 0)).2.1 (pm_cn (pm_fl.getD e (0, 0, 0, 0, 0)).2.2.1) (pm_T (pm_fl.getD e (0, 0, 0, 0, 0)).2.2.1 (pm_fl.getD e (0, 0, 0, 0, 0)).2.2.2.1).2.1 (pm_T (pm_fl.getD e (0, 0, 0, 0, 0)).2.2.1 (pm_fl.getD e (0, 0, 0, 0, 0)).2.2.2.1).2.2.1) := by decide +kernel
/-- links of methods: own class, entry, method, place of the word -/
def pm_ml : List (Nat × Nat × Nat × Nat) := [(13, 9, 96, 98), (6, 24, 32, 134), (5, 37, 33, 138), (11, 47, 1, 246), (1, 21, 32, 252), (13, 13, 97, 447), (13, 18, 98, 451), (11, 95, 99, 455), (11, 99, 21, 458), (3, 22, 22, 462), (11, 102, 23, 466), (13, 22, 100, 470), (11, 108, 24, 474), (3, 26, 25, 478), (3, 29, 265, 481), (13, 27, 101, 484), (11, 112, 102, 488), (13, 31, 103, 491), (11, 115, 104, 495), (13, 35, 105, 499), (11, 118, 106, 503), (11, 121, 58, 507), (13, 40, 107, 596), (11, 127, 108, 600), (13, 44, 109, 604), (11, 161, 2, 608), (1, 59, 3, 612), (1, 55, 4, 616), (1, 71, 34, 620), (5, 73, 35, 624), (5, 77, 36, 628), (5, 86, 59, 631), (5, 96, 60, 635), (13, 48, 110, 639), (11, 165, 5, 643), (1, 81, 24, 647), (13, 52, 111, 648), (11, 170, 6, 653), (1, 115, 7, 657), (1, 90, 37, 661), (1, 98, 59, 665), (1, 107, 8, 666), (1, 111, 61, 669), (1, 119, 9, 673), (13, 56, 112, 677), (13, 60, 113, 681), (13, 64, 114, 685), (11, 174, 115, 689), (11, 177, 62, 692), (13, 69, 116, 696), (11, 181, 63, 700), (13, 73, 117, 704), (13, 77, 118, 708), (11, 184, 64, 712), (13, 81, 119, 716), (11, 188, 120, 720), (11, 445, 0, 726), (11, 448, 65, 758), (13, 86, 121, 762), (11, 192, 122, 766), (11, 201, 80, 771), (11, 205, 66, 775), (11, 209, 81, 779), (9, 22, 80, 783), (13, 90, 123, 784), (13, 94, 124, 788), (11, 213, 67, 792), (11, 216, 59, 796), (11, 220, 60, 797), (13, 98, 125, 798), (11, 231, 41, 802), (13, 102, 126, 806), (11, 241, 42, 810), (6, 29, 33, 814), (6, 32, 43, 815), (6, 40, 44, 819), (6, 46, 45, 824), (6, 139, 269, 828), (16, 335, 270, 832), (6, 143, 271, 838), (16, 492, 272, 842), (16, 495, 274, 846), (17, 9, 273, 849), (16, 1059, 275, 854), (16, 498, 276, 857), (19, 67, 277, 860), (19, 48, 278, 863), (19, 414, 273, 866), (19, 71, 279, 867), (6, 36, 46, 876), (6, 50, 47, 880), (6, 83, 48, 884), (6, 94, 49, 890), (6, 122, 50, 894), (6, 129, 51, 898), (6, 132, 52, 902), (6, 136, 53, 905), (6, 125, 38, 908), (6, 98, 39, 912), (6, 53, 54, 916), (6, 61, 55, 921), (6, 56, 56, 926), (11, 245, 57, 935), (11, 249, 10, 939), (13, 106, 127, 944), (11, 256, 3, 948), (11, 260, 4, 949), (13, 110, 128, 950), (11, 289, 7, 954), (13, 114, 129, 955), (13, 118, 130, 959), (11, 304, 11, 963), (1, 134, 265, 967), (1, 139, 266, 968), (13, 122, 131, 972), (11, 307, 68, 976), (11, 310, 132, 980), (11, 451, 12, 984), (11, 313, 133, 988), (13, 126, 134, 991), (13, 130, 135, 995), (11, 317, 14, 999), (13, 134, 136, 1003), (11, 324, 15, 1007), (13, 138, 137, 1011), (11, 328, 16, 1015), (11, 331, 17, 1019), (2, 41, 15, 1023), (11, 335, 18, 1024), (2, 48, 19, 1028), (2, 52, 264, 1032), (13, 143, 138, 1038), (11, 339, 73, 1042), (8, 29, 74, 1046), (8, 37, 75, 1049), (8, 33, 76, 1052), (11, 343, 77, 1056), (8, 55, 78, 1060), (13, 147, 139, 1064), (13, 151, 140, 1068), (11, 358, 141, 1072), (13, 155, 142, 1075), (11, 366, 69, 1080), (7, 85, 70, 1084), (11, 369, 71, 1088), (11, 374, 267, 1093), (11, 380, 143, 1096), (13, 160, 144, 1099), (11, 384, 268, 1103), (13, 164, 145, 1106), (11, 386, 85, 1110), (11, 389, 86, 1114), (13, 168, 146, 1118), (13, 172, 147, 1122), (11, 391, 87, 1126), (10, 37, 88, 1130), (10, 49, 89, 1134), (10, 41, 24, 1137), (10, 53, 90, 1139), (10, 57, 266, 1144), (11, 394, 91, 1145), (11, 397, 92, 1149), (11, 400, 93, 1153), (10, 65, 94, 1157), (13, 176, 148, 1161), (11, 404, 95, 1165), (10, 68, 81, 1169), (13, 180, 149, 1170), (11, 411, 27, 1174), (4, 22, 28, 1178), (4, 26, 27, 1182), (11, 415, 29, 1183), (4, 38, 29, 1187), (11, 418, 30, 1188), (4, 44, 30, 1192), (13, 184, 150, 1193), (13, 188, 151, 1197), (11, 424, 31, 1201), (13, 192, 152, 1206), (13, 196, 153, 1210), (11, 427, 82, 1214), (13, 202, 154, 1218), (11, 431, 83, 1222), (13, 207, 155, 1226), (13, 211, 156, 1230), (13, 12, 157, 1239), (13, 17, 158, 1508), (12, 176, 159, 1512), (13, 21, 160, 1515), (12, 193, 161, 1519), (12, 197, 162, 1522), (13, 26, 163, 1526), (12, 207, 164, 1530), (12, 200, 165, 1534), (12, 204, 166, 1537), (13, 30, 167, 1541), (13, 34, 168, 1545), (12, 210, 169, 1549), (13, 39, 170, 1553), (12, 213, 171, 1557), (13, 43, 172, 1560), (12, 216, 173, 1564), (13, 47, 174, 1568), (12, 219, 175, 1572), (12, 244, 176, 1576), (12, 247, 177, 1580), (12, 386, 178, 1584), (12, 392, 179, 1588), (12, 389, 180, 1592), (12, 302, 181, 1596), (12, 364, 182, 1600), (12, 353, 183, 1604), (12, 357, 184, 1607), (12, 314, 185, 1612), (12, 306, 186, 1616), (12, 309, 187, 1620), (12, 343, 188, 1624), (12, 337, 189, 1628), (12, 318, 190, 1632), (12, 331, 191, 1636), (12, 322, 192, 1640), (12, 325, 193, 1644), (12, 334, 194, 1648), (12, 284, 195, 1652), (12, 276, 196, 1656), (12, 280, 197, 1660), (12, 349, 198, 1664), (12, 367, 199, 1668), (13, 51, 200, 1672), (12, 223, 201, 1676), (13, 55, 202, 1680), (12, 235, 203, 1685), (12, 227, 204, 1689), (12, 398, 205, 1693), (13, 59, 206, 1697), (13, 63, 207, 1701), (13, 68, 208, 1705), (12, 238, 209, 1709), (13, 72, 210, 1712), (12, 258, 211, 1716), (13, 76, 212, 1720), (13, 80, 213, 1724), (13, 85, 214, 1728), (12, 264, 215, 1732), (12, 267, 216, 1736), (13, 89, 217, 1740), (12, 271, 218, 1744), (13, 93, 219, 1748), (13, 97, 220, 1752), (13, 101, 221, 1756), (13, 105, 222, 1760), (13, 109, 223, 1764), (13, 113, 224, 1768), (13, 117, 225, 1772), (12, 402, 224, 1776), (13, 121, 226, 1777), (13, 125, 227, 1782), (12, 416, 228, 1786), (12, 419, 229, 1790), (12, 413, 230, 1794), (13, 129, 231, 1798), (13, 133, 232, 1802), (13, 137, 233, 1806), (12, 425, 234, 1810), (13, 142, 235, 1814), (12, 428, 236, 1818), (13, 146, 237, 1821), (12, 434, 238, 1825), (12, 437, 239, 1829), (13, 150, 240, 1833), (13, 154, 241, 1837), (12, 440, 242, 1841), (13, 159, 243, 1844), (12, 450, 244, 1850), (13, 163, 245, 1853), (13, 167, 246, 1857), (13, 171, 247, 1861), (13, 175, 248, 1865), (12, 463, 249, 1869), (13, 179, 250, 1873), (13, 183, 251, 1877), (12, 478, 252, 1881), (12, 469, 253, 1885), (12, 475, 254, 1889), (12, 481, 255, 1892), (12, 484, 256, 1896), (13, 187, 257, 1900), (13, 191, 258, 1904), (13, 195, 259, 1908), (13, 199, 260, 1912), (13, 206, 261, 1916), (13, 210, 262, 1920), (13, 214, 263, 1924)]
theorem pm_ml_ok : ∀ e, e < 293 → lw_tbl[(pm_ml.getD e (0, 0, 0, 0)).2.2.2]? = some (.methodLink (pm_cn (pm_ml.getD e (0, 0, 0, 0)).1) (pm_ml.getD e (0, 0, 0, 0)).2.1 (pm_y (pm_ml.getD e (0, 0, 0, 0)).2.2.1)) := by decide +kernel
/-- links of Object.<init> -/
def pm_ol : List (Nat × Nat × Nat) := [(11, 3, 101), (3, 3, 109), (6, 3, 131), (5, 3, 137), (1, 3, 249), (2, 3, 297), (8, 3, 321), (10, 3, 348), (4, 3, 374), (9, 3, 390), (7, 3, 510), (0, 1, 729), (12, 3, 1242)]
theorem pm_ol_ok : ∀ e, e < 13 → lw_tbl[(pm_ol.getD e (0, 0, 0)).2.2]? = some (.methodLink (pm_cn (pm_ol.getD e (0, 0, 0)).1) (pm_ol.getD e (0, 0, 0)).2.1 Lib.objectInit) := by decide +kernel
def pm_kl : List (Nat × Nat × String × Nat) := [(13, 7, "WrongsDesk", 96), (11, 9, "WrongsDesk$Days", 104), (11, 26, "WrongsDesk$Matter", 124), (11, 38, "WrongsDesk$LawReader", 126), (6, 22, "WrongsDesk$Law", 132), (11, 45, "WrongsDesk$Bench", 244), (1, 9, "WrongsDesk$Law", 250), (11, 54, "WrongsDesk$Causes", 292), (11, 61, "WrongsDesk$Report", 316), (11, 71, "WrongsDesk$Week", 343), (11, 78, "WrongsDesk$Deeds", 369), (11, 85, "WrongsDesk$Tape", 384), (11, 224, "WrongsDesk$Act", 724), (13, 10, "WrongsDeskModel", 1237)]
theorem pm_kl_ok : ∀ e, e < 14 → lw_tbl[(pm_kl.getD e (0, 0, "", 0)).2.2.2]? = some (.classLink (pm_cn (pm_kl.getD e (0, 0, "", 0)).1) (pm_kl.getD e (0, 0, "", 0)).2.1 (pm_kl.getD e (0, 0, "", 0)).2.2.1) := by decide +kernel
def pm_ci : List (Nat × Nat × Int32 × Nat) := [(11, 169, 99999, 652), (14, 265, 1431655765, 1035), (14, 266, 858993459, 1036), (14, 267, 252645135, 1037), (12, 234, 99999, 1684)]
theorem pm_ci_ok : ∀ e, e < 5 → lw_tbl[(pm_ci.getD e (0, 0, 0, 0)).2.2.2]? = some (.constant (pm_cn (pm_ci.getD e (0, 0, 0, 0)).1) (pm_ci.getD e (0, 0, 0, 0)).2.1 (pm_ci.getD e (0, 0, 0, 0)).2.2.1) := by decide +kernel
def pm_cj : List (Nat × Nat × Int64 × Nat) := [(11, 199, 3, 770), (1, 142, 1000, 971), (11, 364, -9223372036854775808, 1079), (11, 372, 60, 1092), (10, 47, 9223372036854775807, 1138), (10, 63, 4294967296, 1143), (12, 312, 31, 1611), (12, 274, 3, 1747), (12, 405, 1000, 1781), (12, 446, -9223372036854775808, 1848), (12, 448, 60, 1849), (13, 200, 4294967295, 1928)]
theorem pm_cj_ok : ∀ e, e < 12 → lw_tbl[(pm_cj.getD e (0, 0, 0, 0)).2.2.2]? = some (.constantLong (pm_cn (pm_cj.getD e (0, 0, 0, 0)).1) (pm_cj.getD e (0, 0, 0, 0)).2.1 (pm_cj.getD e (0, 0, 0, 0)).2.2.1) := by decide +kernel
def pm_ipl : List Nat := [725, 245, 293, 105, 370, 133, 127, 506, 317, 386, 344, 97, 1238]
def pm_jpl : List Nat := [89, 80, 81, 77, 84, 79, 78, 88, 82, 85, 83, 76, 86]
theorem pm_inst_ok : ∀ c, c < 13 → lw_tbl[pm_ipl.getD c 0]? = some (.instantiable (pm_cn c) (pm_nF c)) ∧ lw_tbl[pm_jpl.getD c 0]? = some (.initialized (pm_cn c)) := by decide +kernel
theorem pm_ac_ok : lw_tbl[123]? = some (.arrayClass .int) ∧ lw_tbl[315]? = some (.arrayClass .long) ∧ lw_tbl[342]? = some (.arrayClass .boolean) := by decide +kernel
theorem pm_ob1 : lw_tbl[102]? = some (.instanceMethod Lib.objectInit) := by decide +kernel
theorem pm_ob2 : lw_tbl[103]? = some (.code Lib.objectInit ⟨#[0xb1]⟩ 1 none) := by first | rfl | decide +kernel
theorem pm_cp1 : lw_tbl[1235]? = some (.static arraycopyName) := by decide +kernel
theorem pm_cp2 : lw_tbl[1236]? = some (.native arraycopyName) := by decide +kernel
theorem pm_cp3 : lw_tbl[95]? = some (.initialized "java/lang/System") := by decide +kernel
theorem pm_cp4 : lw_tbl[1234]? = some (.methodLink (pm_cn 11) 439 arraycopyName) := by decide +kernel
/-- private constructors, called from the class around them: entry, method -/
def pm_nest : List (Nat × Nat) := [(11, 20), (40, 40), (56, 13), (63, 72), (73, 84), (80, 26), (91, 79)]
theorem pm_nest_ok : ∀ e, e < 7 → lw_tbl[[106, 128, 294, 318, 345, 371, 387].getD e 0]? = some (.methodLinkNest "WrongsDesk" (pm_nest.getD e (0, 0)).1 (pm_y (pm_nest.getD e (0, 0)).2) "WrongsDesk") := by decide +kernel
