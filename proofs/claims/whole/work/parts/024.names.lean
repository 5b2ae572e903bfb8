theorem pm_mS_ok_0 : ∀ j, j < 70 → pm_mk (j + 0) = 0 → lw_tbl[pm_plK.getD (j + 0) 0]? = some (.static (pm_y (j + 0))) := by decide +kernel
theorem pm_mS_ok_70 : ∀ j, j < 70 → pm_mk (j + 70) = 0 → lw_tbl[pm_plK.getD (j + 70) 0]? = some (.static (pm_y (j + 70))) := by decide +kernel
theorem pm_mS_ok_140 : ∀ j, j < 70 → pm_mk (j + 140) = 0 → lw_tbl[pm_plK.getD (j + 140) 0]? = some (.static (pm_y (j + 140))) := by decide +kernel
theorem pm_mS_ok_210 : ∀ j, j < 70 → pm_mk (j + 210) = 0 → lw_tbl[pm_plK.getD (j + 210) 0]? = some (.static (pm_y (j + 210))) := by decide +kernel
theorem pm_mS_ok : ∀ j, j < pm_nM → pm_mk j = 0 → lw_tbl[pm_plK.getD j 0]? = some (.static (pm_y j)) := by
  intro j h0
  have h0 : j < 280 := h0
  by_cases h70 : j < 70
  · have := pm_mS_ok_0 (j - 0) (by omega)
    rw [Nat.sub_add_cancel (show 0 ≤ j by omega)] at this
    exact this
  by_cases h140 : j < 140
  · have := pm_mS_ok_70 (j - 70) (by omega)
    rw [Nat.sub_add_cancel (show 70 ≤ j by omega)] at this
    exact this
  by_cases h210 : j < 210
  · have := pm_mS_ok_140 (j - 140) (by omega)
    rw [Nat.sub_add_cancel (show 140 ≤ j by omega)] at this
    exact this
  have := pm_mS_ok_210 (j - 210) (by omega)
  rw [Nat.sub_add_cancel (show 210 ≤ j by omega)] at this
  exact this
theorem pm_mV_ok_0 : ∀ j, j < 70 → pm_mk (j + 0) = 1 → lw_tbl[pm_plK.getD (j + 0) 0]? = some (.instanceMethod (pm_y (j + 0))) ∧ lw_tbl[pm_plS.getD (j + 0) 0]? = some (.selects (pm_y (j + 0)).cls (pm_y (j + 0)) (pm_y (j + 0))) := by decide +kernel
theorem pm_mV_ok_70 : ∀ j, j < 70 → pm_mk (j + 70) = 1 → lw_tbl[pm_plK.getD (j + 70) 0]? = some (.instanceMethod (pm_y (j + 70))) ∧ lw_tbl[pm_plS.getD (j + 70) 0]? = some (.selects (pm_y (j + 70)).cls (pm_y (j + 70)) (pm_y (j + 70))) := by decide +kernel
theorem pm_mV_ok_140 : ∀ j, j < 70 → pm_mk (j + 140) = 1 → lw_tbl[pm_plK.getD (j + 140) 0]? = some (.instanceMethod (pm_y (j + 140))) ∧ lw_tbl[pm_plS.getD (j + 140) 0]? = some (.selects (pm_y (j + 140)).cls (pm_y (j + 140)) (pm_y (j + 140))) := by decide +kernel
theorem pm_mV_ok_210 : ∀ j, j < 70 → pm_mk (j + 210) = 1 → lw_tbl[pm_plK.getD (j + 210) 0]? = some (.instanceMethod (pm_y (j + 210))) ∧ lw_tbl[pm_plS.getD (j + 210) 0]? = some (.selects (pm_y (j + 210)).cls (pm_y (j + 210)) (pm_y (j + 210))) := by decide +kernel
theorem pm_mV_ok : ∀ j, j < pm_nM → pm_mk j = 1 → lw_tbl[pm_plK.getD j 0]? = some (.instanceMethod (pm_y j)) ∧ lw_tbl[pm_plS.getD j 0]? = some (.selects (pm_y j).cls (pm_y j) (pm_y j)) := by
  intro j h0
  have h0 : j < 280 := h0
  by_cases h70 : j < 70
  · have := pm_mV_ok_0 (j - 0) (by omega)
    rw [Nat.sub_add_cancel (show 0 ≤ j by omega)] at this
    exact this
  by_cases h140 : j < 140
  · have := pm_mV_ok_70 (j - 70) (by omega)
    rw [Nat.sub_add_cancel (show 70 ≤ j by omega)] at this
    exact this
  by_cases h210 : j < 210
  · have := pm_mV_ok_140 (j - 140) (by omega)
    rw [Nat.sub_add_cancel (show 140 ≤ j by omega)] at this
    exact this
  have := pm_mV_ok_210 (j - 210) (by omega)
  rw [Nat.sub_add_cancel (show 210 ≤ j by omega)] at this
  exact this
theorem pm_mI_ok_0 : ∀ j, j < 70 → pm_mk (j + 0) = 2 → lw_tbl[pm_plK.getD (j + 0) 0]? = some (.instanceMethod (pm_y (j + 0))) ∧ (pm_y (j + 0)).name = "<init>" ∧ pm_rt (j + 0) = none := by decide +kernel
theorem pm_mI_ok_70 : ∀ j, j < 70 → pm_mk (j + 70) = 2 → lw_tbl[pm_plK.getD (j + 70) 0]? = some (.instanceMethod (pm_y (j + 70))) ∧ (pm_y (j + 70)).name = "<init>" ∧ pm_rt (j + 70) = none := by decide +kernel
theorem pm_mI_ok_140 : ∀ j, j < 70 → pm_mk (j + 140) = 2 → lw_tbl[pm_plK.getD (j + 140) 0]? = some (.instanceMethod (pm_y (j + 140))) ∧ (pm_y (j + 140)).name = "<init>" ∧ pm_rt (j + 140) = none := by decide +kernel
theorem pm_mI_ok_210 : ∀ j, j < 70 → pm_mk (j + 210) = 2 → lw_tbl[pm_plK.getD (j + 210) 0]? = some (.instanceMethod (pm_y (j + 210))) ∧ (pm_y (j + 210)).name = "<init>" ∧ pm_rt (j + 210) = none := by decide +kernel
theorem pm_mI_ok : ∀ j, j < pm_nM → pm_mk j = 2 → lw_tbl[pm_plK.getD j 0]? = some (.instanceMethod (pm_y j)) ∧ (pm_y j).name = "<init>" ∧ pm_rt j = none := by
  intro j h0
  have h0 : j < 280 := h0
  by_cases h70 : j < 70
  · have := pm_mI_ok_0 (j - 0) (by omega)
    rw [Nat.sub_add_cancel (show 0 ≤ j by omega)] at this
    exact this
  by_cases h140 : j < 140
  · have := pm_mI_ok_70 (j - 70) (by omega)
    rw [Nat.sub_add_cancel (show 70 ≤ j by omega)] at this
    exact this
  by_cases h210 : j < 210
  · have := pm_mI_ok_140 (j - 140) (by omega)
    rw [Nat.sub_add_cancel (show 140 ≤ j by omega)] at this
    exact this
  have := pm_mI_ok_210 (j - 210) (by omega)
  rw [Nat.sub_add_cancel (show 210 ≤ j by omega)] at this
  exact this
/-- links of fields: own class, entry, class, place of the field, place of the word -/
def pm_fl : List (Nat × Nat × Nat × Nat × Nat) := [(3, 9, 3, 0, 110), (11, 92, 3, 0, 111), (10, 32, 3, 0, 112), (3, 15, 3, 1, 113), (3, 19, 3, 2, 114), (11, 105, 3, 2, 115), (5, 9, 5, 0, 142), (1, 49, 5, 0, 143), (5, 15, 5, 1, 144), (1, 52, 5, 1, 145), (5, 40, 5, 2, 146), (1, 87, 5, 2, 147), (11, 263, 5, 2, 148), (5, 18, 5, 3, 149), (1, 97, 5, 3, 150), (5, 22, 5, 4, 151), (1, 94, 5, 4, 152), (5, 25, 5, 5, 153), (5, 28, 5, 6, 154), (5, 31, 5, 7, 155), (5, 43, 5, 8, 156), (6, 107, 5, 8, 157), (5, 46, 5, 9, 158), (6, 112, 5, 9, 159), (5, 49, 5, 10, 160), (1, 68, 5, 10, 161), (6, 65, 5, 10, 162), (11, 268, 5, 10, 163), (5, 52, 5, 11, 164), (6, 70, 5, 11, 165), (1, 78, 5, 11, 166), (11, 271, 5, 11, 167), (5, 55, 5, 12, 168), (6, 117, 5, 12, 169), (1, 125, 5, 12, 170), (11, 274, 5, 12, 171), (5, 58, 5, 13, 172), (6, 119, 5, 13, 173), (1, 122, 5, 13, 174), (11, 277, 5, 13, 175), (5, 61, 5, 14, 176), (6, 75, 5, 14, 177), (1, 131, 5, 14, 178), (11, 280, 5, 14, 179), (5, 64, 5, 15, 180), (6, 104, 5, 15, 181), (1, 144, 5, 15, 182), (11, 283, 5, 15, 183), (5, 67, 5, 16, 184), (6, 80, 5, 16, 185), (11, 286, 5, 16, 186), (5, 34, 5, 17, 187), (5, 70, 5, 18, 188), (6, 87, 5, 18, 189), (6, 9, 6, 0, 229), (6, 15, 6, 1, 230), (11, 235, 6, 1, 231), (6, 19, 6, 2, 232), (11, 253, 6, 2, 233), (6, 25, 6, 3, 234), (1, 45, 1, 0, 253), (1, 11, 1, 1, 254), (1, 17, 1, 2, 255), (11, 238, 1, 2, 256), (1, 22, 1, 3, 257), (1, 26, 1, 4, 258), (2, 34, 1, 4, 259), (1, 29, 1, 5, 260), (2, 39, 1, 5, 261), (11, 292, 1, 5, 262), (1, 33, 1, 6, 263), (11, 295, 1, 6, 264), (1, 36, 1, 7, 265), (2, 40, 1, 7, 266), (11, 298, 1, 7, 267), (1, 39, 1, 8, 268), (11, 301, 1, 8, 269), (1, 42, 1, 9, 270), (2, 9, 2, 0, 298), (11, 321, 2, 0, 299), (2, 15, 2, 1, 300), (2, 19, 2, 2, 301), (2, 22, 2, 3, 302), (2, 25, 2, 4, 303), (8, 9, 8, 0, 322), (11, 347, 8, 0, 323), (8, 15, 8, 1, 324), (11, 355, 8, 1, 325), (8, 19, 8, 2, 326), (11, 352, 8, 2, 327), (8, 22, 8, 3, 328), (11, 348, 8, 3, 329), (8, 26, 8, 4, 330), (10, 9, 10, 0, 349), (11, 390, 10, 0, 350), (10, 15, 10, 1, 351), (10, 19, 10, 2, 352), (10, 22, 10, 3, 353), (10, 25, 10, 4, 354), (10, 28, 10, 5, 355), (4, 9, 4, 0, 375), (11, 408, 4, 0, 376), (4, 15, 4, 1, 377), (11, 421, 4, 1, 378), (9, 9, 9, 0, 391), (11, 196, 9, 0, 392), (9, 15, 9, 1, 393), (11, 403, 9, 1, 394), (9, 18, 9, 2, 395), (11, 435, 9, 2, 396), (11, 12, 11, 0, 404), (11, 18, 11, 1, 405), (11, 22, 11, 2, 406), (11, 28, 11, 3, 407), (11, 32, 11, 4, 408), (11, 35, 11, 5, 409), (11, 41, 11, 6, 410), (11, 50, 11, 7, 411), (11, 57, 11, 8, 412), (11, 64, 11, 9, 413), (11, 68, 11, 10, 414), (11, 74, 11, 11, 415), (11, 81, 11, 12, 416), (11, 87, 11, 13, 417), (7, 50, 7, 0, 511), (4, 35, 7, 0, 512), (2, 45, 7, 0, 513), (11, 124, 7, 0, 514), (7, 53, 7, 1, 515), (8, 52, 7, 1, 516), (11, 134, 7, 1, 517), (7, 56, 7, 2, 518), (2, 29, 7, 2, 519), (8, 41, 7, 2, 520), (4, 30, 7, 2, 521), (1, 86, 7, 2, 522), (11, 137, 7, 2, 523), (7, 59, 7, 3, 524), (8, 46, 7, 3, 525), (4, 47, 7, 3, 526), (5, 81, 7, 3, 527), (11, 140, 7, 3, 528), (7, 62, 7, 4, 529), (1, 63, 7, 4, 530), (11, 143, 7, 4, 531), (5, 93, 7, 4, 532), (7, 65, 7, 5, 533), (11, 146, 7, 5, 534), (5, 90, 7, 5, 535), (1, 128, 7, 5, 536), (7, 9, 7, 6, 537), (8, 49, 7, 6, 538), (4, 41, 7, 6, 539), (11, 131, 7, 6, 540), (7, 15, 7, 7, 541), (1, 75, 7, 7, 542), (11, 149, 7, 7, 543), (7, 18, 7, 8, 544), (11, 152, 7, 8, 545), (7, 21, 7, 9, 546), (11, 155, 7, 9, 547), (7, 24, 7, 10, 548), (11, 158, 7, 10, 549), (7, 27, 7, 11, 550), (7, 30, 7, 12, 551), (7, 33, 7, 13, 552), (7, 36, 7, 14, 553), (7, 40, 7, 15, 554), (7, 43, 7, 16, 555), (11, 361, 7, 16, 556), (7, 47, 7, 17, 557), (11, 454, 7, 17, 558), (0, 13, 0, 0, 730), (7, 73, 0, 0, 731), (0, 17, 0, 1, 732), (7, 79, 0, 1, 733), (1, 102, 0, 1, 734), (11, 228, 0, 1, 735), (0, 20, 0, 2, 736), (5, 99, 0, 2, 737), (11, 223, 0, 2, 738), (0, 23, 0, 3, 739), (7, 76, 0, 3, 740), (0, 26, 0, 4, 741), (7, 82, 0, 4, 742), (0, 7, 0, 5, 743), (7, 68, 0, 5, 744), (12, 187, 12, 0, 1240), (12, 11, 12, 1, 1241), (12, 190, 12, 2, 1242), (12, 15, 12, 3, 1243), (12, 184, 12, 4, 1244), (12, 19, 12, 5, 1245), (12, 22, 12, 6, 1246), (12, 25, 12, 7, 1247), (12, 28, 12, 8, 1248), (12, 31, 12, 9, 1249), (12, 34, 12, 10, 1250), (12, 37, 12, 11, 1251), (12, 40, 12, 12, 1252), (12, 43, 12, 13, 1253), (12, 46, 12, 14, 1254), (12, 49, 12, 15, 1255), (12, 52, 12, 16, 1256), (12, 55, 12, 17, 1257), (12, 180, 12, 18, 1258), (12, 58, 12, 19, 1259), (12, 61, 12, 20, 1260), (12, 64, 12, 21, 1261), (12, 67, 12, 22, 1262), (12, 70, 12, 23, 1263), (12, 241, 12, 24, 1264), (12, 73, 12, 25, 1265), (12, 287, 12, 26, 1266), (12, 76, 12, 27, 1267), (12, 79, 12, 28, 1268), (12, 82, 12, 29, 1269), (12, 85, 12, 30, 1270), (12, 395, 12, 31, 1271), (12, 88, 12, 32, 1272), (12, 91, 12, 33, 1273), (12, 94, 12, 34, 1274), (12, 422, 12, 35, 1275), (12, 97, 12, 36, 1276), (12, 443, 12, 37, 1277), (12, 100, 12, 38, 1278), (12, 103, 12, 39, 1279), (12, 106, 12, 40, 1280), (12, 454, 12, 41, 1281), (12, 109, 12, 42, 1282), (12, 112, 12, 43, 1283), (12, 115, 12, 44, 1284), (12, 296, 12, 45, 1285), (12, 290, 12, 46, 1286), (12, 293, 12, 47, 1287), (12, 299, 12, 48, 1288), (12, 328, 12, 49, 1289), (12, 340, 12, 50, 1290), (12, 346, 12, 51, 1291), (12, 251, 12, 52, 1292), (12, 255, 12, 53, 1293), (12, 261, 12, 54, 1294), (12, 377, 12, 55, 1295), (12, 380, 12, 56, 1296), (12, 371, 12, 57, 1297), (12, 383, 12, 58, 1298), (12, 374, 12, 59, 1299), (12, 119, 12, 60, 1300), (12, 122, 12, 61, 1301), (12, 125, 12, 62, 1302), (12, 361, 12, 63, 1303), (12, 128, 12, 64, 1304), (12, 131, 12, 65, 1305), (12, 134, 12, 66, 1306), (12, 137, 12, 67, 1307), (12, 231, 12, 68, 1308), (12, 407, 12, 69, 1309), (12, 410, 12, 70, 1310), (12, 140, 12, 71, 1311), (12, 143, 12, 72, 1312), (12, 146, 12, 73, 1313), (12, 149, 12, 74, 1314), (12, 152, 12, 75, 1315), (12, 155, 12, 76, 1316), (12, 158, 12, 77, 1317), (12, 161, 12, 78, 1318), (12, 431, 12, 79, 1319), (12, 164, 12, 80, 1320), (12, 167, 12, 81, 1321), (12, 457, 12, 82, 1322), (12, 460, 12, 83, 1323), (12, 170, 12, 84, 1324), (12, 466, 12, 85, 1325), (12, 472, 12, 86, 1326), (12, 173, 12, 87, 1327)]
theorem pm_fl_ok_0 : ∀ e, e < 70 → lw_tbl[(pm_fl.getD (e + 0) (0, 0, 0, 0, 0)).2.2.2.2]? = some (.fieldLink (pm_cn (pm_fl.getD (e + 0) (0, 0, 0, 0, 0)).1) (pm_fl.getD (e + 0) (0, 0, 0, 0, 0)).2.1 (pm_cn (pm_fl.getD (e + 0) (0, 0, 0, 0, 0)).2.2.1) (pm_T (pm_fl.getD (e + 0) (0, 0, 0, 0, 0)).2.2.1 (pm_fl.getD (e + 0) (0, 0, 0, 0, 0)).2.2.2.1).2.1 (pm_T (pm_fl.getD (e + 0) (0, 0, 0, 0, 0)).2.2.1 (pm_fl.getD (e + 0) (0, 0, 0, 0, 0)).2.2.2.1).2.2.1) := by decide +kernel
theorem pm_fl_ok_70 : ∀ e, e < 70 → lw_tbl[(pm_fl.getD (e + 70) (0, 0, 0, 0, 0)).2.2.2.2]? = some (.fieldLink (pm_cn (pm_fl.getD (e + 70) (0, 0, 0, 0, 0)).1) (pm_fl.getD (e + 70) (0, 0, 0, 0, 0)).2.1 (pm_cn (pm_fl.getD (e + 70) (0, 0, 0, 0, 0)).2.2.1) (pm_T (pm_fl.getD (e + 70) (0, 0, 0, 0, 0)).2.2.1 (pm_fl.getD (e + 70) (0, 0, 0, 0, 0)).2.2.2.1).2.1 (pm_T (pm_fl.getD (e + 70) (0, 0, 0, 0, 0)).2.2.1 (pm_fl.getD (e + 70) (0, 0, 0, 0, 0)).2.2.2.1).2.2.1) := by decide +kernel
theorem pm_fl_ok_140 : ∀ e, e < 70 → lw_tbl[(pm_fl.getD (e + 140) (0, 0, 0, 0, 0)).2.2.2.2]? = some (.fieldLink (pm_cn (pm_fl.getD (e + 140) (0, 0, 0, 0, 0)).1) (pm_fl.getD (e + 140) (0, 0, 0, 0, 0)).2.1 (pm_cn (pm_fl.getD (e + 140) (0, 0, 0, 0, 0)).2.2.1) (pm_T (pm_fl.getD (e + 140) (0, 0, 0, 0, 0)).2.2.1 (pm_fl.getD (e + 140) (0, 0, 0, 0, 0)).2.2.2.1).2.1 (pm_T (pm_fl.getD (e + 140) (0, 0, 0, 0, 0)).2.2.1 (pm_fl.getD (e + 140) (0, 0, 0, 0, 0)).2.2.2.1).2.2.1) := by decide +kernel
theorem pm_fl_ok_210 : ∀ e, e < 65 → lw_tbl[(pm_fl.getD (e + 210) (0, 0, 0, 0, 0)).2.2.2.2]? = some (.fieldLink (pm_cn (pm_fl.getD (e + 210) (0, 0, 0, 0, 0)).1) (pm_fl.getD (e + 210) (0, 0, 0, 0, 0)).2.1 (pm_cn (pm_fl.getD (e + 210) (0, 0, 0, 0, 0)).2.2.1) (pm_T (pm_fl.getD (e + 210) (0, 0, 0, 0, 0)).2.2.1 (pm_fl.getD (e + 210) (0, 0, 0, 0, 0)).2.2.2.1).2.1 (pm_T (pm_fl.getD (e + 210) (0, 0, 0, 0, 0)).2.2.1 (pm_fl.getD (e + 210) (0, 0, 0, 0, 0)).2.2.2.1).2.2.1) := by decide +kernel
theorem pm_fl_ok : ∀ e, e < 275 → lw_tbl[(pm_fl.getD e (0, 0, 0, 0, 0)).2.2.2.2]? = some (.fieldLink (pm_cn (pm_fl.getD e (0, 0, 0, 0, 0)).1) (pm_fl.getD e (0, 0, 0, 0, 0)).2.1 (pm_cn (pm_fl.getD e (0, 0, 0, 0, 0)).2.2.1) (pm_T (pm_fl.getD e (0, 0, 0, 0, 0)).2.2.1 (pm_fl.getD e (0, 0, 0, 0, 0)).2.2.2.1).2.1 (pm_T (pm_fl.getD e (0, 0, 0, 0, 0)).2.2.1 (pm_fl.getD e (0, 0, 0, 0, 0)).2.2.2.1).2.2.1) := by
  intro e h0
  have h0 : e < 275 := h0
  by_cases h70 : e < 70
  · have := pm_fl_ok_0 (e - 0) (by omega)
    rw [Nat.sub_add_cancel (show 0 ≤ e by omega)] at this
    exact this
  by_cases h140 : e < 140
  · have := pm_fl_ok_70 (e - 70) (by omega)
    rw [Nat.sub_add_cancel (show 70 ≤ e by omega)] at this
    exact this
  by_cases h210 : e < 210
  · have := pm_fl_ok_140 (e - 140) (by omega)
    rw [Nat.sub_add_cancel (show 140 ≤ e by omega)] at this
    exact this
  have := pm_fl_ok_210 (e - 210) (by omega)
  rw [Nat.sub_add_cancel (show 210 ≤ e by omega)] at this
  exact this
