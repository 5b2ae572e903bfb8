/- WrongsDesk$Act.<init>(IIIII)V: loops at [] -/
def pb_t0 : pm_Tb := [(0, [(.aload_n 0, [0], .null), (.invokespecial 1, [11], .null), (.aload_n 0, [0], .null), (.aconst_null, [], .null), (.putfield 7, [0, 5, 2, 185, 0], .null), (.aload_n 0, [0], .null), (.iload_n 1, [1], .null), (.putfield 13, [0, 0, 0, 172, 1], .null), (.aload_n 0, [0], .null), (.iload_n 2, [2], .null), (.putfield 17, [0, 1, 0, 174, 1], .null), (.aload_n 0, [0], .null), (.iload_n 3, [3], .null), (.putfield 20, [0, 2, 0, 178, 1], .null), (.aload_n 0, [0], .null), (.iload 4, [4], .null), (.putfield 23, [0, 3, 0, 181, 1], .null), (.aload_n 0, [0], .null), (.iload 5, [5], .null), (.putfield 26, [0, 4, 0, 183, 1], .null), (.return_, [], .null)], 37, 1)]
theorem pb_c0 : pm_tok 0 pb_t0 = true := by decide +kernel
theorem pb_B0 : (pm_mL 0 = 6) ∧
  pm_lk pb_t0 0 = ([(.aload_n 0, [0], .null), (.invokespecial 1, [11], .null), (.aload_n 0, [0], .null), (.aconst_null, [], .null), (.putfield 7, [0, 5, 2, 185, 0], .null), (.aload_n 0, [0], .null), (.iload_n 1, [1], .null), (.putfield 13, [0, 0, 0, 172, 1], .null), (.aload_n 0, [0], .null), (.iload_n 2, [2], .null), (.putfield 17, [0, 1, 0, 174, 1], .null), (.aload_n 0, [0], .null), (.iload_n 3, [3], .null), (.putfield 20, [0, 2, 0, 178, 1], .null), (.aload_n 0, [0], .null), (.iload 4, [4], .null), (.putfield 23, [0, 3, 0, 181, 1], .null), (.aload_n 0, [0], .null), (.iload 5, [5], .null), (.putfield 26, [0, 4, 0, 183, 1], .null), (.return_, [], .null)], 37, 1) := ⟨rfl, rfl⟩
/- WrongsDesk$Bench.<init>(LWrongsDesk$Days;)V: loops at [] -/
def pb_t1 : pm_Tb := [(0, [(.aload_n 0, [0], .null), (.invokespecial 3, [4], .null), (.aload_n 0, [0], .null), (.bipush 12, [], .int 12), (.anewarray 9, [24, 12, 6, 13, 291], .int 12), (.putfield 11, [1, 1, 2, 61, 1], .null), (.aload_n 0, [0], .null), (.iconst 0, [], .int 0), (.putfield 17, [1, 2, 0, 62, 0], .null), (.aload_n 0, [0], .null), (.new 9, [5, 6, 19, 13, 291], .null), (.dup, [], .null), (.invokespecial 21, [32, 5, 4, 0, 6, 210, 13, 291], .null), (.putfield 22, [1, 3, 2, 64, 1], .null), (.aload_n 0, [0], .null), (.iconst 0, [], .int 0), (.putfield 26, [1, 4, 0, 65, 0], .null), (.aload_n 0, [0], .null), (.bipush 10, [], .int 10), (.newarray .int, [20, 10, 0, 13, 291], .int 10), (.putfield 29, [1, 5, 2, 67, 1], .null), (.aload_n 0, [0], .null), (.bipush 10, [], .int 10), (.newarray .int, [20, 10, 0, 13, 291], .int 10), (.putfield 33, [1, 6, 2, 70, 1], .null), (.aload_n 0, [0], .null), (.bipush 10, [], .int 10), (.newarray .int, [20, 10, 0, 13, 291], .int 10), (.putfield 36, [1, 7, 2, 72, 1], .null), (.aload_n 0, [0], .null), (.bipush 10, [], .int 10), (.newarray .int, [20, 10, 0, 13, 291], .int 10), (.putfield 39, [1, 8, 2, 75, 1], .null), (.aload_n 0, [0], .null), (.bipush 10, [], .int 10), (.newarray .int, [20, 10, 0, 13, 291], .int 10), (.putfield 42, [1, 9, 2, 77, 1], .null), (.aload_n 0, [0], .null), (.aload_n 1, [1], .null), (.putfield 45, [1, 0, 2, 60, 1], .null), (.return_, [], .null)], 80, 1)]
theorem pb_c1 : pm_tok 1 pb_t1 = true := by decide +kernel
theorem pb_B1 : (pm_mL 1 = 2) ∧
  pm_lk pb_t1 0 = ([(.aload_n 0, [0], .null), (.invokespecial 3, [4], .null), (.aload_n 0, [0], .null), (.bipush 12, [], .int 12), (.anewarray 9, [24, 12, 6, 13, 291], .int 12), (.putfield 11, [1, 1, 2, 61, 1], .null), (.aload_n 0, [0], .null), (.iconst 0, [], .int 0), (.putfield 17, [1, 2, 0, 62, 0], .null), (.aload_n 0, [0], .null), (.new 9, [5, 6, 19, 13, 291], .null), (.dup, [], .null), (.invokespecial 21, [32, 5, 4, 0, 6, 210, 13, 291], .null), (.putfield 22, [1, 3, 2, 64, 1], .null), (.aload_n 0, [0], .null), (.iconst 0, [], .int 0), (.putfield 26, [1, 4, 0, 65, 0], .null), (.aload_n 0, [0], .null), (.bipush 10, [], .int 10), (.newarray .int, [20, 10, 0, 13, 291], .int 10), (.putfield 29, [1, 5, 2, 67, 1], .null), (.aload_n 0, [0], .null), (.bipush 10, [], .int 10), (.newarray .int, [20, 10, 0, 13, 291], .int 10), (.putfield 33, [1, 6, 2, 70, 1], .null), (.aload_n 0, [0], .null), (.bipush 10, [], .int 10), (.newarray .int, [20, 10, 0, 13, 291], .int 10), (.putfield 36, [1, 7, 2, 72, 1], .null), (.aload_n 0, [0], .null), (.bipush 10, [], .int 10), (.newarray .int, [20, 10, 0, 13, 291], .int 10), (.putfield 39, [1, 8, 2, 75, 1], .null), (.aload_n 0, [0], .null), (.bipush 10, [], .int 10), (.newarray .int, [20, 10, 0, 13, 291], .int 10), (.putfield 42, [1, 9, 2, 77, 1], .null), (.aload_n 0, [0], .null), (.aload_n 1, [1], .null), (.putfield 45, [1, 0, 2, 60, 1], .null), (.return_, [], .null)], 80, 1) := ⟨rfl, rfl⟩
/- WrongsDesk$Bench.inReach(LWrongsDesk$Matter;I)Z: loops at [] -/
def pb_t2 : pm_Tb := [(0, [(.aload_n 0, [0], .null), (.iconst (-1), [], .int (-1)), (.iload_n 2, [2], .null), (.invokevirtual 59, [3, 1, 26, 2, 3], .null), (.astore_n 3, [3], .null), (.iload_n 2, [2], .null), (.aload_n 1, [1], .null), (.getfield 63, [7, 4, 0, 143], .null), (.isub, [], .null), (.aload_n 3, [3], .null), (.getfield 68, [5, 10, 0, 25], .null), (.if_icmp .gt 16, [33, 0], .null), (.aload_n 3, [3], .null), (.aload_n 1, [1], .null), (.iload_n 2, [2], .null), (.invokevirtual 71, [34, 5, 28, 2, 1], .null), (.ifCond .eq 7, [33, 0], .null), (.iconst 1, [], .int 1), (.goto 4, [34, 0], .null)], 33, 1),
  (33, [(.iconst 0, [], .int 0)], 34, 0),
  (34, [(.ireturn, [1], .null)], 35, 1)]
theorem pb_c2 : pm_tok 2 pb_t2 = true := by decide +kernel
theorem pb_B2 : (pm_mL 2 = 4) ∧
  pm_lk pb_t2 0 = ([(.aload_n 0, [0], .null), (.iconst (-1), [], .int (-1)), (.iload_n 2, [2], .null), (.invokevirtual 59, [3, 1, 26, 2, 3], .null), (.astore_n 3, [3], .null), (.iload_n 2, [2], .null), (.aload_n 1, [1], .null), (.getfield 63, [7, 4, 0, 143], .null), (.isub, [], .null), (.aload_n 3, [3], .null), (.getfield 68, [5, 10, 0, 25], .null), (.if_icmp .gt 16, [33, 0], .null), (.aload_n 3, [3], .null), (.aload_n 1, [1], .null), (.iload_n 2, [2], .null), (.invokevirtual 71, [34, 5, 28, 2, 1], .null), (.ifCond .eq 7, [33, 0], .null), (.iconst 1, [], .int 1), (.goto 4, [34, 0], .null)], 33, 1) ∧
  pm_lk pb_t2 33 = ([(.iconst 0, [], .int 0)], 34, 0) ∧
  pm_lk pb_t2 34 = ([(.ireturn, [1], .null)], 35, 1) := ⟨rfl, rfl, rfl, rfl⟩
/- WrongsDesk$Bench.lawOn(II)LWrongsDesk$Law;: loops at [] -/
def pb_t3 : pm_Tb := [(0, [(.aload_n 0, [0], .null), (.iload_n 1, [1], .null), (.iload_n 2, [2], .null), (.invokevirtual 55, [4, 1, 27, 2, 1], .null), (.istore_n 3, [3], .null), (.iload_n 3, [3], .null), (.ifCond .ge 10, [18, 0], .null), (.aload_n 0, [0], .null), (.getfield 22, [1, 3, 2, 64], .null), (.goto 9, [24, 0], .null)], 18, 1),
  (18, [(.aload_n 0, [0], .null), (.getfield 11, [1, 1, 2, 61], .null), (.iload_n 3, [3], .null), (.aaload, [24], .null)], 24, 0),
  (24, [(.areturn, [], .null)], 25, 1)]
theorem pb_c3 : pm_tok 3 pb_t3 = true := by decide +kernel
theorem pb_B3 : (pm_mL 3 = 4) ∧
  pm_lk pb_t3 0 = ([(.aload_n 0, [0], .null), (.iload_n 1, [1], .null), (.iload_n 2, [2], .null), (.invokevirtual 55, [4, 1, 27, 2, 1], .null), (.istore_n 3, [3], .null), (.iload_n 3, [3], .null), (.ifCond .ge 10, [18, 0], .null), (.aload_n 0, [0], .null), (.getfield 22, [1, 3, 2, 64], .null), (.goto 9, [24, 0], .null)], 18, 1) ∧
  pm_lk pb_t3 18 = ([(.aload_n 0, [0], .null), (.getfield 11, [1, 1, 2, 61], .null), (.iload_n 3, [3], .null), (.aaload, [24], .null)], 24, 0) ∧
  pm_lk pb_t3 24 = ([(.areturn, [], .null)], 25, 1) := ⟨rfl, rfl, rfl, rfl⟩
/- WrongsDesk$Bench.lawNumber(II)I: loops at [5] -/
def pb_t4 : pm_Tb := [(0, [(.iconst (-1), [], .int (-1)), (.istore_n 3, [3], .null), (.iconst 0, [], .int 0), (.istore 4, [4], .null)], 5, 1),
  (5, [(.iload 4, [4], .null), (.aload_n 0, [0], .null), (.getfield 17, [1, 2, 0, 62], .null), (.if_icmp .ge 78, [89, 0], .null), (.aload_n 0, [0], .null), (.getfield 11, [1, 1, 2, 61], .null), (.iload 4, [4], .null), (.aaload, [24], .null), (.getfield 49, [5, 0, 0, 7], .null), (.iload_n 1, [1], .null), (.if_icmp .ne 21, [46, 0], .null), (.aload_n 0, [0], .null), (.getfield 11, [1, 1, 2, 61], .null), (.iload 4, [4], .null), (.aaload, [24], .null), (.getfield 52, [5, 1, 0, 9], .null), (.iload_n 2, [2], .null), (.if_icmp .gt 7, [46, 0], .null), (.iconst 1, [], .int 1), (.goto 4, [47, 0], .null)], 46, 1),
  (46, [(.iconst 0, [], .int 0)], 47, 0),
  (47, [(.istore 5, [5], .null), (.iload 5, [5], .null), (.ifCond .eq 32, [83, 0], .null), (.iload_n 3, [3], .null), (.ifCond .lt 25, [80, 0], .null), (.aload_n 0, [0], .null), (.getfield 11, [1, 1, 2, 61], .null), (.iload 4, [4], .null), (.aaload, [24], .null), (.getfield 52, [5, 1, 0, 9], .null), (.aload_n 0, [0], .null), (.getfield 11, [1, 1, 2, 61], .null), (.iload_n 3, [3], .null), (.aaload, [24], .null), (.getfield 52, [5, 1, 0, 9], .null), (.if_icmp .lt 6, [83, 0], .null)], 80, 0),
  (80, [(.iload 4, [4], .null), (.istore_n 3, [3], .null)], 83, 0),
  (83, [(.iinc 4 1, [4], .int 1), (.goto (-81), [5, 1], .null)], 89, 1),
  (89, [(.iload_n 3, [3], .null), (.ireturn, [0], .null)], 91, 1)]
theorem pb_c4 : pm_tok 4 pb_t4 = true := by decide +kernel
theorem pb_B4 : (pm_mL 4 = 6) ∧
  pm_lk pb_t4 0 = ([(.iconst (-1), [], .int (-1)), (.istore_n 3, [3], .null), (.iconst 0, [], .int 0), (.istore 4, [4], .null)], 5, 1) ∧
  pm_lk pb_t4 5 = ([(.iload 4, [4], .null), (.aload_n 0, [0], .null), (.getfield 17, [1, 2, 0, 62], .null), (.if_icmp .ge 78, [89, 0], .null), (.aload_n 0, [0], .null), (.getfield 11, [1, 1, 2, 61], .null), (.iload 4, [4], .null), (.aaload, [24], .null), (.getfield 49, [5, 0, 0, 7], .null), (.iload_n 1, [1], .null), (.if_icmp .ne 21, [46, 0], .null), (.aload_n 0, [0], .null), (.getfield 11, [1, 1, 2, 61], .null), (.iload 4, [4], .null), (.aaload, [24], .null), (.getfield 52, [5, 1, 0, 9], .null), (.iload_n 2, [2], .null), (.if_icmp .gt 7, [46, 0], .null), (.iconst 1, [], .int 1), (.goto 4, [47, 0], .null)], 46, 1) ∧
  pm_lk pb_t4 46 = ([(.iconst 0, [], .int 0)], 47, 0) ∧
  pm_lk pb_t4 47 = ([(.istore 5, [5], .null), (.iload 5, [5], .null), (.ifCond .eq 32, [83, 0], .null), (.iload_n 3, [3], .null), (.ifCond .lt 25, [80, 0], .null), (.aload_n 0, [0], .null), (.getfield 11, [1, 1, 2, 61], .null), (.iload 4, [4], .null), (.aaload, [24], .null), (.getfield 52, [5, 1, 0, 9], .null), (.aload_n 0, [0], .null), (.getfield 11, [1, 1, 2, 61], .null), (.iload_n 3, [3], .null), (.aaload, [24], .null), (.getfield 52, [5, 1, 0, 9], .null), (.if_icmp .lt 6, [83, 0], .null)], 80, 0) ∧
  pm_lk pb_t4 80 = ([(.iload 4, [4], .null), (.istore_n 3, [3], .null)], 83, 0) ∧
  pm_lk pb_t4 83 = ([(.iinc 4 1, [4], .int 1), (.goto (-81), [5, 1], .null)], 89, 1) ∧
  pm_lk pb_t4 89 = ([(.iload_n 3, [3], .null), (.ireturn, [0], .null)], 91, 1) := ⟨rfl, rfl, rfl, rfl, rfl, rfl, rfl, rfl⟩
/- WrongsDesk$Bench.endOf(LWrongsDesk$Matter;)I: loops at [] -/
def pb_t5 : pm_Tb := [(0, [(.aload_n 0, [0], .null), (.getfield 45, [1, 0, 2, 60], .null), (.aload_n 1, [1], .null), (.getfield 75, [7, 7, 0, 155], .null), (.aload_n 0, [0], .null), (.iconst (-1), [], .int (-1)), (.aload_n 1, [1], .null), (.getfield 75, [7, 7, 0, 155], .null), (.invokevirtual 59, [3, 1, 26, 2, 3], .null), (.getfield 78, [5, 11, 0, 30], .null), (.invokevirtual 81, [24, 3, 35, 2, 1], .null), (.ireturn, [0], .null)], 24, 1)]
theorem pb_c5 : pm_tok 5 pb_t5 = true := by decide +kernel
theorem pb_B5 : (pm_mL 5 = 2) ∧
  pm_lk pb_t5 0 = ([(.aload_n 0, [0], .null), (.getfield 45, [1, 0, 2, 60], .null), (.aload_n 1, [1], .null), (.getfield 75, [7, 7, 0, 155], .null), (.aload_n 0, [0], .null), (.iconst (-1), [], .int (-1)), (.aload_n 1, [1], .null), (.getfield 75, [7, 7, 0, 155], .null), (.invokevirtual 59, [3, 1, 26, 2, 3], .null), (.getfield 78, [5, 11, 0, 30], .null), (.invokevirtual 81, [24, 3, 35, 2, 1], .null), (.ireturn, [0], .null)], 24, 1) := ⟨rfl, rfl⟩
/- WrongsDesk$Bench.lateOrLacking(LWrongsDesk$Matter;I)I: loops at [12] -/
def pb_t6 : pm_Tb := [(0, [(.aload_n 0, [0], .null), (.aload_n 1, [1], .null), (.iload_n 2, [2], .null), (.invokevirtual 115, [7, 1, 38, 2, 1], .null), (.pop, [], .null), (.iconst 0, [], .int 0), (.istore_n 3, [3], .null), (.iconst 0, [], .int 0), (.istore 4, [4], .null)], 12, 1),
  (12, [(.iload 4, [4], .null), (.aload_n 0, [0], .null), (.getfield 26, [1, 4, 0, 65], .null), (.if_icmp .ge 21, [39, 0], .null), (.aload_n 0, [0], .null), (.iload 4, [4], .null), (.invokevirtual 119, [9, 1, 43, 1, 1], .null), (.ifCond .eq 6, [33, 0], .null), (.iinc 3 1, [3], .int 1)], 33, 0),
  (33, [(.iinc 4 1, [4], .int 1), (.goto (-24), [12, 1], .null)], 39, 1),
  (39, [(.iload_n 3, [3], .null), (.ireturn, [0], .null)], 41, 1)]
theorem pb_c6 : pm_tok 6 pb_t6 = true := by decide +kernel
theorem pb_B6 : (pm_mL 6 = 5) ∧
  pm_lk pb_t6 0 = ([(.aload_n 0, [0], .null), (.aload_n 1, [1], .null), (.iload_n 2, [2], .null), (.invokevirtual 115, [7, 1, 38, 2, 1], .null), (.pop, [], .null), (.iconst 0, [], .int 0), (.istore_n 3, [3], .null), (.iconst 0, [], .int 0), (.istore 4, [4], .null)], 12, 1) ∧
  pm_lk pb_t6 12 = ([(.iload 4, [4], .null), (.aload_n 0, [0], .null), (.getfield 26, [1, 4, 0, 65], .null), (.if_icmp .ge 21, [39, 0], .null), (.aload_n 0, [0], .null), (.iload 4, [4], .null), (.invokevirtual 119, [9, 1, 43, 1, 1], .null), (.ifCond .eq 6, [33, 0], .null), (.iinc 3 1, [3], .int 1)], 33, 0) ∧
  pm_lk pb_t6 33 = ([(.iinc 4 1, [4], .int 1), (.goto (-24), [12, 1], .null)], 39, 1) ∧
  pm_lk pb_t6 39 = ([(.iload_n 3, [3], .null), (.ireturn, [0], .null)], 41, 1) := ⟨rfl, rfl, rfl, rfl, rfl⟩
/- WrongsDesk$Bench.weigh(LWrongsDesk$Matter;I)I: loops at [21] -/
def pb_t7 : pm_Tb := [(0, [(.aload_n 0, [0], .null), (.aload_n 1, [1], .null), (.getfield 86, [7, 2, 0, 135], .null), (.aload_n 1, [1], .null), (.getfield 63, [7, 4, 0, 143], .null), (.invokevirtual 59, [3, 1, 26, 2, 3], .null), (.astore_n 3, [3], .null), (.aload_n 0, [0], .null), (.iconst 0, [], .int 0), (.putfield 26, [1, 4, 0, 65, 0], .null), (.iconst 0, [], .int 0), (.istore 4, [4], .null)], 21, 1),
  (21, [(.iload 4, [4], .null), (.aload_n 3, [3], .null), (.getfield 87, [5, 2, 0, 11], .null), (.if_icmp .ge 146, [173, 0], .null), (.aload_n 3, [3], .null), (.iload 4, [4], .null), (.aload_n 1, [1], .null), (.iload_n 2, [2], .null), (.invokevirtual 90, [37, 5, 39, 3, 1], .null), (.ifCond .eq 129, [167, 0], .null), (.aload_n 0, [0], .null), (.getfield 45, [1, 0, 2, 60], .null), (.aload_n 1, [1], .null), (.getfield 63, [7, 4, 0, 143], .null), (.aload_n 3, [3], .null), (.getfield 94, [5, 4, 2, 16], .null), (.iload 4, [4], .null), (.iaload, [], .null), (.invokevirtual 81, [24, 3, 35, 2, 1], .null), (.istore 5, [5], .null), (.aload_n 1, [1], .null), (.aload_n 3, [3], .null), (.getfield 97, [5, 3, 2, 14], .null), (.iload 4, [4], .null), (.iaload, [], .null), (.iload_n 2, [2], .null), (.invokevirtual 98, [59, 7, 40, 2, 3], .null), (.astore 6, [6], .null), (.aload_n 0, [0], .null), (.getfield 29, [1, 5, 2, 67], .null), (.aload_n 0, [0], .null), (.getfield 26, [1, 4, 0, 65], .null), (.aload_n 3, [3], .null), (.getfield 97, [5, 3, 2, 14], .null), (.iload 4, [4], .null), (.iaload, [], .null), (.iastore, [], .null), (.aload_n 0, [0], .null), (.getfield 33, [1, 6, 2, 70], .null), (.aload_n 0, [0], .null), (.getfield 26, [1, 4, 0, 65], .null), (.iload 5, [5], .null), (.iastore, [], .null), (.aload_n 0, [0], .null), (.getfield 39, [1, 8, 2, 75], .null), (.aload_n 0, [0], .null), (.getfield 26, [1, 4, 0, 65], .null), (.iload 4, [4], .null), (.iastore, [], .null), (.aload_n 0, [0], .null), (.getfield 42, [1, 9, 2, 77], .null), (.aload_n 0, [0], .null), (.getfield 26, [1, 4, 0, 65], .null), (.aload 6, [6], .null), (.ifnonnull 7, [130, 0], .null), (.iconst 0, [], .int 0), (.goto 11, [138, 0], .null)], 130, 1),
  (130, [(.aload 6, [6], .null), (.getfield 102, [0, 1, 0, 176], .null), (.iload 5, [5], .null), (.isub, [], .null)], 138, 0),
  (138, [(.iastore, [], .null), (.aload_n 0, [0], .null), (.getfield 36, [1, 7, 2, 72], .null), (.aload_n 0, [0], .null), (.getfield 26, [1, 4, 0, 65], .null), (.aload_n 1, [1], .null), (.iload_n 2, [2], .null), (.iload 5, [5], .null), (.aload 6, [6], .null), (.invokestatic 107, [8, 41, 4, 1], .null), (.iastore, [], .null), (.aload_n 0, [0], .null), (.dup, [], .null), (.getfield 26, [1, 4, 0, 65], .null), (.iconst 1, [], .int 1), (.iadd, [], .null), (.putfield 26, [1, 4, 0, 65, 0], .null)], 167, 0),
  (167, [(.iinc 4 1, [4], .int 1), (.goto (-149), [21, 1], .null)], 173, 1),
  (173, [(.aload_n 0, [0], .null), (.getfield 26, [1, 4, 0, 65], .null), (.ireturn, [0], .null)], 178, 1)]
theorem pb_c7 : pm_tok 7 pb_t7 = true := by decide +kernel
theorem pb_B7 : (pm_mL 7 = 7) ∧
  pm_lk pb_t7 0 = ([(.aload_n 0, [0], .null), (.aload_n 1, [1], .null), (.getfield 86, [7, 2, 0, 135], .null), (.aload_n 1, [1], .null), (.getfield 63, [7, 4, 0, 143], .null), (.invokevirtual 59, [3, 1, 26, 2, 3], .null), (.astore_n 3, [3], .null), (.aload_n 0, [0], .null), (.iconst 0, [], .int 0), (.putfield 26, [1, 4, 0, 65, 0], .null), (.iconst 0, [], .int 0), (.istore 4, [4], .null)], 21, 1) ∧
  pm_lk pb_t7 21 = ([(.iload 4, [4], .null), (.aload_n 3, [3], .null), (.getfield 87, [5, 2, 0, 11], .null), (.if_icmp .ge 146, [173, 0], .null), (.aload_n 3, [3], .null), (.iload 4, [4], .null), (.aload_n 1, [1], .null), (.iload_n 2, [2], .null), (.invokevirtual 90, [37, 5, 39, 3, 1], .null), (.ifCond .eq 129, [167, 0], .null), (.aload_n 0, [0], .null), (.getfield 45, [1, 0, 2, 60], .null), (.aload_n 1, [1], .null), (.getfield 63, [7, 4, 0, 143], .null), (.aload_n 3, [3], .null), (.getfield 94, [5, 4, 2, 16], .null), (.iload 4, [4], .null), (.iaload, [], .null), (.invokevirtual 81, [24, 3, 35, 2, 1], .null), (.istore 5, [5], .null), (.aload_n 1, [1], .null), (.aload_n 3, [3], .null), (.getfield 97, [5, 3, 2, 14], .null), (.iload 4, [4], .null), (.iaload, [], .null), (.iload_n 2, [2], .null), (.invokevirtual 98, [59, 7, 40, 2, 3], .null), (.astore 6, [6], .null), (.aload_n 0, [0], .null), (.getfield 29, [1, 5, 2, 67], .null), (.aload_n 0, [0], .null), (.getfield 26, [1, 4, 0, 65], .null), (.aload_n 3, [3], .null), (.getfield 97, [5, 3, 2, 14], .null), (.iload 4, [4], .null), (.iaload, [], .null), (.iastore, [], .null), (.aload_n 0, [0], .null), (.getfield 33, [1, 6, 2, 70], .null), (.aload_n 0, [0], .null), (.getfield 26, [1, 4, 0, 65], .null), (.iload 5, [5], .null), (.iastore, [], .null), (.aload_n 0, [0], .null), (.getfield 39, [1, 8, 2, 75], .null), (.aload_n 0, [0], .null), (.getfield 26, [1, 4, 0, 65], .null), (.iload 4, [4], .null), (.iastore, [], .null), (.aload_n 0, [0], .null), (.getfield 42, [1, 9, 2, 77], .null), (.aload_n 0, [0], .null), (.getfield 26, [1, 4, 0, 65], .null), (.aload 6, [6], .null), (.ifnonnull 7, [130, 0], .null), (.iconst 0, [], .int 0), (.goto 11, [138, 0], .null)], 130, 1) ∧
  pm_lk pb_t7 130 = ([(.aload 6, [6], .null), (.getfield 102, [0, 1, 0, 176], .null), (.iload 5, [5], .null), (.isub, [], .null)], 138, 0) ∧
  pm_lk pb_t7 138 = ([(.iastore, [], .null), (.aload_n 0, [0], .null), (.getfield 36, [1, 7, 2, 72], .null), (.aload_n 0, [0], .null), (.getfield 26, [1, 4, 0, 65], .null), (.aload_n 1, [1], .null), (.iload_n 2, [2], .null), (.iload 5, [5], .null), (.aload 6, [6], .null), (.invokestatic 107, [8, 41, 4, 1], .null), (.iastore, [], .null), (.aload_n 0, [0], .null), (.dup, [], .null), (.getfield 26, [1, 4, 0, 65], .null), (.iconst 1, [], .int 1), (.iadd, [], .null), (.putfield 26, [1, 4, 0, 65, 0], .null)], 167, 0) ∧
  pm_lk pb_t7 167 = ([(.iinc 4 1, [4], .int 1), (.goto (-149), [21, 1], .null)], 173, 1) ∧
  pm_lk pb_t7 173 = ([(.aload_n 0, [0], .null), (.getfield 26, [1, 4, 0, 65], .null), (.ireturn, [0], .null)], 178, 1) := ⟨rfl, rfl, rfl, rfl, rfl, rfl, rfl⟩
/- WrongsDesk$Bench.wrongOf(LWrongsDesk$Matter;IILWrongsDesk$Act;)I: loops at [] -/
def pb_t8 : pm_Tb := [(0, [(.aload_n 3, [3], .null), (.ifnull 17, [18, 0], .null), (.aload_n 3, [3], .null), (.getfield 102, [0, 1, 0, 176], .null), (.iload_n 2, [2], .null), (.if_icmp .le 7, [16, 0], .null), (.iconst 1, [], .int 1), (.goto 4, [17, 0], .null)], 16, 1),
  (16, [(.iconst 0, [], .int 0)], 17, 0),
  (17, [(.ireturn, [0], .null)], 18, 1),
  (18, [(.iload_n 1, [1], .null), (.iload_n 2, [2], .null), (.if_icmp .gt 5, [25, 0], .null), (.iconst 0, [], .int 0), (.ireturn, [0], .null)], 25, 1),
  (25, [(.aload_n 0, [0], .null), (.iload_n 1, [1], .null), (.invokevirtual 111, [61, 7, 42, 1, 1], .null), (.ifCond .eq 7, [37, 0], .null), (.iconst 3, [], .int 3), (.goto 4, [38, 0], .null)], 37, 1),
  (37, [(.iconst 2, [], .int 2)], 38, 0),
  (38, [(.ireturn, [0], .null)], 39, 1)]
theorem pb_c8 : pm_tok 8 pb_t8 = true := by decide +kernel
theorem pb_B8 : (pm_mL 8 = 4) ∧
  pm_lk pb_t8 0 = ([(.aload_n 3, [3], .null), (.ifnull 17, [18, 0], .null), (.aload_n 3, [3], .null), (.getfield 102, [0, 1, 0, 176], .null), (.iload_n 2, [2], .null), (.if_icmp .le 7, [16, 0], .null), (.iconst 1, [], .int 1), (.goto 4, [17, 0], .null)], 16, 1) ∧
  pm_lk pb_t8 16 = ([(.iconst 0, [], .int 0)], 17, 0) ∧
  pm_lk pb_t8 17 = ([(.ireturn, [0], .null)], 18, 1) ∧
  pm_lk pb_t8 18 = ([(.iload_n 1, [1], .null), (.iload_n 2, [2], .null), (.if_icmp .gt 5, [25, 0], .null), (.iconst 0, [], .int 0), (.ireturn, [0], .null)], 25, 1) ∧
  pm_lk pb_t8 25 = ([(.aload_n 0, [0], .null), (.iload_n 1, [1], .null), (.invokevirtual 111, [61, 7, 42, 1, 1], .null), (.ifCond .eq 7, [37, 0], .null), (.iconst 3, [], .int 3), (.goto 4, [38, 0], .null)], 37, 1) ∧
  pm_lk pb_t8 37 = ([(.iconst 2, [], .int 2)], 38, 0) ∧
  pm_lk pb_t8 38 = ([(.ireturn, [0], .null)], 39, 1) := ⟨rfl, rfl, rfl, rfl, rfl, rfl, rfl, rfl⟩
/- WrongsDesk$Bench.isLateOrLacks(I)Z: loops at [] -/
def pb_t9 : pm_Tb := [(0, [(.aload_n 0, [0], .null), (.getfield 36, [1, 7, 2, 72], .null), (.iload_n 1, [1], .null), (.iaload, [], .null), (.iconst 1, [], .int 1), (.if_icmp .eq 13, [20, 0], .null), (.aload_n 0, [0], .null), (.getfield 36, [1, 7, 2, 72], .null), (.iload_n 1, [1], .null), (.iaload, [], .null), (.iconst 2, [], .int 2), (.if_icmp .ne 7, [24, 0], .null)], 20, 0),
  (20, [(.iconst 1, [], .int 1), (.goto 4, [25, 0], .null)], 24, 1),
  (24, [(.iconst 0, [], .int 0)], 25, 0),
  (25, [(.ireturn, [1], .null)], 26, 1)]
theorem pb_c9 : pm_tok 9 pb_t9 = true := by decide +kernel
theorem pb_B9 : (pm_mL 9 = 2) ∧
  pm_lk pb_t9 0 = ([(.aload_n 0, [0], .null), (.getfield 36, [1, 7, 2, 72], .null), (.iload_n 1, [1], .null), (.iaload, [], .null), (.iconst 1, [], .int 1), (.if_icmp .eq 13, [20, 0], .null), (.aload_n 0, [0], .null), (.getfield 36, [1, 7, 2, 72], .null), (.iload_n 1, [1], .null), (.iaload, [], .null), (.iconst 2, [], .int 2), (.if_icmp .ne 7, [24, 0], .null)], 20, 0) ∧
  pm_lk pb_t9 20 = ([(.iconst 1, [], .int 1), (.goto 4, [25, 0], .null)], 24, 1) ∧
  pm_lk pb_t9 24 = ([(.iconst 0, [], .int 0)], 25, 0) ∧
  pm_lk pb_t9 25 = ([(.ireturn, [1], .null)], 26, 1) := ⟨rfl, rfl, rfl, rfl, rfl⟩
/- WrongsDesk$Bench.adopt(LWrongsDesk$Law;II)I: loops at [] -/
def pb_t10 : pm_Tb := [(0, [(.aload_n 0, [0], .null), (.getfield 17, [1, 2, 0, 62], .null), (.bipush 12, [], .int 12), (.if_icmp .lt 6, [12, 0], .null), (.bipush (-4), [], .int (-4)), (.ireturn, [0], .null)], 12, 1),
  (12, [(.aload_n 1, [1], .null), (.iload_n 2, [2], .null), (.putfield 49, [5, 0, 0, 7, 0], .null), (.aload_n 1, [1], .null), (.iload_n 3, [3], .null), (.putfield 52, [5, 1, 0, 9, 0], .null), (.aload_n 0, [0], .null), (.getfield 11, [1, 1, 2, 61], .null), (.aload_n 0, [0], .null), (.getfield 17, [1, 2, 0, 62], .null), (.aload_n 1, [1], .null), (.aastore, [24, 5], .null), (.aload_n 0, [0], .null), (.dup, [], .null), (.getfield 17, [1, 2, 0, 62], .null), (.iconst 1, [], .int 1), (.iadd, [], .null), (.putfield 17, [1, 2, 0, 62, 0], .null), (.aload_n 0, [0], .null), (.getfield 17, [1, 2, 0, 62], .null), (.iconst 1, [], .int 1), (.isub, [], .null), (.ireturn, [0], .null)], 49, 1)]
theorem pb_c10 : pm_tok 10 pb_t10 = true := by decide +kernel
theorem pb_B10 : (pm_mL 10 = 4) ∧
  pm_lk pb_t10 0 = ([(.aload_n 0, [0], .null), (.getfield 17, [1, 2, 0, 62], .null), (.bipush 12, [], .int 12), (.if_icmp .lt 6, [12, 0], .null), (.bipush (-4), [], .int (-4)), (.ireturn, [0], .null)], 12, 1) ∧
  pm_lk pb_t10 12 = ([(.aload_n 1, [1], .null), (.iload_n 2, [2], .null), (.putfield 49, [5, 0, 0, 7, 0], .null), (.aload_n 1, [1], .null), (.iload_n 3, [3], .null), (.putfield 52, [5, 1, 0, 9, 0], .null), (.aload_n 0, [0], .null), (.getfield 11, [1, 1, 2, 61], .null), (.aload_n 0, [0], .null), (.getfield 17, [1, 2, 0, 62], .null), (.aload_n 1, [1], .null), (.aastore, [24, 5], .null), (.aload_n 0, [0], .null), (.dup, [], .null), (.getfield 17, [1, 2, 0, 62], .null), (.iconst 1, [], .int 1), (.iadd, [], .null), (.putfield 17, [1, 2, 0, 62, 0], .null), (.aload_n 0, [0], .null), (.getfield 17, [1, 2, 0, 62], .null), (.iconst 1, [], .int 1), (.isub, [], .null), (.ireturn, [0], .null)], 49, 1) := ⟨rfl, rfl, rfl⟩
/- WrongsDesk$Bench.goodOf(LWrongsDesk$Matter;I)I: loops at [20] -/
def pb_t11 : pm_Tb := [(0, [(.aload_n 0, [0], .null), (.aload_n 1, [1], .null), (.iload_n 2, [2], .null), (.invokevirtual 115, [7, 1, 38, 2, 1], .null), (.pop, [], .null), (.aload_n 0, [0], .null), (.iconst (-1), [], .int (-1)), (.iload_n 2, [2], .null), (.invokevirtual 59, [3, 1, 26, 2, 3], .null), (.astore_n 3, [3], .null), (.lconst 0, [], .long 0), (.lstore 4, [4], .null), (.iconst 0, [], .int 0), (.istore 6, [6], .null)], 20, 1),
  (20, [(.iload 6, [6], .null), (.aload_n 0, [0], .null), (.getfield 26, [1, 4, 0, 65], .null), (.if_icmp .ge 75, [101, 0], .null), (.aload_n 0, [0], .null), (.getfield 36, [1, 7, 2, 72], .null), (.iload 6, [6], .null), (.iaload, [], .null), (.iconst 1, [], .int 1), (.if_icmp .ne 37, [74, 0], .null), (.aload_n 3, [3], .null), (.getfield 122, [5, 13, 0, 38], .null), (.ifCond .le 30, [74, 0], .null), (.lload 4, [4], .null), (.aload_n 3, [3], .null), (.getfield 125, [5, 12, 0, 34], .null), (.i2l, [], .null), (.aload_n 0, [0], .null), (.getfield 42, [1, 9, 2, 77], .null), (.iload 6, [6], .null), (.iaload, [], .null), (.aload_n 3, [3], .null), (.getfield 122, [5, 13, 0, 38], .null), (.idiv, [], .null), (.i2l, [], .null), (.lmul, [], .null), (.ladd, [], .null), (.lstore 4, [4], .null), (.goto 24, [95, 0], .null)], 74, 1),
  (74, [(.aload_n 0, [0], .null), (.getfield 36, [1, 7, 2, 72], .null), (.iload 6, [6], .null), (.iaload, [], .null), (.iconst 2, [], .int 2), (.if_icmp .ne 13, [95, 0], .null), (.lload 4, [4], .null), (.aload_n 1, [1], .null), (.getfield 128, [7, 5, 0, 149], .null), (.i2l, [], .null), (.ladd, [], .null), (.lstore 4, [4], .null)], 95, 0),
  (95, [(.iinc 6 1, [6], .int 1), (.goto (-78), [20, 1], .null)], 101, 1),
  (101, [(.lload 4, [4], .null), (.aload_n 1, [1], .null), (.getfield 128, [7, 5, 0, 149], .null), (.aload_n 3, [3], .null), (.getfield 131, [5, 14, 0, 42], .null), (.invokestatic 134, [91, 112], .null), (.i2l, [], .null), (.invokestatic 139, [92, 113], .null), (.lstore 4, [4], .null), (.iload_n 2, [2], .null), (.aload_n 1, [1], .null), (.getfield 63, [7, 4, 0, 143], .null), (.isub, [], .null), (.sipush 365, [], .int 365), (.idiv, [], .null), (.i2l, [], .null), (.lstore 6, [6], .null), (.lload 4, [4], .null), (.ldc2_w 142, [1], .long 1000), (.aload_n 3, [3], .null), (.getfield 144, [5, 15, 0, 46], .null), (.i2l, [], .null), (.lload 6, [6], .null), (.lmul, [], .null), (.ladd, [], .null), (.lmul, [], .null), (.ldc2_w 142, [1], .long 1000), (.ldiv, [], .null), (.l2i, [], .null), (.ireturn, [0], .null)], 154, 1)]
theorem pb_c11 : pm_tok 11 pb_t11 = true := by decide +kernel
theorem pb_B11 : (pm_mL 11 = 8) ∧
  pm_lk pb_t11 0 = ([(.aload_n 0, [0], .null), (.aload_n 1, [1], .null), (.iload_n 2, [2], .null), (.invokevirtual 115, [7, 1, 38, 2, 1], .null), (.pop, [], .null), (.aload_n 0, [0], .null), (.iconst (-1), [], .int (-1)), (.iload_n 2, [2], .null), (.invokevirtual 59, [3, 1, 26, 2, 3], .null), (.astore_n 3, [3], .null), (.lconst 0, [], .long 0), (.lstore 4, [4], .null), (.iconst 0, [], .int 0), (.istore 6, [6], .null)], 20, 1) ∧
  pm_lk pb_t11 20 = ([(.iload 6, [6], .null), (.aload_n 0, [0], .null), (.getfield 26, [1, 4, 0, 65], .null), (.if_icmp .ge 75, [101, 0], .null), (.aload_n 0, [0], .null), (.getfield 36, [1, 7, 2, 72], .null), (.iload 6, [6], .null), (.iaload, [], .null), (.iconst 1, [], .int 1), (.if_icmp .ne 37, [74, 0], .null), (.aload_n 3, [3], .null), (.getfield 122, [5, 13, 0, 38], .null), (.ifCond .le 30, [74, 0], .null), (.lload 4, [4], .null), (.aload_n 3, [3], .null), (.getfield 125, [5, 12, 0, 34], .null), (.i2l, [], .null), (.aload_n 0, [0], .null), (.getfield 42, [1, 9, 2, 77], .null), (.iload 6, [6], .null), (.iaload, [], .null), (.aload_n 3, [3], .null), (.getfield 122, [5, 13, 0, 38], .null), (.idiv, [], .null), (.i2l, [], .null), (.lmul, [], .null), (.ladd, [], .null), (.lstore 4, [4], .null), (.goto 24, [95, 0], .null)], 74, 1) ∧
  pm_lk pb_t11 74 = ([(.aload_n 0, [0], .null), (.getfield 36, [1, 7, 2, 72], .null), (.iload 6, [6], .null), (.iaload, [], .null), (.iconst 2, [], .int 2), (.if_icmp .ne 13, [95, 0], .null), (.lload 4, [4], .null), (.aload_n 1, [1], .null), (.getfield 128, [7, 5, 0, 149], .null), (.i2l, [], .null), (.ladd, [], .null), (.lstore 4, [4], .null)], 95, 0) ∧
  pm_lk pb_t11 95 = ([(.iinc 6 1, [6], .int 1), (.goto (-78), [20, 1], .null)], 101, 1) ∧
  pm_lk pb_t11 101 = ([(.lload 4, [4], .null), (.aload_n 1, [1], .null), (.getfield 128, [7, 5, 0, 149], .null), (.aload_n 3, [3], .null), (.getfield 131, [5, 14, 0, 42], .null), (.invokestatic 134, [91, 112], .null), (.i2l, [], .null), (.invokestatic 139, [92, 113], .null), (.lstore 4, [4], .null), (.iload_n 2, [2], .null), (.aload_n 1, [1], .null), (.getfield 63, [7, 4, 0, 143], .null), (.isub, [], .null), (.sipush 365, [], .int 365), (.idiv, [], .null), (.i2l, [], .null), (.lstore 6, [6], .null), (.lload 4, [4], .null), (.ldc2_w 142, [1], .long 1000), (.aload_n 3, [3], .null), (.getfield 144, [5, 15, 0, 46], .null), (.i2l, [], .null), (.lload 6, [6], .null), (.lmul, [], .null), (.ladd, [], .null), (.lmul, [], .null), (.ldc2_w 142, [1], .long 1000), (.ldiv, [], .null), (.l2i, [], .null), (.ireturn, [0], .null)], 154, 1) := ⟨rfl, rfl, rfl, rfl, rfl, rfl⟩
/- WrongsDesk$Bench.wrongSet(LWrongsDesk$Matter;I)I: loops at [12] -/
def pb_t12 : pm_Tb := [(0, [(.aload_n 0, [0], .null), (.aload_n 1, [1], .null), (.iload_n 2, [2], .null), (.invokevirtual 115, [7, 1, 38, 2, 1], .null), (.pop, [], .null), (.iconst 0, [], .int 0), (.istore_n 3, [3], .null), (.iconst 0, [], .int 0), (.istore 4, [4], .null)], 12, 1),
  (12, [(.iload 4, [4], .null), (.aload_n 0, [0], .null), (.getfield 26, [1, 4, 0, 65], .null), (.if_icmp .ge 40, [58, 0], .null), (.aload_n 0, [0], .null), (.iload 4, [4], .null), (.invokevirtual 119, [9, 1, 43, 1, 1], .null), (.ifCond .eq 25, [52, 0], .null), (.iload_n 3, [3], .null), (.iconst 1, [], .int 1), (.iconst 2, [], .int 2), (.aload_n 0, [0], .null), (.getfield 29, [1, 5, 2, 67], .null), (.iload 4, [4], .null), (.iaload, [], .null), (.imul, [], .null), (.aload_n 0, [0], .null), (.getfield 36, [1, 7, 2, 72], .null), (.iload 4, [4], .null), (.iaload, [], .null), (.iadd, [], .null), (.ishl, [], .null), (.ior, [], .null), (.istore_n 3, [3], .null)], 52, 0),
  (52, [(.iinc 4 1, [4], .int 1), (.goto (-43), [12, 1], .null)], 58, 1),
  (58, [(.iload_n 3, [3], .null), (.ireturn, [0], .null)], 60, 1)]
theorem pb_c12 : pm_tok 12 pb_t12 = true := by decide +kernel
theorem pb_B12 : (pm_mL 12 = 5) ∧
  pm_lk pb_t12 0 = ([(.aload_n 0, [0], .null), (.aload_n 1, [1], .null), (.iload_n 2, [2], .null), (.invokevirtual 115, [7, 1, 38, 2, 1], .null), (.pop, [], .null), (.iconst 0, [], .int 0), (.istore_n 3, [3], .null), (.iconst 0, [], .int 0), (.istore 4, [4], .null)], 12, 1) ∧
  pm_lk pb_t12 12 = ([(.iload 4, [4], .null), (.aload_n 0, [0], .null), (.getfield 26, [1, 4, 0, 65], .null), (.if_icmp .ge 40, [58, 0], .null), (.aload_n 0, [0], .null), (.iload 4, [4], .null), (.invokevirtual 119, [9, 1, 43, 1, 1], .null), (.ifCond .eq 25, [52, 0], .null), (.iload_n 3, [3], .null), (.iconst 1, [], .int 1), (.iconst 2, [], .int 2), (.aload_n 0, [0], .null), (.getfield 29, [1, 5, 2, 67], .null), (.iload 4, [4], .null), (.iaload, [], .null), (.imul, [], .null), (.aload_n 0, [0], .null), (.getfield 36, [1, 7, 2, 72], .null), (.iload 4, [4], .null), (.iaload, [], .null), (.iadd, [], .null), (.ishl, [], .null), (.ior, [], .null), (.istore_n 3, [3], .null)], 52, 0) ∧
  pm_lk pb_t12 52 = ([(.iinc 4 1, [4], .int 1), (.goto (-43), [12, 1], .null)], 58, 1) ∧
  pm_lk pb_t12 58 = ([(.iload_n 3, [3], .null), (.ireturn, [0], .null)], 60, 1) := ⟨rfl, rfl, rfl, rfl, rfl⟩
/- WrongsDesk$Causes.<init>()V: loops at [] -/
def pb_t13 : pm_Tb := [(0, [(.aload_n 0, [0], .null), (.invokespecial 3, [5], .null), (.aload_n 0, [0], .null), (.iconst 0, [], .int 0), (.putfield 9, [2, 0, 0, 78, 0], .null), (.aload_n 0, [0], .null), (.bipush 12, [], .int 12), (.newarray .int, [20, 12, 0, 4, 48], .int 12), (.putfield 15, [2, 1, 2, 80, 1], .null), (.aload_n 0, [0], .null), (.bipush 12, [], .int 12), (.newarray .int, [20, 12, 0, 4, 48], .int 12), (.putfield 19, [2, 2, 2, 81, 1], .null), (.aload_n 0, [0], .null), (.bipush 12, [], .int 12), (.newarray .int, [20, 12, 0, 4, 48], .int 12), (.putfield 22, [2, 3, 2, 82, 1], .null), (.aload_n 0, [0], .null), (.bipush 12, [], .int 12), (.newarray .long, [21, 12, 0, 4, 48], .int 12), (.putfield 25, [2, 4, 2, 83, 1], .null), (.return_, [], .null)], 42, 1)]
theorem pb_c13 : pm_tok 13 pb_t13 = true := by decide +kernel
theorem pb_B13 : (pm_mL 13 = 1) ∧
  pm_lk pb_t13 0 = ([(.aload_n 0, [0], .null), (.invokespecial 3, [5], .null), (.aload_n 0, [0], .null), (.iconst 0, [], .int 0), (.putfield 9, [2, 0, 0, 78, 0], .null), (.aload_n 0, [0], .null), (.bipush 12, [], .int 12), (.newarray .int, [20, 12, 0, 4, 48], .int 12), (.putfield 15, [2, 1, 2, 80, 1], .null), (.aload_n 0, [0], .null), (.bipush 12, [], .int 12), (.newarray .int, [20, 12, 0, 4, 48], .int 12), (.putfield 19, [2, 2, 2, 81, 1], .null), (.aload_n 0, [0], .null), (.bipush 12, [], .int 12), (.newarray .int, [20, 12, 0, 4, 48], .int 12), (.putfield 22, [2, 3, 2, 82, 1], .null), (.aload_n 0, [0], .null), (.bipush 12, [], .int 12), (.newarray .long, [21, 12, 0, 4, 48], .int 12), (.putfield 25, [2, 4, 2, 83, 1], .null), (.return_, [], .null)], 42, 1) := ⟨rfl, rfl⟩
/- WrongsDesk$Causes.add(III)Z: loops at [] -/
def pb_t14 : pm_Tb := [(0, [(.aload_n 0, [0], .null), (.getfield 9, [2, 0, 0, 78], .null), (.bipush 12, [], .int 12), (.if_icmp .lt 5, [11, 0], .null), (.iconst 0, [], .int 0), (.ireturn, [1], .null)], 11, 1),
  (11, [(.aload_n 0, [0], .null), (.getfield 15, [2, 1, 2, 80], .null), (.aload_n 0, [0], .null), (.getfield 9, [2, 0, 0, 78], .null), (.iload_n 1, [1], .null), (.iastore, [], .null), (.aload_n 0, [0], .null), (.getfield 19, [2, 2, 2, 81], .null), (.aload_n 0, [0], .null), (.getfield 9, [2, 0, 0, 78], .null), (.iload_n 2, [2], .null), (.iastore, [], .null), (.aload_n 0, [0], .null), (.getfield 22, [2, 3, 2, 82], .null), (.aload_n 0, [0], .null), (.getfield 9, [2, 0, 0, 78], .null), (.iload_n 3, [3], .null), (.iastore, [], .null), (.aload_n 0, [0], .null), (.dup, [], .null), (.getfield 9, [2, 0, 0, 78], .null), (.iconst 1, [], .int 1), (.iadd, [], .null), (.putfield 9, [2, 0, 0, 78, 0], .null), (.iconst 1, [], .int 1), (.ireturn, [1], .null)], 53, 1)]
theorem pb_c14 : pm_tok 14 pb_t14 = true := by decide +kernel
theorem pb_B14 : (pm_mL 14 = 4) ∧
  pm_lk pb_t14 0 = ([(.aload_n 0, [0], .null), (.getfield 9, [2, 0, 0, 78], .null), (.bipush 12, [], .int 12), (.if_icmp .lt 5, [11, 0], .null), (.iconst 0, [], .int 0), (.ireturn, [1], .null)], 11, 1) ∧
  pm_lk pb_t14 11 = ([(.aload_n 0, [0], .null), (.getfield 15, [2, 1, 2, 80], .null), (.aload_n 0, [0], .null), (.getfield 9, [2, 0, 0, 78], .null), (.iload_n 1, [1], .null), (.iastore, [], .null), (.aload_n 0, [0], .null), (.getfield 19, [2, 2, 2, 81], .null), (.aload_n 0, [0], .null), (.getfield 9, [2, 0, 0, 78], .null), (.iload_n 2, [2], .null), (.iastore, [], .null), (.aload_n 0, [0], .null), (.getfield 22, [2, 3, 2, 82], .null), (.aload_n 0, [0], .null), (.getfield 9, [2, 0, 0, 78], .null), (.iload_n 3, [3], .null), (.iastore, [], .null), (.aload_n 0, [0], .null), (.dup, [], .null), (.getfield 9, [2, 0, 0, 78], .null), (.iconst 1, [], .int 1), (.iadd, [], .null), (.putfield 9, [2, 0, 0, 78, 0], .null), (.iconst 1, [], .int 1), (.ireturn, [1], .null)], 53, 1) := ⟨rfl, rfl, rfl⟩
/- WrongsDesk$Causes.touches(ILWrongsDesk$Matter;LWrongsDesk$Bench;)Z: loops at [28] -/
def pb_t15 : pm_Tb := [(0, [(.aload_n 0, [0], .null), (.getfield 15, [2, 1, 2, 80], .null), (.iload_n 1, [1], .null), (.iaload, [], .null), (.iconst (-1), [], .int (-1)), (.if_icmp .eq 18, [25, 0], .null), (.aload_n 0, [0], .null), (.getfield 15, [2, 1, 2, 80], .null), (.iload_n 1, [1], .null), (.iaload, [], .null), (.aload_n 2, [2], .null), (.getfield 29, [7, 2, 0, 132], .null), (.if_icmp .eq 5, [25, 0], .null), (.iconst 0, [], .int 0), (.ireturn, [1], .null)], 25, 1),
  (25, [(.iconst 0, [], .int 0), (.istore 4, [4], .null)], 28, 1),
  (28, [(.iload 4, [4], .null), (.aload_n 3, [3], .null), (.getfield 34, [1, 4, 0, 66], .null), (.if_icmp .ge 103, [137, 0], .null), (.aload_n 0, [0], .null), (.getfield 19, [2, 2, 2, 81], .null), (.iload_n 1, [1], .null), (.iaload, [], .null), (.ifCond .eq 19, [62, 0], .null), (.aload_n 0, [0], .null), (.getfield 19, [2, 2, 2, 81], .null), (.iload_n 1, [1], .null), (.iaload, [], .null), (.aload_n 3, [3], .null), (.getfield 39, [1, 5, 2, 68], .null), (.iload 4, [4], .null), (.iaload, [], .null), (.if_icmp .ne 7, [66, 0], .null)], 62, 0),
  (62, [(.iconst 1, [], .int 1), (.goto 4, [67, 0], .null)], 66, 1),
  (66, [(.iconst 0, [], .int 0)], 67, 0),
  (67, [(.istore 5, [5], .null), (.aload_n 0, [0], .null), (.getfield 22, [2, 3, 2, 82], .null), (.iload_n 1, [1], .null), (.iaload, [], .null), (.ifCond .ne 21, [96, 0], .null), (.aload_n 3, [3], .null), (.getfield 40, [1, 7, 2, 73], .null), (.iload 4, [4], .null), (.iaload, [], .null), (.ifCond .eq 7, [92, 0], .null), (.iconst 1, [], .int 1), (.goto 28, [117, 0], .null)], 92, 1),
  (92, [(.iconst 0, [], .int 0), (.goto 24, [117, 0], .null)], 96, 1),
  (96, [(.aload_n 0, [0], .null), (.getfield 22, [2, 3, 2, 82], .null), (.iload_n 1, [1], .null), (.iaload, [], .null), (.aload_n 3, [3], .null), (.getfield 40, [1, 7, 2, 73], .null), (.iload 4, [4], .null), (.iaload, [], .null), (.if_icmp .ne 7, [116, 0], .null), (.iconst 1, [], .int 1), (.goto 4, [117, 0], .null)], 116, 1),
  (116, [(.iconst 0, [], .int 0)], 117, 0),
  (117, [(.istore 6, [6], .null), (.iload 5, [5], .null), (.ifCond .eq 10, [131, 0], .null), (.iload 6, [6], .null), (.ifCond .eq 5, [131, 0], .null), (.iconst 1, [], .int 1), (.ireturn, [1], .null)], 131, 1),
  (131, [(.iinc 4 1, [4], .int 1), (.goto (-106), [28, 1], .null)], 137, 1),
  (137, [(.iconst 0, [], .int 0), (.ireturn, [1], .null)], 139, 1)]
theorem pb_c15 : pm_tok 15 pb_t15 = true := by decide +kernel
theorem pb_B15 : (pm_mL 15 = 7) ∧
  pm_lk pb_t15 0 = ([(.aload_n 0, [0], .null), (.getfield 15, [2, 1, 2, 80], .null), (.iload_n 1, [1], .null), (.iaload, [], .null), (.iconst (-1), [], .int (-1)), (.if_icmp .eq 18, [25, 0], .null), (.aload_n 0, [0], .null), (.getfield 15, [2, 1, 2, 80], .null), (.iload_n 1, [1], .null), (.iaload, [], .null), (.aload_n 2, [2], .null), (.getfield 29, [7, 2, 0, 132], .null), (.if_icmp .eq 5, [25, 0], .null), (.iconst 0, [], .int 0), (.ireturn, [1], .null)], 25, 1) ∧
  pm_lk pb_t15 25 = ([(.iconst 0, [], .int 0), (.istore 4, [4], .null)], 28, 1) ∧
  pm_lk pb_t15 28 = ([(.iload 4, [4], .null), (.aload_n 3, [3], .null), (.getfield 34, [1, 4, 0, 66], .null), (.if_icmp .ge 103, [137, 0], .null), (.aload_n 0, [0], .null), (.getfield 19, [2, 2, 2, 81], .null), (.iload_n 1, [1], .null), (.iaload, [], .null), (.ifCond .eq 19, [62, 0], .null), (.aload_n 0, [0], .null), (.getfield 19, [2, 2, 2, 81], .null), (.iload_n 1, [1], .null), (.iaload, [], .null), (.aload_n 3, [3], .null), (.getfield 39, [1, 5, 2, 68], .null), (.iload 4, [4], .null), (.iaload, [], .null), (.if_icmp .ne 7, [66, 0], .null)], 62, 0) ∧
  pm_lk pb_t15 62 = ([(.iconst 1, [], .int 1), (.goto 4, [67, 0], .null)], 66, 1) ∧
  pm_lk pb_t15 66 = ([(.iconst 0, [], .int 0)], 67, 0) ∧
  pm_lk pb_t15 67 = ([(.istore 5, [5], .null), (.aload_n 0, [0], .null), (.getfield 22, [2, 3, 2, 82], .null), (.iload_n 1, [1], .null), (.iaload, [], .null), (.ifCond .ne 21, [96, 0], .null), (.aload_n 3, [3], .null), (.getfield 40, [1, 7, 2, 73], .null), (.iload 4, [4], .null), (.iaload, [], .null), (.ifCond .eq 7, [92, 0], .null), (.iconst 1, [], .int 1), (.goto 28, [117, 0], .null)], 92, 1) ∧
  pm_lk pb_t15 92 = ([(.iconst 0, [], .int 0), (.goto 24, [117, 0], .null)], 96, 1) ∧
  pm_lk pb_t15 96 = ([(.aload_n 0, [0], .null), (.getfield 22, [2, 3, 2, 82], .null), (.iload_n 1, [1], .null), (.iaload, [], .null), (.aload_n 3, [3], .null), (.getfield 40, [1, 7, 2, 73], .null), (.iload 4, [4], .null), (.iaload, [], .null), (.if_icmp .ne 7, [116, 0], .null), (.iconst 1, [], .int 1), (.goto 4, [117, 0], .null)], 116, 1) ∧
  pm_lk pb_t15 116 = ([(.iconst 0, [], .int 0)], 117, 0) ∧
  pm_lk pb_t15 117 = ([(.istore 6, [6], .null), (.iload 5, [5], .null), (.ifCond .eq 10, [131, 0], .null), (.iload 6, [6], .null), (.ifCond .eq 5, [131, 0], .null), (.iconst 1, [], .int 1), (.ireturn, [1], .null)], 131, 1) ∧
  pm_lk pb_t15 131 = ([(.iinc 4 1, [4], .int 1), (.goto (-106), [28, 1], .null)], 137, 1) ∧
  pm_lk pb_t15 137 = ([(.iconst 0, [], .int 0), (.ireturn, [1], .null)], 139, 1) := ⟨rfl, rfl, rfl, rfl, rfl, rfl, rfl, rfl, rfl, rfl, rfl, rfl, rfl⟩
/- WrongsDesk$Causes.forget()V: loops at [2] -/
def pb_t16 : pm_Tb := [(0, [(.iconst 0, [], .int 0), (.istore_n 1, [1], .null)], 2, 1),
  (2, [(.iload_n 1, [1], .null), (.bipush 12, [], .int 12), (.if_icmp .ge 16, [21, 0], .null), (.aload_n 0, [0], .null), (.getfield 25, [2, 4, 2, 83], .null), (.iload_n 1, [1], .null), (.lconst 0, [], .long 0), (.lastore, [], .null), (.iinc 1 1, [1], .int 1), (.goto (-16), [2, 1], .null)], 21, 1),
  (21, [(.return_, [], .null)], 22, 1)]
theorem pb_c16 : pm_tok 16 pb_t16 = true := by decide +kernel
theorem pb_B16 : (pm_mL 16 = 2) ∧
  pm_lk pb_t16 0 = ([(.iconst 0, [], .int 0), (.istore_n 1, [1], .null)], 2, 1) ∧
  pm_lk pb_t16 2 = ([(.iload_n 1, [1], .null), (.bipush 12, [], .int 12), (.if_icmp .ge 16, [21, 0], .null), (.aload_n 0, [0], .null), (.getfield 25, [2, 4, 2, 83], .null), (.iload_n 1, [1], .null), (.lconst 0, [], .long 0), (.lastore, [], .null), (.iinc 1 1, [1], .int 1), (.goto (-16), [2, 1], .null)], 21, 1) ∧
  pm_lk pb_t16 21 = ([(.return_, [], .null)], 22, 1) := ⟨rfl, rfl, rfl, rfl⟩
/- WrongsDesk$Causes.note(LWrongsDesk$Matter;LWrongsDesk$Bench;)V: loops at [2] -/
def pb_t17 : pm_Tb := [(0, [(.iconst 0, [], .int 0), (.istore_n 3, [3], .null)], 2, 1),
  (2, [(.iload_n 3, [3], .null), (.aload_n 0, [0], .null), (.getfield 9, [2, 0, 0, 78], .null), (.if_icmp .ge 34, [41, 0], .null), (.aload_n 0, [0], .null), (.iload_n 3, [3], .null), (.aload_n 1, [1], .null), (.aload_n 2, [2], .null), (.invokevirtual 41, [15, 2, 127, 3, 1], .null), (.ifCond .eq 18, [35, 0], .null), (.aload_n 0, [0], .null), (.getfield 25, [2, 4, 2, 83], .null), (.iload_n 3, [3], .null), (.dup2, [], .null), (.laload, [], .null), (.lconst 1, [], .long 1), (.aload_n 1, [1], .null), (.getfield 45, [7, 0, 0, 126], .null), (.lshl, [], .null), (.lor, [], .null), (.lastore, [], .null)], 35, 0),
  (35, [(.iinc 3 1, [3], .int 1), (.goto (-36), [2, 1], .null)], 41, 1),
  (41, [(.return_, [], .null)], 42, 1)]
theorem pb_c17 : pm_tok 17 pb_t17 = true := by decide +kernel
theorem pb_B17 : (pm_mL 17 = 4) ∧
  pm_lk pb_t17 0 = ([(.iconst 0, [], .int 0), (.istore_n 3, [3], .null)], 2, 1) ∧
  pm_lk pb_t17 2 = ([(.iload_n 3, [3], .null), (.aload_n 0, [0], .null), (.getfield 9, [2, 0, 0, 78], .null), (.if_icmp .ge 34, [41, 0], .null), (.aload_n 0, [0], .null), (.iload_n 3, [3], .null), (.aload_n 1, [1], .null), (.aload_n 2, [2], .null), (.invokevirtual 41, [15, 2, 127, 3, 1], .null), (.ifCond .eq 18, [35, 0], .null), (.aload_n 0, [0], .null), (.getfield 25, [2, 4, 2, 83], .null), (.iload_n 3, [3], .null), (.dup2, [], .null), (.laload, [], .null), (.lconst 1, [], .long 1), (.aload_n 1, [1], .null), (.getfield 45, [7, 0, 0, 126], .null), (.lshl, [], .null), (.lor, [], .null), (.lastore, [], .null)], 35, 0) ∧
  pm_lk pb_t17 35 = ([(.iinc 3 1, [3], .int 1), (.goto (-36), [2, 1], .null)], 41, 1) ∧
  pm_lk pb_t17 41 = ([(.return_, [], .null)], 42, 1) := ⟨rfl, rfl, rfl, rfl, rfl⟩
/- WrongsDesk$Causes.leastCover()I: loops at [27] -/
def pb_t18 : pm_Tb := [(0, [(.iconst 1, [], .int 1), (.aload_n 0, [0], .null), (.getfield 9, [2, 0, 0, 78], .null), (.ishl, [], .null), (.iconst 1, [], .int 1), (.isub, [], .null), (.istore_n 1, [1], .null), (.aload_n 0, [0], .null), (.iload_n 1, [1], .null), (.invokevirtual 48, [19, 2, 129, 1, 2], .null), (.lstore_n 2, [2], .null), (.iload_n 1, [1], .null), (.istore 4, [4], .null), (.aload_n 0, [0], .null), (.getfield 9, [2, 0, 0, 78], .null), (.istore 5, [5], .null), (.iconst 0, [], .int 0), (.istore 6, [6], .null)], 27, 1),
  (27, [(.iload 6, [6], .null), (.iload_n 1, [1], .null), (.if_icmp .ge 46, [76, 0], .null), (.iload 5, [5], .null), (.ifCond .le 41, [76, 0], .null), (.iload 6, [6], .null), (.invokestatic 52, [264, 130, 1, 1], .null), (.iload 5, [5], .null), (.if_icmp .ge 25, [70, 0], .null), (.aload_n 0, [0], .null), (.iload 6, [6], .null), (.invokevirtual 48, [19, 2, 129, 1, 2], .null), (.lload_n 2, [2], .null), (.lcmp, [], .null), (.ifCond .ne 14, [70, 0], .null), (.iload 6, [6], .null), (.istore 4, [4], .null), (.iload 6, [6], .null), (.invokestatic 52, [264, 130, 1, 1], .null), (.istore 5, [5], .null)], 70, 0),
  (70, [(.iinc 6 1, [6], .int 1), (.goto (-46), [27, 1], .null)], 76, 1),
  (76, [(.iload 4, [4], .null), (.ireturn, [0], .null)], 79, 1)]
theorem pb_c18 : pm_tok 18 pb_t18 = true := by decide +kernel
theorem pb_B18 : (pm_mL 18 = 7) ∧
  pm_lk pb_t18 0 = ([(.iconst 1, [], .int 1), (.aload_n 0, [0], .null), (.getfield 9, [2, 0, 0, 78], .null), (.ishl, [], .null), (.iconst 1, [], .int 1), (.isub, [], .null), (.istore_n 1, [1], .null), (.aload_n 0, [0], .null), (.iload_n 1, [1], .null), (.invokevirtual 48, [19, 2, 129, 1, 2], .null), (.lstore_n 2, [2], .null), (.iload_n 1, [1], .null), (.istore 4, [4], .null), (.aload_n 0, [0], .null), (.getfield 9, [2, 0, 0, 78], .null), (.istore 5, [5], .null), (.iconst 0, [], .int 0), (.istore 6, [6], .null)], 27, 1) ∧
  pm_lk pb_t18 27 = ([(.iload 6, [6], .null), (.iload_n 1, [1], .null), (.if_icmp .ge 46, [76, 0], .null), (.iload 5, [5], .null), (.ifCond .le 41, [76, 0], .null), (.iload 6, [6], .null), (.invokestatic 52, [264, 130, 1, 1], .null), (.iload 5, [5], .null), (.if_icmp .ge 25, [70, 0], .null), (.aload_n 0, [0], .null), (.iload 6, [6], .null), (.invokevirtual 48, [19, 2, 129, 1, 2], .null), (.lload_n 2, [2], .null), (.lcmp, [], .null), (.ifCond .ne 14, [70, 0], .null), (.iload 6, [6], .null), (.istore 4, [4], .null), (.iload 6, [6], .null), (.invokestatic 52, [264, 130, 1, 1], .null), (.istore 5, [5], .null)], 70, 0) ∧
  pm_lk pb_t18 70 = ([(.iinc 6 1, [6], .int 1), (.goto (-46), [27, 1], .null)], 76, 1) ∧
  pm_lk pb_t18 76 = ([(.iload 4, [4], .null), (.ireturn, [0], .null)], 79, 1) := ⟨rfl, rfl, rfl, rfl, rfl⟩
/- WrongsDesk$Causes.cover(I)J: loops at [5] -/
def pb_t19 : pm_Tb := [(0, [(.lconst 0, [], .long 0), (.lstore_n 2, [2], .null), (.iconst 0, [], .int 0), (.istore 4, [4], .null)], 5, 1),
  (5, [(.iload 4, [4], .null), (.aload_n 0, [0], .null), (.getfield 9, [2, 0, 0, 78], .null), (.if_icmp .ge 29, [40, 0], .null), (.iload_n 1, [1], .null), (.iload 4, [4], .null), (.ishr, [], .null), (.iconst 1, [], .int 1), (.iand, [], .null), (.iconst 1, [], .int 1), (.if_icmp .ne 13, [34, 0], .null), (.lload_n 2, [2], .null), (.aload_n 0, [0], .null), (.getfield 25, [2, 4, 2, 83], .null), (.iload 4, [4], .null), (.laload, [], .null), (.lor, [], .null), (.lstore_n 2, [2], .null)], 34, 0),
  (34, [(.iinc 4 1, [4], .int 1), (.goto (-32), [5, 1], .null)], 40, 1),
  (40, [(.lload_n 2, [2], .null), (.lreturn, [], .null)], 42, 1)]
theorem pb_c19 : pm_tok 19 pb_t19 = true := by decide +kernel
theorem pb_B19 : (pm_mL 19 = 5) ∧
  pm_lk pb_t19 0 = ([(.lconst 0, [], .long 0), (.lstore_n 2, [2], .null), (.iconst 0, [], .int 0), (.istore 4, [4], .null)], 5, 1) ∧
  pm_lk pb_t19 5 = ([(.iload 4, [4], .null), (.aload_n 0, [0], .null), (.getfield 9, [2, 0, 0, 78], .null), (.if_icmp .ge 29, [40, 0], .null), (.iload_n 1, [1], .null), (.iload 4, [4], .null), (.ishr, [], .null), (.iconst 1, [], .int 1), (.iand, [], .null), (.iconst 1, [], .int 1), (.if_icmp .ne 13, [34, 0], .null), (.lload_n 2, [2], .null), (.aload_n 0, [0], .null), (.getfield 25, [2, 4, 2, 83], .null), (.iload 4, [4], .null), (.laload, [], .null), (.lor, [], .null), (.lstore_n 2, [2], .null)], 34, 0) ∧
  pm_lk pb_t19 34 = ([(.iinc 4 1, [4], .int 1), (.goto (-32), [5, 1], .null)], 40, 1) ∧
  pm_lk pb_t19 40 = ([(.lload_n 2, [2], .null), (.lreturn, [], .null)], 42, 1) := ⟨rfl, rfl, rfl, rfl, rfl⟩
/- WrongsDesk$Days.<init>()V: loops at [] -/
def pb_t20 : pm_Tb := [(0, [(.aload_n 0, [0], .null), (.invokespecial 3, [1], .null), (.aload_n 0, [0], .null), (.iconst 0, [], .int 0), (.putfield 9, [3, 0, 0, 0, 0], .null), (.aload_n 0, [0], .null), (.bipush 20, [], .int 20), (.newarray .int, [20, 20, 0, 1, 20], .int 20), (.putfield 15, [3, 1, 2, 3, 1], .null), (.aload_n 0, [0], .null), (.iconst 0, [], .int 0), (.putfield 19, [3, 2, 0, 4, 0], .null), (.return_, [], .null)], 23, 1)]
theorem pb_c20 : pm_tok 20 pb_t20 = true := by decide +kernel
theorem pb_B20 : (pm_mL 20 = 1) ∧
  pm_lk pb_t20 0 = ([(.aload_n 0, [0], .null), (.invokespecial 3, [1], .null), (.aload_n 0, [0], .null), (.iconst 0, [], .int 0), (.putfield 9, [3, 0, 0, 0, 0], .null), (.aload_n 0, [0], .null), (.bipush 20, [], .int 20), (.newarray .int, [20, 20, 0, 1, 20], .int 20), (.putfield 15, [3, 1, 2, 3, 1], .null), (.aload_n 0, [0], .null), (.iconst 0, [], .int 0), (.putfield 19, [3, 2, 0, 4, 0], .null), (.return_, [], .null)], 23, 1) := ⟨rfl, rfl⟩
/- WrongsDesk$Days.isOff(I)Z: loops at [] -/
def pb_t21 : pm_Tb := [(0, [(.iload_n 1, [1], .null), (.bipush 7, [], .int 7), (.irem, [], .null), (.iconst 5, [], .int 5), (.if_icmp .ge 14, [19, 0], .null), (.aload_n 0, [0], .null), (.iload_n 1, [1], .null), (.iconst 1, [], .int 1), (.isub, [], .null), (.iload_n 1, [1], .null), (.invokevirtual 22, [22, 3, 9, 2, 1], .null), (.ifCond .le 7, [23, 0], .null)], 19, 0),
  (19, [(.iconst 1, [], .int 1), (.goto 4, [24, 0], .null)], 23, 1),
  (23, [(.iconst 0, [], .int 0)], 24, 0),
  (24, [(.ireturn, [1], .null)], 25, 1)]
theorem pb_c21 : pm_tok 21 pb_t21 = true := by decide +kernel
theorem pb_B21 : (pm_mL 21 = 2) ∧
  pm_lk pb_t21 0 = ([(.iload_n 1, [1], .null), (.bipush 7, [], .int 7), (.irem, [], .null), (.iconst 5, [], .int 5), (.if_icmp .ge 14, [19, 0], .null), (.aload_n 0, [0], .null), (.iload_n 1, [1], .null), (.iconst 1, [], .int 1), (.isub, [], .null), (.iload_n 1, [1], .null), (.invokevirtual 22, [22, 3, 9, 2, 1], .null), (.ifCond .le 7, [23, 0], .null)], 19, 0) ∧
  pm_lk pb_t21 19 = ([(.iconst 1, [], .int 1), (.goto 4, [24, 0], .null)], 23, 1) ∧
  pm_lk pb_t21 23 = ([(.iconst 0, [], .int 0)], 24, 0) ∧
  pm_lk pb_t21 24 = ([(.ireturn, [1], .null)], 25, 1) := ⟨rfl, rfl, rfl, rfl, rfl⟩
/- WrongsDesk$Days.feastsIn(II)I: loops at [5] -/
def pb_t22 : pm_Tb := [(0, [(.iconst 0, [], .int 0), (.istore_n 3, [3], .null), (.iconst 0, [], .int 0), (.istore 4, [4], .null)], 5, 1),
  (5, [(.iload 4, [4], .null), (.aload_n 0, [0], .null), (.getfield 19, [3, 2, 0, 4], .null), (.if_icmp .ge 34, [45, 0], .null), (.aload_n 0, [0], .null), (.getfield 15, [3, 1, 2, 3], .null), (.iload 4, [4], .null), (.iaload, [], .null), (.iload_n 1, [1], .null), (.if_icmp .le 17, [39, 0], .null), (.aload_n 0, [0], .null), (.getfield 15, [3, 1, 2, 3], .null), (.iload 4, [4], .null), (.iaload, [], .null), (.iload_n 2, [2], .null), (.if_icmp .gt 6, [39, 0], .null), (.iinc 3 1, [3], .int 1)], 39, 0),
  (39, [(.iinc 4 1, [4], .int 1), (.goto (-37), [5, 1], .null)], 45, 1),
  (45, [(.iload_n 3, [3], .null), (.ireturn, [0], .null)], 47, 1)]
theorem pb_c22 : pm_tok 22 pb_t22 = true := by decide +kernel
theorem pb_B22 : (pm_mL 22 = 5) ∧
  pm_lk pb_t22 0 = ([(.iconst 0, [], .int 0), (.istore_n 3, [3], .null), (.iconst 0, [], .int 0), (.istore 4, [4], .null)], 5, 1) ∧
  pm_lk pb_t22 5 = ([(.iload 4, [4], .null), (.aload_n 0, [0], .null), (.getfield 19, [3, 2, 0, 4], .null), (.if_icmp .ge 34, [45, 0], .null), (.aload_n 0, [0], .null), (.getfield 15, [3, 1, 2, 3], .null), (.iload 4, [4], .null), (.iaload, [], .null), (.iload_n 1, [1], .null), (.if_icmp .le 17, [39, 0], .null), (.aload_n 0, [0], .null), (.getfield 15, [3, 1, 2, 3], .null), (.iload 4, [4], .null), (.iaload, [], .null), (.iload_n 2, [2], .null), (.if_icmp .gt 6, [39, 0], .null), (.iinc 3 1, [3], .int 1)], 39, 0) ∧
  pm_lk pb_t22 39 = ([(.iinc 4 1, [4], .int 1), (.goto (-37), [5, 1], .null)], 45, 1) ∧
  pm_lk pb_t22 45 = ([(.iload_n 3, [3], .null), (.ireturn, [0], .null)], 47, 1) := ⟨rfl, rfl, rfl, rfl, rfl⟩
/- WrongsDesk$Days.addFeast(I)Z: loops at [] -/
def pb_t23 : pm_Tb := [(0, [(.aload_n 0, [0], .null), (.getfield 19, [3, 2, 0, 4], .null), (.bipush 20, [], .int 20), (.if_icmp .lt 5, [11, 0], .null), (.iconst 0, [], .int 0), (.ireturn, [1], .null)], 11, 1),
  (11, [(.aload_n 0, [0], .null), (.getfield 15, [3, 1, 2, 3], .null), (.aload_n 0, [0], .null), (.getfield 19, [3, 2, 0, 4], .null), (.iload_n 1, [1], .null), (.iastore, [], .null), (.aload_n 0, [0], .null), (.dup, [], .null), (.getfield 19, [3, 2, 0, 4], .null), (.iconst 1, [], .int 1), (.iadd, [], .null), (.putfield 19, [3, 2, 0, 4, 0], .null), (.iconst 1, [], .int 1), (.ireturn, [1], .null)], 33, 1)]
theorem pb_c23 : pm_tok 23 pb_t23 = true := by decide +kernel
theorem pb_B23 : (pm_mL 23 = 2) ∧
  pm_lk pb_t23 0 = ([(.aload_n 0, [0], .null), (.getfield 19, [3, 2, 0, 4], .null), (.bipush 20, [], .int 20), (.if_icmp .lt 5, [11, 0], .null), (.iconst 0, [], .int 0), (.ireturn, [1], .null)], 11, 1) ∧
  pm_lk pb_t23 11 = ([(.aload_n 0, [0], .null), (.getfield 15, [3, 1, 2, 3], .null), (.aload_n 0, [0], .null), (.getfield 19, [3, 2, 0, 4], .null), (.iload_n 1, [1], .null), (.iastore, [], .null), (.aload_n 0, [0], .null), (.dup, [], .null), (.getfield 19, [3, 2, 0, 4], .null), (.iconst 1, [], .int 1), (.iadd, [], .null), (.putfield 19, [3, 2, 0, 4, 0], .null), (.iconst 1, [], .int 1), (.ireturn, [1], .null)], 33, 1) := ⟨rfl, rfl, rfl⟩
/- WrongsDesk$Days.workingDay(II)I: loops at [12] -/
def pb_t24 : pm_Tb := [(0, [(.iload_n 2, [2], .null), (.iconst 1, [], .int 1), (.if_icmp .ge 5, [7, 0], .null), (.iload_n 1, [1], .null), (.ireturn, [0], .null)], 7, 1),
  (7, [(.iconst 0, [], .int 0), (.istore_n 3, [3], .null), (.iconst 0, [], .int 0), (.istore 4, [4], .null)], 12, 1),
  (12, [(.iload 4, [4], .null), (.bipush 20, [], .int 20), (.if_icmp .ge 35, [51, 0], .null), (.aload_n 0, [0], .null), (.iload_n 1, [1], .null), (.iload_n 1, [1], .null), (.iload_n 2, [2], .null), (.iload_n 3, [3], .null), (.iadd, [], .null), (.invokestatic 26, [25, 13, 2, 1], .null), (.invokevirtual 22, [22, 3, 9, 2, 1], .null), (.istore 5, [5], .null), (.iload 5, [5], .null), (.iload_n 3, [3], .null), (.if_icmp .ne 6, [42, 0], .null), (.goto 12, [51, 0], .null)], 42, 1),
  (42, [(.iload 5, [5], .null), (.istore_n 3, [3], .null), (.iinc 4 1, [4], .int 1), (.goto (-36), [12, 1], .null)], 51, 1),
  (51, [(.iload_n 1, [1], .null), (.iload_n 2, [2], .null), (.iload_n 3, [3], .null), (.iadd, [], .null), (.invokestatic 26, [25, 13, 2, 1], .null), (.ireturn, [0], .null)], 59, 1)]
theorem pb_c24 : pm_tok 24 pb_t24 = true := by decide +kernel
theorem pb_B24 : (pm_mL 24 = 6) ∧
  pm_lk pb_t24 0 = ([(.iload_n 2, [2], .null), (.iconst 1, [], .int 1), (.if_icmp .ge 5, [7, 0], .null), (.iload_n 1, [1], .null), (.ireturn, [0], .null)], 7, 1) ∧
  pm_lk pb_t24 7 = ([(.iconst 0, [], .int 0), (.istore_n 3, [3], .null), (.iconst 0, [], .int 0), (.istore 4, [4], .null)], 12, 1) ∧
  pm_lk pb_t24 12 = ([(.iload 4, [4], .null), (.bipush 20, [], .int 20), (.if_icmp .ge 35, [51, 0], .null), (.aload_n 0, [0], .null), (.iload_n 1, [1], .null), (.iload_n 1, [1], .null), (.iload_n 2, [2], .null), (.iload_n 3, [3], .null), (.iadd, [], .null), (.invokestatic 26, [25, 13, 2, 1], .null), (.invokevirtual 22, [22, 3, 9, 2, 1], .null), (.istore 5, [5], .null), (.iload 5, [5], .null), (.iload_n 3, [3], .null), (.if_icmp .ne 6, [42, 0], .null), (.goto 12, [51, 0], .null)], 42, 1) ∧
  pm_lk pb_t24 42 = ([(.iload 5, [5], .null), (.istore_n 3, [3], .null), (.iinc 4 1, [4], .int 1), (.goto (-36), [12, 1], .null)], 51, 1) ∧
  pm_lk pb_t24 51 = ([(.iload_n 1, [1], .null), (.iload_n 2, [2], .null), (.iload_n 3, [3], .null), (.iadd, [], .null), (.invokestatic 26, [25, 13, 2, 1], .null), (.ireturn, [0], .null)], 59, 1) := ⟨rfl, rfl, rfl, rfl, rfl, rfl⟩
/- WrongsDesk$Days.weekdayBehind(II)I: loops at [] -/
def pb_t25 : pm_Tb := [(0, [(.iconst 5, [], .int 5), (.iload_n 0, [0], .null), (.bipush 7, [], .int 7), (.idiv, [], .null), (.imul, [], .null), (.iload_n 0, [0], .null), (.bipush 7, [], .int 7), (.irem, [], .null), (.iconst 1, [], .int 1), (.iadd, [], .null), (.iconst 5, [], .int 5), (.invokestatic 29, [91, 14], .null), (.iadd, [], .null), (.istore_n 2, [2], .null), (.iload_n 2, [2], .null), (.iload_n 1, [1], .null), (.iadd, [], .null), (.iconst 1, [], .int 1), (.isub, [], .null), (.istore_n 3, [3], .null), (.bipush 7, [], .int 7), (.iload_n 3, [3], .null), (.iconst 5, [], .int 5), (.idiv, [], .null), (.imul, [], .null), (.iload_n 3, [3], .null), (.iconst 5, [], .int 5), (.irem, [], .null), (.iadd, [], .null), (.ireturn, [0], .null)], 35, 1)]
theorem pb_c25 : pm_tok 25 pb_t25 = true := by decide +kernel
theorem pb_B25 : (pm_mL 25 = 4) ∧
  pm_lk pb_t25 0 = ([(.iconst 5, [], .int 5), (.iload_n 0, [0], .null), (.bipush 7, [], .int 7), (.idiv, [], .null), (.imul, [], .null), (.iload_n 0, [0], .null), (.bipush 7, [], .int 7), (.irem, [], .null), (.iconst 1, [], .int 1), (.iadd, [], .null), (.iconst 5, [], .int 5), (.invokestatic 29, [91, 14], .null), (.iadd, [], .null), (.istore_n 2, [2], .null), (.iload_n 2, [2], .null), (.iload_n 1, [1], .null), (.iadd, [], .null), (.iconst 1, [], .int 1), (.isub, [], .null), (.istore_n 3, [3], .null), (.bipush 7, [], .int 7), (.iload_n 3, [3], .null), (.iconst 5, [], .int 5), (.idiv, [], .null), (.imul, [], .null), (.iload_n 3, [3], .null), (.iconst 5, [], .int 5), (.irem, [], .null), (.iadd, [], .null), (.ireturn, [0], .null)], 35, 1) := ⟨rfl, rfl⟩
/- WrongsDesk$Deeds.<init>()V: loops at [] -/
def pb_t26 : pm_Tb := [(0, [(.aload_n 0, [0], .null), (.invokespecial 3, [8], .null), (.aload_n 0, [0], .null), (.iconst 0, [], .int 0), (.putfield 9, [4, 0, 0, 100, 0], .null), (.aload_n 0, [0], .null), (.bipush 20, [], .int 20), (.newarray .int, [20, 20, 0, 1, 20], .int 20), (.putfield 15, [4, 1, 2, 102, 1], .null), (.return_, [], .null)], 18, 1)]
theorem pb_c26 : pm_tok 26 pb_t26 = true := by decide +kernel
theorem pb_B26 : (pm_mL 26 = 1) ∧
  pm_lk pb_t26 0 = ([(.aload_n 0, [0], .null), (.invokespecial 3, [8], .null), (.aload_n 0, [0], .null), (.iconst 0, [], .int 0), (.putfield 9, [4, 0, 0, 100, 0], .null), (.aload_n 0, [0], .null), (.bipush 20, [], .int 20), (.newarray .int, [20, 20, 0, 1, 20], .int 20), (.putfield 15, [4, 1, 2, 102, 1], .null), (.return_, [], .null)], 18, 1) := ⟨rfl, rfl⟩
/- WrongsDesk$Deeds.waits(LWrongsDesk$Deeds;LWrongsDesk$Matter;II)I: loops at [] -/
def pb_t27 : pm_Tb := [(0, [(.iload_n 2, [2], .null), (.tableswitch 103 2 6 #[68, 52, 60, 87, 35], [2, 69, 0, 3, 53, 0, 4, 61, 0, 5, 88, 0, 6, 36, 0, 104, 0], .null)], 36, 1),
  (36, [(.aload_n 0, [0], .null), (.bipush 70, [], .int 70), (.invokevirtual 22, [28, 4, 168, 1, 0], .null), (.aload_n 0, [0], .null), (.aload_n 1, [1], .null), (.iconst 3, [], .int 3), (.iload_n 3, [3], .null), (.invokestatic 26, [27, 169, 4, 1], .null), (.bipush 9, [], .int 9), (.ixor, [], .null), (.ireturn, [0], .null)], 53, 1),
  (53, [(.aload_n 0, [0], .null), (.aload_n 1, [1], .null), (.iconst 2, [], .int 2), (.iload_n 3, [3], .null), (.invokestatic 26, [27, 169, 4, 1], .null), (.ireturn, [0], .null)], 61, 1),
  (61, [(.aload_n 0, [0], .null), (.aload_n 1, [1], .null), (.iconst 2, [], .int 2), (.iload_n 3, [3], .null), (.invokestatic 26, [27, 169, 4, 1], .null), (.ireturn, [0], .null)], 69, 1),
  (69, [(.aload_n 0, [0], .null), (.bipush 30, [], .int 30), (.invokevirtual 22, [28, 4, 168, 1, 0], .null), (.aload_n 0, [0], .null), (.aload_n 1, [1], .null), (.iconst 0, [], .int 0), (.iload_n 3, [3], .null), (.invokestatic 26, [27, 169, 4, 1], .null), (.aload_n 1, [1], .null), (.getfield 30, [7, 2, 0, 134], .null), (.iadd, [], .null), (.ireturn, [0], .null)], 88, 1),
  (88, [(.aload_n 0, [0], .null), (.bipush 60, [], .int 60), (.invokevirtual 22, [28, 4, 168, 1, 0], .null), (.aload_n 0, [0], .null), (.aload_n 1, [1], .null), (.iconst 0, [], .int 0), (.iload_n 3, [3], .null), (.iconst 2, [], .int 2), (.isub, [], .null), (.invokestatic 26, [27, 169, 4, 1], .null), (.ireturn, [0], .null)], 104, 1),
  (104, [(.aload_n 0, [0], .null), (.bipush 10, [], .int 10), (.invokevirtual 22, [28, 4, 168, 1, 0], .null), (.iload_n 3, [3], .null), (.aload_n 1, [1], .null), (.getfield 35, [7, 0, 0, 125], .null), (.iadd, [], .null), (.ireturn, [0], .null)], 117, 1)]
theorem pb_c27 : pm_tok 27 pb_t27 = true := by decide +kernel
theorem pb_B27 : (pm_mL 27 = 4) ∧
  pm_lk pb_t27 0 = ([(.iload_n 2, [2], .null), (.tableswitch 103 2 6 #[68, 52, 60, 87, 35], [2, 69, 0, 3, 53, 0, 4, 61, 0, 5, 88, 0, 6, 36, 0, 104, 0], .null)], 36, 1) ∧
  pm_lk pb_t27 36 = ([(.aload_n 0, [0], .null), (.bipush 70, [], .int 70), (.invokevirtual 22, [28, 4, 168, 1, 0], .null), (.aload_n 0, [0], .null), (.aload_n 1, [1], .null), (.iconst 3, [], .int 3), (.iload_n 3, [3], .null), (.invokestatic 26, [27, 169, 4, 1], .null), (.bipush 9, [], .int 9), (.ixor, [], .null), (.ireturn, [0], .null)], 53, 1) ∧
  pm_lk pb_t27 53 = ([(.aload_n 0, [0], .null), (.aload_n 1, [1], .null), (.iconst 2, [], .int 2), (.iload_n 3, [3], .null), (.invokestatic 26, [27, 169, 4, 1], .null), (.ireturn, [0], .null)], 61, 1) ∧
  pm_lk pb_t27 61 = ([(.aload_n 0, [0], .null), (.aload_n 1, [1], .null), (.iconst 2, [], .int 2), (.iload_n 3, [3], .null), (.invokestatic 26, [27, 169, 4, 1], .null), (.ireturn, [0], .null)], 69, 1) ∧
  pm_lk pb_t27 69 = ([(.aload_n 0, [0], .null), (.bipush 30, [], .int 30), (.invokevirtual 22, [28, 4, 168, 1, 0], .null), (.aload_n 0, [0], .null), (.aload_n 1, [1], .null), (.iconst 0, [], .int 0), (.iload_n 3, [3], .null), (.invokestatic 26, [27, 169, 4, 1], .null), (.aload_n 1, [1], .null), (.getfield 30, [7, 2, 0, 134], .null), (.iadd, [], .null), (.ireturn, [0], .null)], 88, 1) ∧
  pm_lk pb_t27 88 = ([(.aload_n 0, [0], .null), (.bipush 60, [], .int 60), (.invokevirtual 22, [28, 4, 168, 1, 0], .null), (.aload_n 0, [0], .null), (.aload_n 1, [1], .null), (.iconst 0, [], .int 0), (.iload_n 3, [3], .null), (.iconst 2, [], .int 2), (.isub, [], .null), (.invokestatic 26, [27, 169, 4, 1], .null), (.ireturn, [0], .null)], 104, 1) ∧
  pm_lk pb_t27 104 = ([(.aload_n 0, [0], .null), (.bipush 10, [], .int 10), (.invokevirtual 22, [28, 4, 168, 1, 0], .null), (.iload_n 3, [3], .null), (.aload_n 1, [1], .null), (.getfield 35, [7, 0, 0, 125], .null), (.iadd, [], .null), (.ireturn, [0], .null)], 117, 1) := ⟨rfl, rfl, rfl, rfl, rfl, rfl, rfl, rfl⟩
/- WrongsDesk$Deeds.begin(I)V: loops at [] -/
def pb_t28 : pm_Tb := [(0, [(.aload_n 0, [0], .null), (.getfield 9, [4, 0, 0, 100], .null), (.bipush 20, [], .int 20), (.if_icmp .ge 13, [19, 0], .null), (.aload_n 0, [0], .null), (.getfield 15, [4, 1, 2, 102], .null), (.aload_n 0, [0], .null), (.getfield 9, [4, 0, 0, 100], .null), (.iload_n 1, [1], .null), (.iastore, [], .null)], 19, 0),
  (19, [(.aload_n 0, [0], .null), (.dup, [], .null), (.getfield 9, [4, 0, 0, 100], .null), (.iconst 1, [], .int 1), (.iadd, [], .null), (.putfield 9, [4, 0, 0, 100, 0], .null), (.return_, [], .null)], 30, 1)]
theorem pb_c28 : pm_tok 28 pb_t28 = true := by decide +kernel
theorem pb_B28 : (pm_mL 28 = 2) ∧
  pm_lk pb_t28 0 = ([(.aload_n 0, [0], .null), (.getfield 9, [4, 0, 0, 100], .null), (.bipush 20, [], .int 20), (.if_icmp .ge 13, [19, 0], .null), (.aload_n 0, [0], .null), (.getfield 15, [4, 1, 2, 102], .null), (.aload_n 0, [0], .null), (.getfield 9, [4, 0, 0, 100], .null), (.iload_n 1, [1], .null), (.iastore, [], .null)], 19, 0) ∧
  pm_lk pb_t28 19 = ([(.aload_n 0, [0], .null), (.dup, [], .null), (.getfield 9, [4, 0, 0, 100], .null), (.iconst 1, [], .int 1), (.iadd, [], .null), (.putfield 9, [4, 0, 0, 100, 0], .null), (.return_, [], .null)], 30, 1) := ⟨rfl, rfl, rfl⟩
/- WrongsDesk$Deeds.binds(LWrongsDesk$Deeds;LWrongsDesk$Matter;II)I: loops at [] -/
def pb_t29 : pm_Tb := [(0, [(.iload_n 2, [2], .null), (.lookupswitch 93 #[(1, 78), (3, 51), (6, 35)], [1, 79, 0, 3, 52, 0, 6, 36, 0, 94, 0], .null)], 36, 1),
  (36, [(.aload_n 0, [0], .null), (.bipush 71, [], .int 71), (.invokevirtual 22, [28, 4, 168, 1, 0], .null), (.aload_n 0, [0], .null), (.aload_n 1, [1], .null), (.iconst 3, [], .int 3), (.iload_n 3, [3], .null), (.invokestatic 38, [29, 170, 4, 1], .null), (.iconst 1, [], .int 1), (.isub, [], .null), (.ireturn, [0], .null)], 52, 1),
  (52, [(.aload_n 0, [0], .null), (.bipush 40, [], .int 40), (.invokevirtual 22, [28, 4, 168, 1, 0], .null), (.aload_n 0, [0], .null), (.aload_n 1, [1], .null), (.iconst 2, [], .int 2), (.iload_n 3, [3], .null), (.invokestatic 38, [29, 170, 4, 1], .null), (.aload_n 0, [0], .null), (.aload_n 1, [1], .null), (.aload_n 1, [1], .null), (.getfield 41, [7, 6, 0, 152], .null), (.iload_n 3, [3], .null), (.iconst 1, [], .int 1), (.iadd, [], .null), (.invokestatic 26, [27, 169, 4, 1], .null), (.iadd, [], .null), (.ireturn, [0], .null)], 79, 1),
  (79, [(.aload_n 0, [0], .null), (.bipush 20, [], .int 20), (.invokevirtual 22, [28, 4, 168, 1, 0], .null), (.aload_n 0, [0], .null), (.aload_n 1, [1], .null), (.iconst 0, [], .int 0), (.iload_n 3, [3], .null), (.invokestatic 38, [29, 170, 4, 1], .null), (.ineg, [], .null), (.ireturn, [0], .null)], 94, 1),
  (94, [(.aload_n 0, [0], .null), (.bipush 11, [], .int 11), (.invokevirtual 22, [28, 4, 168, 1, 0], .null), (.aload_n 0, [0], .null), (.aload_n 1, [1], .null), (.aload_n 1, [1], .null), (.getfield 41, [7, 6, 0, 152], .null), (.iload_n 3, [3], .null), (.invokestatic 26, [27, 169, 4, 1], .null), (.iconst 2, [], .int 2), (.imul, [], .null), (.ireturn, [0], .null)], 113, 1)]
theorem pb_c29 : pm_tok 29 pb_t29 = true := by decide +kernel
theorem pb_B29 : (pm_mL 29 = 4) ∧
  pm_lk pb_t29 0 = ([(.iload_n 2, [2], .null), (.lookupswitch 93 #[(1, 78), (3, 51), (6, 35)], [1, 79, 0, 3, 52, 0, 6, 36, 0, 94, 0], .null)], 36, 1) ∧
  pm_lk pb_t29 36 = ([(.aload_n 0, [0], .null), (.bipush 71, [], .int 71), (.invokevirtual 22, [28, 4, 168, 1, 0], .null), (.aload_n 0, [0], .null), (.aload_n 1, [1], .null), (.iconst 3, [], .int 3), (.iload_n 3, [3], .null), (.invokestatic 38, [29, 170, 4, 1], .null), (.iconst 1, [], .int 1), (.isub, [], .null), (.ireturn, [0], .null)], 52, 1) ∧
  pm_lk pb_t29 52 = ([(.aload_n 0, [0], .null), (.bipush 40, [], .int 40), (.invokevirtual 22, [28, 4, 168, 1, 0], .null), (.aload_n 0, [0], .null), (.aload_n 1, [1], .null), (.iconst 2, [], .int 2), (.iload_n 3, [3], .null), (.invokestatic 38, [29, 170, 4, 1], .null), (.aload_n 0, [0], .null), (.aload_n 1, [1], .null), (.aload_n 1, [1], .null), (.getfield 41, [7, 6, 0, 152], .null), (.iload_n 3, [3], .null), (.iconst 1, [], .int 1), (.iadd, [], .null), (.invokestatic 26, [27, 169, 4, 1], .null), (.iadd, [], .null), (.ireturn, [0], .null)], 79, 1) ∧
  pm_lk pb_t29 79 = ([(.aload_n 0, [0], .null), (.bipush 20, [], .int 20), (.invokevirtual 22, [28, 4, 168, 1, 0], .null), (.aload_n 0, [0], .null), (.aload_n 1, [1], .null), (.iconst 0, [], .int 0), (.iload_n 3, [3], .null), (.invokestatic 38, [29, 170, 4, 1], .null), (.ineg, [], .null), (.ireturn, [0], .null)], 94, 1) ∧
  pm_lk pb_t29 94 = ([(.aload_n 0, [0], .null), (.bipush 11, [], .int 11), (.invokevirtual 22, [28, 4, 168, 1, 0], .null), (.aload_n 0, [0], .null), (.aload_n 1, [1], .null), (.aload_n 1, [1], .null), (.getfield 41, [7, 6, 0, 152], .null), (.iload_n 3, [3], .null), (.invokestatic 26, [27, 169, 4, 1], .null), (.iconst 2, [], .int 2), (.imul, [], .null), (.ireturn, [0], .null)], 113, 1) := ⟨rfl, rfl, rfl, rfl, rfl, rfl⟩
/- WrongsDesk$Deeds.shows(LWrongsDesk$Deeds;LWrongsDesk$Matter;II)I: loops at [] -/
def pb_t30 : pm_Tb := [(0, [(.iload_n 2, [2], .null), (.tableswitch 74 3 6 #[39, 55, 74, 31], [3, 40, 0, 4, 56, 0, 5, 75, 0, 6, 32, 0, 75, 0], .null)], 32, 1),
  (32, [(.aload_n 0, [0], .null), (.aload_n 1, [1], .null), (.iconst 3, [], .int 3), (.iload_n 3, [3], .null), (.invokestatic 44, [30, 171, 4, 1], .null), (.ireturn, [0], .null)], 40, 1),
  (40, [(.aload_n 0, [0], .null), (.bipush 41, [], .int 41), (.invokevirtual 22, [28, 4, 168, 1, 0], .null), (.aload_n 0, [0], .null), (.aload_n 1, [1], .null), (.iconst 2, [], .int 2), (.iload_n 3, [3], .null), (.invokestatic 44, [30, 171, 4, 1], .null), (.iconst 5, [], .int 5), (.isub, [], .null), (.ireturn, [0], .null)], 56, 1),
  (56, [(.aload_n 0, [0], .null), (.bipush 50, [], .int 50), (.invokevirtual 22, [28, 4, 168, 1, 0], .null), (.aload_n 0, [0], .null), (.aload_n 1, [1], .null), (.aload_n 1, [1], .null), (.getfield 41, [7, 6, 0, 152], .null), (.iload_n 3, [3], .null), (.invokestatic 26, [27, 169, 4, 1], .null), (.iconst 3, [], .int 3), (.imul, [], .null), (.ireturn, [0], .null)], 75, 1),
  (75, [(.aload_n 0, [0], .null), (.bipush 12, [], .int 12), (.invokevirtual 22, [28, 4, 168, 1, 0], .null), (.aload_n 0, [0], .null), (.aload_n 1, [1], .null), (.aload_n 1, [1], .null), (.getfield 41, [7, 6, 0, 152], .null), (.iload_n 3, [3], .null), (.invokestatic 38, [29, 170, 4, 1], .null), (.aload_n 1, [1], .null), (.getfield 47, [7, 3, 0, 139], .null), (.ixor, [], .null), (.ireturn, [0], .null)], 97, 1)]
theorem pb_c30 : pm_tok 30 pb_t30 = true := by decide +kernel
theorem pb_B30 : (pm_mL 30 = 4) ∧
  pm_lk pb_t30 0 = ([(.iload_n 2, [2], .null), (.tableswitch 74 3 6 #[39, 55, 74, 31], [3, 40, 0, 4, 56, 0, 5, 75, 0, 6, 32, 0, 75, 0], .null)], 32, 1) ∧
  pm_lk pb_t30 32 = ([(.aload_n 0, [0], .null), (.aload_n 1, [1], .null), (.iconst 3, [], .int 3), (.iload_n 3, [3], .null), (.invokestatic 44, [30, 171, 4, 1], .null), (.ireturn, [0], .null)], 40, 1) ∧
  pm_lk pb_t30 40 = ([(.aload_n 0, [0], .null), (.bipush 41, [], .int 41), (.invokevirtual 22, [28, 4, 168, 1, 0], .null), (.aload_n 0, [0], .null), (.aload_n 1, [1], .null), (.iconst 2, [], .int 2), (.iload_n 3, [3], .null), (.invokestatic 44, [30, 171, 4, 1], .null), (.iconst 5, [], .int 5), (.isub, [], .null), (.ireturn, [0], .null)], 56, 1) ∧
  pm_lk pb_t30 56 = ([(.aload_n 0, [0], .null), (.bipush 50, [], .int 50), (.invokevirtual 22, [28, 4, 168, 1, 0], .null), (.aload_n 0, [0], .null), (.aload_n 1, [1], .null), (.aload_n 1, [1], .null), (.getfield 41, [7, 6, 0, 152], .null), (.iload_n 3, [3], .null), (.invokestatic 26, [27, 169, 4, 1], .null), (.iconst 3, [], .int 3), (.imul, [], .null), (.ireturn, [0], .null)], 75, 1) ∧
  pm_lk pb_t30 75 = ([(.aload_n 0, [0], .null), (.bipush 12, [], .int 12), (.invokevirtual 22, [28, 4, 168, 1, 0], .null), (.aload_n 0, [0], .null), (.aload_n 1, [1], .null), (.aload_n 1, [1], .null), (.getfield 41, [7, 6, 0, 152], .null), (.iload_n 3, [3], .null), (.invokestatic 38, [29, 170, 4, 1], .null), (.aload_n 1, [1], .null), (.getfield 47, [7, 3, 0, 139], .null), (.ixor, [], .null), (.ireturn, [0], .null)], 97, 1) := ⟨rfl, rfl, rfl, rfl, rfl, rfl⟩
/- WrongsDesk$Deeds.isUnder(II)Z: loops at [4] -/
def pb_t31 : pm_Tb := [(0, [(.iload_n 0, [0], .null), (.istore_n 2, [2], .null), (.iconst 0, [], .int 0), (.istore_n 3, [3], .null)], 4, 1),
  (4, [(.iload_n 3, [3], .null), (.bipush 6, [], .int 6), (.if_icmp .gt 26, [33, 0], .null), (.iload_n 2, [2], .null), (.ifCond .lt 22, [33, 0], .null), (.iload_n 2, [2], .null), (.iload_n 1, [1], .null), (.if_icmp .ne 5, [21, 0], .null), (.iconst 1, [], .int 1), (.ireturn, [1], .null)], 21, 1),
  (21, [(.getstatic 19, [0], .retAddr 100), (.iload_n 2, [2], .null), (.iaload, [], .null), (.istore_n 2, [2], .null), (.iinc 3 1, [3], .int 1), (.goto (-26), [4, 1], .null)], 33, 1),
  (33, [(.iconst 0, [], .int 0), (.ireturn, [1], .null)], 35, 1)]
theorem pb_c31 : pm_tok 31 pb_t31 = true := by decide +kernel
theorem pb_B31 : (pm_mL 31 = 4) ∧
  pm_lk pb_t31 0 = ([(.iload_n 0, [0], .null), (.istore_n 2, [2], .null), (.iconst 0, [], .int 0), (.istore_n 3, [3], .null)], 4, 1) ∧
  pm_lk pb_t31 4 = ([(.iload_n 3, [3], .null), (.bipush 6, [], .int 6), (.if_icmp .gt 26, [33, 0], .null), (.iload_n 2, [2], .null), (.ifCond .lt 22, [33, 0], .null), (.iload_n 2, [2], .null), (.iload_n 1, [1], .null), (.if_icmp .ne 5, [21, 0], .null), (.iconst 1, [], .int 1), (.ireturn, [1], .null)], 21, 1) ∧
  pm_lk pb_t31 21 = ([(.getstatic 19, [0], .retAddr 100), (.iload_n 2, [2], .null), (.iaload, [], .null), (.istore_n 2, [2], .null), (.iinc 3 1, [3], .int 1), (.goto (-26), [4, 1], .null)], 33, 1) ∧
  pm_lk pb_t31 33 = ([(.iconst 0, [], .int 0), (.ireturn, [1], .null)], 35, 1) := ⟨rfl, rfl, rfl, rfl, rfl⟩
/- WrongsDesk$Law.<init>()V: loops at [] -/
def pb_t32 : pm_Tb := [(0, [(.aload_n 0, [0], .null), (.invokespecial 3, [3], .null), (.aload_n 0, [0], .null), (.iconst (-1), [], .int (-1)), (.putfield 9, [5, 0, 0, 6, 0], .null), (.aload_n 0, [0], .null), (.iconst 0, [], .int 0), (.putfield 15, [5, 1, 0, 8, 0], .null), (.aload_n 0, [0], .null), (.bipush 10, [], .int 10), (.newarray .int, [20, 10, 0, 6, 210], .int 10), (.putfield 18, [5, 3, 2, 13, 1], .null), (.aload_n 0, [0], .null), (.bipush 10, [], .int 10), (.newarray .int, [20, 10, 0, 6, 210], .int 10), (.putfield 22, [5, 4, 2, 15, 1], .null), (.aload_n 0, [0], .null), (.bipush 10, [], .int 10), (.newarray .int, [20, 10, 0, 6, 210], .int 10), (.putfield 25, [5, 5, 2, 17, 1], .null), (.aload_n 0, [0], .null), (.bipush 10, [], .int 10), (.newarray .int, [20, 10, 0, 6, 210], .int 10), (.putfield 28, [5, 6, 2, 18, 1], .null), (.aload_n 0, [0], .null), (.bipush 10, [], .int 10), (.newarray .int, [20, 10, 0, 6, 210], .int 10), (.putfield 31, [5, 7, 2, 19, 1], .null), (.aload_n 0, [0], .null), (.sipush 160, [], .int 160), (.newarray .int, [20, 160, 0, 6, 210], .int 160), (.putfield 34, [5, 17, 2, 51, 1], .null), (.aload_n 0, [0], .null), (.invokevirtual 37, [33, 5, 2, 0, 0], .null), (.return_, [], .null)], 68, 1)]
theorem pb_c32 : pm_tok 32 pb_t32 = true := by decide +kernel
theorem pb_B32 : (pm_mL 32 = 1) ∧
  pm_lk pb_t32 0 = ([(.aload_n 0, [0], .null), (.invokespecial 3, [3], .null), (.aload_n 0, [0], .null), (.iconst (-1), [], .int (-1)), (.putfield 9, [5, 0, 0, 6, 0], .null), (.aload_n 0, [0], .null), (.iconst 0, [], .int 0), (.putfield 15, [5, 1, 0, 8, 0], .null), (.aload_n 0, [0], .null), (.bipush 10, [], .int 10), (.newarray .int, [20, 10, 0, 6, 210], .int 10), (.putfield 18, [5, 3, 2, 13, 1], .null), (.aload_n 0, [0], .null), (.bipush 10, [], .int 10), (.newarray .int, [20, 10, 0, 6, 210], .int 10), (.putfield 22, [5, 4, 2, 15, 1], .null), (.aload_n 0, [0], .null), (.bipush 10, [], .int 10), (.newarray .int, [20, 10, 0, 6, 210], .int 10), (.putfield 25, [5, 5, 2, 17, 1], .null), (.aload_n 0, [0], .null), (.bipush 10, [], .int 10), (.newarray .int, [20, 10, 0, 6, 210], .int 10), (.putfield 28, [5, 6, 2, 18, 1], .null), (.aload_n 0, [0], .null), (.bipush 10, [], .int 10), (.newarray .int, [20, 10, 0, 6, 210], .int 10), (.putfield 31, [5, 7, 2, 19, 1], .null), (.aload_n 0, [0], .null), (.sipush 160, [], .int 160), (.newarray .int, [20, 160, 0, 6, 210], .int 160), (.putfield 34, [5, 17, 2, 51, 1], .null), (.aload_n 0, [0], .null), (.invokevirtual 37, [33, 5, 2, 0, 0], .null), (.return_, [], .null)], 68, 1) := ⟨rfl, rfl⟩
/- WrongsDesk$Law.clear()V: loops at [] -/
def pb_t33 : pm_Tb := [(0, [(.aload_n 0, [0], .null), (.iconst 0, [], .int 0), (.putfield 40, [5, 2, 0, 10, 0], .null), (.aload_n 0, [0], .null), (.iconst 0, [], .int 0), (.putfield 43, [5, 8, 0, 20, 0], .null), (.aload_n 0, [0], .null), (.iconst 0, [], .int 0), (.putfield 46, [5, 9, 0, 22, 0], .null), (.aload_n 0, [0], .null), (.sipush 9999, [], .int 9999), (.putfield 49, [5, 10, 0, 24, 0], .null), (.aload_n 0, [0], .null), (.bipush 30, [], .int 30), (.putfield 52, [5, 11, 0, 28, 0], .null), (.aload_n 0, [0], .null), (.iconst 0, [], .int 0), (.putfield 55, [5, 12, 0, 32, 0], .null), (.aload_n 0, [0], .null), (.iconst 1, [], .int 1), (.putfield 58, [5, 13, 0, 36, 0], .null), (.aload_n 0, [0], .null), (.sipush 9999, [], .int 9999), (.putfield 61, [5, 14, 0, 40, 0], .null), (.aload_n 0, [0], .null), (.iconst 0, [], .int 0), (.putfield 64, [5, 15, 0, 44, 0], .null), (.aload_n 0, [0], .null), (.iconst 1, [], .int 1), (.putfield 67, [5, 16, 0, 48, 0], .null), (.aload_n 0, [0], .null), (.iconst 0, [], .int 0), (.putfield 70, [5, 18, 0, 52, 0], .null), (.return_, [], .null)], 61, 1)]
theorem pb_c33 : pm_tok 33 pb_t33 = true := by decide +kernel
theorem pb_B33 : (pm_mL 33 = 1) ∧
  pm_lk pb_t33 0 = ([(.aload_n 0, [0], .null), (.iconst 0, [], .int 0), (.putfield 40, [5, 2, 0, 10, 0], .null), (.aload_n 0, [0], .null), (.iconst 0, [], .int 0), (.putfield 43, [5, 8, 0, 20, 0], .null), (.aload_n 0, [0], .null), (.iconst 0, [], .int 0), (.putfield 46, [5, 9, 0, 22, 0], .null), (.aload_n 0, [0], .null), (.sipush 9999, [], .int 9999), (.putfield 49, [5, 10, 0, 24, 0], .null), (.aload_n 0, [0], .null), (.bipush 30, [], .int 30), (.putfield 52, [5, 11, 0, 28, 0], .null), (.aload_n 0, [0], .null), (.iconst 0, [], .int 0), (.putfield 55, [5, 12, 0, 32, 0], .null), (.aload_n 0, [0], .null), (.iconst 1, [], .int 1), (.putfield 58, [5, 13, 0, 36, 0], .null), (.aload_n 0, [0], .null), (.sipush 9999, [], .int 9999), (.putfield 61, [5, 14, 0, 40, 0], .null), (.aload_n 0, [0], .null), (.iconst 0, [], .int 0), (.putfield 64, [5, 15, 0, 44, 0], .null), (.aload_n 0, [0], .null), (.iconst 1, [], .int 1), (.putfield 67, [5, 16, 0, 48, 0], .null), (.aload_n 0, [0], .null), (.iconst 0, [], .int 0), (.putfield 70, [5, 18, 0, 52, 0], .null), (.return_, [], .null)], 61, 1) := ⟨rfl, rfl⟩
/- WrongsDesk$Law.reachHolds(LWrongsDesk$Matter;I)Z: loops at [] -/
def pb_t34 : pm_Tb := [(0, [(.aload_n 0, [0], .null), (.aload_n 0, [0], .null), (.getfield 43, [5, 8, 0, 20], .null), (.aload_n 0, [0], .null), (.getfield 46, [5, 9, 0, 22], .null), (.aload_n 1, [1], .null), (.iload_n 2, [2], .null), (.invokevirtual 73, [35, 5, 29, 4, 1], .null), (.ireturn, [1], .null)], 15, 1)]
theorem pb_c34 : pm_tok 34 pb_t34 = true := by decide +kernel
theorem pb_B34 : (pm_mL 34 = 3) ∧
  pm_lk pb_t34 0 = ([(.aload_n 0, [0], .null), (.aload_n 0, [0], .null), (.getfield 43, [5, 8, 0, 20], .null), (.aload_n 0, [0], .null), (.getfield 46, [5, 9, 0, 22], .null), (.aload_n 1, [1], .null), (.iload_n 2, [2], .null), (.invokevirtual 73, [35, 5, 29, 4, 1], .null), (.ireturn, [1], .null)], 15, 1) := ⟨rfl, rfl⟩
/- WrongsDesk$Law.holds(IILWrongsDesk$Matter;I)Z: loops at [6] -/
def pb_t35 : pm_Tb := [(0, [(.iconst 1, [], .int 1), (.istore 5, [5], .null), (.iload_n 1, [1], .null), (.istore 6, [6], .null)], 6, 1),
  (6, [(.iload 6, [6], .null), (.ifCond .lt 138, [146, 0], .null), (.iload 6, [6], .null), (.iload_n 2, [2], .null), (.if_icmp .ge 132, [146, 0], .null), (.iload 6, [6], .null), (.sipush 160, [], .int 160), (.if_icmp .ge 124, [146, 0], .null), (.iload 5, [5], .null), (.iconst 1, [], .int 1), (.iand, [], .null), (.istore 7, [7], .null), (.iload 5, [5], .null), (.iconst 1, [], .int 1), (.iushr, [], .null), (.istore 8, [8], .null), (.aload_n 0, [0], .null), (.getfield 34, [5, 17, 2, 51], .null), (.iload 6, [6], .null), (.iaload, [], .null), (.bipush 15, [], .int 15), (.iand, [], .null), (.tableswitch 65 8 10 #[25, 34, 55], [8, 72, 0, 9, 81, 0, 10, 102, 0, 112, 0], .null)], 72, 1),
  (72, [(.iload 5, [5], .null), (.iconst 1, [], .int 1), (.ixor, [], .null), (.istore 5, [5], .null), (.goto 62, [140, 0], .null)], 81, 1),
  (81, [(.iload 7, [7], .null), (.iconst 1, [], .int 1), (.if_icmp .ne 8, [92, 0], .null), (.iload 8, [8], .null), (.goto 8, [97, 0], .null)], 92, 1),
  (92, [(.iload 8, [8], .null), (.bipush (-2), [], .int (-2)), (.iand, [], .null)], 97, 0),
  (97, [(.istore 5, [5], .null), (.goto 41, [140, 0], .null)], 102, 1),
  (102, [(.iload 8, [8], .null), (.iload 7, [7], .null), (.ior, [], .null), (.istore 5, [5], .null), (.goto 31, [140, 0], .null)], 112, 1),
  (112, [(.iload 5, [5], .null), (.iconst 1, [], .int 1), (.ishl, [], .null), (.aload_n 0, [0], .null), (.getfield 34, [5, 17, 2, 51], .null), (.iload 6, [6], .null), (.iaload, [], .null), (.aload_n 3, [3], .null), (.iload 4, [4], .null), (.invokestatic 77, [36, 30, 3, 1], .null), (.ifCond .eq 7, [136, 0], .null), (.iconst 1, [], .int 1), (.goto 4, [137, 0], .null)], 136, 1),
  (136, [(.iconst 0, [], .int 0)], 137, 0),
  (137, [(.ior, [], .null), (.istore 5, [5], .null)], 140, 0),
  (140, [(.iinc 6 1, [6], .int 1), (.goto (-137), [6, 1], .null)], 146, 1),
  (146, [(.iload 5, [5], .null), (.iconst 1, [], .int 1), (.iand, [], .null), (.iconst 1, [], .int 1), (.if_icmp .ne 7, [158, 0], .null), (.iconst 1, [], .int 1), (.goto 4, [159, 0], .null)], 158, 1),
  (158, [(.iconst 0, [], .int 0)], 159, 0),
  (159, [(.ireturn, [1], .null)], 160, 1)]
theorem pb_c35 : pm_tok 35 pb_t35 = true := by decide +kernel
theorem pb_B35 : (pm_mL 35 = 9) ∧
  pm_lk pb_t35 0 = ([(.iconst 1, [], .int 1), (.istore 5, [5], .null), (.iload_n 1, [1], .null), (.istore 6, [6], .null)], 6, 1) ∧
  pm_lk pb_t35 6 = ([(.iload 6, [6], .null), (.ifCond .lt 138, [146, 0], .null), (.iload 6, [6], .null), (.iload_n 2, [2], .null), (.if_icmp .ge 132, [146, 0], .null), (.iload 6, [6], .null), (.sipush 160, [], .int 160), (.if_icmp .ge 124, [146, 0], .null), (.iload 5, [5], .null), (.iconst 1, [], .int 1), (.iand, [], .null), (.istore 7, [7], .null), (.iload 5, [5], .null), (.iconst 1, [], .int 1), (.iushr, [], .null), (.istore 8, [8], .null), (.aload_n 0, [0], .null), (.getfield 34, [5, 17, 2, 51], .null), (.iload 6, [6], .null), (.iaload, [], .null), (.bipush 15, [], .int 15), (.iand, [], .null), (.tableswitch 65 8 10 #[25, 34, 55], [8, 72, 0, 9, 81, 0, 10, 102, 0, 112, 0], .null)], 72, 1) ∧
  pm_lk pb_t35 72 = ([(.iload 5, [5], .null), (.iconst 1, [], .int 1), (.ixor, [], .null), (.istore 5, [5], .null), (.goto 62, [140, 0], .null)], 81, 1) ∧
  pm_lk pb_t35 81 = ([(.iload 7, [7], .null), (.iconst 1, [], .int 1), (.if_icmp .ne 8, [92, 0], .null), (.iload 8, [8], .null), (.goto 8, [97, 0], .null)], 92, 1) ∧
  pm_lk pb_t35 92 = ([(.iload 8, [8], .null), (.bipush (-2), [], .int (-2)), (.iand, [], .null)], 97, 0) ∧
  pm_lk pb_t35 97 = ([(.istore 5, [5], .null), (.goto 41, [140, 0], .null)], 102, 1) ∧
  pm_lk pb_t35 102 = ([(.iload 8, [8], .null), (.iload 7, [7], .null), (.ior, [], .null), (.istore 5, [5], .null), (.goto 31, [140, 0], .null)], 112, 1) ∧
  pm_lk pb_t35 112 = ([(.iload 5, [5], .null), (.iconst 1, [], .int 1), (.ishl, [], .null), (.aload_n 0, [0], .null), (.getfield 34, [5, 17, 2, 51], .null), (.iload 6, [6], .null), (.iaload, [], .null), (.aload_n 3, [3], .null), (.iload 4, [4], .null), (.invokestatic 77, [36, 30, 3, 1], .null), (.ifCond .eq 7, [136, 0], .null), (.iconst 1, [], .int 1), (.goto 4, [137, 0], .null)], 136, 1) ∧
  pm_lk pb_t35 136 = ([(.iconst 0, [], .int 0)], 137, 0) ∧
  pm_lk pb_t35 137 = ([(.ior, [], .null), (.istore 5, [5], .null)], 140, 0) ∧
  pm_lk pb_t35 140 = ([(.iinc 6 1, [6], .int 1), (.goto (-137), [6, 1], .null)], 146, 1) ∧
  pm_lk pb_t35 146 = ([(.iload 5, [5], .null), (.iconst 1, [], .int 1), (.iand, [], .null), (.iconst 1, [], .int 1), (.if_icmp .ne 7, [158, 0], .null), (.iconst 1, [], .int 1), (.goto 4, [159, 0], .null)], 158, 1) ∧
  pm_lk pb_t35 158 = ([(.iconst 0, [], .int 0)], 159, 0) ∧
  pm_lk pb_t35 159 = ([(.ireturn, [1], .null)], 160, 1) := ⟨rfl, rfl, rfl, rfl, rfl, rfl, rfl, rfl, rfl, rfl, rfl, rfl, rfl, rfl, rfl⟩
/- WrongsDesk$Law.passes(ILWrongsDesk$Matter;I)Z: loops at [] -/
def pb_t36 : pm_Tb := [(0, [(.iload_n 0, [0], .null), (.iconst 4, [], .int 4), (.ishr, [], .null), (.bipush 15, [], .int 15), (.iand, [], .null), (.istore_n 3, [3], .null), (.iload_n 0, [0], .null), (.bipush 8, [], .int 8), (.ishr, [], .null), (.istore 4, [4], .null), (.iload_n 0, [0], .null), (.bipush 15, [], .int 15), (.iand, [], .null), (.tableswitch 141 0 7 #[47, 62, 141, 141, 77, 92, 107, 124], [0, 64, 0, 1, 79, 0, 2, 158, 0, 3, 158, 0, 4, 94, 0, 5, 109, 0, 6, 124, 0, 7, 141, 0, 158, 0], .null)], 64, 1),
  (64, [(.aload_n 1, [1], .null), (.getfield 81, [7, 3, 0, 140], .null), (.iload 4, [4], .null), (.if_icmp .ne 7, [77, 0], .null), (.iconst 1, [], .int 1), (.goto 4, [78, 0], .null)], 77, 1),
  (77, [(.iconst 0, [], .int 0)], 78, 0),
  (78, [(.ireturn, [1], .null)], 79, 1),
  (79, [(.aload_n 1, [1], .null), (.iload_n 3, [3], .null), (.iload_n 2, [2], .null), (.invokevirtual 86, [59, 7, 31, 2, 3], .null), (.ifnull 7, [92, 0], .null), (.iconst 1, [], .int 1), (.goto 4, [93, 0], .null)], 92, 1),
  (92, [(.iconst 0, [], .int 0)], 93, 0),
  (93, [(.ireturn, [1], .null)], 94, 1),
  (94, [(.aload_n 1, [1], .null), (.getfield 90, [7, 5, 0, 148], .null), (.iload 4, [4], .null), (.if_icmp .ge 7, [107, 0], .null), (.iconst 1, [], .int 1), (.goto 4, [108, 0], .null)], 107, 1),
  (107, [(.iconst 0, [], .int 0)], 108, 0),
  (108, [(.ireturn, [1], .null)], 109, 1),
  (109, [(.aload_n 1, [1], .null), (.getfield 90, [7, 5, 0, 148], .null), (.iload 4, [4], .null), (.if_icmp .le 7, [122, 0], .null), (.iconst 1, [], .int 1), (.goto 4, [123, 0], .null)], 122, 1),
  (122, [(.iconst 0, [], .int 0)], 123, 0),
  (123, [(.ireturn, [1], .null)], 124, 1),
  (124, [(.iload_n 2, [2], .null), (.aload_n 1, [1], .null), (.getfield 93, [7, 4, 0, 145], .null), (.isub, [], .null), (.iload 4, [4], .null), (.if_icmp .ge 7, [139, 0], .null), (.iconst 1, [], .int 1), (.goto 4, [140, 0], .null)], 139, 1),
  (139, [(.iconst 0, [], .int 0)], 140, 0),
  (140, [(.ireturn, [1], .null)], 141, 1),
  (141, [(.iload_n 2, [2], .null), (.aload_n 1, [1], .null), (.getfield 93, [7, 4, 0, 145], .null), (.isub, [], .null), (.iload 4, [4], .null), (.if_icmp .le 7, [156, 0], .null), (.iconst 1, [], .int 1), (.goto 4, [157, 0], .null)], 156, 1),
  (156, [(.iconst 0, [], .int 0)], 157, 0),
  (157, [(.ireturn, [1], .null)], 158, 1),
  (158, [(.aload_n 1, [1], .null), (.iload_n 3, [3], .null), (.iload_n 2, [2], .null), (.invokevirtual 96, [60, 7, 32, 2, 3], .null), (.astore 5, [5], .null), (.aload 5, [5], .null), (.ifnonnull 5, [173, 0], .null), (.iconst 0, [], .int 0), (.ireturn, [1], .null)], 173, 1),
  (173, [(.iload_n 0, [0], .null), (.bipush 15, [], .int 15), (.iand, [], .null), (.iconst 2, [], .int 2), (.if_icmp .ne 21, [199, 0], .null), (.aload 5, [5], .null), (.getfield 99, [0, 2, 0, 179], .null), (.iload 4, [4], .null), (.if_icmp .ge 7, [195, 0], .null), (.iconst 1, [], .int 1), (.goto 22, [214, 0], .null)], 195, 1),
  (195, [(.iconst 0, [], .int 0), (.goto 18, [214, 0], .null)], 199, 1),
  (199, [(.aload 5, [5], .null), (.getfield 99, [0, 2, 0, 179], .null), (.iload 4, [4], .null), (.if_icmp .le 7, [213, 0], .null), (.iconst 1, [], .int 1), (.goto 4, [214, 0], .null)], 213, 1),
  (213, [(.iconst 0, [], .int 0)], 214, 0),
  (214, [(.ireturn, [1], .null)], 215, 1)]
theorem pb_c36 : pm_tok 36 pb_t36 = true := by decide +kernel
theorem pb_B36 : (pm_mL 36 = 6) ∧
  pm_lk pb_t36 0 = ([(.iload_n 0, [0], .null), (.iconst 4, [], .int 4), (.ishr, [], .null), (.bipush 15, [], .int 15), (.iand, [], .null), (.istore_n 3, [3], .null), (.iload_n 0, [0], .null), (.bipush 8, [], .int 8), (.ishr, [], .null), (.istore 4, [4], .null), (.iload_n 0, [0], .null), (.bipush 15, [], .int 15), (.iand, [], .null), (.tableswitch 141 0 7 #[47, 62, 141, 141, 77, 92, 107, 124], [0, 64, 0, 1, 79, 0, 2, 158, 0, 3, 158, 0, 4, 94, 0, 5, 109, 0, 6, 124, 0, 7, 141, 0, 158, 0], .null)], 64, 1) ∧
  pm_lk pb_t36 64 = ([(.aload_n 1, [1], .null), (.getfield 81, [7, 3, 0, 140], .null), (.iload 4, [4], .null), (.if_icmp .ne 7, [77, 0], .null), (.iconst 1, [], .int 1), (.goto 4, [78, 0], .null)], 77, 1) ∧
  pm_lk pb_t36 77 = ([(.iconst 0, [], .int 0)], 78, 0) ∧
  pm_lk pb_t36 78 = ([(.ireturn, [1], .null)], 79, 1) ∧
  pm_lk pb_t36 79 = ([(.aload_n 1, [1], .null), (.iload_n 3, [3], .null), (.iload_n 2, [2], .null), (.invokevirtual 86, [59, 7, 31, 2, 3], .null), (.ifnull 7, [92, 0], .null), (.iconst 1, [], .int 1), (.goto 4, [93, 0], .null)], 92, 1) ∧
  pm_lk pb_t36 92 = ([(.iconst 0, [], .int 0)], 93, 0) ∧
  pm_lk pb_t36 93 = ([(.ireturn, [1], .null)], 94, 1) ∧
  pm_lk pb_t36 94 = ([(.aload_n 1, [1], .null), (.getfield 90, [7, 5, 0, 148], .null), (.iload 4, [4], .null), (.if_icmp .ge 7, [107, 0], .null), (.iconst 1, [], .int 1), (.goto 4, [108, 0], .null)], 107, 1) ∧
  pm_lk pb_t36 107 = ([(.iconst 0, [], .int 0)], 108, 0) ∧
  pm_lk pb_t36 108 = ([(.ireturn, [1], .null)], 109, 1) ∧
  pm_lk pb_t36 109 = ([(.aload_n 1, [1], .null), (.getfield 90, [7, 5, 0, 148], .null), (.iload 4, [4], .null), (.if_icmp .le 7, [122, 0], .null), (.iconst 1, [], .int 1), (.goto 4, [123, 0], .null)], 122, 1) ∧
  pm_lk pb_t36 122 = ([(.iconst 0, [], .int 0)], 123, 0) ∧
  pm_lk pb_t36 123 = ([(.ireturn, [1], .null)], 124, 1) ∧
  pm_lk pb_t36 124 = ([(.iload_n 2, [2], .null), (.aload_n 1, [1], .null), (.getfield 93, [7, 4, 0, 145], .null), (.isub, [], .null), (.iload 4, [4], .null), (.if_icmp .ge 7, [139, 0], .null), (.iconst 1, [], .int 1), (.goto 4, [140, 0], .null)], 139, 1) ∧
  pm_lk pb_t36 139 = ([(.iconst 0, [], .int 0)], 140, 0) ∧
  pm_lk pb_t36 140 = ([(.ireturn, [1], .null)], 141, 1) ∧
  pm_lk pb_t36 141 = ([(.iload_n 2, [2], .null), (.aload_n 1, [1], .null), (.getfield 93, [7, 4, 0, 145], .null), (.isub, [], .null), (.iload 4, [4], .null), (.if_icmp .le 7, [156, 0], .null), (.iconst 1, [], .int 1), (.goto 4, [157, 0], .null)], 156, 1) ∧
  pm_lk pb_t36 156 = ([(.iconst 0, [], .int 0)], 157, 0) ∧
  pm_lk pb_t36 157 = ([(.ireturn, [1], .null)], 158, 1) ∧
  pm_lk pb_t36 158 = ([(.aload_n 1, [1], .null), (.iload_n 3, [3], .null), (.iload_n 2, [2], .null), (.invokevirtual 96, [60, 7, 32, 2, 3], .null), (.astore 5, [5], .null), (.aload 5, [5], .null), (.ifnonnull 5, [173, 0], .null), (.iconst 0, [], .int 0), (.ireturn, [1], .null)], 173, 1) ∧
  pm_lk pb_t36 173 = ([(.iload_n 0, [0], .null), (.bipush 15, [], .int 15), (.iand, [], .null), (.iconst 2, [], .int 2), (.if_icmp .ne 21, [199, 0], .null), (.aload 5, [5], .null), (.getfield 99, [0, 2, 0, 179], .null), (.iload 4, [4], .null), (.if_icmp .ge 7, [195, 0], .null), (.iconst 1, [], .int 1), (.goto 22, [214, 0], .null)], 195, 1) ∧
  pm_lk pb_t36 195 = ([(.iconst 0, [], .int 0), (.goto 18, [214, 0], .null)], 199, 1) ∧
  pm_lk pb_t36 199 = ([(.aload 5, [5], .null), (.getfield 99, [0, 2, 0, 179], .null), (.iload 4, [4], .null), (.if_icmp .le 7, [213, 0], .null), (.iconst 1, [], .int 1), (.goto 4, [214, 0], .null)], 213, 1) ∧
  pm_lk pb_t36 213 = ([(.iconst 0, [], .int 0)], 214, 0) ∧
  pm_lk pb_t36 214 = ([(.ireturn, [1], .null)], 215, 1) := ⟨rfl, rfl, rfl, rfl, rfl, rfl, rfl, rfl, rfl, rfl, rfl, rfl, rfl, rfl, rfl, rfl, rfl, rfl, rfl, rfl, rfl, rfl, rfl, rfl, rfl, rfl⟩
/- WrongsDesk$Law.isOwed(ILWrongsDesk$Matter;I)Z: loops at [] -/
def pb_t37 : pm_Tb := [(0, [(.aload_n 0, [0], .null), (.getfield 25, [5, 5, 2, 17], .null), (.iload_n 1, [1], .null), (.iaload, [], .null), (.ifCond .ne 5, [11, 0], .null), (.iconst 1, [], .int 1), (.ireturn, [1], .null)], 11, 1),
  (11, [(.aload_n 0, [0], .null), (.aload_n 0, [0], .null), (.getfield 28, [5, 6, 2, 18], .null), (.iload_n 1, [1], .null), (.iaload, [], .null), (.aload_n 0, [0], .null), (.getfield 31, [5, 7, 2, 19], .null), (.iload_n 1, [1], .null), (.iaload, [], .null), (.aload_n 2, [2], .null), (.iload_n 3, [3], .null), (.invokevirtual 73, [35, 5, 29, 4, 1], .null), (.aload_n 0, [0], .null), (.getfield 25, [5, 5, 2, 17], .null), (.iload_n 1, [1], .null), (.iaload, [], .null), (.iconst 1, [], .int 1), (.if_icmp .ne 7, [43, 0], .null), (.iconst 1, [], .int 1), (.goto 4, [44, 0], .null)], 43, 1),
  (43, [(.iconst 0, [], .int 0)], 44, 0),
  (44, [(.if_icmp .ne 7, [51, 0], .null), (.iconst 1, [], .int 1), (.goto 4, [52, 0], .null)], 51, 1),
  (51, [(.iconst 0, [], .int 0)], 52, 0),
  (52, [(.ireturn, [1], .null)], 53, 1)]
theorem pb_c37 : pm_tok 37 pb_t37 = true := by decide +kernel
theorem pb_B37 : (pm_mL 37 = 4) ∧
  pm_lk pb_t37 0 = ([(.aload_n 0, [0], .null), (.getfield 25, [5, 5, 2, 17], .null), (.iload_n 1, [1], .null), (.iaload, [], .null), (.ifCond .ne 5, [11, 0], .null), (.iconst 1, [], .int 1), (.ireturn, [1], .null)], 11, 1) ∧
  pm_lk pb_t37 11 = ([(.aload_n 0, [0], .null), (.aload_n 0, [0], .null), (.getfield 28, [5, 6, 2, 18], .null), (.iload_n 1, [1], .null), (.iaload, [], .null), (.aload_n 0, [0], .null), (.getfield 31, [5, 7, 2, 19], .null), (.iload_n 1, [1], .null), (.iaload, [], .null), (.aload_n 2, [2], .null), (.iload_n 3, [3], .null), (.invokevirtual 73, [35, 5, 29, 4, 1], .null), (.aload_n 0, [0], .null), (.getfield 25, [5, 5, 2, 17], .null), (.iload_n 1, [1], .null), (.iaload, [], .null), (.iconst 1, [], .int 1), (.if_icmp .ne 7, [43, 0], .null), (.iconst 1, [], .int 1), (.goto 4, [44, 0], .null)], 43, 1) ∧
  pm_lk pb_t37 43 = ([(.iconst 0, [], .int 0)], 44, 0) ∧
  pm_lk pb_t37 44 = ([(.if_icmp .ne 7, [51, 0], .null), (.iconst 1, [], .int 1), (.goto 4, [52, 0], .null)], 51, 1) ∧
  pm_lk pb_t37 51 = ([(.iconst 0, [], .int 0)], 52, 0) ∧
  pm_lk pb_t37 52 = ([(.ireturn, [1], .null)], 53, 1) := ⟨rfl, rfl, rfl, rfl, rfl, rfl, rfl⟩
/- WrongsDesk$Law.addStep(III)V: loops at [] -/
def pb_t38 : pm_Tb := [(0, [(.aload_n 0, [0], .null), (.getfield 70, [5, 18, 0, 52], .null), (.sipush 160, [], .int 160), (.if_icmp .ge 32, [39, 0], .null), (.aload_n 0, [0], .null), (.getfield 34, [5, 17, 2, 51], .null), (.aload_n 0, [0], .null), (.getfield 70, [5, 18, 0, 52], .null), (.iload_n 1, [1], .null), (.iload_n 2, [2], .null), (.iconst 4, [], .int 4), (.ishl, [], .null), (.ior, [], .null), (.iload_n 3, [3], .null), (.bipush 8, [], .int 8), (.ishl, [], .null), (.ior, [], .null), (.iastore, [], .null), (.aload_n 0, [0], .null), (.dup, [], .null), (.getfield 70, [5, 18, 0, 52], .null), (.iconst 1, [], .int 1), (.iadd, [], .null), (.putfield 70, [5, 18, 0, 52, 0], .null)], 39, 0),
  (39, [(.return_, [], .null)], 40, 1)]
theorem pb_c38 : pm_tok 38 pb_t38 = true := by decide +kernel
theorem pb_B38 : (pm_mL 38 = 4) ∧
  pm_lk pb_t38 0 = ([(.aload_n 0, [0], .null), (.getfield 70, [5, 18, 0, 52], .null), (.sipush 160, [], .int 160), (.if_icmp .ge 32, [39, 0], .null), (.aload_n 0, [0], .null), (.getfield 34, [5, 17, 2, 51], .null), (.aload_n 0, [0], .null), (.getfield 70, [5, 18, 0, 52], .null), (.iload_n 1, [1], .null), (.iload_n 2, [2], .null), (.iconst 4, [], .int 4), (.ishl, [], .null), (.ior, [], .null), (.iload_n 3, [3], .null), (.bipush 8, [], .int 8), (.ishl, [], .null), (.ior, [], .null), (.iastore, [], .null), (.aload_n 0, [0], .null), (.dup, [], .null), (.getfield 70, [5, 18, 0, 52], .null), (.iconst 1, [], .int 1), (.iadd, [], .null), (.putfield 70, [5, 18, 0, 52, 0], .null)], 39, 0) ∧
  pm_lk pb_t38 39 = ([(.return_, [], .null)], 40, 1) := ⟨rfl, rfl, rfl⟩
/- WrongsDesk$Law.addOwe(IIII)V: loops at [] -/
def pb_t39 : pm_Tb := [(0, [(.aload_n 0, [0], .null), (.getfield 40, [5, 2, 0, 10], .null), (.bipush 10, [], .int 10), (.if_icmp .ge 67, [73, 0], .null), (.aload_n 0, [0], .null), (.getfield 18, [5, 3, 2, 13], .null), (.aload_n 0, [0], .null), (.getfield 40, [5, 2, 0, 10], .null), (.iload_n 1, [1], .null), (.iastore, [], .null), (.aload_n 0, [0], .null), (.getfield 22, [5, 4, 2, 15], .null), (.aload_n 0, [0], .null), (.getfield 40, [5, 2, 0, 10], .null), (.iload_n 2, [2], .null), (.iastore, [], .null), (.aload_n 0, [0], .null), (.getfield 25, [5, 5, 2, 17], .null), (.aload_n 0, [0], .null), (.getfield 40, [5, 2, 0, 10], .null), (.iload_n 3, [3], .null), (.iastore, [], .null), (.aload_n 0, [0], .null), (.getfield 28, [5, 6, 2, 18], .null), (.aload_n 0, [0], .null), (.getfield 40, [5, 2, 0, 10], .null), (.iload 4, [4], .null), (.iastore, [], .null), (.aload_n 0, [0], .null), (.getfield 31, [5, 7, 2, 19], .null), (.aload_n 0, [0], .null), (.getfield 40, [5, 2, 0, 10], .null), (.aload_n 0, [0], .null), (.getfield 70, [5, 18, 0, 52], .null), (.iastore, [], .null), (.aload_n 0, [0], .null), (.dup, [], .null), (.getfield 40, [5, 2, 0, 10], .null), (.iconst 1, [], .int 1), (.iadd, [], .null), (.putfield 40, [5, 2, 0, 10, 0], .null)], 73, 0),
  (73, [(.return_, [], .null)], 74, 1)]
theorem pb_c39 : pm_tok 39 pb_t39 = true := by decide +kernel
theorem pb_B39 : (pm_mL 39 = 5) ∧
  pm_lk pb_t39 0 = ([(.aload_n 0, [0], .null), (.getfield 40, [5, 2, 0, 10], .null), (.bipush 10, [], .int 10), (.if_icmp .ge 67, [73, 0], .null), (.aload_n 0, [0], .null), (.getfield 18, [5, 3, 2, 13], .null), (.aload_n 0, [0], .null), (.getfield 40, [5, 2, 0, 10], .null), (.iload_n 1, [1], .null), (.iastore, [], .null), (.aload_n 0, [0], .null), (.getfield 22, [5, 4, 2, 15], .null), (.aload_n 0, [0], .null), (.getfield 40, [5, 2, 0, 10], .null), (.iload_n 2, [2], .null), (.iastore, [], .null), (.aload_n 0, [0], .null), (.getfield 25, [5, 5, 2, 17], .null), (.aload_n 0, [0], .null), (.getfield 40, [5, 2, 0, 10], .null), (.iload_n 3, [3], .null), (.iastore, [], .null), (.aload_n 0, [0], .null), (.getfield 28, [5, 6, 2, 18], .null), (.aload_n 0, [0], .null), (.getfield 40, [5, 2, 0, 10], .null), (.iload 4, [4], .null), (.iastore, [], .null), (.aload_n 0, [0], .null), (.getfield 31, [5, 7, 2, 19], .null), (.aload_n 0, [0], .null), (.getfield 40, [5, 2, 0, 10], .null), (.aload_n 0, [0], .null), (.getfield 70, [5, 18, 0, 52], .null), (.iastore, [], .null), (.aload_n 0, [0], .null), (.dup, [], .null), (.getfield 40, [5, 2, 0, 10], .null), (.iconst 1, [], .int 1), (.iadd, [], .null), (.putfield 40, [5, 2, 0, 10, 0], .null)], 73, 0) ∧
  pm_lk pb_t39 73 = ([(.return_, [], .null)], 74, 1) := ⟨rfl, rfl, rfl⟩
/- WrongsDesk$LawReader.<init>()V: loops at [] -/
def pb_t40 : pm_Tb := [(0, [(.aload_n 0, [0], .null), (.invokespecial 3, [2], .null), (.aload_n 0, [0], .null), (.sipush 160, [], .int 160), (.newarray .int, [20, 160, 0, 8, 389], .int 160), (.putfield 9, [6, 0, 2, 54, 1], .null), (.aload_n 0, [0], .null), (.iconst 0, [], .int 0), (.putfield 15, [6, 1, 0, 55, 0], .null), (.aload_n 0, [0], .null), (.iconst 0, [], .int 0), (.putfield 19, [6, 2, 0, 57, 0], .null), (.aload_n 0, [0], .null), (.new 22, [5, 4, 19, 8, 389], .null), (.dup, [], .null), (.invokespecial 24, [32, 5, 1, 0, 6, 210, 8, 389], .null), (.putfield 25, [6, 3, 2, 59, 0], .null), (.return_, [], .null)], 35, 1)]
theorem pb_c40 : pm_tok 40 pb_t40 = true := by decide +kernel
theorem pb_B40 : (pm_mL 40 = 1) ∧
  pm_lk pb_t40 0 = ([(.aload_n 0, [0], .null), (.invokespecial 3, [2], .null), (.aload_n 0, [0], .null), (.sipush 160, [], .int 160), (.newarray .int, [20, 160, 0, 8, 389], .int 160), (.putfield 9, [6, 0, 2, 54, 1], .null), (.aload_n 0, [0], .null), (.iconst 0, [], .int 0), (.putfield 15, [6, 1, 0, 55, 0], .null), (.aload_n 0, [0], .null), (.iconst 0, [], .int 0), (.putfield 19, [6, 2, 0, 57, 0], .null), (.aload_n 0, [0], .null), (.new 22, [5, 4, 19, 8, 389], .null), (.dup, [], .null), (.invokespecial 24, [32, 5, 1, 0, 6, 210, 8, 389], .null), (.putfield 25, [6, 3, 2, 59, 0], .null), (.return_, [], .null)], 35, 1) := ⟨rfl, rfl⟩
/- WrongsDesk$LawReader.append(II)Z: loops at [18] -/
def pb_t41 : pm_Tb := [(0, [(.aload_n 0, [0], .null), (.getfield 15, [6, 1, 0, 55], .null), (.iload_n 2, [2], .null), (.iadd, [], .null), (.sipush 160, [], .int 160), (.if_icmp .le 5, [14, 0], .null), (.iconst 0, [], .int 0), (.ireturn, [1], .null)], 14, 1),
  (14, [(.iload_n 2, [2], .null), (.iconst 1, [], .int 1), (.isub, [], .null), (.istore_n 3, [3], .null)], 18, 1),
  (18, [(.iload_n 3, [3], .null), (.ifCond .lt 38, [57, 0], .null), (.aload_n 0, [0], .null), (.getfield 9, [6, 0, 2, 54], .null), (.aload_n 0, [0], .null), (.getfield 15, [6, 1, 0, 55], .null), (.iload_n 1, [1], .null), (.bipush 8, [], .int 8), (.iload_n 3, [3], .null), (.imul, [], .null), (.iushr, [], .null), (.sipush 255, [], .int 255), (.iand, [], .null), (.iastore, [], .null), (.aload_n 0, [0], .null), (.dup, [], .null), (.getfield 15, [6, 1, 0, 55], .null), (.iconst 1, [], .int 1), (.iadd, [], .null), (.putfield 15, [6, 1, 0, 55, 0], .null), (.iinc 3 (-1), [3], .int (-1)), (.goto (-36), [18, 1], .null)], 57, 1),
  (57, [(.iconst 1, [], .int 1), (.ireturn, [1], .null)], 59, 1)]
theorem pb_c41 : pm_tok 41 pb_t41 = true := by decide +kernel
theorem pb_B41 : (pm_mL 41 = 4) ∧
  pm_lk pb_t41 0 = ([(.aload_n 0, [0], .null), (.getfield 15, [6, 1, 0, 55], .null), (.iload_n 2, [2], .null), (.iadd, [], .null), (.sipush 160, [], .int 160), (.if_icmp .le 5, [14, 0], .null), (.iconst 0, [], .int 0), (.ireturn, [1], .null)], 14, 1) ∧
  pm_lk pb_t41 14 = ([(.iload_n 2, [2], .null), (.iconst 1, [], .int 1), (.isub, [], .null), (.istore_n 3, [3], .null)], 18, 1) ∧
  pm_lk pb_t41 18 = ([(.iload_n 3, [3], .null), (.ifCond .lt 38, [57, 0], .null), (.aload_n 0, [0], .null), (.getfield 9, [6, 0, 2, 54], .null), (.aload_n 0, [0], .null), (.getfield 15, [6, 1, 0, 55], .null), (.iload_n 1, [1], .null), (.bipush 8, [], .int 8), (.iload_n 3, [3], .null), (.imul, [], .null), (.iushr, [], .null), (.sipush 255, [], .int 255), (.iand, [], .null), (.iastore, [], .null), (.aload_n 0, [0], .null), (.dup, [], .null), (.getfield 15, [6, 1, 0, 55], .null), (.iconst 1, [], .int 1), (.iadd, [], .null), (.putfield 15, [6, 1, 0, 55, 0], .null), (.iinc 3 (-1), [3], .int (-1)), (.goto (-36), [18, 1], .null)], 57, 1) ∧
  pm_lk pb_t41 57 = ([(.iconst 1, [], .int 1), (.ireturn, [1], .null)], 59, 1) := ⟨rfl, rfl, rfl, rfl, rfl⟩
/- WrongsDesk$LawReader.readLaw()Z: loops at [14] -/
def pb_t42 : pm_Tb := [(0, [(.aload_n 0, [0], .null), (.getfield 25, [6, 3, 2, 59], .null), (.invokevirtual 29, [33, 5, 73, 0, 0], .null), (.aload_n 0, [0], .null), (.iconst 0, [], .int 0), (.putfield 19, [6, 2, 0, 57, 0], .null), (.iconst 1, [], .int 1), (.istore_n 1, [1], .null)], 14, 1),
  (14, [(.iload_n 1, [1], .null), (.bipush 10, [], .int 10), (.if_icmp .gt 48, [65, 0], .null), (.aload_n 0, [0], .null), (.invokevirtual 32, [43, 6, 74, 0, 1], .null), (.ifCond .ne 5, [29, 0], .null), (.iconst 0, [], .int 0), (.ireturn, [1], .null)], 29, 1),
  (29, [(.aload_n 0, [0], .null), (.getfield 19, [6, 2, 0, 57], .null), (.aload_n 0, [0], .null), (.getfield 15, [6, 1, 0, 55], .null), (.if_icmp .lt 5, [42, 0], .null), (.iconst 1, [], .int 1), (.ireturn, [1], .null)], 42, 1),
  (42, [(.iload_n 1, [1], .null), (.bipush 10, [], .int 10), (.if_icmp .eq 12, [57, 0], .null), (.aload_n 0, [0], .null), (.bipush 59, [], .int 59), (.invokevirtual 36, [46, 6, 89, 1, 1], .null), (.ifCond .ne 5, [59, 0], .null)], 57, 0),
  (57, [(.iconst 0, [], .int 0), (.ireturn, [1], .null)], 59, 1),
  (59, [(.iinc 1 1, [1], .int 1), (.goto (-48), [14, 1], .null)], 65, 1),
  (65, [(.iconst 0, [], .int 0), (.ireturn, [1], .null)], 67, 1)]
theorem pb_c42 : pm_tok 42 pb_t42 = true := by decide +kernel
theorem pb_B42 : (pm_mL 42 = 2) ∧
  pm_lk pb_t42 0 = ([(.aload_n 0, [0], .null), (.getfield 25, [6, 3, 2, 59], .null), (.invokevirtual 29, [33, 5, 73, 0, 0], .null), (.aload_n 0, [0], .null), (.iconst 0, [], .int 0), (.putfield 19, [6, 2, 0, 57, 0], .null), (.iconst 1, [], .int 1), (.istore_n 1, [1], .null)], 14, 1) ∧
  pm_lk pb_t42 14 = ([(.iload_n 1, [1], .null), (.bipush 10, [], .int 10), (.if_icmp .gt 48, [65, 0], .null), (.aload_n 0, [0], .null), (.invokevirtual 32, [43, 6, 74, 0, 1], .null), (.ifCond .ne 5, [29, 0], .null), (.iconst 0, [], .int 0), (.ireturn, [1], .null)], 29, 1) ∧
  pm_lk pb_t42 29 = ([(.aload_n 0, [0], .null), (.getfield 19, [6, 2, 0, 57], .null), (.aload_n 0, [0], .null), (.getfield 15, [6, 1, 0, 55], .null), (.if_icmp .lt 5, [42, 0], .null), (.iconst 1, [], .int 1), (.ireturn, [1], .null)], 42, 1) ∧
  pm_lk pb_t42 42 = ([(.iload_n 1, [1], .null), (.bipush 10, [], .int 10), (.if_icmp .eq 12, [57, 0], .null), (.aload_n 0, [0], .null), (.bipush 59, [], .int 59), (.invokevirtual 36, [46, 6, 89, 1, 1], .null), (.ifCond .ne 5, [59, 0], .null)], 57, 0) ∧
  pm_lk pb_t42 57 = ([(.iconst 0, [], .int 0), (.ireturn, [1], .null)], 59, 1) ∧
  pm_lk pb_t42 59 = ([(.iinc 1 1, [1], .int 1), (.goto (-48), [14, 1], .null)], 65, 1) ∧
  pm_lk pb_t42 65 = ([(.iconst 0, [], .int 0), (.ireturn, [1], .null)], 67, 1) := ⟨rfl, rfl, rfl, rfl, rfl, rfl, rfl, rfl⟩
/- WrongsDesk$LawReader.clause()Z: loops at [] -/
def pb_t43 : pm_Tb := [(0, [(.aload_n 0, [0], .null), (.invokevirtual 40, [44, 6, 75, 0, 1], .null), (.tableswitch 240 97 115 #[153, 240, 182, 240, 240, 211, 240, 240, 240, 240, 240, 124, 240, 240, 92, 240, 240, 114, 119], [97, 157, 0, 98, 244, 0, 99, 186, 0, 100, 244, 0, 101, 244, 0, 102, 215, 0, 103, 244, 0, 104, 244, 0, 105, 244, 0, 106, 244, 0, 107, 244, 0, 108, 128, 0, 109, 244, 0, 110, 244, 0, 111, 96, 0, 112, 244, 0, 113, 244, 0, 114, 118, 0, 115, 123, 0, 244, 0], .null)], 96, 1),
  (96, [(.aload_n 0, [0], .null), (.ldc 44, [0, 0], .retAddr 0), (.invokevirtual 46, [45, 6, 76, 1, 1], .null), (.ifCond .eq 14, [116, 0], .null), (.aload_n 0, [0], .null), (.invokevirtual 50, [47, 6, 90, 0, 1], .null), (.ifCond .eq 7, [116, 0], .null), (.iconst 1, [], .int 1), (.goto 4, [117, 0], .null)], 116, 1),
  (116, [(.iconst 0, [], .int 0)], 117, 0),
  (117, [(.ireturn, [1], .null)], 118, 1),
  (118, [(.aload_n 0, [0], .null), (.invokevirtual 53, [54, 6, 99, 0, 1], .null), (.ireturn, [1], .null)], 123, 1),
  (123, [(.aload_n 0, [0], .null), (.invokevirtual 56, [56, 6, 101, 0, 1], .null), (.ireturn, [1], .null)], 128, 1),
  (128, [(.aload_n 0, [0], .null), (.getfield 25, [6, 3, 2, 59], .null), (.aload_n 0, [0], .null), (.ldc 59, [6, 0], .retAddr 6), (.invokevirtual 61, [55, 6, 100, 1, 1], .null), (.putfield 65, [5, 10, 0, 26, 0], .null), (.aload_n 0, [0], .null), (.getfield 25, [6, 3, 2, 59], .null), (.getfield 65, [5, 10, 0, 26], .null), (.ifCond .lt 7, [155, 0], .null), (.iconst 1, [], .int 1), (.goto 4, [156, 0], .null)], 155, 1),
  (155, [(.iconst 0, [], .int 0)], 156, 0),
  (156, [(.ireturn, [1], .null)], 157, 1),
  (157, [(.aload_n 0, [0], .null), (.getfield 25, [6, 3, 2, 59], .null), (.aload_n 0, [0], .null), (.ldc 68, [7, 0], .retAddr 7), (.invokevirtual 61, [55, 6, 100, 1, 1], .null), (.putfield 70, [5, 11, 0, 29, 0], .null), (.aload_n 0, [0], .null), (.getfield 25, [6, 3, 2, 59], .null), (.getfield 70, [5, 11, 0, 29], .null), (.ifCond .lt 7, [184, 0], .null), (.iconst 1, [], .int 1), (.goto 4, [185, 0], .null)], 184, 1),
  (184, [(.iconst 0, [], .int 0)], 185, 0),
  (185, [(.ireturn, [1], .null)], 186, 1),
  (186, [(.aload_n 0, [0], .null), (.getfield 25, [6, 3, 2, 59], .null), (.aload_n 0, [0], .null), (.ldc 73, [8, 0], .retAddr 8), (.invokevirtual 61, [55, 6, 100, 1, 1], .null), (.putfield 75, [5, 14, 0, 41, 0], .null), (.aload_n 0, [0], .null), (.getfield 25, [6, 3, 2, 59], .null), (.getfield 75, [5, 14, 0, 41], .null), (.ifCond .lt 7, [213, 0], .null), (.iconst 1, [], .int 1), (.goto 4, [214, 0], .null)], 213, 1),
  (213, [(.iconst 0, [], .int 0)], 214, 0),
  (214, [(.ireturn, [1], .null)], 215, 1),
  (215, [(.aload_n 0, [0], .null), (.getfield 25, [6, 3, 2, 59], .null), (.aload_n 0, [0], .null), (.ldc 78, [9, 0], .retAddr 9), (.invokevirtual 61, [55, 6, 100, 1, 1], .null), (.putfield 80, [5, 16, 0, 49, 0], .null), (.aload_n 0, [0], .null), (.getfield 25, [6, 3, 2, 59], .null), (.getfield 80, [5, 16, 0, 49], .null), (.ifCond .lt 7, [242, 0], .null), (.iconst 1, [], .int 1), (.goto 4, [243, 0], .null)], 242, 1),
  (242, [(.iconst 0, [], .int 0)], 243, 0),
  (243, [(.ireturn, [1], .null)], 244, 1),
  (244, [(.iconst 0, [], .int 0), (.ireturn, [1], .null)], 246, 1)]
theorem pb_c43 : pm_tok 43 pb_t43 = true := by decide +kernel
theorem pb_B43 : (pm_mL 43 = 1) ∧
  pm_lk pb_t43 0 = ([(.aload_n 0, [0], .null), (.invokevirtual 40, [44, 6, 75, 0, 1], .null), (.tableswitch 240 97 115 #[153, 240, 182, 240, 240, 211, 240, 240, 240, 240, 240, 124, 240, 240, 92, 240, 240, 114, 119], [97, 157, 0, 98, 244, 0, 99, 186, 0, 100, 244, 0, 101, 244, 0, 102, 215, 0, 103, 244, 0, 104, 244, 0, 105, 244, 0, 106, 244, 0, 107, 244, 0, 108, 128, 0, 109, 244, 0, 110, 244, 0, 111, 96, 0, 112, 244, 0, 113, 244, 0, 114, 118, 0, 115, 123, 0, 244, 0], .null)], 96, 1) ∧
  pm_lk pb_t43 96 = ([(.aload_n 0, [0], .null), (.ldc 44, [0, 0], .retAddr 0), (.invokevirtual 46, [45, 6, 76, 1, 1], .null), (.ifCond .eq 14, [116, 0], .null), (.aload_n 0, [0], .null), (.invokevirtual 50, [47, 6, 90, 0, 1], .null), (.ifCond .eq 7, [116, 0], .null), (.iconst 1, [], .int 1), (.goto 4, [117, 0], .null)], 116, 1) ∧
  pm_lk pb_t43 116 = ([(.iconst 0, [], .int 0)], 117, 0) ∧
  pm_lk pb_t43 117 = ([(.ireturn, [1], .null)], 118, 1) ∧
  pm_lk pb_t43 118 = ([(.aload_n 0, [0], .null), (.invokevirtual 53, [54, 6, 99, 0, 1], .null), (.ireturn, [1], .null)], 123, 1) ∧
  pm_lk pb_t43 123 = ([(.aload_n 0, [0], .null), (.invokevirtual 56, [56, 6, 101, 0, 1], .null), (.ireturn, [1], .null)], 128, 1) ∧
  pm_lk pb_t43 128 = ([(.aload_n 0, [0], .null), (.getfield 25, [6, 3, 2, 59], .null), (.aload_n 0, [0], .null), (.ldc 59, [6, 0], .retAddr 6), (.invokevirtual 61, [55, 6, 100, 1, 1], .null), (.putfield 65, [5, 10, 0, 26, 0], .null), (.aload_n 0, [0], .null), (.getfield 25, [6, 3, 2, 59], .null), (.getfield 65, [5, 10, 0, 26], .null), (.ifCond .lt 7, [155, 0], .null), (.iconst 1, [], .int 1), (.goto 4, [156, 0], .null)], 155, 1) ∧
  pm_lk pb_t43 155 = ([(.iconst 0, [], .int 0)], 156, 0) ∧
  pm_lk pb_t43 156 = ([(.ireturn, [1], .null)], 157, 1) ∧
  pm_lk pb_t43 157 = ([(.aload_n 0, [0], .null), (.getfield 25, [6, 3, 2, 59], .null), (.aload_n 0, [0], .null), (.ldc 68, [7, 0], .retAddr 7), (.invokevirtual 61, [55, 6, 100, 1, 1], .null), (.putfield 70, [5, 11, 0, 29, 0], .null), (.aload_n 0, [0], .null), (.getfield 25, [6, 3, 2, 59], .null), (.getfield 70, [5, 11, 0, 29], .null), (.ifCond .lt 7, [184, 0], .null), (.iconst 1, [], .int 1), (.goto 4, [185, 0], .null)], 184, 1) ∧
  pm_lk pb_t43 184 = ([(.iconst 0, [], .int 0)], 185, 0) ∧
  pm_lk pb_t43 185 = ([(.ireturn, [1], .null)], 186, 1) ∧
  pm_lk pb_t43 186 = ([(.aload_n 0, [0], .null), (.getfield 25, [6, 3, 2, 59], .null), (.aload_n 0, [0], .null), (.ldc 73, [8, 0], .retAddr 8), (.invokevirtual 61, [55, 6, 100, 1, 1], .null), (.putfield 75, [5, 14, 0, 41, 0], .null), (.aload_n 0, [0], .null), (.getfield 25, [6, 3, 2, 59], .null), (.getfield 75, [5, 14, 0, 41], .null), (.ifCond .lt 7, [213, 0], .null), (.iconst 1, [], .int 1), (.goto 4, [214, 0], .null)], 213, 1) ∧
  pm_lk pb_t43 213 = ([(.iconst 0, [], .int 0)], 214, 0) ∧
  pm_lk pb_t43 214 = ([(.ireturn, [1], .null)], 215, 1) ∧
  pm_lk pb_t43 215 = ([(.aload_n 0, [0], .null), (.getfield 25, [6, 3, 2, 59], .null), (.aload_n 0, [0], .null), (.ldc 78, [9, 0], .retAddr 9), (.invokevirtual 61, [55, 6, 100, 1, 1], .null), (.putfield 80, [5, 16, 0, 49, 0], .null), (.aload_n 0, [0], .null), (.getfield 25, [6, 3, 2, 59], .null), (.getfield 80, [5, 16, 0, 49], .null), (.ifCond .lt 7, [242, 0], .null), (.iconst 1, [], .int 1), (.goto 4, [243, 0], .null)], 242, 1) ∧
  pm_lk pb_t43 242 = ([(.iconst 0, [], .int 0)], 243, 0) ∧
  pm_lk pb_t43 243 = ([(.ireturn, [1], .null)], 244, 1) ∧
  pm_lk pb_t43 244 = ([(.iconst 0, [], .int 0), (.ireturn, [1], .null)], 246, 1) := ⟨rfl, rfl, rfl, rfl, rfl, rfl, rfl, rfl, rfl, rfl, rfl, rfl, rfl, rfl, rfl, rfl, rfl, rfl, rfl, rfl⟩
/- WrongsDesk$LawReader.sign()I: loops at [] -/
def pb_t44 : pm_Tb := [(0, [(.aload_n 0, [0], .null), (.getfield 19, [6, 2, 0, 57], .null), (.aload_n 0, [0], .null), (.getfield 15, [6, 1, 0, 55], .null), (.if_icmp .ge 15, [23, 0], .null), (.aload_n 0, [0], .null), (.getfield 9, [6, 0, 2, 54], .null), (.aload_n 0, [0], .null), (.getfield 19, [6, 2, 0, 57], .null), (.iaload, [], .null), (.goto 4, [24, 0], .null)], 23, 1),
  (23, [(.iconst (-1), [], .int (-1))], 24, 0),
  (24, [(.ireturn, [0], .null)], 25, 1)]
theorem pb_c44 : pm_tok 44 pb_t44 = true := by decide +kernel
theorem pb_B44 : (pm_mL 44 = 1) ∧
  pm_lk pb_t44 0 = ([(.aload_n 0, [0], .null), (.getfield 19, [6, 2, 0, 57], .null), (.aload_n 0, [0], .null), (.getfield 15, [6, 1, 0, 55], .null), (.if_icmp .ge 15, [23, 0], .null), (.aload_n 0, [0], .null), (.getfield 9, [6, 0, 2, 54], .null), (.aload_n 0, [0], .null), (.getfield 19, [6, 2, 0, 57], .null), (.iaload, [], .null), (.goto 4, [24, 0], .null)], 23, 1) ∧
  pm_lk pb_t44 23 = ([(.iconst (-1), [], .int (-1))], 24, 0) ∧
  pm_lk pb_t44 24 = ([(.ireturn, [0], .null)], 25, 1) := ⟨rfl, rfl, rfl, rfl⟩
/- WrongsDesk$LawReader.takesAll(Ljava/lang/String;)Z: loops at [2] -/
def pb_t45 : pm_Tb := [(0, [(.iconst 0, [], .int 0), (.istore_n 2, [2], .null)], 2, 1),
  (2, [(.iload_n 2, [2], .null), (.aload_n 1, [1], .null), (.invokevirtual 139, [269, 77, 0, 1], .null), (.if_icmp .ge 23, [30, 0], .null), (.aload_n 0, [0], .null), (.aload_n 1, [1], .null), (.iload_n 2, [2], .null), (.invokevirtual 143, [271, 79, 1, 1], .null), (.invokevirtual 36, [46, 6, 89, 1, 1], .null), (.ifCond .ne 5, [24, 0], .null), (.iconst 0, [], .int 0), (.ireturn, [1], .null)], 24, 1),
  (24, [(.iinc 2 1, [2], .int 1), (.goto (-25), [2, 1], .null)], 30, 1),
  (30, [(.iconst 1, [], .int 1), (.ireturn, [1], .null)], 32, 1)]
theorem pb_c45 : pm_tok 45 pb_t45 = true := by decide +kernel
theorem pb_B45 : (pm_mL 45 = 3) ∧
  pm_lk pb_t45 0 = ([(.iconst 0, [], .int 0), (.istore_n 2, [2], .null)], 2, 1) ∧
  pm_lk pb_t45 2 = ([(.iload_n 2, [2], .null), (.aload_n 1, [1], .null), (.invokevirtual 139, [269, 77, 0, 1], .null), (.if_icmp .ge 23, [30, 0], .null), (.aload_n 0, [0], .null), (.aload_n 1, [1], .null), (.iload_n 2, [2], .null), (.invokevirtual 143, [271, 79, 1, 1], .null), (.invokevirtual 36, [46, 6, 89, 1, 1], .null), (.ifCond .ne 5, [24, 0], .null), (.iconst 0, [], .int 0), (.ireturn, [1], .null)], 24, 1) ∧
  pm_lk pb_t45 24 = ([(.iinc 2 1, [2], .int 1), (.goto (-25), [2, 1], .null)], 30, 1) ∧
  pm_lk pb_t45 30 = ([(.iconst 1, [], .int 1), (.ireturn, [1], .null)], 32, 1) := ⟨rfl, rfl, rfl, rfl, rfl⟩
/- WrongsDesk$LawReader.takes(C)Z: loops at [] -/
def pb_t46 : pm_Tb := [(0, [(.aload_n 0, [0], .null), (.getfield 19, [6, 2, 0, 57], .null), (.aload_n 0, [0], .null), (.getfield 15, [6, 1, 0, 55], .null), (.if_icmp .ge 16, [24, 0], .null), (.aload_n 0, [0], .null), (.getfield 9, [6, 0, 2, 54], .null), (.aload_n 0, [0], .null), (.getfield 19, [6, 2, 0, 57], .null), (.iaload, [], .null), (.iload_n 1, [1], .null), (.if_icmp .eq 5, [26, 0], .null)], 24, 0),
  (24, [(.iconst 0, [], .int 0), (.ireturn, [1], .null)], 26, 1),
  (26, [(.aload_n 0, [0], .null), (.dup, [], .null), (.getfield 19, [6, 2, 0, 57], .null), (.iconst 1, [], .int 1), (.iadd, [], .null), (.putfield 19, [6, 2, 0, 57, 0], .null), (.iconst 1, [], .int 1), (.ireturn, [1], .null)], 38, 1)]
theorem pb_c46 : pm_tok 46 pb_t46 = true := by decide +kernel
theorem pb_B46 : (pm_mL 46 = 2) ∧
  pm_lk pb_t46 0 = ([(.aload_n 0, [0], .null), (.getfield 19, [6, 2, 0, 57], .null), (.aload_n 0, [0], .null), (.getfield 15, [6, 1, 0, 55], .null), (.if_icmp .ge 16, [24, 0], .null), (.aload_n 0, [0], .null), (.getfield 9, [6, 0, 2, 54], .null), (.aload_n 0, [0], .null), (.getfield 19, [6, 2, 0, 57], .null), (.iaload, [], .null), (.iload_n 1, [1], .null), (.if_icmp .eq 5, [26, 0], .null)], 24, 0) ∧
  pm_lk pb_t46 24 = ([(.iconst 0, [], .int 0), (.ireturn, [1], .null)], 26, 1) ∧
  pm_lk pb_t46 26 = ([(.aload_n 0, [0], .null), (.dup, [], .null), (.getfield 19, [6, 2, 0, 57], .null), (.iconst 1, [], .int 1), (.iadd, [], .null), (.putfield 19, [6, 2, 0, 57, 0], .null), (.iconst 1, [], .int 1), (.ireturn, [1], .null)], 38, 1) := ⟨rfl, rfl, rfl, rfl⟩
/- WrongsDesk$LawReader.owe()Z: loops at [] -/
def pb_t47 : pm_Tb := [(0, [(.aload_n 0, [0], .null), (.iconst 1, [], .int 1), (.iconst 1, [], .int 1), (.invokevirtual 83, [48, 6, 91, 2, 1], .null), (.istore_n 1, [1], .null), (.iload_n 1, [1], .null), (.ifCond .lt 12, [20, 0], .null), (.aload_n 0, [0], .null), (.bipush 32, [], .int 32), (.invokevirtual 36, [46, 6, 89, 1, 1], .null), (.ifCond .ne 5, [22, 0], .null)], 20, 0),
  (20, [(.iconst 0, [], .int 0), (.ireturn, [1], .null)], 22, 1),
  (22, [(.aload_n 0, [0], .null), (.iconst 0, [], .int 0), (.iconst 4, [], .int 4), (.invokevirtual 83, [48, 6, 91, 2, 1], .null), (.istore_n 2, [2], .null), (.iload_n 2, [2], .null), (.ifCond .ge 5, [35, 0], .null), (.iconst 0, [], .int 0), (.ireturn, [1], .null)], 35, 1),
  (35, [(.iconst 0, [], .int 0), (.istore_n 3, [3], .null), (.aload_n 0, [0], .null), (.getfield 25, [6, 3, 2, 59], .null), (.getfield 87, [5, 18, 0, 53], .null), (.istore 4, [4], .null), (.aload_n 0, [0], .null), (.bipush 32, [], .int 32), (.invokevirtual 36, [46, 6, 89, 1, 1], .null), (.ifCond .eq 47, [99, 0], .null), (.aload_n 0, [0], .null), (.invokevirtual 40, [44, 6, 75, 0, 1], .null), (.bipush 105, [], .int 105), (.if_icmp .ne 7, [68, 0], .null), (.iconst 1, [], .int 1), (.goto 4, [69, 0], .null)], 68, 1),
  (68, [(.iconst 2, [], .int 2)], 69, 0),
  (69, [(.istore_n 3, [3], .null), (.aload_n 0, [0], .null), (.iload_n 3, [3], .null), (.iconst 1, [], .int 1), (.if_icmp .ne 8, [81, 0], .null), (.ldc 90, [1, 0], .retAddr 1), (.goto 5, [83, 0], .null)], 81, 1),
  (81, [(.ldc 92, [2, 0], .retAddr 2)], 83, 0),
  (83, [(.invokevirtual 46, [45, 6, 76, 1, 1], .null), (.ifCond .eq 11, [97, 0], .null), (.aload_n 0, [0], .null), (.iconst 0, [], .int 0), (.invokevirtual 94, [49, 6, 92, 1, 1], .null), (.ifCond .ne 5, [99, 0], .null)], 97, 0),
  (97, [(.iconst 0, [], .int 0), (.ireturn, [1], .null)], 99, 1),
  (99, [(.aload_n 0, [0], .null), (.getfield 25, [6, 3, 2, 59], .null), (.iload_n 1, [1], .null), (.iload_n 2, [2], .null), (.iload_n 3, [3], .null), (.iload 4, [4], .null), (.invokevirtual 98, [39, 5, 98, 4, 0], .null), (.iconst 1, [], .int 1), (.ireturn, [1], .null)], 113, 1)]
theorem pb_c47 : pm_tok 47 pb_t47 = true := by decide +kernel
theorem pb_B47 : (pm_mL 47 = 5) ∧
  pm_lk pb_t47 0 = ([(.aload_n 0, [0], .null), (.iconst 1, [], .int 1), (.iconst 1, [], .int 1), (.invokevirtual 83, [48, 6, 91, 2, 1], .null), (.istore_n 1, [1], .null), (.iload_n 1, [1], .null), (.ifCond .lt 12, [20, 0], .null), (.aload_n 0, [0], .null), (.bipush 32, [], .int 32), (.invokevirtual 36, [46, 6, 89, 1, 1], .null), (.ifCond .ne 5, [22, 0], .null)], 20, 0) ∧
  pm_lk pb_t47 20 = ([(.iconst 0, [], .int 0), (.ireturn, [1], .null)], 22, 1) ∧
  pm_lk pb_t47 22 = ([(.aload_n 0, [0], .null), (.iconst 0, [], .int 0), (.iconst 4, [], .int 4), (.invokevirtual 83, [48, 6, 91, 2, 1], .null), (.istore_n 2, [2], .null), (.iload_n 2, [2], .null), (.ifCond .ge 5, [35, 0], .null), (.iconst 0, [], .int 0), (.ireturn, [1], .null)], 35, 1) ∧
  pm_lk pb_t47 35 = ([(.iconst 0, [], .int 0), (.istore_n 3, [3], .null), (.aload_n 0, [0], .null), (.getfield 25, [6, 3, 2, 59], .null), (.getfield 87, [5, 18, 0, 53], .null), (.istore 4, [4], .null), (.aload_n 0, [0], .null), (.bipush 32, [], .int 32), (.invokevirtual 36, [46, 6, 89, 1, 1], .null), (.ifCond .eq 47, [99, 0], .null), (.aload_n 0, [0], .null), (.invokevirtual 40, [44, 6, 75, 0, 1], .null), (.bipush 105, [], .int 105), (.if_icmp .ne 7, [68, 0], .null), (.iconst 1, [], .int 1), (.goto 4, [69, 0], .null)], 68, 1) ∧
  pm_lk pb_t47 68 = ([(.iconst 2, [], .int 2)], 69, 0) ∧
  pm_lk pb_t47 69 = ([(.istore_n 3, [3], .null), (.aload_n 0, [0], .null), (.iload_n 3, [3], .null), (.iconst 1, [], .int 1), (.if_icmp .ne 8, [81, 0], .null), (.ldc 90, [1, 0], .retAddr 1), (.goto 5, [83, 0], .null)], 81, 1) ∧
  pm_lk pb_t47 81 = ([(.ldc 92, [2, 0], .retAddr 2)], 83, 0) ∧
  pm_lk pb_t47 83 = ([(.invokevirtual 46, [45, 6, 76, 1, 1], .null), (.ifCond .eq 11, [97, 0], .null), (.aload_n 0, [0], .null), (.iconst 0, [], .int 0), (.invokevirtual 94, [49, 6, 92, 1, 1], .null), (.ifCond .ne 5, [99, 0], .null)], 97, 0) ∧
  pm_lk pb_t47 97 = ([(.iconst 0, [], .int 0), (.ireturn, [1], .null)], 99, 1) ∧
  pm_lk pb_t47 99 = ([(.aload_n 0, [0], .null), (.getfield 25, [6, 3, 2, 59], .null), (.iload_n 1, [1], .null), (.iload_n 2, [2], .null), (.iload_n 3, [3], .null), (.iload 4, [4], .null), (.invokevirtual 98, [39, 5, 98, 4, 0], .null), (.iconst 1, [], .int 1), (.ireturn, [1], .null)], 113, 1) := ⟨rfl, rfl, rfl, rfl, rfl, rfl, rfl, rfl, rfl, rfl, rfl⟩
/- WrongsDesk$LawReader.number(II)I: loops at [5] -/
def pb_t48 : pm_Tb := [(0, [(.iconst (-1), [], .int (-1)), (.istore_n 3, [3], .null), (.iconst 0, [], .int 0), (.istore 4, [4], .null)], 5, 1),
  (5, [(.iload 4, [4], .null), (.iload_n 2, [2], .null), (.if_icmp .ge 86, [94, 0], .null), (.aload_n 0, [0], .null), (.getfield 19, [6, 2, 0, 57], .null), (.aload_n 0, [0], .null), (.getfield 15, [6, 1, 0, 55], .null), (.if_icmp .ge 75, [94, 0], .null), (.aload_n 0, [0], .null), (.getfield 9, [6, 0, 2, 54], .null), (.aload_n 0, [0], .null), (.getfield 19, [6, 2, 0, 57], .null), (.iaload, [], .null), (.bipush 48, [], .int 48), (.isub, [], .null), (.istore 5, [5], .null), (.iload 5, [5], .null), (.iload 4, [4], .null), (.ifCond .ne 7, [47, 0], .null), (.iload_n 1, [1], .null), (.goto 4, [48, 0], .null)], 47, 1),
  (47, [(.iconst 0, [], .int 0)], 48, 0),
  (48, [(.if_icmp .lt 10, [58, 0], .null), (.iload 5, [5], .null), (.bipush 9, [], .int 9), (.if_icmp .le 5, [60, 0], .null)], 58, 0),
  (58, [(.iload_n 3, [3], .null), (.ireturn, [0], .null)], 60, 1),
  (60, [(.iload 4, [4], .null), (.ifCond .ne 8, [70, 0], .null), (.iload 5, [5], .null), (.goto 10, [77, 0], .null)], 70, 1),
  (70, [(.iload_n 3, [3], .null), (.bipush 10, [], .int 10), (.imul, [], .null), (.iload 5, [5], .null), (.iadd, [], .null)], 77, 0),
  (77, [(.istore_n 3, [3], .null), (.aload_n 0, [0], .null), (.dup, [], .null), (.getfield 19, [6, 2, 0, 57], .null), (.iconst 1, [], .int 1), (.iadd, [], .null), (.putfield 19, [6, 2, 0, 57, 0], .null), (.iinc 4 1, [4], .int 1), (.goto (-86), [5, 1], .null)], 94, 1),
  (94, [(.iload_n 3, [3], .null), (.ireturn, [0], .null)], 96, 1)]
theorem pb_c48 : pm_tok 48 pb_t48 = true := by decide +kernel
theorem pb_B48 : (pm_mL 48 = 6) ∧
  pm_lk pb_t48 0 = ([(.iconst (-1), [], .int (-1)), (.istore_n 3, [3], .null), (.iconst 0, [], .int 0), (.istore 4, [4], .null)], 5, 1) ∧
  pm_lk pb_t48 5 = ([(.iload 4, [4], .null), (.iload_n 2, [2], .null), (.if_icmp .ge 86, [94, 0], .null), (.aload_n 0, [0], .null), (.getfield 19, [6, 2, 0, 57], .null), (.aload_n 0, [0], .null), (.getfield 15, [6, 1, 0, 55], .null), (.if_icmp .ge 75, [94, 0], .null), (.aload_n 0, [0], .null), (.getfield 9, [6, 0, 2, 54], .null), (.aload_n 0, [0], .null), (.getfield 19, [6, 2, 0, 57], .null), (.iaload, [], .null), (.bipush 48, [], .int 48), (.isub, [], .null), (.istore 5, [5], .null), (.iload 5, [5], .null), (.iload 4, [4], .null), (.ifCond .ne 7, [47, 0], .null), (.iload_n 1, [1], .null), (.goto 4, [48, 0], .null)], 47, 1) ∧
  pm_lk pb_t48 47 = ([(.iconst 0, [], .int 0)], 48, 0) ∧
  pm_lk pb_t48 48 = ([(.if_icmp .lt 10, [58, 0], .null), (.iload 5, [5], .null), (.bipush 9, [], .int 9), (.if_icmp .le 5, [60, 0], .null)], 58, 0) ∧
  pm_lk pb_t48 58 = ([(.iload_n 3, [3], .null), (.ireturn, [0], .null)], 60, 1) ∧
  pm_lk pb_t48 60 = ([(.iload 4, [4], .null), (.ifCond .ne 8, [70, 0], .null), (.iload 5, [5], .null), (.goto 10, [77, 0], .null)], 70, 1) ∧
  pm_lk pb_t48 70 = ([(.iload_n 3, [3], .null), (.bipush 10, [], .int 10), (.imul, [], .null), (.iload 5, [5], .null), (.iadd, [], .null)], 77, 0) ∧
  pm_lk pb_t48 77 = ([(.istore_n 3, [3], .null), (.aload_n 0, [0], .null), (.dup, [], .null), (.getfield 19, [6, 2, 0, 57], .null), (.iconst 1, [], .int 1), (.iadd, [], .null), (.putfield 19, [6, 2, 0, 57, 0], .null), (.iinc 4 1, [4], .int 1), (.goto (-86), [5, 1], .null)], 94, 1) ∧
  pm_lk pb_t48 94 = ([(.iload_n 3, [3], .null), (.ireturn, [0], .null)], 96, 1) := ⟨rfl, rfl, rfl, rfl, rfl, rfl, rfl, rfl, rfl, rfl⟩
/- WrongsDesk$LawReader.either(I)Z: loops at [7] -/
def pb_t49 : pm_Tb := [(0, [(.iconst 0, [], .int 0), (.istore_n 2, [2], .null), (.iconst 0, [], .int 0), (.istore_n 3, [3], .null), (.iconst 0, [], .int 0), (.istore 4, [4], .null)], 7, 1),
  (7, [(.iload 4, [4], .null), (.sipush 160, [], .int 160), (.if_icmp .ge 73, [85, 0], .null), (.aload_n 0, [0], .null), (.iload_n 1, [1], .null), (.invokevirtual 122, [50, 6, 93, 1, 1], .null), (.ifCond .ne 5, [25, 0], .null), (.iconst 0, [], .int 0), (.ireturn, [1], .null)], 25, 1),
  (25, [(.iload_n 2, [2], .null), (.ifCond .eq 14, [40, 0], .null), (.aload_n 0, [0], .null), (.getfield 25, [6, 3, 2, 59], .null), (.bipush 9, [], .int 9), (.iconst 0, [], .int 0), (.iconst 0, [], .int 0), (.invokevirtual 125, [38, 5, 97, 3, 0], .null)], 40, 0),
  (40, [(.aload_n 0, [0], .null), (.bipush 38, [], .int 38), (.invokevirtual 36, [46, 6, 89, 1, 1], .null), (.istore_n 2, [2], .null), (.iload_n 2, [2], .null), (.ifCond .ne 31, [79, 0], .null), (.iload_n 3, [3], .null), (.ifCond .eq 14, [66, 0], .null), (.aload_n 0, [0], .null), (.getfield 25, [6, 3, 2, 59], .null), (.bipush 10, [], .int 10), (.iconst 0, [], .int 0), (.iconst 0, [], .int 0), (.invokevirtual 125, [38, 5, 97, 3, 0], .null)], 66, 0),
  (66, [(.aload_n 0, [0], .null), (.bipush 124, [], .int 124), (.invokevirtual 36, [46, 6, 89, 1, 1], .null), (.istore_n 3, [3], .null), (.iload_n 3, [3], .null), (.ifCond .ne 5, [79, 0], .null), (.iconst 1, [], .int 1), (.ireturn, [1], .null)], 79, 1),
  (79, [(.iinc 4 1, [4], .int 1), (.goto (-75), [7, 1], .null)], 85, 1),
  (85, [(.iconst 0, [], .int 0), (.ireturn, [1], .null)], 87, 1)]
theorem pb_c49 : pm_tok 49 pb_t49 = true := by decide +kernel
theorem pb_B49 : (pm_mL 49 = 5) ∧
  pm_lk pb_t49 0 = ([(.iconst 0, [], .int 0), (.istore_n 2, [2], .null), (.iconst 0, [], .int 0), (.istore_n 3, [3], .null), (.iconst 0, [], .int 0), (.istore 4, [4], .null)], 7, 1) ∧
  pm_lk pb_t49 7 = ([(.iload 4, [4], .null), (.sipush 160, [], .int 160), (.if_icmp .ge 73, [85, 0], .null), (.aload_n 0, [0], .null), (.iload_n 1, [1], .null), (.invokevirtual 122, [50, 6, 93, 1, 1], .null), (.ifCond .ne 5, [25, 0], .null), (.iconst 0, [], .int 0), (.ireturn, [1], .null)], 25, 1) ∧
  pm_lk pb_t49 25 = ([(.iload_n 2, [2], .null), (.ifCond .eq 14, [40, 0], .null), (.aload_n 0, [0], .null), (.getfield 25, [6, 3, 2, 59], .null), (.bipush 9, [], .int 9), (.iconst 0, [], .int 0), (.iconst 0, [], .int 0), (.invokevirtual 125, [38, 5, 97, 3, 0], .null)], 40, 0) ∧
  pm_lk pb_t49 40 = ([(.aload_n 0, [0], .null), (.bipush 38, [], .int 38), (.invokevirtual 36, [46, 6, 89, 1, 1], .null), (.istore_n 2, [2], .null), (.iload_n 2, [2], .null), (.ifCond .ne 31, [79, 0], .null), (.iload_n 3, [3], .null), (.ifCond .eq 14, [66, 0], .null), (.aload_n 0, [0], .null), (.getfield 25, [6, 3, 2, 59], .null), (.bipush 10, [], .int 10), (.iconst 0, [], .int 0), (.iconst 0, [], .int 0), (.invokevirtual 125, [38, 5, 97, 3, 0], .null)], 66, 0) ∧
  pm_lk pb_t49 66 = ([(.aload_n 0, [0], .null), (.bipush 124, [], .int 124), (.invokevirtual 36, [46, 6, 89, 1, 1], .null), (.istore_n 3, [3], .null), (.iload_n 3, [3], .null), (.ifCond .ne 5, [79, 0], .null), (.iconst 1, [], .int 1), (.ireturn, [1], .null)], 79, 1) ∧
  pm_lk pb_t49 79 = ([(.iinc 4 1, [4], .int 1), (.goto (-75), [7, 1], .null)], 85, 1) ∧
  pm_lk pb_t49 85 = ([(.iconst 0, [], .int 0), (.ireturn, [1], .null)], 87, 1) := ⟨rfl, rfl, rfl, rfl, rfl, rfl, rfl, rfl⟩
/- WrongsDesk$LawReader.single(I)Z: loops at [2, 80] -/
def pb_t50 : pm_Tb := [(0, [(.iconst 0, [], .int 0), (.istore_n 2, [2], .null)], 2, 1),
  (2, [(.iload_n 1, [1], .null), (.iload_n 2, [2], .null), (.iadd, [], .null), (.bipush 6, [], .int 6), (.if_icmp .ge 18, [25, 0], .null), (.aload_n 0, [0], .null), (.bipush 33, [], .int 33), (.invokevirtual 36, [46, 6, 89, 1, 1], .null), (.ifCond .eq 9, [25, 0], .null), (.iinc 2 1, [2], .int 1), (.goto (-20), [2, 1], .null)], 25, 1),
  (25, [(.iload_n 1, [1], .null), (.iload_n 2, [2], .null), (.iadd, [], .null), (.bipush 6, [], .int 6), (.if_icmp .ge 42, [72, 0], .null), (.aload_n 0, [0], .null), (.bipush 40, [], .int 40), (.invokevirtual 36, [46, 6, 89, 1, 1], .null), (.ifCond .eq 33, [72, 0], .null), (.aload_n 0, [0], .null), (.iload_n 1, [1], .null), (.iload_n 2, [2], .null), (.iadd, [], .null), (.iconst 1, [], .int 1), (.iadd, [], .null), (.invokevirtual 94, [49, 6, 92, 1, 1], .null), (.ifCond .eq 16, [67, 0], .null), (.aload_n 0, [0], .null), (.bipush 41, [], .int 41), (.invokevirtual 36, [46, 6, 89, 1, 1], .null), (.ifCond .eq 7, [67, 0], .null), (.iconst 1, [], .int 1), (.goto 4, [68, 0], .null)], 67, 1),
  (67, [(.iconst 0, [], .int 0)], 68, 0),
  (68, [(.istore_n 3, [3], .null), (.goto 8, [77, 0], .null)], 72, 1),
  (72, [(.aload_n 0, [0], .null), (.invokevirtual 129, [51, 6, 94, 0, 1], .null), (.istore_n 3, [3], .null)], 77, 0),
  (77, [(.iconst 0, [], .int 0), (.istore 4, [4], .null)], 80, 1),
  (80, [(.iload 4, [4], .null), (.iload_n 2, [2], .null), (.if_icmp .ge 20, [103, 0], .null), (.aload_n 0, [0], .null), (.getfield 25, [6, 3, 2, 59], .null), (.bipush 8, [], .int 8), (.iconst 0, [], .int 0), (.iconst 0, [], .int 0), (.invokevirtual 125, [38, 5, 97, 3, 0], .null), (.iinc 4 1, [4], .int 1), (.goto (-20), [80, 1], .null)], 103, 1),
  (103, [(.iload_n 3, [3], .null), (.ireturn, [1], .null)], 105, 1)]
theorem pb_c50 : pm_tok 50 pb_t50 = true := by decide +kernel
theorem pb_B50 : (pm_mL 50 = 5) ∧
  pm_lk pb_t50 0 = ([(.iconst 0, [], .int 0), (.istore_n 2, [2], .null)], 2, 1) ∧
  pm_lk pb_t50 2 = ([(.iload_n 1, [1], .null), (.iload_n 2, [2], .null), (.iadd, [], .null), (.bipush 6, [], .int 6), (.if_icmp .ge 18, [25, 0], .null), (.aload_n 0, [0], .null), (.bipush 33, [], .int 33), (.invokevirtual 36, [46, 6, 89, 1, 1], .null), (.ifCond .eq 9, [25, 0], .null), (.iinc 2 1, [2], .int 1), (.goto (-20), [2, 1], .null)], 25, 1) ∧
  pm_lk pb_t50 25 = ([(.iload_n 1, [1], .null), (.iload_n 2, [2], .null), (.iadd, [], .null), (.bipush 6, [], .int 6), (.if_icmp .ge 42, [72, 0], .null), (.aload_n 0, [0], .null), (.bipush 40, [], .int 40), (.invokevirtual 36, [46, 6, 89, 1, 1], .null), (.ifCond .eq 33, [72, 0], .null), (.aload_n 0, [0], .null), (.iload_n 1, [1], .null), (.iload_n 2, [2], .null), (.iadd, [], .null), (.iconst 1, [], .int 1), (.iadd, [], .null), (.invokevirtual 94, [49, 6, 92, 1, 1], .null), (.ifCond .eq 16, [67, 0], .null), (.aload_n 0, [0], .null), (.bipush 41, [], .int 41), (.invokevirtual 36, [46, 6, 89, 1, 1], .null), (.ifCond .eq 7, [67, 0], .null), (.iconst 1, [], .int 1), (.goto 4, [68, 0], .null)], 67, 1) ∧
  pm_lk pb_t50 67 = ([(.iconst 0, [], .int 0)], 68, 0) ∧
  pm_lk pb_t50 68 = ([(.istore_n 3, [3], .null), (.goto 8, [77, 0], .null)], 72, 1) ∧
  pm_lk pb_t50 72 = ([(.aload_n 0, [0], .null), (.invokevirtual 129, [51, 6, 94, 0, 1], .null), (.istore_n 3, [3], .null)], 77, 0) ∧
  pm_lk pb_t50 77 = ([(.iconst 0, [], .int 0), (.istore 4, [4], .null)], 80, 1) ∧
  pm_lk pb_t50 80 = ([(.iload 4, [4], .null), (.iload_n 2, [2], .null), (.if_icmp .ge 20, [103, 0], .null), (.aload_n 0, [0], .null), (.getfield 25, [6, 3, 2, 59], .null), (.bipush 8, [], .int 8), (.iconst 0, [], .int 0), (.iconst 0, [], .int 0), (.invokevirtual 125, [38, 5, 97, 3, 0], .null), (.iinc 4 1, [4], .int 1), (.goto (-20), [80, 1], .null)], 103, 1) ∧
  pm_lk pb_t50 103 = ([(.iload_n 3, [3], .null), (.ireturn, [1], .null)], 105, 1) := ⟨rfl, rfl, rfl, rfl, rfl, rfl, rfl, rfl, rfl, rfl⟩
/- WrongsDesk$LawReader.test()Z: loops at [] -/
def pb_t51 : pm_Tb := [(0, [(.aload_n 0, [0], .null), (.invokevirtual 40, [44, 6, 75, 0, 1], .null), (.invokestatic 132, [52, 95, 1, 1], .null), (.istore_n 1, [1], .null), (.iload_n 1, [1], .null), (.ifCond .ge 5, [14, 0], .null), (.iconst 0, [], .int 0), (.ireturn, [1], .null)], 14, 1),
  (14, [(.aload_n 0, [0], .null), (.dup, [], .null), (.getfield 19, [6, 2, 0, 57], .null), (.iconst 1, [], .int 1), (.iadd, [], .null), (.putfield 19, [6, 2, 0, 57, 0], .null), (.iload_n 1, [1], .null), (.iconst 1, [], .int 1), (.if_icmp .eq 8, [34, 0], .null), (.iload_n 1, [1], .null), (.iconst 2, [], .int 2), (.if_icmp .ne 7, [38, 0], .null)], 34, 0),
  (34, [(.iconst 1, [], .int 1), (.goto 4, [39, 0], .null)], 38, 1),
  (38, [(.iconst 0, [], .int 0)], 39, 0),
  (39, [(.istore_n 2, [2], .null), (.iload_n 2, [2], .null), (.ifCond .eq 12, [53, 0], .null), (.aload_n 0, [0], .null), (.iconst 1, [], .int 1), (.iconst 1, [], .int 1), (.invokevirtual 83, [48, 6, 91, 2, 1], .null), (.goto 4, [54, 0], .null)], 53, 1),
  (53, [(.iconst 0, [], .int 0)], 54, 0),
  (54, [(.istore_n 3, [3], .null), (.iload_n 3, [3], .null), (.ifCond .ge 5, [61, 0], .null), (.iconst 0, [], .int 0), (.ireturn, [1], .null)], 61, 1),
  (61, [(.iload_n 1, [1], .null), (.iconst 2, [], .int 2), (.if_icmp .lt 37, [100, 0], .null), (.iload_n 1, [1], .null), (.aload_n 0, [0], .null), (.bipush 62, [], .int 62), (.invokevirtual 36, [46, 6, 89, 1, 1], .null), (.ifCond .eq 7, [80, 0], .null), (.iconst 1, [], .int 1), (.goto 4, [81, 0], .null)], 80, 1),
  (80, [(.iconst 0, [], .int 0)], 81, 0),
  (81, [(.iadd, [], .null), (.istore_n 1, [1], .null), (.iload_n 1, [1], .null), (.iconst 2, [], .int 2), (.irem, [], .null), (.ifCond .ne 14, [100, 0], .null), (.aload_n 0, [0], .null), (.bipush 60, [], .int 60), (.invokevirtual 36, [46, 6, 89, 1, 1], .null), (.ifCond .ne 5, [100, 0], .null), (.iconst 0, [], .int 0), (.ireturn, [1], .null)], 100, 1),
  (100, [(.iload_n 1, [1], .null), (.iconst 1, [], .int 1), (.if_icmp .ne 7, [109, 0], .null), (.iconst 0, [], .int 0), (.goto 12, [118, 0], .null)], 109, 1),
  (109, [(.aload_n 0, [0], .null), (.iconst 0, [], .int 0), (.iload_n 1, [1], .null), (.invokestatic 136, [53, 96, 1, 1], .null), (.invokevirtual 83, [48, 6, 91, 2, 1], .null)], 118, 0),
  (118, [(.istore 4, [4], .null), (.iload 4, [4], .null), (.ifCond .ge 5, [127, 0], .null), (.iconst 0, [], .int 0), (.ireturn, [1], .null)], 127, 1),
  (127, [(.aload_n 0, [0], .null), (.getfield 25, [6, 3, 2, 59], .null), (.iload_n 1, [1], .null), (.iload_n 3, [3], .null), (.iload 4, [4], .null), (.invokevirtual 125, [38, 5, 97, 3, 0], .null), (.iconst 1, [], .int 1), (.ireturn, [1], .null)], 140, 1)]
theorem pb_c51 : pm_tok 51 pb_t51 = true := by decide +kernel
theorem pb_B51 : (pm_mL 51 = 5) ∧
  pm_lk pb_t51 0 = ([(.aload_n 0, [0], .null), (.invokevirtual 40, [44, 6, 75, 0, 1], .null), (.invokestatic 132, [52, 95, 1, 1], .null), (.istore_n 1, [1], .null), (.iload_n 1, [1], .null), (.ifCond .ge 5, [14, 0], .null), (.iconst 0, [], .int 0), (.ireturn, [1], .null)], 14, 1) ∧
  pm_lk pb_t51 14 = ([(.aload_n 0, [0], .null), (.dup, [], .null), (.getfield 19, [6, 2, 0, 57], .null), (.iconst 1, [], .int 1), (.iadd, [], .null), (.putfield 19, [6, 2, 0, 57, 0], .null), (.iload_n 1, [1], .null), (.iconst 1, [], .int 1), (.if_icmp .eq 8, [34, 0], .null), (.iload_n 1, [1], .null), (.iconst 2, [], .int 2), (.if_icmp .ne 7, [38, 0], .null)], 34, 0) ∧
  pm_lk pb_t51 34 = ([(.iconst 1, [], .int 1), (.goto 4, [39, 0], .null)], 38, 1) ∧
  pm_lk pb_t51 38 = ([(.iconst 0, [], .int 0)], 39, 0) ∧
  pm_lk pb_t51 39 = ([(.istore_n 2, [2], .null), (.iload_n 2, [2], .null), (.ifCond .eq 12, [53, 0], .null), (.aload_n 0, [0], .null), (.iconst 1, [], .int 1), (.iconst 1, [], .int 1), (.invokevirtual 83, [48, 6, 91, 2, 1], .null), (.goto 4, [54, 0], .null)], 53, 1) ∧
  pm_lk pb_t51 53 = ([(.iconst 0, [], .int 0)], 54, 0) ∧
  pm_lk pb_t51 54 = ([(.istore_n 3, [3], .null), (.iload_n 3, [3], .null), (.ifCond .ge 5, [61, 0], .null), (.iconst 0, [], .int 0), (.ireturn, [1], .null)], 61, 1) ∧
  pm_lk pb_t51 61 = ([(.iload_n 1, [1], .null), (.iconst 2, [], .int 2), (.if_icmp .lt 37, [100, 0], .null), (.iload_n 1, [1], .null), (.aload_n 0, [0], .null), (.bipush 62, [], .int 62), (.invokevirtual 36, [46, 6, 89, 1, 1], .null), (.ifCond .eq 7, [80, 0], .null), (.iconst 1, [], .int 1), (.goto 4, [81, 0], .null)], 80, 1) ∧
  pm_lk pb_t51 80 = ([(.iconst 0, [], .int 0)], 81, 0) ∧
  pm_lk pb_t51 81 = ([(.iadd, [], .null), (.istore_n 1, [1], .null), (.iload_n 1, [1], .null), (.iconst 2, [], .int 2), (.irem, [], .null), (.ifCond .ne 14, [100, 0], .null), (.aload_n 0, [0], .null), (.bipush 60, [], .int 60), (.invokevirtual 36, [46, 6, 89, 1, 1], .null), (.ifCond .ne 5, [100, 0], .null), (.iconst 0, [], .int 0), (.ireturn, [1], .null)], 100, 1) ∧
  pm_lk pb_t51 100 = ([(.iload_n 1, [1], .null), (.iconst 1, [], .int 1), (.if_icmp .ne 7, [109, 0], .null), (.iconst 0, [], .int 0), (.goto 12, [118, 0], .null)], 109, 1) ∧
  pm_lk pb_t51 109 = ([(.aload_n 0, [0], .null), (.iconst 0, [], .int 0), (.iload_n 1, [1], .null), (.invokestatic 136, [53, 96, 1, 1], .null), (.invokevirtual 83, [48, 6, 91, 2, 1], .null)], 118, 0) ∧
  pm_lk pb_t51 118 = ([(.istore 4, [4], .null), (.iload 4, [4], .null), (.ifCond .ge 5, [127, 0], .null), (.iconst 0, [], .int 0), (.ireturn, [1], .null)], 127, 1) ∧
  pm_lk pb_t51 127 = ([(.aload_n 0, [0], .null), (.getfield 25, [6, 3, 2, 59], .null), (.iload_n 1, [1], .null), (.iload_n 3, [3], .null), (.iload 4, [4], .null), (.invokevirtual 125, [38, 5, 97, 3, 0], .null), (.iconst 1, [], .int 1), (.ireturn, [1], .null)], 140, 1) := ⟨rfl, rfl, rfl, rfl, rfl, rfl, rfl, rfl, rfl, rfl, rfl, rfl, rfl, rfl, rfl⟩
/- WrongsDesk$LawReader.testKind(I)I: loops at [] -/
def pb_t52 : pm_Tb := [(0, [(.iload_n 0, [0], .null), (.lookupswitch 62 #[(97, 53), (100, 59), (108, 57), (116, 51), (119, 55)], [97, 54, 0, 100, 60, 0, 108, 58, 0, 116, 52, 0, 119, 56, 0, 63, 0], .null)], 52, 1),
  (52, [(.iconst 0, [], .int 0), (.ireturn, [0], .null)], 54, 1),
  (54, [(.iconst 1, [], .int 1), (.ireturn, [0], .null)], 56, 1),
  (56, [(.iconst 2, [], .int 2), (.ireturn, [0], .null)], 58, 1),
  (58, [(.iconst 4, [], .int 4), (.ireturn, [0], .null)], 60, 1),
  (60, [(.bipush 6, [], .int 6), (.ireturn, [0], .null)], 63, 1),
  (63, [(.iconst (-1), [], .int (-1)), (.ireturn, [0], .null)], 65, 1)]
theorem pb_c52 : pm_tok 52 pb_t52 = true := by decide +kernel
theorem pb_B52 : (pm_mL 52 = 1) ∧
  pm_lk pb_t52 0 = ([(.iload_n 0, [0], .null), (.lookupswitch 62 #[(97, 53), (100, 59), (108, 57), (116, 51), (119, 55)], [97, 54, 0, 100, 60, 0, 108, 58, 0, 116, 52, 0, 119, 56, 0, 63, 0], .null)], 52, 1) ∧
  pm_lk pb_t52 52 = ([(.iconst 0, [], .int 0), (.ireturn, [0], .null)], 54, 1) ∧
  pm_lk pb_t52 54 = ([(.iconst 1, [], .int 1), (.ireturn, [0], .null)], 56, 1) ∧
  pm_lk pb_t52 56 = ([(.iconst 2, [], .int 2), (.ireturn, [0], .null)], 58, 1) ∧
  pm_lk pb_t52 58 = ([(.iconst 4, [], .int 4), (.ireturn, [0], .null)], 60, 1) ∧
  pm_lk pb_t52 60 = ([(.bipush 6, [], .int 6), (.ireturn, [0], .null)], 63, 1) ∧
  pm_lk pb_t52 63 = ([(.iconst (-1), [], .int (-1)), (.ireturn, [0], .null)], 65, 1) := ⟨rfl, rfl, rfl, rfl, rfl, rfl, rfl, rfl⟩
/- WrongsDesk$LawReader.mostDigits(I)I: loops at [] -/
def pb_t53 : pm_Tb := [(0, [(.iload_n 0, [0], .null), (.ifCond .ne 5, [6, 0], .null), (.iconst 1, [], .int 1), (.ireturn, [0], .null)], 6, 1),
  (6, [(.iload_n 0, [0], .null), (.iconst 2, [], .int 2), (.if_icmp .eq 8, [16, 0], .null), (.iload_n 0, [0], .null), (.iconst 3, [], .int 3), (.if_icmp .ne 7, [20, 0], .null)], 16, 0),
  (16, [(.iconst 2, [], .int 2), (.goto 4, [21, 0], .null)], 20, 1),
  (20, [(.iconst 4, [], .int 4)], 21, 0),
  (21, [(.ireturn, [0], .null)], 22, 1)]
theorem pb_c53 : pm_tok 53 pb_t53 = true := by decide +kernel
theorem pb_B53 : (pm_mL 53 = 1) ∧
  pm_lk pb_t53 0 = ([(.iload_n 0, [0], .null), (.ifCond .ne 5, [6, 0], .null), (.iconst 1, [], .int 1), (.ireturn, [0], .null)], 6, 1) ∧
  pm_lk pb_t53 6 = ([(.iload_n 0, [0], .null), (.iconst 2, [], .int 2), (.if_icmp .eq 8, [16, 0], .null), (.iload_n 0, [0], .null), (.iconst 3, [], .int 3), (.if_icmp .ne 7, [20, 0], .null)], 16, 0) ∧
  pm_lk pb_t53 16 = ([(.iconst 2, [], .int 2), (.goto 4, [21, 0], .null)], 20, 1) ∧
  pm_lk pb_t53 20 = ([(.iconst 4, [], .int 4)], 21, 0) ∧
  pm_lk pb_t53 21 = ([(.ireturn, [0], .null)], 22, 1) := ⟨rfl, rfl, rfl, rfl, rfl, rfl⟩
/- WrongsDesk$LawReader.reachOrRate()Z: loops at [] -/
def pb_t54 : pm_Tb := [(0, [(.aload_n 0, [0], .null), (.bipush 114, [], .int 114), (.invokevirtual 36, [46, 6, 89, 1, 1], .null), (.ifCond .ne 5, [11, 0], .null), (.iconst 0, [], .int 0), (.ireturn, [1], .null)], 11, 1),
  (11, [(.aload_n 0, [0], .null), (.invokevirtual 40, [44, 6, 75, 0, 1], .null), (.bipush 97, [], .int 97), (.if_icmp .ne 32, [49, 0], .null), (.aload_n 0, [0], .null), (.getfield 25, [6, 3, 2, 59], .null), (.aload_n 0, [0], .null), (.ldc 102, [3, 0], .retAddr 3), (.invokevirtual 61, [55, 6, 100, 1, 1], .null), (.putfield 104, [5, 15, 0, 45, 0], .null), (.aload_n 0, [0], .null), (.getfield 25, [6, 3, 2, 59], .null), (.getfield 104, [5, 15, 0, 45], .null), (.ifCond .lt 7, [47, 0], .null), (.iconst 1, [], .int 1), (.goto 4, [48, 0], .null)], 47, 1),
  (47, [(.iconst 0, [], .int 0)], 48, 0),
  (48, [(.ireturn, [1], .null)], 49, 1),
  (49, [(.aload_n 0, [0], .null), (.getfield 25, [6, 3, 2, 59], .null), (.aload_n 0, [0], .null), (.getfield 25, [6, 3, 2, 59], .null), (.getfield 87, [5, 18, 0, 53], .null), (.putfield 107, [5, 8, 0, 21, 0], .null), (.aload_n 0, [0], .null), (.ldc 110, [4, 0], .retAddr 4), (.invokevirtual 46, [45, 6, 76, 1, 1], .null), (.ifCond .eq 11, [80, 0], .null), (.aload_n 0, [0], .null), (.iconst 0, [], .int 0), (.invokevirtual 94, [49, 6, 92, 1, 1], .null), (.ifCond .ne 5, [82, 0], .null)], 80, 0),
  (80, [(.iconst 0, [], .int 0), (.ireturn, [1], .null)], 82, 1),
  (82, [(.aload_n 0, [0], .null), (.getfield 25, [6, 3, 2, 59], .null), (.aload_n 0, [0], .null), (.getfield 25, [6, 3, 2, 59], .null), (.getfield 87, [5, 18, 0, 53], .null), (.putfield 112, [5, 9, 0, 23, 0], .null), (.iconst 1, [], .int 1), (.ireturn, [1], .null)], 98, 1)]
theorem pb_c54 : pm_tok 54 pb_t54 = true := by decide +kernel
theorem pb_B54 : (pm_mL 54 = 1) ∧
  pm_lk pb_t54 0 = ([(.aload_n 0, [0], .null), (.bipush 114, [], .int 114), (.invokevirtual 36, [46, 6, 89, 1, 1], .null), (.ifCond .ne 5, [11, 0], .null), (.iconst 0, [], .int 0), (.ireturn, [1], .null)], 11, 1) ∧
  pm_lk pb_t54 11 = ([(.aload_n 0, [0], .null), (.invokevirtual 40, [44, 6, 75, 0, 1], .null), (.bipush 97, [], .int 97), (.if_icmp .ne 32, [49, 0], .null), (.aload_n 0, [0], .null), (.getfield 25, [6, 3, 2, 59], .null), (.aload_n 0, [0], .null), (.ldc 102, [3, 0], .retAddr 3), (.invokevirtual 61, [55, 6, 100, 1, 1], .null), (.putfield 104, [5, 15, 0, 45, 0], .null), (.aload_n 0, [0], .null), (.getfield 25, [6, 3, 2, 59], .null), (.getfield 104, [5, 15, 0, 45], .null), (.ifCond .lt 7, [47, 0], .null), (.iconst 1, [], .int 1), (.goto 4, [48, 0], .null)], 47, 1) ∧
  pm_lk pb_t54 47 = ([(.iconst 0, [], .int 0)], 48, 0) ∧
  pm_lk pb_t54 48 = ([(.ireturn, [1], .null)], 49, 1) ∧
  pm_lk pb_t54 49 = ([(.aload_n 0, [0], .null), (.getfield 25, [6, 3, 2, 59], .null), (.aload_n 0, [0], .null), (.getfield 25, [6, 3, 2, 59], .null), (.getfield 87, [5, 18, 0, 53], .null), (.putfield 107, [5, 8, 0, 21, 0], .null), (.aload_n 0, [0], .null), (.ldc 110, [4, 0], .retAddr 4), (.invokevirtual 46, [45, 6, 76, 1, 1], .null), (.ifCond .eq 11, [80, 0], .null), (.aload_n 0, [0], .null), (.iconst 0, [], .int 0), (.invokevirtual 94, [49, 6, 92, 1, 1], .null), (.ifCond .ne 5, [82, 0], .null)], 80, 0) ∧
  pm_lk pb_t54 80 = ([(.iconst 0, [], .int 0), (.ireturn, [1], .null)], 82, 1) ∧
  pm_lk pb_t54 82 = ([(.aload_n 0, [0], .null), (.getfield 25, [6, 3, 2, 59], .null), (.aload_n 0, [0], .null), (.getfield 25, [6, 3, 2, 59], .null), (.getfield 87, [5, 18, 0, 53], .null), (.putfield 112, [5, 9, 0, 23, 0], .null), (.iconst 1, [], .int 1), (.ireturn, [1], .null)], 98, 1) := ⟨rfl, rfl, rfl, rfl, rfl, rfl, rfl, rfl⟩
/- WrongsDesk$LawReader.numberBehind(Ljava/lang/String;)I: loops at [] -/
def pb_t55 : pm_Tb := [(0, [(.aload_n 0, [0], .null), (.aload_n 1, [1], .null), (.invokevirtual 46, [45, 6, 76, 1, 1], .null), (.ifCond .eq 12, [17, 0], .null), (.aload_n 0, [0], .null), (.iconst 0, [], .int 0), (.iconst 4, [], .int 4), (.invokevirtual 83, [48, 6, 91, 2, 1], .null), (.goto 4, [18, 0], .null)], 17, 1),
  (17, [(.iconst (-1), [], .int (-1))], 18, 0),
  (18, [(.ireturn, [0], .null)], 19, 1)]
theorem pb_c55 : pm_tok 55 pb_t55 = true := by decide +kernel
theorem pb_B55 : (pm_mL 55 = 2) ∧
  pm_lk pb_t55 0 = ([(.aload_n 0, [0], .null), (.aload_n 1, [1], .null), (.invokevirtual 46, [45, 6, 76, 1, 1], .null), (.ifCond .eq 12, [17, 0], .null), (.aload_n 0, [0], .null), (.iconst 0, [], .int 0), (.iconst 4, [], .int 4), (.invokevirtual 83, [48, 6, 91, 2, 1], .null), (.goto 4, [18, 0], .null)], 17, 1) ∧
  pm_lk pb_t55 17 = ([(.iconst (-1), [], .int (-1))], 18, 0) ∧
  pm_lk pb_t55 18 = ([(.ireturn, [0], .null)], 19, 1) := ⟨rfl, rfl, rfl, rfl⟩
/- WrongsDesk$LawReader.scale()Z: loops at [] -/
def pb_t56 : pm_Tb := [(0, [(.aload_n 0, [0], .null), (.getfield 25, [6, 3, 2, 59], .null), (.aload_n 0, [0], .null), (.ldc 115, [5, 0], .retAddr 5), (.invokevirtual 61, [55, 6, 100, 1, 1], .null), (.putfield 117, [5, 12, 0, 33, 0], .null), (.aload_n 0, [0], .null), (.getfield 25, [6, 3, 2, 59], .null), (.getfield 117, [5, 12, 0, 33], .null), (.ifCond .lt 12, [32, 0], .null), (.aload_n 0, [0], .null), (.bipush 32, [], .int 32), (.invokevirtual 36, [46, 6, 89, 1, 1], .null), (.ifCond .ne 5, [34, 0], .null)], 32, 0),
  (32, [(.iconst 0, [], .int 0), (.ireturn, [1], .null)], 34, 1),
  (34, [(.aload_n 0, [0], .null), (.getfield 25, [6, 3, 2, 59], .null), (.aload_n 0, [0], .null), (.iconst 1, [], .int 1), (.iconst 4, [], .int 4), (.invokevirtual 83, [48, 6, 91, 2, 1], .null), (.putfield 119, [5, 13, 0, 37, 0], .null), (.aload_n 0, [0], .null), (.getfield 25, [6, 3, 2, 59], .null), (.getfield 119, [5, 13, 0, 37], .null), (.ifCond .lt 7, [61, 0], .null), (.iconst 1, [], .int 1), (.goto 4, [62, 0], .null)], 61, 1),
  (61, [(.iconst 0, [], .int 0)], 62, 0),
  (62, [(.ireturn, [1], .null)], 63, 1)]
theorem pb_c56 : pm_tok 56 pb_t56 = true := by decide +kernel
theorem pb_B56 : (pm_mL 56 = 1) ∧
  pm_lk pb_t56 0 = ([(.aload_n 0, [0], .null), (.getfield 25, [6, 3, 2, 59], .null), (.aload_n 0, [0], .null), (.ldc 115, [5, 0], .retAddr 5), (.invokevirtual 61, [55, 6, 100, 1, 1], .null), (.putfield 117, [5, 12, 0, 33, 0], .null), (.aload_n 0, [0], .null), (.getfield 25, [6, 3, 2, 59], .null), (.getfield 117, [5, 12, 0, 33], .null), (.ifCond .lt 12, [32, 0], .null), (.aload_n 0, [0], .null), (.bipush 32, [], .int 32), (.invokevirtual 36, [46, 6, 89, 1, 1], .null), (.ifCond .ne 5, [34, 0], .null)], 32, 0) ∧
  pm_lk pb_t56 32 = ([(.iconst 0, [], .int 0), (.ireturn, [1], .null)], 34, 1) ∧
  pm_lk pb_t56 34 = ([(.aload_n 0, [0], .null), (.getfield 25, [6, 3, 2, 59], .null), (.aload_n 0, [0], .null), (.iconst 1, [], .int 1), (.iconst 4, [], .int 4), (.invokevirtual 83, [48, 6, 91, 2, 1], .null), (.putfield 119, [5, 13, 0, 37, 0], .null), (.aload_n 0, [0], .null), (.getfield 25, [6, 3, 2, 59], .null), (.getfield 119, [5, 13, 0, 37], .null), (.ifCond .lt 7, [61, 0], .null), (.iconst 1, [], .int 1), (.goto 4, [62, 0], .null)], 61, 1) ∧
  pm_lk pb_t56 61 = ([(.iconst 0, [], .int 0)], 62, 0) ∧
  pm_lk pb_t56 62 = ([(.ireturn, [1], .null)], 63, 1) := ⟨rfl, rfl, rfl, rfl, rfl, rfl⟩
/- WrongsDesk$LawReader.handOver()LWrongsDesk$Law;: loops at [] -/
def pb_t57 : pm_Tb := [(0, [(.aload_n 0, [0], .null), (.getfield 25, [6, 3, 2, 59], .null), (.astore_n 1, [1], .null), (.aload_n 0, [0], .null), (.new 22, [5, 4, 19, 7, 229], .null), (.dup, [], .null), (.invokespecial 24, [32, 5, 1, 0, 6, 210, 7, 229], .null), (.putfield 25, [6, 3, 2, 59, 0], .null), (.aload_n 1, [1], .null), (.areturn, [], .null)], 18, 1)]
theorem pb_c57 : pm_tok 57 pb_t57 = true := by decide +kernel
theorem pb_B57 : (pm_mL 57 = 2) ∧
  pm_lk pb_t57 0 = ([(.aload_n 0, [0], .null), (.getfield 25, [6, 3, 2, 59], .null), (.astore_n 1, [1], .null), (.aload_n 0, [0], .null), (.new 22, [5, 4, 19, 7, 229], .null), (.dup, [], .null), (.invokespecial 24, [32, 5, 1, 0, 6, 210, 7, 229], .null), (.putfield 25, [6, 3, 2, 59, 0], .null), (.aload_n 1, [1], .null), (.areturn, [], .null)], 18, 1) := ⟨rfl, rfl⟩
/- WrongsDesk$Matter.<init>(IIIIII)V: loops at [] -/
def pb_t58 : pm_Tb := [(0, [(.aload_n 0, [0], .null), (.invokespecial 3, [10], .null), (.aload_n 0, [0], .null), (.iconst 0, [], .int 0), (.putfield 9, [7, 6, 0, 150, 0], .null), (.aload_n 0, [0], .null), (.iconst (-1), [], .int (-1)), (.putfield 15, [7, 7, 0, 154, 0], .null), (.aload_n 0, [0], .null), (.iconst (-1), [], .int (-1)), (.putfield 18, [7, 8, 0, 157, 0], .null), (.aload_n 0, [0], .null), (.iconst (-1), [], .int (-1)), (.putfield 21, [7, 9, 0, 159, 0], .null), (.aload_n 0, [0], .null), (.iconst (-1), [], .int (-1)), (.putfield 24, [7, 10, 0, 161, 0], .null), (.aload_n 0, [0], .null), (.iconst 0, [], .int 0), (.putfield 27, [7, 11, 0, 163, 0], .null), (.aload_n 0, [0], .null), (.iconst 0, [], .int 0), (.putfield 30, [7, 12, 0, 164, 0], .null), (.aload_n 0, [0], .null), (.iconst 0, [], .int 0), (.putfield 33, [7, 13, 0, 165, 0], .null), (.aload_n 0, [0], .null), (.aconst_null, [], .null), (.putfield 36, [7, 14, 2, 166, 0], .null), (.aload_n 0, [0], .null), (.aconst_null, [], .null), (.putfield 40, [7, 15, 2, 167, 0], .null), (.aload_n 0, [0], .null), (.bipush 6, [], .int 6), (.newarray .int, [20, 6, 0, 1, 6], .int 6), (.dup, [], .null), (.iconst 0, [], .int 0), (.iconst (-1), [], .int (-1)), (.iastore, [], .null), (.dup, [], .null), (.iconst 1, [], .int 1), (.iconst (-1), [], .int (-1)), (.iastore, [], .null), (.dup, [], .null), (.iconst 2, [], .int 2), (.iconst (-1), [], .int (-1)), (.iastore, [], .null), (.dup, [], .null), (.iconst 3, [], .int 3), (.iconst (-1), [], .int (-1)), (.iastore, [], .null), (.dup, [], .null), (.iconst 4, [], .int 4), (.iconst (-1), [], .int (-1)), (.iastore, [], .null), (.dup, [], .null), (.iconst 5, [], .int 5), (.iconst (-1), [], .int (-1)), (.iastore, [], .null), (.putfield 43, [7, 16, 2, 168, 1], .null), (.aload_n 0, [0], .null), (.iconst 0, [], .int 0), (.putfield 47, [7, 17, 0, 170, 0], .null), (.aload_n 0, [0], .null), (.iload_n 1, [1], .null), (.putfield 50, [7, 0, 0, 124, 1], .null), (.aload_n 0, [0], .null), (.iload_n 2, [2], .null), (.putfield 53, [7, 1, 0, 128, 1], .null), (.aload_n 0, [0], .null), (.iload_n 3, [3], .null), (.putfield 56, [7, 2, 0, 131, 1], .null), (.aload_n 0, [0], .null), (.iload 4, [4], .null), (.putfield 59, [7, 3, 0, 137, 1], .null), (.aload_n 0, [0], .null), (.iload 5, [5], .null), (.putfield 62, [7, 4, 0, 142, 1], .null), (.aload_n 0, [0], .null), (.iload 6, [6], .null), (.putfield 65, [7, 5, 0, 146, 1], .null), (.return_, [], .null)], 125, 1)]
theorem pb_c58 : pm_tok 58 pb_t58 = true := by decide +kernel
theorem pb_B58 : (pm_mL 58 = 7) ∧
  pm_lk pb_t58 0 = ([(.aload_n 0, [0], .null), (.invokespecial 3, [10], .null), (.aload_n 0, [0], .null), (.iconst 0, [], .int 0), (.putfield 9, [7, 6, 0, 150, 0], .null), (.aload_n 0, [0], .null), (.iconst (-1), [], .int (-1)), (.putfield 15, [7, 7, 0, 154, 0], .null), (.aload_n 0, [0], .null), (.iconst (-1), [], .int (-1)), (.putfield 18, [7, 8, 0, 157, 0], .null), (.aload_n 0, [0], .null), (.iconst (-1), [], .int (-1)), (.putfield 21, [7, 9, 0, 159, 0], .null), (.aload_n 0, [0], .null), (.iconst (-1), [], .int (-1)), (.putfield 24, [7, 10, 0, 161, 0], .null), (.aload_n 0, [0], .null), (.iconst 0, [], .int 0), (.putfield 27, [7, 11, 0, 163, 0], .null), (.aload_n 0, [0], .null), (.iconst 0, [], .int 0), (.putfield 30, [7, 12, 0, 164, 0], .null), (.aload_n 0, [0], .null), (.iconst 0, [], .int 0), (.putfield 33, [7, 13, 0, 165, 0], .null), (.aload_n 0, [0], .null), (.aconst_null, [], .null), (.putfield 36, [7, 14, 2, 166, 0], .null), (.aload_n 0, [0], .null), (.aconst_null, [], .null), (.putfield 40, [7, 15, 2, 167, 0], .null), (.aload_n 0, [0], .null), (.bipush 6, [], .int 6), (.newarray .int, [20, 6, 0, 1, 6], .int 6), (.dup, [], .null), (.iconst 0, [], .int 0), (.iconst (-1), [], .int (-1)), (.iastore, [], .null), (.dup, [], .null), (.iconst 1, [], .int 1), (.iconst (-1), [], .int (-1)), (.iastore, [], .null), (.dup, [], .null), (.iconst 2, [], .int 2), (.iconst (-1), [], .int (-1)), (.iastore, [], .null), (.dup, [], .null), (.iconst 3, [], .int 3), (.iconst (-1), [], .int (-1)), (.iastore, [], .null), (.dup, [], .null), (.iconst 4, [], .int 4), (.iconst (-1), [], .int (-1)), (.iastore, [], .null), (.dup, [], .null), (.iconst 5, [], .int 5), (.iconst (-1), [], .int (-1)), (.iastore, [], .null), (.putfield 43, [7, 16, 2, 168, 1], .null), (.aload_n 0, [0], .null), (.iconst 0, [], .int 0), (.putfield 47, [7, 17, 0, 170, 0], .null), (.aload_n 0, [0], .null), (.iload_n 1, [1], .null), (.putfield 50, [7, 0, 0, 124, 1], .null), (.aload_n 0, [0], .null), (.iload_n 2, [2], .null), (.putfield 53, [7, 1, 0, 128, 1], .null), (.aload_n 0, [0], .null), (.iload_n 3, [3], .null), (.putfield 56, [7, 2, 0, 131, 1], .null), (.aload_n 0, [0], .null), (.iload 4, [4], .null), (.putfield 59, [7, 3, 0, 137, 1], .null), (.aload_n 0, [0], .null), (.iload 5, [5], .null), (.putfield 62, [7, 4, 0, 142, 1], .null), (.aload_n 0, [0], .null), (.iload 6, [6], .null), (.putfield 65, [7, 5, 0, 146, 1], .null), (.return_, [], .null)], 125, 1) := ⟨rfl, rfl⟩
/- WrongsDesk$Matter.firstOf(II)LWrongsDesk$Act;: loops at [8] -/
def pb_t59 : pm_Tb := [(0, [(.aconst_null, [], .null), (.astore_n 3, [3], .null), (.aload_n 0, [0], .null), (.getfield 36, [7, 14, 2, 166], .null), (.astore 4, [4], .null)], 8, 1),
  (8, [(.aload 4, [4], .null), (.ifnull 50, [60, 0], .null), (.aload 4, [4], .null), (.getfield 73, [0, 0, 0, 173], .null), (.iload_n 1, [1], .null), (.if_icmp .ne 31, [50, 0], .null), (.aload 4, [4], .null), (.getfield 76, [0, 3, 0, 182], .null), (.iload_n 2, [2], .null), (.if_icmp .gt 22, [50, 0], .null), (.aload_n 3, [3], .null), (.ifnull 15, [47, 0], .null), (.aload 4, [4], .null), (.getfield 79, [0, 1, 0, 175], .null), (.aload_n 3, [3], .null), (.getfield 79, [0, 1, 0, 175], .null), (.if_icmp .ge 6, [50, 0], .null)], 47, 0),
  (47, [(.aload 4, [4], .null), (.astore_n 3, [3], .null)], 50, 0),
  (50, [(.aload 4, [4], .null), (.getfield 68, [0, 5, 2, 186], .null), (.astore 4, [4], .null), (.goto (-49), [8, 1], .null)], 60, 1),
  (60, [(.aload_n 3, [3], .null), (.areturn, [], .null)], 62, 1)]
theorem pb_c59 : pm_tok 59 pb_t59 = true := by decide +kernel
theorem pb_B59 : (pm_mL 59 = 5) ∧
  pm_lk pb_t59 0 = ([(.aconst_null, [], .null), (.astore_n 3, [3], .null), (.aload_n 0, [0], .null), (.getfield 36, [7, 14, 2, 166], .null), (.astore 4, [4], .null)], 8, 1) ∧
  pm_lk pb_t59 8 = ([(.aload 4, [4], .null), (.ifnull 50, [60, 0], .null), (.aload 4, [4], .null), (.getfield 73, [0, 0, 0, 173], .null), (.iload_n 1, [1], .null), (.if_icmp .ne 31, [50, 0], .null), (.aload 4, [4], .null), (.getfield 76, [0, 3, 0, 182], .null), (.iload_n 2, [2], .null), (.if_icmp .gt 22, [50, 0], .null), (.aload_n 3, [3], .null), (.ifnull 15, [47, 0], .null), (.aload 4, [4], .null), (.getfield 79, [0, 1, 0, 175], .null), (.aload_n 3, [3], .null), (.getfield 79, [0, 1, 0, 175], .null), (.if_icmp .ge 6, [50, 0], .null)], 47, 0) ∧
  pm_lk pb_t59 47 = ([(.aload 4, [4], .null), (.astore_n 3, [3], .null)], 50, 0) ∧
  pm_lk pb_t59 50 = ([(.aload 4, [4], .null), (.getfield 68, [0, 5, 2, 186], .null), (.astore 4, [4], .null), (.goto (-49), [8, 1], .null)], 60, 1) ∧
  pm_lk pb_t59 60 = ([(.aload_n 3, [3], .null), (.areturn, [], .null)], 62, 1) := ⟨rfl, rfl, rfl, rfl, rfl, rfl⟩
/- WrongsDesk$Matter.latestOf(II)LWrongsDesk$Act;: loops at [8] -/
def pb_t60 : pm_Tb := [(0, [(.aconst_null, [], .null), (.astore_n 3, [3], .null), (.aload_n 0, [0], .null), (.getfield 36, [7, 14, 2, 166], .null), (.astore 4, [4], .null)], 8, 1),
  (8, [(.aload 4, [4], .null), (.ifnull 50, [60, 0], .null), (.aload 4, [4], .null), (.getfield 73, [0, 0, 0, 173], .null), (.iload_n 1, [1], .null), (.if_icmp .ne 31, [50, 0], .null), (.aload 4, [4], .null), (.getfield 76, [0, 3, 0, 182], .null), (.iload_n 2, [2], .null), (.if_icmp .gt 22, [50, 0], .null), (.aload_n 3, [3], .null), (.ifnull 15, [47, 0], .null), (.aload 4, [4], .null), (.getfield 79, [0, 1, 0, 175], .null), (.aload_n 3, [3], .null), (.getfield 79, [0, 1, 0, 175], .null), (.if_icmp .lt 6, [50, 0], .null)], 47, 0),
  (47, [(.aload 4, [4], .null), (.astore_n 3, [3], .null)], 50, 0),
  (50, [(.aload 4, [4], .null), (.getfield 68, [0, 5, 2, 186], .null), (.astore 4, [4], .null), (.goto (-49), [8, 1], .null)], 60, 1),
  (60, [(.aload_n 3, [3], .null), (.areturn, [], .null)], 62, 1)]
theorem pb_c60 : pm_tok 60 pb_t60 = true := by decide +kernel
theorem pb_B60 : (pm_mL 60 = 5) ∧
  pm_lk pb_t60 0 = ([(.aconst_null, [], .null), (.astore_n 3, [3], .null), (.aload_n 0, [0], .null), (.getfield 36, [7, 14, 2, 166], .null), (.astore 4, [4], .null)], 8, 1) ∧
  pm_lk pb_t60 8 = ([(.aload 4, [4], .null), (.ifnull 50, [60, 0], .null), (.aload 4, [4], .null), (.getfield 73, [0, 0, 0, 173], .null), (.iload_n 1, [1], .null), (.if_icmp .ne 31, [50, 0], .null), (.aload 4, [4], .null), (.getfield 76, [0, 3, 0, 182], .null), (.iload_n 2, [2], .null), (.if_icmp .gt 22, [50, 0], .null), (.aload_n 3, [3], .null), (.ifnull 15, [47, 0], .null), (.aload 4, [4], .null), (.getfield 79, [0, 1, 0, 175], .null), (.aload_n 3, [3], .null), (.getfield 79, [0, 1, 0, 175], .null), (.if_icmp .lt 6, [50, 0], .null)], 47, 0) ∧
  pm_lk pb_t60 47 = ([(.aload 4, [4], .null), (.astore_n 3, [3], .null)], 50, 0) ∧
  pm_lk pb_t60 50 = ([(.aload 4, [4], .null), (.getfield 68, [0, 5, 2, 186], .null), (.astore 4, [4], .null), (.goto (-49), [8, 1], .null)], 60, 1) ∧
  pm_lk pb_t60 60 = ([(.aload_n 3, [3], .null), (.areturn, [], .null)], 62, 1) := ⟨rfl, rfl, rfl, rfl, rfl, rfl⟩
/- WrongsDesk$Matter.isTorn(I)Z: loops at [] -/
def pb_t61 : pm_Tb := [(0, [(.aload_n 0, [0], .null), (.getfield 24, [7, 10, 0, 161], .null), (.ifCond .lt 15, [19, 0], .null), (.iload_n 1, [1], .null), (.aload_n 0, [0], .null), (.getfield 24, [7, 10, 0, 161], .null), (.if_icmp .lt 7, [19, 0], .null), (.iconst 1, [], .int 1), (.goto 4, [20, 0], .null)], 19, 1),
  (19, [(.iconst 0, [], .int 0)], 20, 0),
  (20, [(.ireturn, [1], .null)], 21, 1)]
theorem pb_c61 : pm_tok 61 pb_t61 = true := by decide +kernel
theorem pb_B61 : (pm_mL 61 = 2) ∧
  pm_lk pb_t61 0 = ([(.aload_n 0, [0], .null), (.getfield 24, [7, 10, 0, 161], .null), (.ifCond .lt 15, [19, 0], .null), (.iload_n 1, [1], .null), (.aload_n 0, [0], .null), (.getfield 24, [7, 10, 0, 161], .null), (.if_icmp .lt 7, [19, 0], .null), (.iconst 1, [], .int 1), (.goto 4, [20, 0], .null)], 19, 1) ∧
  pm_lk pb_t61 19 = ([(.iconst 0, [], .int 0)], 20, 0) ∧
  pm_lk pb_t61 20 = ([(.ireturn, [1], .null)], 21, 1) := ⟨rfl, rfl, rfl, rfl⟩
/- WrongsDesk$Matter.promise(III)V: loops at [] -/
def pb_t62 : pm_Tb := [(0, [(.aload_n 0, [0], .null), (.iload_n 1, [1], .null), (.putfield 27, [7, 11, 0, 163, 0], .null), (.aload_n 0, [0], .null), (.iload_n 2, [2], .null), (.putfield 30, [7, 12, 0, 164, 0], .null), (.aload_n 0, [0], .null), (.iload_n 3, [3], .null), (.putfield 33, [7, 13, 0, 165, 0], .null), (.return_, [], .null)], 16, 1)]
theorem pb_c62 : pm_tok 62 pb_t62 = true := by decide +kernel
theorem pb_B62 : (pm_mL 62 = 4) ∧
  pm_lk pb_t62 0 = ([(.aload_n 0, [0], .null), (.iload_n 1, [1], .null), (.putfield 27, [7, 11, 0, 163, 0], .null), (.aload_n 0, [0], .null), (.iload_n 2, [2], .null), (.putfield 30, [7, 12, 0, 164, 0], .null), (.aload_n 0, [0], .null), (.iload_n 3, [3], .null), (.putfield 33, [7, 13, 0, 165, 0], .null), (.return_, [], .null)], 16, 1) := ⟨rfl, rfl⟩
/- WrongsDesk$Matter.hasDay(I)Z: loops at [] -/
def pb_t63 : pm_Tb := [(0, [(.iload_n 1, [1], .null), (.aload_n 0, [0], .null), (.getfield 62, [7, 4, 0, 142], .null), (.if_icmp .lt 14, [19, 0], .null), (.iload_n 1, [1], .null), (.sipush 9999, [], .int 9999), (.if_icmp .gt 7, [19, 0], .null), (.iconst 1, [], .int 1), (.goto 4, [20, 0], .null)], 19, 1),
  (19, [(.iconst 0, [], .int 0)], 20, 0),
  (20, [(.ireturn, [1], .null)], 21, 1)]
theorem pb_c63 : pm_tok 63 pb_t63 = true := by decide +kernel
theorem pb_B63 : (pm_mL 63 = 2) ∧
  pm_lk pb_t63 0 = ([(.iload_n 1, [1], .null), (.aload_n 0, [0], .null), (.getfield 62, [7, 4, 0, 142], .null), (.if_icmp .lt 14, [19, 0], .null), (.iload_n 1, [1], .null), (.sipush 9999, [], .int 9999), (.if_icmp .gt 7, [19, 0], .null), (.iconst 1, [], .int 1), (.goto 4, [20, 0], .null)], 19, 1) ∧
  pm_lk pb_t63 19 = ([(.iconst 0, [], .int 0)], 20, 0) ∧
  pm_lk pb_t63 20 = ([(.ireturn, [1], .null)], 21, 1) := ⟨rfl, rfl, rfl, rfl⟩
/- WrongsDesk$Matter.promiseState(I)I: loops at [7] -/
def pb_t64 : pm_Tb := [(0, [(.iconst 0, [], .int 0), (.istore_n 2, [2], .null), (.aload_n 0, [0], .null), (.getfield 36, [7, 14, 2, 166], .null), (.astore_n 3, [3], .null)], 7, 1),
  (7, [(.aload_n 3, [3], .null), (.ifnull 48, [56, 0], .null), (.aload_n 3, [3], .null), (.getfield 82, [0, 4, 0, 184], .null), (.aload_n 0, [0], .null), (.getfield 33, [7, 13, 0, 165], .null), (.if_icmp .lt 29, [48, 0], .null), (.aload_n 3, [3], .null), (.getfield 73, [0, 0, 0, 173], .null), (.aload_n 0, [0], .null), (.getfield 27, [7, 11, 0, 163], .null), (.if_icmp .ne 18, [48, 0], .null), (.aload_n 3, [3], .null), (.getfield 79, [0, 1, 0, 175], .null), (.aload_n 0, [0], .null), (.getfield 30, [7, 12, 0, 164], .null), (.if_icmp .gt 5, [46, 0], .null), (.iconst 1, [], .int 1), (.ireturn, [0], .null)], 46, 1),
  (46, [(.iconst 1, [], .int 1), (.istore_n 2, [2], .null)], 48, 0),
  (48, [(.aload_n 3, [3], .null), (.getfield 68, [0, 5, 2, 186], .null), (.astore_n 3, [3], .null), (.goto (-46), [7, 1], .null)], 56, 1),
  (56, [(.iload_n 2, [2], .null), (.ifCond .eq 5, [62, 0], .null), (.iconst 2, [], .int 2), (.ireturn, [0], .null)], 62, 1),
  (62, [(.iload_n 1, [1], .null), (.aload_n 0, [0], .null), (.getfield 30, [7, 12, 0, 164], .null), (.if_icmp .le 7, [74, 0], .null), (.iconst 3, [], .int 3), (.goto 4, [75, 0], .null)], 74, 1),
  (74, [(.iconst 0, [], .int 0)], 75, 0),
  (75, [(.ireturn, [0], .null)], 76, 1)]
theorem pb_c64 : pm_tok 64 pb_t64 = true := by decide +kernel
theorem pb_B64 : (pm_mL 64 = 4) ∧
  pm_lk pb_t64 0 = ([(.iconst 0, [], .int 0), (.istore_n 2, [2], .null), (.aload_n 0, [0], .null), (.getfield 36, [7, 14, 2, 166], .null), (.astore_n 3, [3], .null)], 7, 1) ∧
  pm_lk pb_t64 7 = ([(.aload_n 3, [3], .null), (.ifnull 48, [56, 0], .null), (.aload_n 3, [3], .null), (.getfield 82, [0, 4, 0, 184], .null), (.aload_n 0, [0], .null), (.getfield 33, [7, 13, 0, 165], .null), (.if_icmp .lt 29, [48, 0], .null), (.aload_n 3, [3], .null), (.getfield 73, [0, 0, 0, 173], .null), (.aload_n 0, [0], .null), (.getfield 27, [7, 11, 0, 163], .null), (.if_icmp .ne 18, [48, 0], .null), (.aload_n 3, [3], .null), (.getfield 79, [0, 1, 0, 175], .null), (.aload_n 0, [0], .null), (.getfield 30, [7, 12, 0, 164], .null), (.if_icmp .gt 5, [46, 0], .null), (.iconst 1, [], .int 1), (.ireturn, [0], .null)], 46, 1) ∧
  pm_lk pb_t64 46 = ([(.iconst 1, [], .int 1), (.istore_n 2, [2], .null)], 48, 0) ∧
  pm_lk pb_t64 48 = ([(.aload_n 3, [3], .null), (.getfield 68, [0, 5, 2, 186], .null), (.astore_n 3, [3], .null), (.goto (-46), [7, 1], .null)], 56, 1) ∧
  pm_lk pb_t64 56 = ([(.iload_n 2, [2], .null), (.ifCond .eq 5, [62, 0], .null), (.iconst 2, [], .int 2), (.ireturn, [0], .null)], 62, 1) ∧
  pm_lk pb_t64 62 = ([(.iload_n 1, [1], .null), (.aload_n 0, [0], .null), (.getfield 30, [7, 12, 0, 164], .null), (.if_icmp .le 7, [74, 0], .null), (.iconst 3, [], .int 3), (.goto 4, [75, 0], .null)], 74, 1) ∧
  pm_lk pb_t64 74 = ([(.iconst 0, [], .int 0)], 75, 0) ∧
  pm_lk pb_t64 75 = ([(.ireturn, [0], .null)], 76, 1) := ⟨rfl, rfl, rfl, rfl, rfl, rfl, rfl, rfl, rfl⟩
/- WrongsDesk$Matter.append(LWrongsDesk$Act;)V: loops at [] -/
def pb_t65 : pm_Tb := [(0, [(.aload_n 0, [0], .null), (.getfield 40, [7, 15, 2, 167], .null), (.ifnonnull 11, [15, 0], .null), (.aload_n 0, [0], .null), (.aload_n 1, [1], .null), (.putfield 36, [7, 14, 2, 166, 0], .null), (.goto 11, [23, 0], .null)], 15, 1),
  (15, [(.aload_n 0, [0], .null), (.getfield 40, [7, 15, 2, 167], .null), (.aload_n 1, [1], .null), (.putfield 68, [0, 5, 2, 186, 0], .null)], 23, 0),
  (23, [(.aload_n 0, [0], .null), (.aload_n 1, [1], .null), (.putfield 40, [7, 15, 2, 167, 0], .null), (.return_, [], .null)], 29, 1)]
theorem pb_c65 : pm_tok 65 pb_t65 = true := by decide +kernel
theorem pb_B65 : (pm_mL 65 = 2) ∧
  pm_lk pb_t65 0 = ([(.aload_n 0, [0], .null), (.getfield 40, [7, 15, 2, 167], .null), (.ifnonnull 11, [15, 0], .null), (.aload_n 0, [0], .null), (.aload_n 1, [1], .null), (.putfield 36, [7, 14, 2, 166, 0], .null), (.goto 11, [23, 0], .null)], 15, 1) ∧
  pm_lk pb_t65 15 = ([(.aload_n 0, [0], .null), (.getfield 40, [7, 15, 2, 167], .null), (.aload_n 1, [1], .null), (.putfield 68, [0, 5, 2, 186, 0], .null)], 23, 0) ∧
  pm_lk pb_t65 23 = ([(.aload_n 0, [0], .null), (.aload_n 1, [1], .null), (.putfield 40, [7, 15, 2, 167, 0], .null), (.return_, [], .null)], 29, 1) := ⟨rfl, rfl, rfl, rfl⟩
/- WrongsDesk$Matter.tear(I)V: loops at [] -/
def pb_t66 : pm_Tb := [(0, [(.aload_n 0, [0], .null), (.getfield 24, [7, 10, 0, 161], .null), (.ifCond .ge 8, [12, 0], .null), (.aload_n 0, [0], .null), (.iload_n 1, [1], .null), (.putfield 24, [7, 10, 0, 161, 0], .null)], 12, 0),
  (12, [(.return_, [], .null)], 13, 1)]
theorem pb_c66 : pm_tok 66 pb_t66 = true := by decide +kernel
theorem pb_B66 : (pm_mL 66 = 2) ∧
  pm_lk pb_t66 0 = ([(.aload_n 0, [0], .null), (.getfield 24, [7, 10, 0, 161], .null), (.ifCond .ge 8, [12, 0], .null), (.aload_n 0, [0], .null), (.iload_n 1, [1], .null), (.putfield 24, [7, 10, 0, 161, 0], .null)], 12, 0) ∧
  pm_lk pb_t66 12 = ([(.return_, [], .null)], 13, 1) := ⟨rfl, rfl, rfl⟩
/- WrongsDesk$Matter.howMany(II)I: loops at [8] -/
def pb_t67 : pm_Tb := [(0, [(.iconst 0, [], .int 0), (.istore_n 3, [3], .null), (.aload_n 0, [0], .null), (.getfield 36, [7, 14, 2, 166], .null), (.astore 4, [4], .null)], 8, 1),
  (8, [(.aload 4, [4], .null), (.ifnull 34, [44, 0], .null), (.aload 4, [4], .null), (.getfield 73, [0, 0, 0, 173], .null), (.iload_n 1, [1], .null), (.if_icmp .ne 15, [34, 0], .null), (.aload 4, [4], .null), (.getfield 76, [0, 3, 0, 182], .null), (.iload_n 2, [2], .null), (.if_icmp .gt 6, [34, 0], .null), (.iinc 3 1, [3], .int 1)], 34, 0),
  (34, [(.aload 4, [4], .null), (.getfield 68, [0, 5, 2, 186], .null), (.astore 4, [4], .null), (.goto (-33), [8, 1], .null)], 44, 1),
  (44, [(.iload_n 3, [3], .null), (.ireturn, [0], .null)], 46, 1)]
theorem pb_c67 : pm_tok 67 pb_t67 = true := by decide +kernel
theorem pb_B67 : (pm_mL 67 = 5) ∧
  pm_lk pb_t67 0 = ([(.iconst 0, [], .int 0), (.istore_n 3, [3], .null), (.aload_n 0, [0], .null), (.getfield 36, [7, 14, 2, 166], .null), (.astore 4, [4], .null)], 8, 1) ∧
  pm_lk pb_t67 8 = ([(.aload 4, [4], .null), (.ifnull 34, [44, 0], .null), (.aload 4, [4], .null), (.getfield 73, [0, 0, 0, 173], .null), (.iload_n 1, [1], .null), (.if_icmp .ne 15, [34, 0], .null), (.aload 4, [4], .null), (.getfield 76, [0, 3, 0, 182], .null), (.iload_n 2, [2], .null), (.if_icmp .gt 6, [34, 0], .null), (.iinc 3 1, [3], .int 1)], 34, 0) ∧
  pm_lk pb_t67 34 = ([(.aload 4, [4], .null), (.getfield 68, [0, 5, 2, 186], .null), (.astore 4, [4], .null), (.goto (-33), [8, 1], .null)], 44, 1) ∧
  pm_lk pb_t67 44 = ([(.iload_n 3, [3], .null), (.ireturn, [0], .null)], 46, 1) := ⟨rfl, rfl, rfl, rfl, rfl⟩
/- WrongsDesk$Matter.isFound()Z: loops at [] -/
def pb_t68 : pm_Tb := [(0, [(.aload_n 0, [0], .null), (.getfield 9, [7, 6, 0, 150], .null), (.iconst 3, [], .int 3), (.if_icmp .eq 12, [17, 0], .null), (.aload_n 0, [0], .null), (.getfield 9, [7, 6, 0, 150], .null), (.bipush 6, [], .int 6), (.if_icmp .ne 7, [21, 0], .null)], 17, 0),
  (17, [(.iconst 1, [], .int 1), (.goto 4, [22, 0], .null)], 21, 1),
  (21, [(.iconst 0, [], .int 0)], 22, 0),
  (22, [(.ireturn, [1], .null)], 23, 1)]
theorem pb_c68 : pm_tok 68 pb_t68 = true := by decide +kernel
theorem pb_B68 : (pm_mL 68 = 1) ∧
  pm_lk pb_t68 0 = ([(.aload_n 0, [0], .null), (.getfield 9, [7, 6, 0, 150], .null), (.iconst 3, [], .int 3), (.if_icmp .eq 12, [17, 0], .null), (.aload_n 0, [0], .null), (.getfield 9, [7, 6, 0, 150], .null), (.bipush 6, [], .int 6), (.if_icmp .ne 7, [21, 0], .null)], 17, 0) ∧
  pm_lk pb_t68 17 = ([(.iconst 1, [], .int 1), (.goto 4, [22, 0], .null)], 21, 1) ∧
  pm_lk pb_t68 21 = ([(.iconst 0, [], .int 0)], 22, 0) ∧
  pm_lk pb_t68 22 = ([(.ireturn, [1], .null)], 23, 1) := ⟨rfl, rfl, rfl, rfl, rfl⟩
/- WrongsDesk$Matter.isShared(I)Z: loops at [] -/
def pb_t69 : pm_Tb := [(0, [(.aload_n 0, [0], .null), (.getfield 43, [7, 16, 2, 168], .null), (.iload_n 1, [1], .null), (.iaload, [], .null), (.ifCond .lt 15, [21, 0], .null), (.aload_n 0, [0], .null), (.iload_n 1, [1], .null), (.invokevirtual 85, [70, 7, 143, 1, 1], .null), (.ifCond .le 7, [21, 0], .null), (.iconst 1, [], .int 1), (.goto 4, [22, 0], .null)], 21, 1),
  (21, [(.iconst 0, [], .int 0)], 22, 0),
  (22, [(.ireturn, [1], .null)], 23, 1)]
theorem pb_c69 : pm_tok 69 pb_t69 = true := by decide +kernel
theorem pb_B69 : (pm_mL 69 = 2) ∧
  pm_lk pb_t69 0 = ([(.aload_n 0, [0], .null), (.getfield 43, [7, 16, 2, 168], .null), (.iload_n 1, [1], .null), (.iaload, [], .null), (.ifCond .lt 15, [21, 0], .null), (.aload_n 0, [0], .null), (.iload_n 1, [1], .null), (.invokevirtual 85, [70, 7, 143, 1, 1], .null), (.ifCond .le 7, [21, 0], .null), (.iconst 1, [], .int 1), (.goto 4, [22, 0], .null)], 21, 1) ∧
  pm_lk pb_t69 21 = ([(.iconst 0, [], .int 0)], 22, 0) ∧
  pm_lk pb_t69 22 = ([(.ireturn, [1], .null)], 23, 1) := ⟨rfl, rfl, rfl, rfl⟩
/- WrongsDesk$Matter.otherHands(I)I: loops at [4] -/
def pb_t70 : pm_Tb := [(0, [(.iconst 0, [], .int 0), (.istore_n 2, [2], .null), (.iconst 0, [], .int 0), (.istore_n 3, [3], .null)], 4, 1),
  (4, [(.iload_n 3, [3], .null), (.bipush 6, [], .int 6), (.if_icmp .ge 26, [33, 0], .null), (.iload_n 3, [3], .null), (.iload_n 1, [1], .null), (.if_icmp .eq 15, [27, 0], .null), (.aload_n 0, [0], .null), (.getfield 43, [7, 16, 2, 168], .null), (.iload_n 3, [3], .null), (.iaload, [], .null), (.ifCond .lt 6, [27, 0], .null), (.iinc 2 1, [2], .int 1)], 27, 0),
  (27, [(.iinc 3 1, [3], .int 1), (.goto (-26), [4, 1], .null)], 33, 1),
  (33, [(.iload_n 2, [2], .null), (.ireturn, [0], .null)], 35, 1)]
theorem pb_c70 : pm_tok 70 pb_t70 = true := by decide +kernel
theorem pb_B70 : (pm_mL 70 = 4) ∧
  pm_lk pb_t70 0 = ([(.iconst 0, [], .int 0), (.istore_n 2, [2], .null), (.iconst 0, [], .int 0), (.istore_n 3, [3], .null)], 4, 1) ∧
  pm_lk pb_t70 4 = ([(.iload_n 3, [3], .null), (.bipush 6, [], .int 6), (.if_icmp .ge 26, [33, 0], .null), (.iload_n 3, [3], .null), (.iload_n 1, [1], .null), (.if_icmp .eq 15, [27, 0], .null), (.aload_n 0, [0], .null), (.getfield 43, [7, 16, 2, 168], .null), (.iload_n 3, [3], .null), (.iaload, [], .null), (.ifCond .lt 6, [27, 0], .null), (.iinc 2 1, [2], .int 1)], 27, 0) ∧
  pm_lk pb_t70 27 = ([(.iinc 3 1, [3], .int 1), (.goto (-26), [4, 1], .null)], 33, 1) ∧
  pm_lk pb_t70 33 = ([(.iload_n 2, [2], .null), (.ireturn, [0], .null)], 35, 1) := ⟨rfl, rfl, rfl, rfl, rfl⟩
/- WrongsDesk$Matter.leaning(I)I: loops at [18] -/
def pb_t71 : pm_Tb := [(0, [(.aload_n 0, [0], .null), (.iload_n 1, [1], .null), (.invokevirtual 85, [70, 7, 143, 1, 1], .null), (.istore_n 2, [2], .null), (.iload_n 2, [2], .null), (.iconst 1, [], .int 1), (.if_icmp .ge 5, [13, 0], .null), (.iconst 0, [], .int 0), (.ireturn, [0], .null)], 13, 1),
  (13, [(.iconst 0, [], .int 0), (.istore_n 3, [3], .null), (.iconst 0, [], .int 0), (.istore 4, [4], .null)], 18, 1),
  (18, [(.iload 4, [4], .null), (.bipush 6, [], .int 6), (.if_icmp .ge 35, [57, 0], .null), (.iload 4, [4], .null), (.iload_n 1, [1], .null), (.if_icmp .eq 23, [51, 0], .null), (.aload_n 0, [0], .null), (.getfield 43, [7, 16, 2, 168], .null), (.iload 4, [4], .null), (.iaload, [], .null), (.ifCond .lt 13, [51, 0], .null), (.iload_n 3, [3], .null), (.aload_n 0, [0], .null), (.getfield 43, [7, 16, 2, 168], .null), (.iload 4, [4], .null), (.iaload, [], .null), (.iadd, [], .null), (.istore_n 3, [3], .null)], 51, 0),
  (51, [(.iinc 4 1, [4], .int 1), (.goto (-36), [18, 1], .null)], 57, 1),
  (57, [(.bipush 60, [], .int 60), (.aload_n 0, [0], .null), (.getfield 43, [7, 16, 2, 168], .null), (.iload_n 1, [1], .null), (.iaload, [], .null), (.imul, [], .null), (.bipush 60, [], .int 60), (.iload_n 2, [2], .null), (.idiv, [], .null), (.iload_n 3, [3], .null), (.imul, [], .null), (.isub, [], .null), (.ireturn, [0], .null)], 74, 1)]
theorem pb_c71 : pm_tok 71 pb_t71 = true := by decide +kernel
theorem pb_B71 : (pm_mL 71 = 5) ∧
  pm_lk pb_t71 0 = ([(.aload_n 0, [0], .null), (.iload_n 1, [1], .null), (.invokevirtual 85, [70, 7, 143, 1, 1], .null), (.istore_n 2, [2], .null), (.iload_n 2, [2], .null), (.iconst 1, [], .int 1), (.if_icmp .ge 5, [13, 0], .null), (.iconst 0, [], .int 0), (.ireturn, [0], .null)], 13, 1) ∧
  pm_lk pb_t71 13 = ([(.iconst 0, [], .int 0), (.istore_n 3, [3], .null), (.iconst 0, [], .int 0), (.istore 4, [4], .null)], 18, 1) ∧
  pm_lk pb_t71 18 = ([(.iload 4, [4], .null), (.bipush 6, [], .int 6), (.if_icmp .ge 35, [57, 0], .null), (.iload 4, [4], .null), (.iload_n 1, [1], .null), (.if_icmp .eq 23, [51, 0], .null), (.aload_n 0, [0], .null), (.getfield 43, [7, 16, 2, 168], .null), (.iload 4, [4], .null), (.iaload, [], .null), (.ifCond .lt 13, [51, 0], .null), (.iload_n 3, [3], .null), (.aload_n 0, [0], .null), (.getfield 43, [7, 16, 2, 168], .null), (.iload 4, [4], .null), (.iaload, [], .null), (.iadd, [], .null), (.istore_n 3, [3], .null)], 51, 0) ∧
  pm_lk pb_t71 51 = ([(.iinc 4 1, [4], .int 1), (.goto (-36), [18, 1], .null)], 57, 1) ∧
  pm_lk pb_t71 57 = ([(.bipush 60, [], .int 60), (.aload_n 0, [0], .null), (.getfield 43, [7, 16, 2, 168], .null), (.iload_n 1, [1], .null), (.iaload, [], .null), (.imul, [], .null), (.bipush 60, [], .int 60), (.iload_n 2, [2], .null), (.idiv, [], .null), (.iload_n 3, [3], .null), (.imul, [], .null), (.isub, [], .null), (.ireturn, [0], .null)], 74, 1) := ⟨rfl, rfl, rfl, rfl, rfl, rfl⟩
/- WrongsDesk$Report.<init>()V: loops at [] -/
def pb_t72 : pm_Tb := [(0, [(.aload_n 0, [0], .null), (.invokespecial 3, [6], .null), (.aload_n 0, [0], .null), (.iconst 0, [], .int 0), (.putfield 9, [8, 0, 0, 84, 0], .null), (.aload_n 0, [0], .null), (.bipush 40, [], .int 40), (.newarray .int, [20, 40, 0, 4, 160], .int 40), (.putfield 15, [8, 1, 2, 86, 1], .null), (.aload_n 0, [0], .null), (.bipush 40, [], .int 40), (.newarray .int, [20, 40, 0, 4, 160], .int 40), (.putfield 19, [8, 2, 2, 88, 1], .null), (.aload_n 0, [0], .null), (.bipush 40, [], .int 40), (.newarray .boolean, [22, 40, 0, 4, 160], .int 40), (.putfield 22, [8, 3, 2, 90, 1], .null), (.aload_n 0, [0], .null), (.bipush 40, [], .int 40), (.newarray .int, [20, 40, 0, 4, 160], .int 40), (.putfield 26, [8, 4, 2, 92, 1], .null), (.return_, [], .null)], 42, 1)]
theorem pb_c72 : pm_tok 72 pb_t72 = true := by decide +kernel
theorem pb_B72 : (pm_mL 72 = 1) ∧
  pm_lk pb_t72 0 = ([(.aload_n 0, [0], .null), (.invokespecial 3, [6], .null), (.aload_n 0, [0], .null), (.iconst 0, [], .int 0), (.putfield 9, [8, 0, 0, 84, 0], .null), (.aload_n 0, [0], .null), (.bipush 40, [], .int 40), (.newarray .int, [20, 40, 0, 4, 160], .int 40), (.putfield 15, [8, 1, 2, 86, 1], .null), (.aload_n 0, [0], .null), (.bipush 40, [], .int 40), (.newarray .int, [20, 40, 0, 4, 160], .int 40), (.putfield 19, [8, 2, 2, 88, 1], .null), (.aload_n 0, [0], .null), (.bipush 40, [], .int 40), (.newarray .boolean, [22, 40, 0, 4, 160], .int 40), (.putfield 22, [8, 3, 2, 90, 1], .null), (.aload_n 0, [0], .null), (.bipush 40, [], .int 40), (.newarray .int, [20, 40, 0, 4, 160], .int 40), (.putfield 26, [8, 4, 2, 92, 1], .null), (.return_, [], .null)], 42, 1) := ⟨rfl, rfl⟩
/- WrongsDesk$Report.make([LWrongsDesk$Matter;II)V: loops at [11] -/
def pb_t73 : pm_Tb := [(0, [(.aload_n 0, [0], .null), (.iconst 0, [], .int 0), (.putfield 9, [8, 0, 0, 84, 0], .null), (.iconst (-1), [], .int (-1)), (.istore 4, [4], .null), (.iconst 0, [], .int 0), (.istore 5, [5], .null)], 11, 1),
  (11, [(.iload 5, [5], .null), (.bipush 40, [], .int 40), (.if_icmp .ge 57, [72, 0], .null), (.iload 4, [4], .null), (.aload_n 1, [1], .null), (.iload_n 2, [2], .null), (.iload_n 3, [3], .null), (.invokestatic 29, [74, 133, 4, 1], .null), (.istore 6, [6], .null), (.iload 6, [6], .null), (.ifCond .ge 4, [34, 0], .null), (.return_, [], .null)], 34, 1),
  (34, [(.aload_n 0, [0], .null), (.getfield 15, [8, 1, 2, 86], .null), (.aload_n 0, [0], .null), (.getfield 9, [8, 0, 0, 84], .null), (.iload 6, [6], .null), (.iastore, [], .null), (.aload_n 0, [0], .null), (.aload_n 1, [1], .null), (.iload_n 2, [2], .null), (.iload_n 3, [3], .null), (.invokevirtual 33, [76, 8, 135, 3, 0], .null), (.aload_n 0, [0], .null), (.dup, [], .null), (.getfield 9, [8, 0, 0, 84], .null), (.iconst 1, [], .int 1), (.iadd, [], .null), (.putfield 9, [8, 0, 0, 84, 0], .null), (.iload 6, [6], .null), (.istore 4, [4], .null), (.iinc 5 1, [5], .int 1), (.goto (-58), [11, 1], .null)], 72, 1),
  (72, [(.return_, [], .null)], 73, 1)]
theorem pb_c73 : pm_tok 73 pb_t73 = true := by decide +kernel
theorem pb_B73 : (pm_mL 73 = 7) ∧
  pm_lk pb_t73 0 = ([(.aload_n 0, [0], .null), (.iconst 0, [], .int 0), (.putfield 9, [8, 0, 0, 84, 0], .null), (.iconst (-1), [], .int (-1)), (.istore 4, [4], .null), (.iconst 0, [], .int 0), (.istore 5, [5], .null)], 11, 1) ∧
  pm_lk pb_t73 11 = ([(.iload 5, [5], .null), (.bipush 40, [], .int 40), (.if_icmp .ge 57, [72, 0], .null), (.iload 4, [4], .null), (.aload_n 1, [1], .null), (.iload_n 2, [2], .null), (.iload_n 3, [3], .null), (.invokestatic 29, [74, 133, 4, 1], .null), (.istore 6, [6], .null), (.iload 6, [6], .null), (.ifCond .ge 4, [34, 0], .null), (.return_, [], .null)], 34, 1) ∧
  pm_lk pb_t73 34 = ([(.aload_n 0, [0], .null), (.getfield 15, [8, 1, 2, 86], .null), (.aload_n 0, [0], .null), (.getfield 9, [8, 0, 0, 84], .null), (.iload 6, [6], .null), (.iastore, [], .null), (.aload_n 0, [0], .null), (.aload_n 1, [1], .null), (.iload_n 2, [2], .null), (.iload_n 3, [3], .null), (.invokevirtual 33, [76, 8, 135, 3, 0], .null), (.aload_n 0, [0], .null), (.dup, [], .null), (.getfield 9, [8, 0, 0, 84], .null), (.iconst 1, [], .int 1), (.iadd, [], .null), (.putfield 9, [8, 0, 0, 84, 0], .null), (.iload 6, [6], .null), (.istore 4, [4], .null), (.iinc 5 1, [5], .int 1), (.goto (-58), [11, 1], .null)], 72, 1) ∧
  pm_lk pb_t73 72 = ([(.return_, [], .null)], 73, 1) := ⟨rfl, rfl, rfl, rfl, rfl⟩
/- WrongsDesk$Report.leastAbove(I[LWrongsDesk$Matter;II)I: loops at [6] -/
def pb_t74 : pm_Tb := [(0, [(.iconst (-1), [], .int (-1)), (.istore 4, [4], .null), (.iconst 0, [], .int 0), (.istore 5, [5], .null)], 6, 1),
  (6, [(.iload 5, [5], .null), (.iload_n 2, [2], .null), (.if_icmp .ge 41, [50, 0], .null), (.aload_n 1, [1], .null), (.iload 5, [5], .null), (.aaload, [23], .null), (.iload_n 3, [3], .null), (.invokestatic 37, [75, 134, 2, 1], .null), (.istore 6, [6], .null), (.iload 6, [6], .null), (.iload_n 0, [0], .null), (.if_icmp .le 19, [44, 0], .null), (.iload 4, [4], .null), (.ifCond .lt 10, [40, 0], .null), (.iload 6, [6], .null), (.iload 4, [4], .null), (.if_icmp .ge 7, [44, 0], .null)], 40, 0),
  (40, [(.iload 6, [6], .null), (.istore 4, [4], .null)], 44, 0),
  (44, [(.iinc 5 1, [5], .int 1), (.goto (-41), [6, 1], .null)], 50, 1),
  (50, [(.iload 4, [4], .null), (.ireturn, [0], .null)], 53, 1)]
theorem pb_c74 : pm_tok 74 pb_t74 = true := by decide +kernel
theorem pb_B74 : (pm_mL 74 = 7) ∧
  pm_lk pb_t74 0 = ([(.iconst (-1), [], .int (-1)), (.istore 4, [4], .null), (.iconst 0, [], .int 0), (.istore 5, [5], .null)], 6, 1) ∧
  pm_lk pb_t74 6 = ([(.iload 5, [5], .null), (.iload_n 2, [2], .null), (.if_icmp .ge 41, [50, 0], .null), (.aload_n 1, [1], .null), (.iload 5, [5], .null), (.aaload, [23], .null), (.iload_n 3, [3], .null), (.invokestatic 37, [75, 134, 2, 1], .null), (.istore 6, [6], .null), (.iload 6, [6], .null), (.iload_n 0, [0], .null), (.if_icmp .le 19, [44, 0], .null), (.iload 4, [4], .null), (.ifCond .lt 10, [40, 0], .null), (.iload 6, [6], .null), (.iload 4, [4], .null), (.if_icmp .ge 7, [44, 0], .null)], 40, 0) ∧
  pm_lk pb_t74 40 = ([(.iload 6, [6], .null), (.istore 4, [4], .null)], 44, 0) ∧
  pm_lk pb_t74 44 = ([(.iinc 5 1, [5], .int 1), (.goto (-41), [6, 1], .null)], 50, 1) ∧
  pm_lk pb_t74 50 = ([(.iload 4, [4], .null), (.ireturn, [0], .null)], 53, 1) := ⟨rfl, rfl, rfl, rfl, rfl, rfl⟩
/- WrongsDesk$Report.keyOf(LWrongsDesk$Matter;I)I: loops at [] -/
def pb_t75 : pm_Tb := [(0, [(.iload_n 1, [1], .null), (.iconst 1, [], .int 1), (.iand, [], .null), (.ifCond .eq 10, [13, 0], .null), (.aload_n 0, [0], .null), (.getfield 41, [7, 2, 0, 133], .null), (.goto 4, [14, 0], .null)], 13, 1),
  (13, [(.iconst 0, [], .int 0)], 14, 0),
  (14, [(.istore_n 2, [2], .null), (.iload_n 1, [1], .null), (.iconst 2, [], .int 2), (.iand, [], .null), (.ifCond .eq 10, [28, 0], .null), (.aload_n 0, [0], .null), (.getfield 46, [7, 3, 0, 138], .null), (.goto 4, [29, 0], .null)], 28, 1),
  (28, [(.iconst 0, [], .int 0)], 29, 0),
  (29, [(.istore_n 3, [3], .null), (.iload_n 1, [1], .null), (.iconst 4, [], .int 4), (.iand, [], .null), (.ifCond .eq 10, [43, 0], .null), (.aload_n 0, [0], .null), (.getfield 49, [7, 6, 0, 151], .null), (.goto 4, [44, 0], .null)], 43, 1),
  (43, [(.iconst 0, [], .int 0)], 44, 0),
  (44, [(.istore 4, [4], .null), (.bipush 100, [], .int 100), (.iload_n 2, [2], .null), (.imul, [], .null), (.bipush 10, [], .int 10), (.iload_n 3, [3], .null), (.imul, [], .null), (.iadd, [], .null), (.iload 4, [4], .null), (.iadd, [], .null), (.ireturn, [0], .null)], 59, 1)]
theorem pb_c75 : pm_tok 75 pb_t75 = true := by decide +kernel
theorem pb_B75 : (pm_mL 75 = 5) ∧
  pm_lk pb_t75 0 = ([(.iload_n 1, [1], .null), (.iconst 1, [], .int 1), (.iand, [], .null), (.ifCond .eq 10, [13, 0], .null), (.aload_n 0, [0], .null), (.getfield 41, [7, 2, 0, 133], .null), (.goto 4, [14, 0], .null)], 13, 1) ∧
  pm_lk pb_t75 13 = ([(.iconst 0, [], .int 0)], 14, 0) ∧
  pm_lk pb_t75 14 = ([(.istore_n 2, [2], .null), (.iload_n 1, [1], .null), (.iconst 2, [], .int 2), (.iand, [], .null), (.ifCond .eq 10, [28, 0], .null), (.aload_n 0, [0], .null), (.getfield 46, [7, 3, 0, 138], .null), (.goto 4, [29, 0], .null)], 28, 1) ∧
  pm_lk pb_t75 28 = ([(.iconst 0, [], .int 0)], 29, 0) ∧
  pm_lk pb_t75 29 = ([(.istore_n 3, [3], .null), (.iload_n 1, [1], .null), (.iconst 4, [], .int 4), (.iand, [], .null), (.ifCond .eq 10, [43, 0], .null), (.aload_n 0, [0], .null), (.getfield 49, [7, 6, 0, 151], .null), (.goto 4, [44, 0], .null)], 43, 1) ∧
  pm_lk pb_t75 43 = ([(.iconst 0, [], .int 0)], 44, 0) ∧
  pm_lk pb_t75 44 = ([(.istore 4, [4], .null), (.bipush 100, [], .int 100), (.iload_n 2, [2], .null), (.imul, [], .null), (.bipush 10, [], .int 10), (.iload_n 3, [3], .null), (.imul, [], .null), (.iadd, [], .null), (.iload 4, [4], .null), (.iadd, [], .null), (.ireturn, [0], .null)], 59, 1) := ⟨rfl, rfl, rfl, rfl, rfl, rfl, rfl, rfl⟩
/- WrongsDesk$Report.gather([LWrongsDesk$Matter;II)V: loops at [13] -/
def pb_t76 : pm_Tb := [(0, [(.aload_n 0, [0], .null), (.getfield 19, [8, 2, 2, 88], .null), (.aload_n 0, [0], .null), (.getfield 9, [8, 0, 0, 84], .null), (.iconst 0, [], .int 0), (.iastore, [], .null), (.iconst 0, [], .int 0), (.istore 4, [4], .null)], 13, 1),
  (13, [(.iload 4, [4], .null), (.iload_n 2, [2], .null), (.if_icmp .ge 105, [121, 0], .null), (.aload_n 1, [1], .null), (.iload 4, [4], .null), (.aaload, [23], .null), (.iload_n 3, [3], .null), (.invokestatic 37, [75, 134, 2, 1], .null), (.aload_n 0, [0], .null), (.getfield 15, [8, 1, 2, 86], .null), (.aload_n 0, [0], .null), (.getfield 9, [8, 0, 0, 84], .null), (.iaload, [], .null), (.if_icmp .ne 79, [115, 0], .null), (.aload_n 0, [0], .null), (.getfield 19, [8, 2, 2, 88], .null), (.aload_n 0, [0], .null), (.getfield 9, [8, 0, 0, 84], .null), (.iaload, [], .null), (.ifCond .eq 22, [70, 0], .null), (.aload_n 0, [0], .null), (.getfield 26, [8, 4, 2, 92], .null), (.aload_n 0, [0], .null), (.getfield 9, [8, 0, 0, 84], .null), (.iaload, [], .null), (.aload_n 1, [1], .null), (.iload 4, [4], .null), (.aaload, [23], .null), (.getfield 52, [7, 1, 0, 129], .null), (.if_icmp .ne 7, [74, 0], .null)], 70, 0),
  (70, [(.iconst 1, [], .int 1), (.goto 4, [75, 0], .null)], 74, 1),
  (74, [(.iconst 0, [], .int 0)], 75, 0),
  (75, [(.istore 5, [5], .null), (.aload_n 0, [0], .null), (.getfield 26, [8, 4, 2, 92], .null), (.aload_n 0, [0], .null), (.getfield 9, [8, 0, 0, 84], .null), (.iload 5, [5], .null), (.ifCond .eq 13, [100, 0], .null), (.aload_n 1, [1], .null), (.iload 4, [4], .null), (.aaload, [23], .null), (.getfield 52, [7, 1, 0, 129], .null), (.goto 4, [101, 0], .null)], 100, 1),
  (100, [(.iconst (-1), [], .int (-1))], 101, 0),
  (101, [(.iastore, [], .null), (.aload_n 0, [0], .null), (.getfield 19, [8, 2, 2, 88], .null), (.aload_n 0, [0], .null), (.getfield 9, [8, 0, 0, 84], .null), (.dup2, [], .null), (.iaload, [], .null), (.iconst 1, [], .int 1), (.iadd, [], .null), (.iastore, [], .null)], 115, 0),
  (115, [(.iinc 4 1, [4], .int 1), (.goto (-105), [13, 1], .null)], 121, 1),
  (121, [(.return_, [], .null)], 122, 1)]
theorem pb_c76 : pm_tok 76 pb_t76 = true := by decide +kernel
theorem pb_B76 : (pm_mL 76 = 6) ∧
  pm_lk pb_t76 0 = ([(.aload_n 0, [0], .null), (.getfield 19, [8, 2, 2, 88], .null), (.aload_n 0, [0], .null), (.getfield 9, [8, 0, 0, 84], .null), (.iconst 0, [], .int 0), (.iastore, [], .null), (.iconst 0, [], .int 0), (.istore 4, [4], .null)], 13, 1) ∧
  pm_lk pb_t76 13 = ([(.iload 4, [4], .null), (.iload_n 2, [2], .null), (.if_icmp .ge 105, [121, 0], .null), (.aload_n 1, [1], .null), (.iload 4, [4], .null), (.aaload, [23], .null), (.iload_n 3, [3], .null), (.invokestatic 37, [75, 134, 2, 1], .null), (.aload_n 0, [0], .null), (.getfield 15, [8, 1, 2, 86], .null), (.aload_n 0, [0], .null), (.getfield 9, [8, 0, 0, 84], .null), (.iaload, [], .null), (.if_icmp .ne 79, [115, 0], .null), (.aload_n 0, [0], .null), (.getfield 19, [8, 2, 2, 88], .null), (.aload_n 0, [0], .null), (.getfield 9, [8, 0, 0, 84], .null), (.iaload, [], .null), (.ifCond .eq 22, [70, 0], .null), (.aload_n 0, [0], .null), (.getfield 26, [8, 4, 2, 92], .null), (.aload_n 0, [0], .null), (.getfield 9, [8, 0, 0, 84], .null), (.iaload, [], .null), (.aload_n 1, [1], .null), (.iload 4, [4], .null), (.aaload, [23], .null), (.getfield 52, [7, 1, 0, 129], .null), (.if_icmp .ne 7, [74, 0], .null)], 70, 0) ∧
  pm_lk pb_t76 70 = ([(.iconst 1, [], .int 1), (.goto 4, [75, 0], .null)], 74, 1) ∧
  pm_lk pb_t76 74 = ([(.iconst 0, [], .int 0)], 75, 0) ∧
  pm_lk pb_t76 75 = ([(.istore 5, [5], .null), (.aload_n 0, [0], .null), (.getfield 26, [8, 4, 2, 92], .null), (.aload_n 0, [0], .null), (.getfield 9, [8, 0, 0, 84], .null), (.iload 5, [5], .null), (.ifCond .eq 13, [100, 0], .null), (.aload_n 1, [1], .null), (.iload 4, [4], .null), (.aaload, [23], .null), (.getfield 52, [7, 1, 0, 129], .null), (.goto 4, [101, 0], .null)], 100, 1) ∧
  pm_lk pb_t76 100 = ([(.iconst (-1), [], .int (-1))], 101, 0) ∧
  pm_lk pb_t76 101 = ([(.iastore, [], .null), (.aload_n 0, [0], .null), (.getfield 19, [8, 2, 2, 88], .null), (.aload_n 0, [0], .null), (.getfield 9, [8, 0, 0, 84], .null), (.dup2, [], .null), (.iaload, [], .null), (.iconst 1, [], .int 1), (.iadd, [], .null), (.iastore, [], .null)], 115, 0) ∧
  pm_lk pb_t76 115 = ([(.iinc 4 1, [4], .int 1), (.goto (-105), [13, 1], .null)], 121, 1) ∧
  pm_lk pb_t76 121 = ([(.return_, [], .null)], 122, 1) := ⟨rfl, rfl, rfl, rfl, rfl, rfl, rfl, rfl, rfl, rfl⟩
/- WrongsDesk$Report.hide([II)V: loops at [5] -/
def pb_t77 : pm_Tb := [(0, [(.iconst 0, [], .int 0), (.istore_n 3, [3], .null), (.iconst 0, [], .int 0), (.istore 4, [4], .null)], 5, 1),
  (5, [(.iload 4, [4], .null), (.aload_n 0, [0], .null), (.getfield 9, [8, 0, 0, 84], .null), (.if_icmp .ge 85, [96, 0], .null), (.aload_n 0, [0], .null), (.getfield 26, [8, 4, 2, 92], .null), (.iload 4, [4], .null), (.iaload, [], .null), (.iconst (-1), [], .int (-1)), (.if_icmp .eq 19, [41, 0], .null), (.aload_n 1, [1], .null), (.aload_n 0, [0], .null), (.getfield 26, [8, 4, 2, 92], .null), (.iload 4, [4], .null), (.iaload, [], .null), (.iaload, [], .null), (.ifCond .ne 7, [41, 0], .null), (.iconst 1, [], .int 1), (.goto 4, [42, 0], .null)], 41, 1),
  (41, [(.iconst 0, [], .int 0)], 42, 0),
  (42, [(.istore 5, [5], .null), (.aload_n 0, [0], .null), (.getfield 22, [8, 3, 2, 90], .null), (.iload 4, [4], .null), (.aload_n 0, [0], .null), (.getfield 19, [8, 2, 2, 88], .null), (.iload 4, [4], .null), (.iaload, [], .null), (.iload_n 2, [2], .null), (.if_icmp .lt 8, [66, 0], .null), (.iload 5, [5], .null), (.ifCond .eq 7, [70, 0], .null)], 66, 0),
  (66, [(.iconst 1, [], .int 1), (.goto 4, [71, 0], .null)], 70, 1),
  (70, [(.iconst 0, [], .int 0)], 71, 0),
  (71, [(.bastore, [], .null), (.iload_n 3, [3], .null), (.aload_n 0, [0], .null), (.getfield 22, [8, 3, 2, 90], .null), (.iload 4, [4], .null), (.baload, [], .null), (.ifCond .eq 7, [87, 0], .null), (.iconst 1, [], .int 1), (.goto 4, [88, 0], .null)], 87, 1),
  (87, [(.iconst 0, [], .int 0)], 88, 0),
  (88, [(.iadd, [], .null), (.istore_n 3, [3], .null), (.iinc 4 1, [4], .int 1), (.goto (-88), [5, 1], .null)], 96, 1),
  (96, [(.iload_n 3, [3], .null), (.iconst 1, [], .int 1), (.if_icmp .ne 10, [108, 0], .null), (.aload_n 0, [0], .null), (.invokevirtual 55, [78, 8, 137, 0, 1], .null), (.goto 4, [109, 0], .null)], 108, 1),
  (108, [(.iconst (-1), [], .int (-1))], 109, 0),
  (109, [(.istore 4, [4], .null), (.iload 4, [4], .null), (.ifCond .lt 11, [124, 0], .null), (.aload_n 0, [0], .null), (.getfield 22, [8, 3, 2, 90], .null), (.iload 4, [4], .null), (.iconst 1, [], .int 1), (.bastore, [], .null)], 124, 0),
  (124, [(.return_, [], .null)], 125, 1)]
theorem pb_c77 : pm_tok 77 pb_t77 = true := by decide +kernel
theorem pb_B77 : (pm_mL 77 = 6) ∧
  pm_lk pb_t77 0 = ([(.iconst 0, [], .int 0), (.istore_n 3, [3], .null), (.iconst 0, [], .int 0), (.istore 4, [4], .null)], 5, 1) ∧
  pm_lk pb_t77 5 = ([(.iload 4, [4], .null), (.aload_n 0, [0], .null), (.getfield 9, [8, 0, 0, 84], .null), (.if_icmp .ge 85, [96, 0], .null), (.aload_n 0, [0], .null), (.getfield 26, [8, 4, 2, 92], .null), (.iload 4, [4], .null), (.iaload, [], .null), (.iconst (-1), [], .int (-1)), (.if_icmp .eq 19, [41, 0], .null), (.aload_n 1, [1], .null), (.aload_n 0, [0], .null), (.getfield 26, [8, 4, 2, 92], .null), (.iload 4, [4], .null), (.iaload, [], .null), (.iaload, [], .null), (.ifCond .ne 7, [41, 0], .null), (.iconst 1, [], .int 1), (.goto 4, [42, 0], .null)], 41, 1) ∧
  pm_lk pb_t77 41 = ([(.iconst 0, [], .int 0)], 42, 0) ∧
  pm_lk pb_t77 42 = ([(.istore 5, [5], .null), (.aload_n 0, [0], .null), (.getfield 22, [8, 3, 2, 90], .null), (.iload 4, [4], .null), (.aload_n 0, [0], .null), (.getfield 19, [8, 2, 2, 88], .null), (.iload 4, [4], .null), (.iaload, [], .null), (.iload_n 2, [2], .null), (.if_icmp .lt 8, [66, 0], .null), (.iload 5, [5], .null), (.ifCond .eq 7, [70, 0], .null)], 66, 0) ∧
  pm_lk pb_t77 66 = ([(.iconst 1, [], .int 1), (.goto 4, [71, 0], .null)], 70, 1) ∧
  pm_lk pb_t77 70 = ([(.iconst 0, [], .int 0)], 71, 0) ∧
  pm_lk pb_t77 71 = ([(.bastore, [], .null), (.iload_n 3, [3], .null), (.aload_n 0, [0], .null), (.getfield 22, [8, 3, 2, 90], .null), (.iload 4, [4], .null), (.baload, [], .null), (.ifCond .eq 7, [87, 0], .null), (.iconst 1, [], .int 1), (.goto 4, [88, 0], .null)], 87, 1) ∧
  pm_lk pb_t77 87 = ([(.iconst 0, [], .int 0)], 88, 0) ∧
  pm_lk pb_t77 88 = ([(.iadd, [], .null), (.istore_n 3, [3], .null), (.iinc 4 1, [4], .int 1), (.goto (-88), [5, 1], .null)], 96, 1) ∧
  pm_lk pb_t77 96 = ([(.iload_n 3, [3], .null), (.iconst 1, [], .int 1), (.if_icmp .ne 10, [108, 0], .null), (.aload_n 0, [0], .null), (.invokevirtual 55, [78, 8, 137, 0, 1], .null), (.goto 4, [109, 0], .null)], 108, 1) ∧
  pm_lk pb_t77 108 = ([(.iconst (-1), [], .int (-1))], 109, 0) ∧
  pm_lk pb_t77 109 = ([(.istore 4, [4], .null), (.iload 4, [4], .null), (.ifCond .lt 11, [124, 0], .null), (.aload_n 0, [0], .null), (.getfield 22, [8, 3, 2, 90], .null), (.iload 4, [4], .null), (.iconst 1, [], .int 1), (.bastore, [], .null)], 124, 0) ∧
  pm_lk pb_t77 124 = ([(.return_, [], .null)], 125, 1) := ⟨rfl, rfl, rfl, rfl, rfl, rfl, rfl, rfl, rfl, rfl, rfl, rfl, rfl, rfl⟩
/- WrongsDesk$Report.smallestShown()I: loops at [4] -/
def pb_t78 : pm_Tb := [(0, [(.iconst (-1), [], .int (-1)), (.istore_n 1, [1], .null), (.iconst 0, [], .int 0), (.istore_n 2, [2], .null)], 4, 1),
  (4, [(.iload_n 2, [2], .null), (.aload_n 0, [0], .null), (.getfield 9, [8, 0, 0, 84], .null), (.if_icmp .ge 39, [48, 0], .null), (.aload_n 0, [0], .null), (.getfield 22, [8, 3, 2, 90], .null), (.iload_n 2, [2], .null), (.baload, [], .null), (.ifCond .ne 24, [42, 0], .null), (.iload_n 1, [1], .null), (.ifCond .lt 18, [40, 0], .null), (.aload_n 0, [0], .null), (.getfield 19, [8, 2, 2, 88], .null), (.iload_n 2, [2], .null), (.iaload, [], .null), (.aload_n 0, [0], .null), (.getfield 19, [8, 2, 2, 88], .null), (.iload_n 1, [1], .null), (.iaload, [], .null), (.if_icmp .ge 5, [42, 0], .null)], 40, 0),
  (40, [(.iload_n 2, [2], .null), (.istore_n 1, [1], .null)], 42, 0),
  (42, [(.iinc 2 1, [2], .int 1), (.goto (-41), [4, 1], .null)], 48, 1),
  (48, [(.iload_n 1, [1], .null), (.ireturn, [0], .null)], 50, 1)]
theorem pb_c78 : pm_tok 78 pb_t78 = true := by decide +kernel
theorem pb_B78 : (pm_mL 78 = 3) ∧
  pm_lk pb_t78 0 = ([(.iconst (-1), [], .int (-1)), (.istore_n 1, [1], .null), (.iconst 0, [], .int 0), (.istore_n 2, [2], .null)], 4, 1) ∧
  pm_lk pb_t78 4 = ([(.iload_n 2, [2], .null), (.aload_n 0, [0], .null), (.getfield 9, [8, 0, 0, 84], .null), (.if_icmp .ge 39, [48, 0], .null), (.aload_n 0, [0], .null), (.getfield 22, [8, 3, 2, 90], .null), (.iload_n 2, [2], .null), (.baload, [], .null), (.ifCond .ne 24, [42, 0], .null), (.iload_n 1, [1], .null), (.ifCond .lt 18, [40, 0], .null), (.aload_n 0, [0], .null), (.getfield 19, [8, 2, 2, 88], .null), (.iload_n 2, [2], .null), (.iaload, [], .null), (.aload_n 0, [0], .null), (.getfield 19, [8, 2, 2, 88], .null), (.iload_n 1, [1], .null), (.iaload, [], .null), (.if_icmp .ge 5, [42, 0], .null)], 40, 0) ∧
  pm_lk pb_t78 40 = ([(.iload_n 2, [2], .null), (.istore_n 1, [1], .null)], 42, 0) ∧
  pm_lk pb_t78 42 = ([(.iinc 2 1, [2], .int 1), (.goto (-41), [4, 1], .null)], 48, 1) ∧
  pm_lk pb_t78 48 = ([(.iload_n 1, [1], .null), (.ireturn, [0], .null)], 50, 1) := ⟨rfl, rfl, rfl, rfl, rfl, rfl⟩
/- WrongsDesk$Tape.<init>()V: loops at [] -/
def pb_t79 : pm_Tb := [(0, [(.aload_n 0, [0], .null), (.invokespecial 3, [9], .null), (.aload_n 0, [0], .null), (.iconst (-1), [], .int (-1)), (.putfield 9, [9, 0, 0, 104, 0], .null), (.aload_n 0, [0], .null), (.iconst 0, [], .int 0), (.putfield 15, [9, 1, 0, 106, 0], .null), (.aload_n 0, [0], .null), (.bipush 80, [], .int 80), (.newarray .long, [21, 80, 0, 1, 80], .int 80), (.putfield 18, [9, 2, 2, 108, 1], .null), (.return_, [], .null)], 23, 1)]
theorem pb_c79 : pm_tok 79 pb_t79 = true := by decide +kernel
theorem pb_B79 : (pm_mL 79 = 1) ∧
  pm_lk pb_t79 0 = ([(.aload_n 0, [0], .null), (.invokespecial 3, [9], .null), (.aload_n 0, [0], .null), (.iconst (-1), [], .int (-1)), (.putfield 9, [9, 0, 0, 104, 0], .null), (.aload_n 0, [0], .null), (.iconst 0, [], .int 0), (.putfield 15, [9, 1, 0, 106, 0], .null), (.aload_n 0, [0], .null), (.bipush 80, [], .int 80), (.newarray .long, [21, 80, 0, 1, 80], .int 80), (.putfield 18, [9, 2, 2, 108, 1], .null), (.return_, [], .null)], 23, 1) := ⟨rfl, rfl⟩
/- WrongsDesk$Tape.holds(JI)Z: loops at [] -/
def pb_t80 : pm_Tb := [(0, [(.lload_n 1, [1], .null), (.lconst 0, [], .long 0), (.lcmp, [], .null), (.ifCond .lt 24, [27, 0], .null), (.iload_n 3, [3], .null), (.ifCond .lt 20, [27, 0], .null), (.lload_n 1, [1], .null), (.iload_n 3, [3], .null), (.i2l, [], .null), (.ladd, [], .null), (.aload_n 0, [0], .null), (.getfield 15, [9, 1, 0, 106], .null), (.i2l, [], .null), (.lcmp, [], .null), (.ifCond .gt 7, [27, 0], .null), (.iconst 1, [], .int 1), (.goto 4, [28, 0], .null)], 27, 1),
  (27, [(.iconst 0, [], .int 0)], 28, 0),
  (28, [(.ireturn, [1], .null)], 29, 1)]
theorem pb_c80 : pm_tok 80 pb_t80 = true := by decide +kernel
theorem pb_B80 : (pm_mL 80 = 4) ∧
  pm_lk pb_t80 0 = ([(.lload_n 1, [1], .null), (.lconst 0, [], .long 0), (.lcmp, [], .null), (.ifCond .lt 24, [27, 0], .null), (.iload_n 3, [3], .null), (.ifCond .lt 20, [27, 0], .null), (.lload_n 1, [1], .null), (.iload_n 3, [3], .null), (.i2l, [], .null), (.ladd, [], .null), (.aload_n 0, [0], .null), (.getfield 15, [9, 1, 0, 106], .null), (.i2l, [], .null), (.lcmp, [], .null), (.ifCond .gt 7, [27, 0], .null), (.iconst 1, [], .int 1), (.goto 4, [28, 0], .null)], 27, 1) ∧
  pm_lk pb_t80 27 = ([(.iconst 0, [], .int 0)], 28, 0) ∧
  pm_lk pb_t80 28 = ([(.ireturn, [1], .null)], 29, 1) := ⟨rfl, rfl, rfl, rfl⟩
/- WrongsDesk$Tape.valueAt(I)J: loops at [] -/
def pb_t81 : pm_Tb := [(0, [(.aload_n 0, [0], .null), (.iload_n 1, [1], .null), (.i2l, [], .null), (.iconst 1, [], .int 1), (.invokevirtual 22, [80, 9, 63, 2, 1], .null), (.ifCond .eq 12, [19, 0], .null), (.aload_n 0, [0], .null), (.getfield 18, [9, 2, 2, 108], .null), (.iload_n 1, [1], .null), (.laload, [], .null), (.goto 4, [20, 0], .null)], 19, 1),
  (19, [(.lconst 0, [], .long 0)], 20, 0),
  (20, [(.lreturn, [], .null)], 21, 1)]
theorem pb_c81 : pm_tok 81 pb_t81 = true := by decide +kernel
theorem pb_B81 : (pm_mL 81 = 2) ∧
  pm_lk pb_t81 0 = ([(.aload_n 0, [0], .null), (.iload_n 1, [1], .null), (.i2l, [], .null), (.iconst 1, [], .int 1), (.invokevirtual 22, [80, 9, 63, 2, 1], .null), (.ifCond .eq 12, [19, 0], .null), (.aload_n 0, [0], .null), (.getfield 18, [9, 2, 2, 108], .null), (.iload_n 1, [1], .null), (.laload, [], .null), (.goto 4, [20, 0], .null)], 19, 1) ∧
  pm_lk pb_t81 19 = ([(.lconst 0, [], .long 0)], 20, 0) ∧
  pm_lk pb_t81 20 = ([(.lreturn, [], .null)], 21, 1) := ⟨rfl, rfl, rfl, rfl⟩
/- WrongsDesk$Tape.become(II)V: loops at [12] -/
def pb_t82 : pm_Tb := [(0, [(.aload_n 0, [0], .null), (.iload_n 1, [1], .null), (.putfield 9, [9, 0, 0, 104, 0], .null), (.aload_n 0, [0], .null), (.iload_n 2, [2], .null), (.putfield 15, [9, 1, 0, 106, 0], .null), (.iconst 0, [], .int 0), (.istore_n 3, [3], .null)], 12, 1),
  (12, [(.iload_n 3, [3], .null), (.bipush 80, [], .int 80), (.if_icmp .ge 16, [31, 0], .null), (.aload_n 0, [0], .null), (.getfield 18, [9, 2, 2, 108], .null), (.iload_n 3, [3], .null), (.lconst 0, [], .long 0), (.lastore, [], .null), (.iinc 3 1, [3], .int 1), (.goto (-16), [12, 1], .null)], 31, 1),
  (31, [(.return_, [], .null)], 32, 1)]
theorem pb_c82 : pm_tok 82 pb_t82 = true := by decide +kernel
theorem pb_B82 : (pm_mL 82 = 4) ∧
  pm_lk pb_t82 0 = ([(.aload_n 0, [0], .null), (.iload_n 1, [1], .null), (.putfield 9, [9, 0, 0, 104, 0], .null), (.aload_n 0, [0], .null), (.iload_n 2, [2], .null), (.putfield 15, [9, 1, 0, 106, 0], .null), (.iconst 0, [], .int 0), (.istore_n 3, [3], .null)], 12, 1) ∧
  pm_lk pb_t82 12 = ([(.iload_n 3, [3], .null), (.bipush 80, [], .int 80), (.if_icmp .ge 16, [31, 0], .null), (.aload_n 0, [0], .null), (.getfield 18, [9, 2, 2, 108], .null), (.iload_n 3, [3], .null), (.lconst 0, [], .long 0), (.lastore, [], .null), (.iinc 3 1, [3], .int 1), (.goto (-16), [12, 1], .null)], 31, 1) ∧
  pm_lk pb_t82 31 = ([(.return_, [], .null)], 32, 1) := ⟨rfl, rfl, rfl, rfl⟩
/- WrongsDesk$Tape.put(IJ)V: loops at [] -/
def pb_t83 : pm_Tb := [(0, [(.aload_n 0, [0], .null), (.iload_n 1, [1], .null), (.i2l, [], .null), (.iconst 1, [], .int 1), (.invokevirtual 22, [80, 9, 63, 2, 1], .null), (.ifCond .ne 4, [11, 0], .null), (.return_, [], .null)], 11, 1),
  (11, [(.aload_n 0, [0], .null), (.getfield 9, [9, 0, 0, 104], .null), (.tableswitch 63 0 2 #[25, 38, 51], [0, 40, 0, 1, 53, 0, 2, 66, 0, 78, 0], .null)], 40, 1),
  (40, [(.aload_n 0, [0], .null), (.getfield 18, [9, 2, 2, 108], .null), (.iload_n 1, [1], .null), (.lload_n 2, [2], .null), (.l2i, [], .null), (.i2b, [], .null), (.i2l, [], .null), (.lastore, [], .null), (.goto 35, [85, 0], .null)], 53, 1),
  (53, [(.aload_n 0, [0], .null), (.getfield 18, [9, 2, 2, 108], .null), (.iload_n 1, [1], .null), (.lload_n 2, [2], .null), (.l2i, [], .null), (.i2s, [], .null), (.i2l, [], .null), (.lastore, [], .null), (.goto 22, [85, 0], .null)], 66, 1),
  (66, [(.aload_n 0, [0], .null), (.getfield 18, [9, 2, 2, 108], .null), (.iload_n 1, [1], .null), (.lload_n 2, [2], .null), (.l2i, [], .null), (.i2l, [], .null), (.lastore, [], .null), (.goto 10, [85, 0], .null)], 78, 1),
  (78, [(.aload_n 0, [0], .null), (.getfield 18, [9, 2, 2, 108], .null), (.iload_n 1, [1], .null), (.lload_n 2, [2], .null), (.lastore, [], .null)], 85, 0),
  (85, [(.return_, [], .null)], 86, 1)]
theorem pb_c83 : pm_tok 83 pb_t83 = true := by decide +kernel
theorem pb_B83 : (pm_mL 83 = 4) ∧
  pm_lk pb_t83 0 = ([(.aload_n 0, [0], .null), (.iload_n 1, [1], .null), (.i2l, [], .null), (.iconst 1, [], .int 1), (.invokevirtual 22, [80, 9, 63, 2, 1], .null), (.ifCond .ne 4, [11, 0], .null), (.return_, [], .null)], 11, 1) ∧
  pm_lk pb_t83 11 = ([(.aload_n 0, [0], .null), (.getfield 9, [9, 0, 0, 104], .null), (.tableswitch 63 0 2 #[25, 38, 51], [0, 40, 0, 1, 53, 0, 2, 66, 0, 78, 0], .null)], 40, 1) ∧
  pm_lk pb_t83 40 = ([(.aload_n 0, [0], .null), (.getfield 18, [9, 2, 2, 108], .null), (.iload_n 1, [1], .null), (.lload_n 2, [2], .null), (.l2i, [], .null), (.i2b, [], .null), (.i2l, [], .null), (.lastore, [], .null), (.goto 35, [85, 0], .null)], 53, 1) ∧
  pm_lk pb_t83 53 = ([(.aload_n 0, [0], .null), (.getfield 18, [9, 2, 2, 108], .null), (.iload_n 1, [1], .null), (.lload_n 2, [2], .null), (.l2i, [], .null), (.i2s, [], .null), (.i2l, [], .null), (.lastore, [], .null), (.goto 22, [85, 0], .null)], 66, 1) ∧
  pm_lk pb_t83 66 = ([(.aload_n 0, [0], .null), (.getfield 18, [9, 2, 2, 108], .null), (.iload_n 1, [1], .null), (.lload_n 2, [2], .null), (.l2i, [], .null), (.i2l, [], .null), (.lastore, [], .null), (.goto 10, [85, 0], .null)], 78, 1) ∧
  pm_lk pb_t83 78 = ([(.aload_n 0, [0], .null), (.getfield 18, [9, 2, 2, 108], .null), (.iload_n 1, [1], .null), (.lload_n 2, [2], .null), (.lastore, [], .null)], 85, 0) ∧
  pm_lk pb_t83 85 = ([(.return_, [], .null)], 86, 1) := ⟨rfl, rfl, rfl, rfl, rfl, rfl, rfl, rfl⟩
/- WrongsDesk$Week.<init>()V: loops at [] -/
def pb_t84 : pm_Tb := [(0, [(.aload_n 0, [0], .null), (.invokespecial 3, [7], .null), (.aload_n 0, [0], .null), (.iconst 0, [], .int 0), (.putfield 9, [10, 0, 0, 93, 0], .null), (.aload_n 0, [0], .null), (.bipush 7, [], .int 7), (.newarray .int, [20, 7, 0, 5, 277], .int 7), (.putfield 15, [10, 1, 2, 95, 1], .null), (.aload_n 0, [0], .null), (.bipush 7, [], .int 7), (.newarray .int, [20, 7, 0, 5, 277], .int 7), (.putfield 19, [10, 2, 2, 96, 1], .null), (.aload_n 0, [0], .null), (.bipush 7, [], .int 7), (.newarray .int, [20, 7, 0, 5, 277], .int 7), (.putfield 22, [10, 3, 2, 97, 1], .null), (.aload_n 0, [0], .null), (.sipush 128, [], .int 128), (.newarray .int, [20, 128, 0, 5, 277], .int 128), (.putfield 25, [10, 4, 2, 98, 1], .null), (.aload_n 0, [0], .null), (.sipush 128, [], .int 128), (.newarray .long, [21, 128, 0, 5, 277], .int 128), (.putfield 28, [10, 5, 2, 99, 1], .null), (.return_, [], .null)], 52, 1)]
theorem pb_c84 : pm_tok 84 pb_t84 = true := by decide +kernel
theorem pb_B84 : (pm_mL 84 = 1) ∧
  pm_lk pb_t84 0 = ([(.aload_n 0, [0], .null), (.invokespecial 3, [7], .null), (.aload_n 0, [0], .null), (.iconst 0, [], .int 0), (.putfield 9, [10, 0, 0, 93, 0], .null), (.aload_n 0, [0], .null), (.bipush 7, [], .int 7), (.newarray .int, [20, 7, 0, 5, 277], .int 7), (.putfield 15, [10, 1, 2, 95, 1], .null), (.aload_n 0, [0], .null), (.bipush 7, [], .int 7), (.newarray .int, [20, 7, 0, 5, 277], .int 7), (.putfield 19, [10, 2, 2, 96, 1], .null), (.aload_n 0, [0], .null), (.bipush 7, [], .int 7), (.newarray .int, [20, 7, 0, 5, 277], .int 7), (.putfield 22, [10, 3, 2, 97, 1], .null), (.aload_n 0, [0], .null), (.sipush 128, [], .int 128), (.newarray .int, [20, 128, 0, 5, 277], .int 128), (.putfield 25, [10, 4, 2, 98, 1], .null), (.aload_n 0, [0], .null), (.sipush 128, [], .int 128), (.newarray .long, [21, 128, 0, 5, 277], .int 128), (.putfield 28, [10, 5, 2, 99, 1], .null), (.return_, [], .null)], 52, 1) := ⟨rfl, rfl⟩
/- WrongsDesk$Week.has(I)Z: loops at [2] -/
def pb_t85 : pm_Tb := [(0, [(.iconst 0, [], .int 0), (.istore_n 2, [2], .null)], 2, 1),
  (2, [(.iload_n 2, [2], .null), (.aload_n 0, [0], .null), (.getfield 9, [10, 0, 0, 93], .null), (.if_icmp .ge 21, [28, 0], .null), (.aload_n 0, [0], .null), (.getfield 15, [10, 1, 2, 95], .null), (.iload_n 2, [2], .null), (.iaload, [], .null), (.iload_n 1, [1], .null), (.if_icmp .ne 5, [22, 0], .null), (.iconst 1, [], .int 1), (.ireturn, [1], .null)], 22, 1),
  (22, [(.iinc 2 1, [2], .int 1), (.goto (-23), [2, 1], .null)], 28, 1),
  (28, [(.iconst 0, [], .int 0), (.ireturn, [1], .null)], 30, 1)]
theorem pb_c85 : pm_tok 85 pb_t85 = true := by decide +kernel
theorem pb_B85 : (pm_mL 85 = 3) ∧
  pm_lk pb_t85 0 = ([(.iconst 0, [], .int 0), (.istore_n 2, [2], .null)], 2, 1) ∧
  pm_lk pb_t85 2 = ([(.iload_n 2, [2], .null), (.aload_n 0, [0], .null), (.getfield 9, [10, 0, 0, 93], .null), (.if_icmp .ge 21, [28, 0], .null), (.aload_n 0, [0], .null), (.getfield 15, [10, 1, 2, 95], .null), (.iload_n 2, [2], .null), (.iaload, [], .null), (.iload_n 1, [1], .null), (.if_icmp .ne 5, [22, 0], .null), (.iconst 1, [], .int 1), (.ireturn, [1], .null)], 22, 1) ∧
  pm_lk pb_t85 22 = ([(.iinc 2 1, [2], .int 1), (.goto (-23), [2, 1], .null)], 28, 1) ∧
  pm_lk pb_t85 28 = ([(.iconst 0, [], .int 0), (.ireturn, [1], .null)], 30, 1) := ⟨rfl, rfl, rfl, rfl, rfl⟩
/- WrongsDesk$Week.add(III)Z: loops at [] -/
def pb_t86 : pm_Tb := [(0, [(.aload_n 0, [0], .null), (.getfield 9, [10, 0, 0, 93], .null), (.bipush 7, [], .int 7), (.if_icmp .lt 5, [11, 0], .null), (.iconst 0, [], .int 0), (.ireturn, [1], .null)], 11, 1),
  (11, [(.aload_n 0, [0], .null), (.getfield 15, [10, 1, 2, 95], .null), (.aload_n 0, [0], .null), (.getfield 9, [10, 0, 0, 93], .null), (.iload_n 1, [1], .null), (.iastore, [], .null), (.aload_n 0, [0], .null), (.getfield 19, [10, 2, 2, 96], .null), (.aload_n 0, [0], .null), (.getfield 9, [10, 0, 0, 93], .null), (.iload_n 2, [2], .null), (.iastore, [], .null), (.aload_n 0, [0], .null), (.getfield 22, [10, 3, 2, 97], .null), (.aload_n 0, [0], .null), (.getfield 9, [10, 0, 0, 93], .null), (.iload_n 3, [3], .null), (.iastore, [], .null), (.aload_n 0, [0], .null), (.dup, [], .null), (.getfield 9, [10, 0, 0, 93], .null), (.iconst 1, [], .int 1), (.iadd, [], .null), (.putfield 9, [10, 0, 0, 93, 0], .null), (.iconst 1, [], .int 1), (.ireturn, [1], .null)], 53, 1)]
theorem pb_c86 : pm_tok 86 pb_t86 = true := by decide +kernel
theorem pb_B86 : (pm_mL 86 = 4) ∧
  pm_lk pb_t86 0 = ([(.aload_n 0, [0], .null), (.getfield 9, [10, 0, 0, 93], .null), (.bipush 7, [], .int 7), (.if_icmp .lt 5, [11, 0], .null), (.iconst 0, [], .int 0), (.ireturn, [1], .null)], 11, 1) ∧
  pm_lk pb_t86 11 = ([(.aload_n 0, [0], .null), (.getfield 15, [10, 1, 2, 95], .null), (.aload_n 0, [0], .null), (.getfield 9, [10, 0, 0, 93], .null), (.iload_n 1, [1], .null), (.iastore, [], .null), (.aload_n 0, [0], .null), (.getfield 19, [10, 2, 2, 96], .null), (.aload_n 0, [0], .null), (.getfield 9, [10, 0, 0, 93], .null), (.iload_n 2, [2], .null), (.iastore, [], .null), (.aload_n 0, [0], .null), (.getfield 22, [10, 3, 2, 97], .null), (.aload_n 0, [0], .null), (.getfield 9, [10, 0, 0, 93], .null), (.iload_n 3, [3], .null), (.iastore, [], .null), (.aload_n 0, [0], .null), (.dup, [], .null), (.getfield 9, [10, 0, 0, 93], .null), (.iconst 1, [], .int 1), (.iadd, [], .null), (.putfield 9, [10, 0, 0, 93, 0], .null), (.iconst 1, [], .int 1), (.ireturn, [1], .null)], 53, 1) := ⟨rfl, rfl, rfl⟩
/- WrongsDesk$Week.weighOrders(LWrongsDesk$Days;)V: loops at [11, 52, 68] -/
def pb_t87 : pm_Tb := [(0, [(.iconst 1, [], .int 1), (.aload_n 0, [0], .null), (.getfield 9, [10, 0, 0, 93], .null), (.ishl, [], .null), (.iconst 1, [], .int 1), (.isub, [], .null), (.istore_n 2, [2], .null), (.iconst 0, [], .int 0), (.istore_n 3, [3], .null)], 11, 1),
  (11, [(.iload_n 3, [3], .null), (.iload_n 2, [2], .null), (.if_icmp .gt 28, [41, 0], .null), (.aload_n 0, [0], .null), (.getfield 25, [10, 4, 2, 98], .null), (.iload_n 3, [3], .null), (.aload_n 1, [1], .null), (.aload_n 1, [1], .null), (.getfield 32, [3, 0, 0, 2], .null), (.aload_n 0, [0], .null), (.iload_n 3, [3], .null), (.invokevirtual 37, [88, 10, 155, 1, 1], .null), (.invokevirtual 41, [24, 3, 157, 2, 1], .null), (.iastore, [], .null), (.iinc 3 1, [3], .int 1), (.goto (-27), [11, 1], .null)], 41, 1),
  (41, [(.aload_n 0, [0], .null), (.getfield 28, [10, 5, 2, 99], .null), (.iload_n 2, [2], .null), (.lconst 0, [], .long 0), (.lastore, [], .null), (.iload_n 2, [2], .null), (.iconst 1, [], .int 1), (.isub, [], .null), (.istore_n 3, [3], .null)], 52, 1),
  (52, [(.iload_n 3, [3], .null), (.ifCond .lt 67, [120, 0], .null), (.aload_n 0, [0], .null), (.getfield 28, [10, 5, 2, 99], .null), (.iload_n 3, [3], .null), (.ldc2_w 47, [4], .long 9223372036854775807), (.lastore, [], .null), (.iconst 0, [], .int 0), (.istore 4, [4], .null)], 68, 1),
  (68, [(.iload 4, [4], .null), (.aload_n 0, [0], .null), (.getfield 9, [10, 0, 0, 93], .null), (.if_icmp .ge 40, [114, 0], .null), (.iload_n 3, [3], .null), (.iload 4, [4], .null), (.invokestatic 49, [89, 156, 2, 1], .null), (.ifCond .eq 25, [108, 0], .null), (.aload_n 0, [0], .null), (.getfield 28, [10, 5, 2, 99], .null), (.iload_n 3, [3], .null), (.aload_n 0, [0], .null), (.getfield 28, [10, 5, 2, 99], .null), (.iload_n 3, [3], .null), (.laload, [], .null), (.aload_n 0, [0], .null), (.iload_n 3, [3], .null), (.iload 4, [4], .null), (.invokevirtual 53, [90, 10, 158, 2, 2], .null), (.invokestatic 57, [92, 159], .null), (.lastore, [], .null)], 108, 0),
  (108, [(.iinc 4 1, [4], .int 1), (.goto (-43), [68, 1], .null)], 114, 1),
  (114, [(.iinc 3 (-1), [3], .int (-1)), (.goto (-65), [52, 1], .null)], 120, 1),
  (120, [(.return_, [], .null)], 121, 1)]
theorem pb_c87 : pm_tok 87 pb_t87 = true := by decide +kernel
theorem pb_B87 : (pm_mL 87 = 5) ∧
  pm_lk pb_t87 0 = ([(.iconst 1, [], .int 1), (.aload_n 0, [0], .null), (.getfield 9, [10, 0, 0, 93], .null), (.ishl, [], .null), (.iconst 1, [], .int 1), (.isub, [], .null), (.istore_n 2, [2], .null), (.iconst 0, [], .int 0), (.istore_n 3, [3], .null)], 11, 1) ∧
  pm_lk pb_t87 11 = ([(.iload_n 3, [3], .null), (.iload_n 2, [2], .null), (.if_icmp .gt 28, [41, 0], .null), (.aload_n 0, [0], .null), (.getfield 25, [10, 4, 2, 98], .null), (.iload_n 3, [3], .null), (.aload_n 1, [1], .null), (.aload_n 1, [1], .null), (.getfield 32, [3, 0, 0, 2], .null), (.aload_n 0, [0], .null), (.iload_n 3, [3], .null), (.invokevirtual 37, [88, 10, 155, 1, 1], .null), (.invokevirtual 41, [24, 3, 157, 2, 1], .null), (.iastore, [], .null), (.iinc 3 1, [3], .int 1), (.goto (-27), [11, 1], .null)], 41, 1) ∧
  pm_lk pb_t87 41 = ([(.aload_n 0, [0], .null), (.getfield 28, [10, 5, 2, 99], .null), (.iload_n 2, [2], .null), (.lconst 0, [], .long 0), (.lastore, [], .null), (.iload_n 2, [2], .null), (.iconst 1, [], .int 1), (.isub, [], .null), (.istore_n 3, [3], .null)], 52, 1) ∧
  pm_lk pb_t87 52 = ([(.iload_n 3, [3], .null), (.ifCond .lt 67, [120, 0], .null), (.aload_n 0, [0], .null), (.getfield 28, [10, 5, 2, 99], .null), (.iload_n 3, [3], .null), (.ldc2_w 47, [4], .long 9223372036854775807), (.lastore, [], .null), (.iconst 0, [], .int 0), (.istore 4, [4], .null)], 68, 1) ∧
  pm_lk pb_t87 68 = ([(.iload 4, [4], .null), (.aload_n 0, [0], .null), (.getfield 9, [10, 0, 0, 93], .null), (.if_icmp .ge 40, [114, 0], .null), (.iload_n 3, [3], .null), (.iload 4, [4], .null), (.invokestatic 49, [89, 156, 2, 1], .null), (.ifCond .eq 25, [108, 0], .null), (.aload_n 0, [0], .null), (.getfield 28, [10, 5, 2, 99], .null), (.iload_n 3, [3], .null), (.aload_n 0, [0], .null), (.getfield 28, [10, 5, 2, 99], .null), (.iload_n 3, [3], .null), (.laload, [], .null), (.aload_n 0, [0], .null), (.iload_n 3, [3], .null), (.iload 4, [4], .null), (.invokevirtual 53, [90, 10, 158, 2, 2], .null), (.invokestatic 57, [92, 159], .null), (.lastore, [], .null)], 108, 0) ∧
  pm_lk pb_t87 108 = ([(.iinc 4 1, [4], .int 1), (.goto (-43), [68, 1], .null)], 114, 1) ∧
  pm_lk pb_t87 114 = ([(.iinc 3 (-1), [3], .int (-1)), (.goto (-65), [52, 1], .null)], 120, 1) ∧
  pm_lk pb_t87 120 = ([(.return_, [], .null)], 121, 1) := ⟨rfl, rfl, rfl, rfl, rfl, rfl, rfl, rfl, rfl⟩
/- WrongsDesk$Week.workOf(I)I: loops at [4] -/
def pb_t88 : pm_Tb := [(0, [(.iconst 0, [], .int 0), (.istore_n 2, [2], .null), (.iconst 0, [], .int 0), (.istore_n 3, [3], .null)], 4, 1),
  (4, [(.iload_n 3, [3], .null), (.aload_n 0, [0], .null), (.getfield 9, [10, 0, 0, 93], .null), (.if_icmp .ge 30, [39, 0], .null), (.iload_n 2, [2], .null), (.iload_n 1, [1], .null), (.iload_n 3, [3], .null), (.invokestatic 49, [89, 156, 2, 1], .null), (.ifCond .eq 7, [25, 0], .null), (.iconst 0, [], .int 0), (.goto 9, [31, 0], .null)], 25, 1),
  (25, [(.aload_n 0, [0], .null), (.getfield 19, [10, 2, 2, 96], .null), (.iload_n 3, [3], .null), (.iaload, [], .null)], 31, 0),
  (31, [(.iadd, [], .null), (.istore_n 2, [2], .null), (.iinc 3 1, [3], .int 1), (.goto (-32), [4, 1], .null)], 39, 1),
  (39, [(.iload_n 2, [2], .null), (.ireturn, [0], .null)], 41, 1)]
theorem pb_c88 : pm_tok 88 pb_t88 = true := by decide +kernel
theorem pb_B88 : (pm_mL 88 = 4) ∧
  pm_lk pb_t88 0 = ([(.iconst 0, [], .int 0), (.istore_n 2, [2], .null), (.iconst 0, [], .int 0), (.istore_n 3, [3], .null)], 4, 1) ∧
  pm_lk pb_t88 4 = ([(.iload_n 3, [3], .null), (.aload_n 0, [0], .null), (.getfield 9, [10, 0, 0, 93], .null), (.if_icmp .ge 30, [39, 0], .null), (.iload_n 2, [2], .null), (.iload_n 1, [1], .null), (.iload_n 3, [3], .null), (.invokestatic 49, [89, 156, 2, 1], .null), (.ifCond .eq 7, [25, 0], .null), (.iconst 0, [], .int 0), (.goto 9, [31, 0], .null)], 25, 1) ∧
  pm_lk pb_t88 25 = ([(.aload_n 0, [0], .null), (.getfield 19, [10, 2, 2, 96], .null), (.iload_n 3, [3], .null), (.iaload, [], .null)], 31, 0) ∧
  pm_lk pb_t88 31 = ([(.iadd, [], .null), (.istore_n 2, [2], .null), (.iinc 3 1, [3], .int 1), (.goto (-32), [4, 1], .null)], 39, 1) ∧
  pm_lk pb_t88 39 = ([(.iload_n 2, [2], .null), (.ireturn, [0], .null)], 41, 1) := ⟨rfl, rfl, rfl, rfl, rfl, rfl⟩
/- WrongsDesk$Week.isOpen(II)Z: loops at [] -/
def pb_t89 : pm_Tb := [(0, [(.iload_n 0, [0], .null), (.iload_n 1, [1], .null), (.ishr, [], .null), (.iconst 1, [], .int 1), (.iand, [], .null), (.ifCond .ne 7, [12, 0], .null), (.iconst 1, [], .int 1), (.goto 4, [13, 0], .null)], 12, 1),
  (12, [(.iconst 0, [], .int 0)], 13, 0),
  (13, [(.ireturn, [1], .null)], 14, 1)]
theorem pb_c89 : pm_tok 89 pb_t89 = true := by decide +kernel
theorem pb_B89 : (pm_mL 89 = 2) ∧
  pm_lk pb_t89 0 = ([(.iload_n 0, [0], .null), (.iload_n 1, [1], .null), (.ishr, [], .null), (.iconst 1, [], .int 1), (.iand, [], .null), (.ifCond .ne 7, [12, 0], .null), (.iconst 1, [], .int 1), (.goto 4, [13, 0], .null)], 12, 1) ∧
  pm_lk pb_t89 12 = ([(.iconst 0, [], .int 0)], 13, 0) ∧
  pm_lk pb_t89 13 = ([(.ireturn, [1], .null)], 14, 1) := ⟨rfl, rfl, rfl, rfl⟩
/- WrongsDesk$Week.costWith(II)J: loops at [] -/
def pb_t90 : pm_Tb := [(0, [(.iload_n 1, [1], .null), (.iconst 1, [], .int 1), (.iload_n 2, [2], .null), (.ishl, [], .null), (.ior, [], .null), (.istore_n 3, [3], .null), (.aload_n 0, [0], .null), (.getfield 25, [10, 4, 2, 98], .null), (.iload_n 3, [3], .null), (.iaload, [], .null), (.aload_n 0, [0], .null), (.getfield 22, [10, 3, 2, 97], .null), (.iload_n 2, [2], .null), (.iaload, [], .null), (.isub, [], .null), (.istore 4, [4], .null), (.aload_n 0, [0], .null), (.getfield 28, [10, 5, 2, 99], .null), (.iload_n 3, [3], .null), (.laload, [], .null), (.iload 4, [4], .null), (.ifCond .le 13, [42, 0], .null), (.ldc2_w 63, [5], .long 4294967296), (.iload 4, [4], .null), (.i2l, [], .null), (.ladd, [], .null), (.goto 4, [43, 0], .null)], 42, 1),
  (42, [(.lconst 0, [], .long 0)], 43, 0),
  (43, [(.ladd, [], .null), (.lreturn, [], .null)], 45, 1)]
theorem pb_c90 : pm_tok 90 pb_t90 = true := by decide +kernel
theorem pb_B90 : (pm_mL 90 = 5) ∧
  pm_lk pb_t90 0 = ([(.iload_n 1, [1], .null), (.iconst 1, [], .int 1), (.iload_n 2, [2], .null), (.ishl, [], .null), (.ior, [], .null), (.istore_n 3, [3], .null), (.aload_n 0, [0], .null), (.getfield 25, [10, 4, 2, 98], .null), (.iload_n 3, [3], .null), (.iaload, [], .null), (.aload_n 0, [0], .null), (.getfield 22, [10, 3, 2, 97], .null), (.iload_n 2, [2], .null), (.iaload, [], .null), (.isub, [], .null), (.istore 4, [4], .null), (.aload_n 0, [0], .null), (.getfield 28, [10, 5, 2, 99], .null), (.iload_n 3, [3], .null), (.laload, [], .null), (.iload 4, [4], .null), (.ifCond .le 13, [42, 0], .null), (.ldc2_w 63, [5], .long 4294967296), (.iload 4, [4], .null), (.i2l, [], .null), (.ladd, [], .null), (.goto 4, [43, 0], .null)], 42, 1) ∧
  pm_lk pb_t90 42 = ([(.lconst 0, [], .long 0)], 43, 0) ∧
  pm_lk pb_t90 43 = ([(.ladd, [], .null), (.lreturn, [], .null)], 45, 1) := ⟨rfl, rfl, rfl, rfl⟩
/- WrongsDesk$Week.leastMissed()I: loops at [] -/
def pb_t91 : pm_Tb := [(0, [(.aload_n 0, [0], .null), (.getfield 28, [10, 5, 2, 99], .null), (.iconst 0, [], .int 0), (.laload, [], .null), (.ldc2_w 63, [5], .long 4294967296), (.ldiv, [], .null), (.l2i, [], .null), (.ireturn, [0], .null)], 12, 1)]
theorem pb_c91 : pm_tok 91 pb_t91 = true := by decide +kernel
theorem pb_B91 : (pm_mL 91 = 1) ∧
  pm_lk pb_t91 0 = ([(.aload_n 0, [0], .null), (.getfield 28, [10, 5, 2, 99], .null), (.iconst 0, [], .int 0), (.laload, [], .null), (.ldc2_w 63, [5], .long 4294967296), (.ldiv, [], .null), (.l2i, [], .null), (.ireturn, [0], .null)], 12, 1) := ⟨rfl, rfl⟩
/- WrongsDesk$Week.leastOver()I: loops at [] -/
def pb_t92 : pm_Tb := [(0, [(.aload_n 0, [0], .null), (.getfield 28, [10, 5, 2, 99], .null), (.iconst 0, [], .int 0), (.laload, [], .null), (.ldc2_w 63, [5], .long 4294967296), (.lrem, [], .null), (.l2i, [], .null), (.ireturn, [0], .null)], 12, 1)]
theorem pb_c92 : pm_tok 92 pb_t92 = true := by decide +kernel
theorem pb_B92 : (pm_mL 92 = 1) ∧
  pm_lk pb_t92 0 = ([(.aload_n 0, [0], .null), (.getfield 28, [10, 5, 2, 99], .null), (.iconst 0, [], .int 0), (.laload, [], .null), (.ldc2_w 63, [5], .long 4294967296), (.lrem, [], .null), (.l2i, [], .null), (.ireturn, [0], .null)], 12, 1) := ⟨rfl, rfl⟩
/- WrongsDesk$Week.bestAt(I)I: loops at [4] -/
def pb_t93 : pm_Tb := [(0, [(.iconst 0, [], .int 0), (.istore_n 2, [2], .null), (.iconst 0, [], .int 0), (.istore_n 3, [3], .null)], 4, 1),
  (4, [(.iload_n 3, [3], .null), (.aload_n 0, [0], .null), (.getfield 9, [10, 0, 0, 93], .null), (.if_icmp .ge 36, [45, 0], .null), (.aload_n 0, [0], .null), (.iload_n 2, [2], .null), (.invokevirtual 65, [94, 10, 163, 1, 1], .null), (.istore 4, [4], .null), (.iload_n 3, [3], .null), (.iload_n 1, [1], .null), (.if_icmp .ne 11, [32, 0], .null), (.aload_n 0, [0], .null), (.getfield 15, [10, 1, 2, 95], .null), (.iload 4, [4], .null), (.iaload, [], .null), (.ireturn, [0], .null)], 32, 1),
  (32, [(.iload_n 2, [2], .null), (.iconst 1, [], .int 1), (.iload 4, [4], .null), (.ishl, [], .null), (.ior, [], .null), (.istore_n 2, [2], .null), (.iinc 3 1, [3], .int 1), (.goto (-38), [4, 1], .null)], 45, 1),
  (45, [(.iconst (-1), [], .int (-1)), (.ireturn, [0], .null)], 47, 1)]
theorem pb_c93 : pm_tok 93 pb_t93 = true := by decide +kernel
theorem pb_B93 : (pm_mL 93 = 5) ∧
  pm_lk pb_t93 0 = ([(.iconst 0, [], .int 0), (.istore_n 2, [2], .null), (.iconst 0, [], .int 0), (.istore_n 3, [3], .null)], 4, 1) ∧
  pm_lk pb_t93 4 = ([(.iload_n 3, [3], .null), (.aload_n 0, [0], .null), (.getfield 9, [10, 0, 0, 93], .null), (.if_icmp .ge 36, [45, 0], .null), (.aload_n 0, [0], .null), (.iload_n 2, [2], .null), (.invokevirtual 65, [94, 10, 163, 1, 1], .null), (.istore 4, [4], .null), (.iload_n 3, [3], .null), (.iload_n 1, [1], .null), (.if_icmp .ne 11, [32, 0], .null), (.aload_n 0, [0], .null), (.getfield 15, [10, 1, 2, 95], .null), (.iload 4, [4], .null), (.iaload, [], .null), (.ireturn, [0], .null)], 32, 1) ∧
  pm_lk pb_t93 32 = ([(.iload_n 2, [2], .null), (.iconst 1, [], .int 1), (.iload 4, [4], .null), (.ishl, [], .null), (.ior, [], .null), (.istore_n 2, [2], .null), (.iinc 3 1, [3], .int 1), (.goto (-38), [4, 1], .null)], 45, 1) ∧
  pm_lk pb_t93 45 = ([(.iconst (-1), [], .int (-1)), (.ireturn, [0], .null)], 47, 1) := ⟨rfl, rfl, rfl, rfl, rfl⟩
/- WrongsDesk$Week.firstBest(I)I: loops at [2] -/
def pb_t94 : pm_Tb := [(0, [(.iconst 0, [], .int 0), (.istore_n 2, [2], .null)], 2, 1),
  (2, [(.iload_n 2, [2], .null), (.aload_n 0, [0], .null), (.getfield 9, [10, 0, 0, 93], .null), (.if_icmp .ge 35, [42, 0], .null), (.iload_n 1, [1], .null), (.iload_n 2, [2], .null), (.invokestatic 49, [89, 156, 2, 1], .null), (.ifCond .eq 21, [36, 0], .null), (.aload_n 0, [0], .null), (.iload_n 1, [1], .null), (.iload_n 2, [2], .null), (.invokevirtual 53, [90, 10, 158, 2, 2], .null), (.aload_n 0, [0], .null), (.getfield 28, [10, 5, 2, 99], .null), (.iload_n 1, [1], .null), (.laload, [], .null), (.lcmp, [], .null), (.ifCond .ne 5, [36, 0], .null), (.iload_n 2, [2], .null), (.ireturn, [0], .null)], 36, 1),
  (36, [(.iinc 2 1, [2], .int 1), (.goto (-37), [2, 1], .null)], 42, 1),
  (42, [(.iconst 0, [], .int 0), (.ireturn, [0], .null)], 44, 1)]
theorem pb_c94 : pm_tok 94 pb_t94 = true := by decide +kernel
theorem pb_B94 : (pm_mL 94 = 3) ∧
  pm_lk pb_t94 0 = ([(.iconst 0, [], .int 0), (.istore_n 2, [2], .null)], 2, 1) ∧
  pm_lk pb_t94 2 = ([(.iload_n 2, [2], .null), (.aload_n 0, [0], .null), (.getfield 9, [10, 0, 0, 93], .null), (.if_icmp .ge 35, [42, 0], .null), (.iload_n 1, [1], .null), (.iload_n 2, [2], .null), (.invokestatic 49, [89, 156, 2, 1], .null), (.ifCond .eq 21, [36, 0], .null), (.aload_n 0, [0], .null), (.iload_n 1, [1], .null), (.iload_n 2, [2], .null), (.invokevirtual 53, [90, 10, 158, 2, 2], .null), (.aload_n 0, [0], .null), (.getfield 28, [10, 5, 2, 99], .null), (.iload_n 1, [1], .null), (.laload, [], .null), (.lcmp, [], .null), (.ifCond .ne 5, [36, 0], .null), (.iload_n 2, [2], .null), (.ireturn, [0], .null)], 36, 1) ∧
  pm_lk pb_t94 36 = ([(.iinc 2 1, [2], .int 1), (.goto (-37), [2, 1], .null)], 42, 1) ∧
  pm_lk pb_t94 42 = ([(.iconst 0, [], .int 0), (.ireturn, [0], .null)], 44, 1) := ⟨rfl, rfl, rfl, rfl, rfl⟩
/- WrongsDesk$Week.missedInOrder(LWrongsDesk$Tape;LWrongsDesk$Days;)I: loops at [11] -/
def pb_t95 : pm_Tb := [(0, [(.iconst 0, [], .int 0), (.istore_n 3, [3], .null), (.iconst 0, [], .int 0), (.istore 4, [4], .null), (.iconst 0, [], .int 0), (.istore 5, [5], .null), (.iconst 0, [], .int 0), (.istore 6, [6], .null)], 11, 1),
  (11, [(.iload 6, [6], .null), (.aload_n 0, [0], .null), (.getfield 9, [10, 0, 0, 93], .null), (.if_icmp .ge 102, [119, 0], .null), (.aload_n 1, [1], .null), (.iload 6, [6], .null), (.invokevirtual 68, [81, 9, 166, 1, 2], .null), (.lstore 7, [7], .null), (.lload 7, [7], .null), (.lconst 0, [], .long 0), (.lcmp, [], .null), (.ifCond .lt 24, [56, 0], .null), (.lload 7, [7], .null), (.aload_n 0, [0], .null), (.getfield 9, [10, 0, 0, 93], .null), (.i2l, [], .null), (.lcmp, [], .null), (.ifCond .ge 13, [56, 0], .null), (.iload_n 3, [3], .null), (.lload 7, [7], .null), (.l2i, [], .null), (.invokestatic 49, [89, 156, 2, 1], .null), (.ifCond .ne 6, [59, 0], .null)], 56, 0),
  (56, [(.bipush (-2), [], .int (-2)), (.ireturn, [0], .null)], 59, 1),
  (59, [(.lload 7, [7], .null), (.l2i, [], .null), (.istore 9, [9], .null), (.iload_n 3, [3], .null), (.iconst 1, [], .int 1), (.iload 9, [9], .null), (.ishl, [], .null), (.ior, [], .null), (.istore_n 3, [3], .null), (.iload 5, [5], .null), (.aload_n 0, [0], .null), (.getfield 19, [10, 2, 2, 96], .null), (.iload 9, [9], .null), (.iaload, [], .null), (.iadd, [], .null), (.istore 5, [5], .null), (.iload 4, [4], .null), (.aload_n 2, [2], .null), (.aload_n 2, [2], .null), (.getfield 32, [3, 0, 0, 2], .null), (.iload 5, [5], .null), (.invokevirtual 41, [24, 3, 157, 2, 1], .null), (.aload_n 0, [0], .null), (.getfield 22, [10, 3, 2, 97], .null), (.iload 9, [9], .null), (.iaload, [], .null), (.if_icmp .le 7, [109, 0], .null), (.iconst 1, [], .int 1), (.goto 4, [110, 0], .null)], 109, 1),
  (109, [(.iconst 0, [], .int 0)], 110, 0),
  (110, [(.iadd, [], .null), (.istore 4, [4], .null), (.iinc 6 1, [6], .int 1), (.goto (-105), [11, 1], .null)], 119, 1),
  (119, [(.iload 4, [4], .null), (.ireturn, [0], .null)], 122, 1)]
theorem pb_c95 : pm_tok 95 pb_t95 = true := by decide +kernel
theorem pb_B95 : (pm_mL 95 = 10) ∧
  pm_lk pb_t95 0 = ([(.iconst 0, [], .int 0), (.istore_n 3, [3], .null), (.iconst 0, [], .int 0), (.istore 4, [4], .null), (.iconst 0, [], .int 0), (.istore 5, [5], .null), (.iconst 0, [], .int 0), (.istore 6, [6], .null)], 11, 1) ∧
  pm_lk pb_t95 11 = ([(.iload 6, [6], .null), (.aload_n 0, [0], .null), (.getfield 9, [10, 0, 0, 93], .null), (.if_icmp .ge 102, [119, 0], .null), (.aload_n 1, [1], .null), (.iload 6, [6], .null), (.invokevirtual 68, [81, 9, 166, 1, 2], .null), (.lstore 7, [7], .null), (.lload 7, [7], .null), (.lconst 0, [], .long 0), (.lcmp, [], .null), (.ifCond .lt 24, [56, 0], .null), (.lload 7, [7], .null), (.aload_n 0, [0], .null), (.getfield 9, [10, 0, 0, 93], .null), (.i2l, [], .null), (.lcmp, [], .null), (.ifCond .ge 13, [56, 0], .null), (.iload_n 3, [3], .null), (.lload 7, [7], .null), (.l2i, [], .null), (.invokestatic 49, [89, 156, 2, 1], .null), (.ifCond .ne 6, [59, 0], .null)], 56, 0) ∧
  pm_lk pb_t95 56 = ([(.bipush (-2), [], .int (-2)), (.ireturn, [0], .null)], 59, 1) ∧
  pm_lk pb_t95 59 = ([(.lload 7, [7], .null), (.l2i, [], .null), (.istore 9, [9], .null), (.iload_n 3, [3], .null), (.iconst 1, [], .int 1), (.iload 9, [9], .null), (.ishl, [], .null), (.ior, [], .null), (.istore_n 3, [3], .null), (.iload 5, [5], .null), (.aload_n 0, [0], .null), (.getfield 19, [10, 2, 2, 96], .null), (.iload 9, [9], .null), (.iaload, [], .null), (.iadd, [], .null), (.istore 5, [5], .null), (.iload 4, [4], .null), (.aload_n 2, [2], .null), (.aload_n 2, [2], .null), (.getfield 32, [3, 0, 0, 2], .null), (.iload 5, [5], .null), (.invokevirtual 41, [24, 3, 157, 2, 1], .null), (.aload_n 0, [0], .null), (.getfield 22, [10, 3, 2, 97], .null), (.iload 9, [9], .null), (.iaload, [], .null), (.if_icmp .le 7, [109, 0], .null), (.iconst 1, [], .int 1), (.goto 4, [110, 0], .null)], 109, 1) ∧
  pm_lk pb_t95 109 = ([(.iconst 0, [], .int 0)], 110, 0) ∧
  pm_lk pb_t95 110 = ([(.iadd, [], .null), (.istore 4, [4], .null), (.iinc 6 1, [6], .int 1), (.goto (-105), [11, 1], .null)], 119, 1) ∧
  pm_lk pb_t95 119 = ([(.iload 4, [4], .null), (.ireturn, [0], .null)], 122, 1) := ⟨rfl, rfl, rfl, rfl, rfl, rfl, rfl, rfl⟩
/- java/lang/Integer.bitCount(I)I: loops at [] -/
def pb_t264 : pm_Tb := [(0, [(.iload_n 0, [0], .null), (.iload_n 0, [0], .null), (.iconst 1, [], .int 1), (.iushr, [], .null), (.ldc_w 265, [1], .int 1431655765), (.iand, [], .null), (.isub, [], .null), (.istore_n 0, [0], .null), (.iload_n 0, [0], .null), (.ldc_w 266, [2], .int 858993459), (.iand, [], .null), (.iload_n 0, [0], .null), (.iconst 2, [], .int 2), (.iushr, [], .null), (.ldc_w 266, [2], .int 858993459), (.iand, [], .null), (.iadd, [], .null), (.istore_n 0, [0], .null), (.iload_n 0, [0], .null), (.iload_n 0, [0], .null), (.iconst 4, [], .int 4), (.iushr, [], .null), (.iadd, [], .null), (.ldc_w 267, [3], .int 252645135), (.iand, [], .null), (.istore_n 0, [0], .null), (.iload_n 0, [0], .null), (.iload_n 0, [0], .null), (.bipush 8, [], .int 8), (.iushr, [], .null), (.iadd, [], .null), (.istore_n 0, [0], .null), (.iload_n 0, [0], .null), (.iload_n 0, [0], .null), (.bipush 16, [], .int 16), (.iushr, [], .null), (.iadd, [], .null), (.istore_n 0, [0], .null), (.iload_n 0, [0], .null), (.bipush 63, [], .int 63), (.iand, [], .null), (.ireturn, [0], .null)], 53, 1)]
theorem pb_c264 : pm_tok 264 pb_t264 = true := by decide +kernel
theorem pb_B264 : (pm_mL 264 = 1) ∧
  pm_lk pb_t264 0 = ([(.iload_n 0, [0], .null), (.iload_n 0, [0], .null), (.iconst 1, [], .int 1), (.iushr, [], .null), (.ldc_w 265, [1], .int 1431655765), (.iand, [], .null), (.isub, [], .null), (.istore_n 0, [0], .null), (.iload_n 0, [0], .null), (.ldc_w 266, [2], .int 858993459), (.iand, [], .null), (.iload_n 0, [0], .null), (.iconst 2, [], .int 2), (.iushr, [], .null), (.ldc_w 266, [2], .int 858993459), (.iand, [], .null), (.iadd, [], .null), (.istore_n 0, [0], .null), (.iload_n 0, [0], .null), (.iload_n 0, [0], .null), (.iconst 4, [], .int 4), (.iushr, [], .null), (.iadd, [], .null), (.ldc_w 267, [3], .int 252645135), (.iand, [], .null), (.istore_n 0, [0], .null), (.iload_n 0, [0], .null), (.iload_n 0, [0], .null), (.bipush 8, [], .int 8), (.iushr, [], .null), (.iadd, [], .null), (.istore_n 0, [0], .null), (.iload_n 0, [0], .null), (.iload_n 0, [0], .null), (.bipush 16, [], .int 16), (.iushr, [], .null), (.iadd, [], .null), (.istore_n 0, [0], .null), (.iload_n 0, [0], .null), (.bipush 63, [], .int 63), (.iand, [], .null), (.ireturn, [0], .null)], 53, 1) := ⟨rfl, rfl⟩
/- java/lang/String.length()I: loops at [] -/
def pb_t269 : pm_Tb := [(0, [(.aload_n 0, [0], .null), (.getfield 9, [1], .null), (.arraylength, [], .null), (.aload_n 0, [0], .null), (.invokevirtual 335, [270, 78, 0, 1], .null), (.ishr, [], .null), (.ireturn, [0], .null)], 11, 1)]
theorem pb_c269 : pm_tok 269 pb_t269 = true := by decide +kernel
theorem pb_B269 : (pm_mL 269 = 1) ∧
  pm_lk pb_t269 0 = ([(.aload_n 0, [0], .null), (.getfield 9, [1], .null), (.arraylength, [], .null), (.aload_n 0, [0], .null), (.invokevirtual 335, [270, 78, 0, 1], .null), (.ishr, [], .null), (.ireturn, [0], .null)], 11, 1) := ⟨rfl, rfl⟩
/- java/lang/String.coder()B: loops at [] -/
def pb_t270 : pm_Tb := [(0, [(.getstatic 38, [1], .int 1), (.ifCond .eq 10, [13, 0], .null), (.aload_n 0, [0], .null), (.getfield 15, [0], .null), (.goto 4, [14, 0], .null)], 13, 1),
  (13, [(.iconst 1, [], .int 1)], 14, 0),
  (14, [(.ireturn, [2], .null)], 15, 1)]
theorem pb_c270 : pm_tok 270 pb_t270 = true := by decide +kernel
theorem pb_B270 : (pm_mL 270 = 1) ∧
  pm_lk pb_t270 0 = ([(.getstatic 38, [1], .int 1), (.ifCond .eq 10, [13, 0], .null), (.aload_n 0, [0], .null), (.getfield 15, [0], .null), (.goto 4, [14, 0], .null)], 13, 1) ∧
  pm_lk pb_t270 13 = ([(.iconst 1, [], .int 1)], 14, 0) ∧
  pm_lk pb_t270 14 = ([(.ireturn, [2], .null)], 15, 1) := ⟨rfl, rfl, rfl, rfl⟩
/- java/lang/String.charAt(I)C: loops at [] -/
def pb_t271 : pm_Tb := [(0, [(.aload_n 0, [0], .null), (.invokevirtual 492, [272, 80, 0, 1], .null), (.ifCond .eq 12, [16, 0], .null), (.aload_n 0, [0], .null), (.getfield 9, [1], .null), (.iload_n 1, [1], .null), (.invokestatic 495, [274, 81, 2, 1], .null), (.ireturn, [3], .null)], 16, 1),
  (16, [(.aload_n 0, [0], .null), (.getfield 9, [1], .null), (.iload_n 1, [1], .null), (.invokestatic 498, [276, 84, 2, 1], .null), (.ireturn, [3], .null)], 25, 1)]
theorem pb_c271 : pm_tok 271 pb_t271 = true := by decide +kernel
theorem pb_B271 : (pm_mL 271 = 2) ∧
  pm_lk pb_t271 0 = ([(.aload_n 0, [0], .null), (.invokevirtual 492, [272, 80, 0, 1], .null), (.ifCond .eq 12, [16, 0], .null), (.aload_n 0, [0], .null), (.getfield 9, [1], .null), (.iload_n 1, [1], .null), (.invokestatic 495, [274, 81, 2, 1], .null), (.ireturn, [3], .null)], 16, 1) ∧
  pm_lk pb_t271 16 = ([(.aload_n 0, [0], .null), (.getfield 9, [1], .null), (.iload_n 1, [1], .null), (.invokestatic 498, [276, 84, 2, 1], .null), (.ireturn, [3], .null)], 25, 1) := ⟨rfl, rfl, rfl⟩
/- java/lang/String.isLatin1()Z: loops at [] -/
def pb_t272 : pm_Tb := [(0, [(.getstatic 38, [1], .int 1), (.ifCond .eq 14, [17, 0], .null), (.aload_n 0, [0], .null), (.getfield 15, [0], .null), (.ifCond .ne 7, [17, 0], .null), (.iconst 1, [], .int 1), (.goto 4, [18, 0], .null)], 17, 1),
  (17, [(.iconst 0, [], .int 0)], 18, 0),
  (18, [(.ireturn, [1], .null)], 19, 1)]
theorem pb_c272 : pm_tok 272 pb_t272 = true := by decide +kernel
theorem pb_B272 : (pm_mL 272 = 1) ∧
  pm_lk pb_t272 0 = ([(.getstatic 38, [1], .int 1), (.ifCond .eq 14, [17, 0], .null), (.aload_n 0, [0], .null), (.getfield 15, [0], .null), (.ifCond .ne 7, [17, 0], .null), (.iconst 1, [], .int 1), (.goto 4, [18, 0], .null)], 17, 1) ∧
  pm_lk pb_t272 17 = ([(.iconst 0, [], .int 0)], 18, 0) ∧
  pm_lk pb_t272 18 = ([(.ireturn, [1], .null)], 19, 1) := ⟨rfl, rfl, rfl, rfl⟩
/- java/lang/String.checkIndex(II)V: loops at [] -/
def pb_t273 : pm_Tb := [(0, [(.iload_n 0, [0], .null), (.iload_n 1, [1], .null), (.getstatic 1053, [2, 0], .null), (.invokestatic 1059, [275, 83, 3, 1], .null), (.pop, [], .null), (.return_, [], .null)], 10, 1)]
theorem pb_c273 : pm_tok 273 pb_t273 = true := by decide +kernel
theorem pb_B273 : (pm_mL 273 = 2) ∧
  pm_lk pb_t273 0 = ([(.iload_n 0, [0], .null), (.iload_n 1, [1], .null), (.getstatic 1053, [2, 0], .null), (.invokestatic 1059, [275, 83, 3, 1], .null), (.pop, [], .null), (.return_, [], .null)], 10, 1) := ⟨rfl, rfl⟩
/- java/lang/StringLatin1.charAt([BI)C: loops at [] -/
def pb_t274 : pm_Tb := [(0, [(.iload_n 1, [1], .null), (.aload_n 0, [0], .null), (.arraylength, [], .null), (.invokestatic 9, [273, 82, 2, 0], .null), (.aload_n 0, [0], .null), (.iload_n 1, [1], .null), (.baload, [], .null), (.sipush 255, [], .int 255), (.iand, [], .null), (.i2c, [], .null), (.ireturn, [3], .null)], 15, 1)]
theorem pb_c274 : pm_tok 274 pb_t274 = true := by decide +kernel
theorem pb_B274 : (pm_mL 274 = 2) ∧
  pm_lk pb_t274 0 = ([(.iload_n 1, [1], .null), (.aload_n 0, [0], .null), (.arraylength, [], .null), (.invokestatic 9, [273, 82, 2, 0], .null), (.aload_n 0, [0], .null), (.iload_n 1, [1], .null), (.baload, [], .null), (.sipush 255, [], .int 255), (.iand, [], .null), (.i2c, [], .null), (.ireturn, [3], .null)], 15, 1) := ⟨rfl, rfl⟩
/- jdk/internal/util/Preconditions.checkIndex(IILjava/util/function/BiFunction;)I: loops at [] -/
def pb_t275 : pm_Tb := [(0, [(.iload_n 0, [0], .null), (.ifCond .lt 8, [9, 0], .null), (.iload_n 0, [0], .null), (.iload_n 1, [1], .null), (.if_icmp .lt 10, [16, 0], .null)], 9, 0),
  (16, [(.iload_n 0, [0], .null), (.ireturn, [0], .null)], 18, 1)]
theorem pb_c275 : pm_tok 275 pb_t275 = true := by decide +kernel
theorem pb_B275 : (pm_mL 275 = 3) ∧
  pm_lk pb_t275 0 = ([(.iload_n 0, [0], .null), (.ifCond .lt 8, [9, 0], .null), (.iload_n 0, [0], .null), (.iload_n 1, [1], .null), (.if_icmp .lt 10, [16, 0], .null)], 9, 0) ∧
  pm_lk pb_t275 16 = ([(.iload_n 0, [0], .null), (.ireturn, [0], .null)], 18, 1) ∧
  pm_lk pb_t275 9 = ([], 9, 1) := ⟨rfl, rfl, rfl, rfl⟩
