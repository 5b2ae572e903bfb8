/- WrongsDesk.<init>()V: loops at [133] -/
def pb_t96 : pm_Tb := [(0, [(.aload_n 0, [0], .null), (.invokespecial 3, [0], .null), (.aload_n 0, [0], .null), (.new 9, [3, 1, 3, 58, 1804], .null), (.dup, [], .null), (.invokespecial 11, [20, 3, 1000, 0, 1, 20, 58, 1804], .null), (.putfield 12, [11, 0, 2, 110, 1], .null), (.aload_n 0, [0], .null), (.bipush 20, [], .int 20), (.newarray .int, [20, 20, 0, 58, 1804], .int 20), (.putfield 18, [11, 1, 2, 111, 1], .null), (.aload_n 0, [0], .null), (.iconst 0, [], .int 0), (.putfield 22, [11, 2, 0, 112, 0], .null), (.aload_n 0, [0], .null), (.bipush 40, [], .int 40), (.anewarray 26, [23, 40, 2, 58, 1804], .int 40), (.putfield 28, [11, 3, 2, 113, 1], .null), (.aload_n 0, [0], .null), (.iconst 0, [], .int 0), (.putfield 32, [11, 4, 0, 114, 0], .null), (.aload_n 0, [0], .null), (.iconst 0, [], .int 0), (.putfield 35, [11, 5, 0, 115, 0], .null), (.aload_n 0, [0], .null), (.new 38, [6, 3, 4, 58, 1804], .null), (.dup, [], .null), (.invokespecial 40, [40, 6, 1001, 0, 8, 389, 58, 1804], .null), (.putfield 41, [11, 6, 2, 116, 1], .null), (.aload_n 0, [0], .null), (.new 45, [1, 5, 10, 58, 1804], .null), (.dup, [], .null), (.aload_n 0, [0], .null), (.getfield 12, [11, 0, 2, 110], .null), (.invokespecial 47, [1, 1, 3, 1, 13, 291, 58, 1804], .null), (.putfield 50, [11, 7, 2, 117, 1], .null), (.aload_n 0, [0], .null), (.new 54, [2, 7, 5, 58, 1804], .null), (.dup, [], .null), (.invokespecial 56, [13, 2, 1002, 0, 4, 48, 58, 1804], .null), (.putfield 57, [11, 8, 2, 118, 1], .null), (.aload_n 0, [0], .null), (.new 61, [8, 8, 5, 58, 1804], .null), (.dup, [], .null), (.invokespecial 63, [72, 8, 1003, 0, 4, 160, 58, 1804], .null), (.putfield 64, [11, 9, 2, 119, 1], .null), (.aload_n 0, [0], .null), (.iconst 0, [], .int 0), (.putfield 68, [11, 10, 0, 120, 0], .null), (.aload_n 0, [0], .null), (.new 71, [10, 9, 6, 58, 1804], .null), (.dup, [], .null), (.invokespecial 73, [84, 10, 1004, 0, 5, 277, 58, 1804], .null), (.putfield 74, [11, 11, 2, 121, 1], .null), (.aload_n 0, [0], .null), (.new 78, [4, 10, 2, 58, 1804], .null), (.dup, [], .null), (.invokespecial 80, [26, 4, 1005, 0, 1, 20, 58, 1804], .null), (.putfield 81, [11, 12, 2, 122, 1], .null), (.aload_n 0, [0], .null), (.bipush 6, [], .int 6), (.anewarray 85, [25, 6, 11, 58, 1804], .int 6), (.putfield 87, [11, 13, 2, 123, 1], .null), (.iconst 0, [], .int 0), (.istore_n 1, [1], .null)], 133, 1),
  (133, [(.iload_n 1, [1], .null), (.bipush 6, [], .int 6), (.if_icmp .ge 22, [158, 0], .null), (.aload_n 0, [0], .null), (.getfield 87, [11, 13, 2, 123], .null), (.iload_n 1, [1], .null), (.new 85, [9, 11, 3, 58, 1804], .null), (.dup, [], .null), (.invokespecial 91, [79, 9, 1006, 0, 1, 80, 58, 1804], .null), (.aastore, [25, 9], .null), (.iinc 1 1, [1], .int 1), (.goto (-22), [133, 1], .null)], 158, 1),
  (158, [(.return_, [], .null)], 159, 1)]
theorem pb_c96 : pm_tok 96 pb_t96 = true := by decide +kernel
theorem pb_B96 : (pm_mL 96 = 2) ∧
  pm_lk pb_t96 0 = ([(.aload_n 0, [0], .null), (.invokespecial 3, [0], .null), (.aload_n 0, [0], .null), (.new 9, [3, 1, 3, 58, 1804], .null), (.dup, [], .null), (.invokespecial 11, [20, 3, 1000, 0, 1, 20, 58, 1804], .null), (.putfield 12, [11, 0, 2, 110, 1], .null), (.aload_n 0, [0], .null), (.bipush 20, [], .int 20), (.newarray .int, [20, 20, 0, 58, 1804], .int 20), (.putfield 18, [11, 1, 2, 111, 1], .null), (.aload_n 0, [0], .null), (.iconst 0, [], .int 0), (.putfield 22, [11, 2, 0, 112, 0], .null), (.aload_n 0, [0], .null), (.bipush 40, [], .int 40), (.anewarray 26, [23, 40, 2, 58, 1804], .int 40), (.putfield 28, [11, 3, 2, 113, 1], .null), (.aload_n 0, [0], .null), (.iconst 0, [], .int 0), (.putfield 32, [11, 4, 0, 114, 0], .null), (.aload_n 0, [0], .null), (.iconst 0, [], .int 0), (.putfield 35, [11, 5, 0, 115, 0], .null), (.aload_n 0, [0], .null), (.new 38, [6, 3, 4, 58, 1804], .null), (.dup, [], .null), (.invokespecial 40, [40, 6, 1001, 0, 8, 389, 58, 1804], .null), (.putfield 41, [11, 6, 2, 116, 1], .null), (.aload_n 0, [0], .null), (.new 45, [1, 5, 10, 58, 1804], .null), (.dup, [], .null), (.aload_n 0, [0], .null), (.getfield 12, [11, 0, 2, 110], .null), (.invokespecial 47, [1, 1, 3, 1, 13, 291, 58, 1804], .null), (.putfield 50, [11, 7, 2, 117, 1], .null), (.aload_n 0, [0], .null), (.new 54, [2, 7, 5, 58, 1804], .null), (.dup, [], .null), (.invokespecial 56, [13, 2, 1002, 0, 4, 48, 58, 1804], .null), (.putfield 57, [11, 8, 2, 118, 1], .null), (.aload_n 0, [0], .null), (.new 61, [8, 8, 5, 58, 1804], .null), (.dup, [], .null), (.invokespecial 63, [72, 8, 1003, 0, 4, 160, 58, 1804], .null), (.putfield 64, [11, 9, 2, 119, 1], .null), (.aload_n 0, [0], .null), (.iconst 0, [], .int 0), (.putfield 68, [11, 10, 0, 120, 0], .null), (.aload_n 0, [0], .null), (.new 71, [10, 9, 6, 58, 1804], .null), (.dup, [], .null), (.invokespecial 73, [84, 10, 1004, 0, 5, 277, 58, 1804], .null), (.putfield 74, [11, 11, 2, 121, 1], .null), (.aload_n 0, [0], .null), (.new 78, [4, 10, 2, 58, 1804], .null), (.dup, [], .null), (.invokespecial 80, [26, 4, 1005, 0, 1, 20, 58, 1804], .null), (.putfield 81, [11, 12, 2, 122, 1], .null), (.aload_n 0, [0], .null), (.bipush 6, [], .int 6), (.anewarray 85, [25, 6, 11, 58, 1804], .int 6), (.putfield 87, [11, 13, 2, 123, 1], .null), (.iconst 0, [], .int 0), (.istore_n 1, [1], .null)], 133, 1) ∧
  pm_lk pb_t96 133 = ([(.iload_n 1, [1], .null), (.bipush 6, [], .int 6), (.if_icmp .ge 22, [158, 0], .null), (.aload_n 0, [0], .null), (.getfield 87, [11, 13, 2, 123], .null), (.iload_n 1, [1], .null), (.new 85, [9, 11, 3, 58, 1804], .null), (.dup, [], .null), (.invokespecial 91, [79, 9, 1006, 0, 1, 80, 58, 1804], .null), (.aastore, [25, 9], .null), (.iinc 1 1, [1], .int 1), (.goto (-22), [133, 1], .null)], 158, 1) ∧
  pm_lk pb_t96 158 = ([(.return_, [], .null)], 159, 1) := ⟨rfl, rfl, rfl, rfl⟩
/- WrongsDesk.pass(I)I: loops at [] -/
def pb_t97 : pm_Tb := [(0, [(.iload_n 1, [1], .null), (.iconst 1, [], .int 1), (.if_icmp .lt 25, [27, 0], .null), (.iload_n 1, [1], .null), (.sipush 400, [], .int 400), (.if_icmp .gt 18, [27, 0], .null), (.aload_n 0, [0], .null), (.getfield 12, [11, 0, 2, 110], .null), (.getfield 92, [3, 0, 0, 1], .null), (.iload_n 1, [1], .null), (.iadd, [], .null), (.sipush 9999, [], .int 9999), (.if_icmp .le 6, [30, 0], .null)], 27, 0),
  (27, [(.bipush (-2), [], .int (-2)), (.ireturn, [0], .null)], 30, 1),
  (30, [(.aload_n 0, [0], .null), (.getfield 12, [11, 0, 2, 110], .null), (.dup, [], .null), (.getfield 92, [3, 0, 0, 1], .null), (.iload_n 1, [1], .null), (.iadd, [], .null), (.putfield 92, [3, 0, 0, 1, 0], .null), (.aload_n 0, [0], .null), (.getfield 12, [11, 0, 2, 110], .null), (.getfield 92, [3, 0, 0, 1], .null), (.ireturn, [0], .null)], 51, 1)]
theorem pb_c97 : pm_tok 97 pb_t97 = true := by decide +kernel
theorem pb_B97 : (pm_mL 97 = 2) ∧
  pm_lk pb_t97 0 = ([(.iload_n 1, [1], .null), (.iconst 1, [], .int 1), (.if_icmp .lt 25, [27, 0], .null), (.iload_n 1, [1], .null), (.sipush 400, [], .int 400), (.if_icmp .gt 18, [27, 0], .null), (.aload_n 0, [0], .null), (.getfield 12, [11, 0, 2, 110], .null), (.getfield 92, [3, 0, 0, 1], .null), (.iload_n 1, [1], .null), (.iadd, [], .null), (.sipush 9999, [], .int 9999), (.if_icmp .le 6, [30, 0], .null)], 27, 0) ∧
  pm_lk pb_t97 27 = ([(.bipush (-2), [], .int (-2)), (.ireturn, [0], .null)], 30, 1) ∧
  pm_lk pb_t97 30 = ([(.aload_n 0, [0], .null), (.getfield 12, [11, 0, 2, 110], .null), (.dup, [], .null), (.getfield 92, [3, 0, 0, 1], .null), (.iload_n 1, [1], .null), (.iadd, [], .null), (.putfield 92, [3, 0, 0, 1, 0], .null), (.aload_n 0, [0], .null), (.getfield 12, [11, 0, 2, 110], .null), (.getfield 92, [3, 0, 0, 1], .null), (.ireturn, [0], .null)], 51, 1) := ⟨rfl, rfl, rfl, rfl⟩
/- WrongsDesk.feast(I)I: loops at [] -/
def pb_t98 : pm_Tb := [(0, [(.iload_n 1, [1], .null), (.invokestatic 95, [99, 7, 1, 1], .null), (.ifCond .ne 6, [10, 0], .null), (.bipush (-2), [], .int (-2)), (.ireturn, [0], .null)], 10, 1),
  (10, [(.aload_n 0, [0], .null), (.getfield 12, [11, 0, 2, 110], .null), (.iload_n 1, [1], .null), (.invokevirtual 99, [21, 3, 8, 1, 1], .null), (.ifCond .eq 6, [24, 0], .null), (.bipush (-3), [], .int (-3)), (.ireturn, [0], .null)], 24, 1),
  (24, [(.aload_n 0, [0], .null), (.getfield 12, [11, 0, 2, 110], .null), (.iload_n 1, [1], .null), (.invokevirtual 102, [23, 3, 10, 1, 1], .null), (.ifCond .eq 13, [45, 0], .null), (.aload_n 0, [0], .null), (.getfield 12, [11, 0, 2, 110], .null), (.getfield 105, [3, 2, 0, 5], .null), (.goto 5, [47, 0], .null)], 45, 1),
  (45, [(.bipush (-4), [], .int (-4))], 47, 0),
  (47, [(.ireturn, [0], .null)], 48, 1)]
theorem pb_c98 : pm_tok 98 pb_t98 = true := by decide +kernel
theorem pb_B98 : (pm_mL 98 = 2) ∧
  pm_lk pb_t98 0 = ([(.iload_n 1, [1], .null), (.invokestatic 95, [99, 7, 1, 1], .null), (.ifCond .ne 6, [10, 0], .null), (.bipush (-2), [], .int (-2)), (.ireturn, [0], .null)], 10, 1) ∧
  pm_lk pb_t98 10 = ([(.aload_n 0, [0], .null), (.getfield 12, [11, 0, 2, 110], .null), (.iload_n 1, [1], .null), (.invokevirtual 99, [21, 3, 8, 1, 1], .null), (.ifCond .eq 6, [24, 0], .null), (.bipush (-3), [], .int (-3)), (.ireturn, [0], .null)], 24, 1) ∧
  pm_lk pb_t98 24 = ([(.aload_n 0, [0], .null), (.getfield 12, [11, 0, 2, 110], .null), (.iload_n 1, [1], .null), (.invokevirtual 102, [23, 3, 10, 1, 1], .null), (.ifCond .eq 13, [45, 0], .null), (.aload_n 0, [0], .null), (.getfield 12, [11, 0, 2, 110], .null), (.getfield 105, [3, 2, 0, 5], .null), (.goto 5, [47, 0], .null)], 45, 1) ∧
  pm_lk pb_t98 45 = ([(.bipush (-4), [], .int (-4))], 47, 0) ∧
  pm_lk pb_t98 47 = ([(.ireturn, [0], .null)], 48, 1) := ⟨rfl, rfl, rfl, rfl, rfl, rfl⟩
/- WrongsDesk.isDay(I)Z: loops at [] -/
def pb_t99 : pm_Tb := [(0, [(.iload_n 0, [0], .null), (.ifCond .lt 14, [15, 0], .null), (.iload_n 0, [0], .null), (.sipush 9999, [], .int 9999), (.if_icmp .gt 7, [15, 0], .null), (.iconst 1, [], .int 1), (.goto 4, [16, 0], .null)], 15, 1),
  (15, [(.iconst 0, [], .int 0)], 16, 0),
  (16, [(.ireturn, [1], .null)], 17, 1)]
theorem pb_c99 : pm_tok 99 pb_t99 = true := by decide +kernel
theorem pb_B99 : (pm_mL 99 = 1) ∧
  pm_lk pb_t99 0 = ([(.iload_n 0, [0], .null), (.ifCond .lt 14, [15, 0], .null), (.iload_n 0, [0], .null), (.sipush 9999, [], .int 9999), (.if_icmp .gt 7, [15, 0], .null), (.iconst 1, [], .int 1), (.goto 4, [16, 0], .null)], 15, 1) ∧
  pm_lk pb_t99 15 = ([(.iconst 0, [], .int 0)], 16, 0) ∧
  pm_lk pb_t99 16 = ([(.ireturn, [1], .null)], 17, 1) := ⟨rfl, rfl, rfl, rfl⟩
/- WrongsDesk.working(II)I: loops at [] -/
def pb_t100 : pm_Tb := [(0, [(.iload_n 1, [1], .null), (.invokestatic 95, [99, 7, 1, 1], .null), (.ifCond .eq 14, [18, 0], .null), (.iload_n 2, [2], .null), (.ifCond .lt 10, [18, 0], .null), (.iload_n 2, [2], .null), (.sipush 400, [], .int 400), (.if_icmp .le 6, [21, 0], .null)], 18, 0),
  (18, [(.bipush (-2), [], .int (-2)), (.ireturn, [0], .null)], 21, 1),
  (21, [(.aload_n 0, [0], .null), (.getfield 12, [11, 0, 2, 110], .null), (.iload_n 1, [1], .null), (.iload_n 2, [2], .null), (.invokevirtual 108, [24, 3, 12, 2, 1], .null), (.ireturn, [0], .null)], 31, 1)]
theorem pb_c100 : pm_tok 100 pb_t100 = true := by decide +kernel
theorem pb_B100 : (pm_mL 100 = 3) ∧
  pm_lk pb_t100 0 = ([(.iload_n 1, [1], .null), (.invokestatic 95, [99, 7, 1, 1], .null), (.ifCond .eq 14, [18, 0], .null), (.iload_n 2, [2], .null), (.ifCond .lt 10, [18, 0], .null), (.iload_n 2, [2], .null), (.sipush 400, [], .int 400), (.if_icmp .le 6, [21, 0], .null)], 18, 0) ∧
  pm_lk pb_t100 18 = ([(.bipush (-2), [], .int (-2)), (.ireturn, [0], .null)], 21, 1) ∧
  pm_lk pb_t100 21 = ([(.aload_n 0, [0], .null), (.getfield 12, [11, 0, 2, 110], .null), (.iload_n 1, [1], .null), (.iload_n 2, [2], .null), (.invokevirtual 108, [24, 3, 12, 2, 1], .null), (.ireturn, [0], .null)], 31, 1) := ⟨rfl, rfl, rfl, rfl⟩
/- WrongsDesk.person(I)I: loops at [] -/
def pb_t101 : pm_Tb := [(0, [(.iload_n 1, [1], .null), (.invokestatic 112, [102, 16, 1, 1], .null), (.ifCond .ne 6, [10, 0], .null), (.bipush (-2), [], .int (-2)), (.ireturn, [0], .null)], 10, 1),
  (10, [(.aload_n 0, [0], .null), (.getfield 22, [11, 2, 0, 112], .null), (.bipush 20, [], .int 20), (.if_icmp .lt 6, [22, 0], .null), (.bipush (-4), [], .int (-4)), (.ireturn, [0], .null)], 22, 1),
  (22, [(.aload_n 0, [0], .null), (.getfield 18, [11, 1, 2, 111], .null), (.aload_n 0, [0], .null), (.getfield 22, [11, 2, 0, 112], .null), (.iload_n 1, [1], .null), (.iastore, [], .null), (.aload_n 0, [0], .null), (.dup, [], .null), (.getfield 22, [11, 2, 0, 112], .null), (.iconst 1, [], .int 1), (.iadd, [], .null), (.putfield 22, [11, 2, 0, 112, 0], .null), (.aload_n 0, [0], .null), (.getfield 22, [11, 2, 0, 112], .null), (.iconst 1, [], .int 1), (.isub, [], .null), (.ireturn, [0], .null)], 49, 1)]
theorem pb_c101 : pm_tok 101 pb_t101 = true := by decide +kernel
theorem pb_B101 : (pm_mL 101 = 2) ∧
  pm_lk pb_t101 0 = ([(.iload_n 1, [1], .null), (.invokestatic 112, [102, 16, 1, 1], .null), (.ifCond .ne 6, [10, 0], .null), (.bipush (-2), [], .int (-2)), (.ireturn, [0], .null)], 10, 1) ∧
  pm_lk pb_t101 10 = ([(.aload_n 0, [0], .null), (.getfield 22, [11, 2, 0, 112], .null), (.bipush 20, [], .int 20), (.if_icmp .lt 6, [22, 0], .null), (.bipush (-4), [], .int (-4)), (.ireturn, [0], .null)], 22, 1) ∧
  pm_lk pb_t101 22 = ([(.aload_n 0, [0], .null), (.getfield 18, [11, 1, 2, 111], .null), (.aload_n 0, [0], .null), (.getfield 22, [11, 2, 0, 112], .null), (.iload_n 1, [1], .null), (.iastore, [], .null), (.aload_n 0, [0], .null), (.dup, [], .null), (.getfield 22, [11, 2, 0, 112], .null), (.iconst 1, [], .int 1), (.iadd, [], .null), (.putfield 22, [11, 2, 0, 112, 0], .null), (.aload_n 0, [0], .null), (.getfield 22, [11, 2, 0, 112], .null), (.iconst 1, [], .int 1), (.isub, [], .null), (.ireturn, [0], .null)], 49, 1) := ⟨rfl, rfl, rfl, rfl⟩
/- WrongsDesk.isFlag(I)Z: loops at [] -/
def pb_t102 : pm_Tb := [(0, [(.iload_n 0, [0], .null), (.ifCond .eq 8, [9, 0], .null), (.iload_n 0, [0], .null), (.iconst 1, [], .int 1), (.if_icmp .ne 7, [13, 0], .null)], 9, 0),
  (9, [(.iconst 1, [], .int 1), (.goto 4, [14, 0], .null)], 13, 1),
  (13, [(.iconst 0, [], .int 0)], 14, 0),
  (14, [(.ireturn, [1], .null)], 15, 1)]
theorem pb_c102 : pm_tok 102 pb_t102 = true := by decide +kernel
theorem pb_B102 : (pm_mL 102 = 1) ∧
  pm_lk pb_t102 0 = ([(.iload_n 0, [0], .null), (.ifCond .eq 8, [9, 0], .null), (.iload_n 0, [0], .null), (.iconst 1, [], .int 1), (.if_icmp .ne 7, [13, 0], .null)], 9, 0) ∧
  pm_lk pb_t102 9 = ([(.iconst 1, [], .int 1), (.goto 4, [14, 0], .null)], 13, 1) ∧
  pm_lk pb_t102 13 = ([(.iconst 0, [], .int 0)], 14, 0) ∧
  pm_lk pb_t102 14 = ([(.ireturn, [1], .null)], 15, 1) := ⟨rfl, rfl, rfl, rfl, rfl⟩
/- WrongsDesk.let(II)I: loops at [] -/
def pb_t103 : pm_Tb := [(0, [(.aload_n 0, [0], .null), (.iload_n 1, [1], .null), (.invokevirtual 115, [104, 11, 18, 1, 1], .null), (.ifCond .ne 5, [10, 0], .null), (.iconst (-1), [], .int (-1)), (.ireturn, [0], .null)], 10, 1),
  (10, [(.iload_n 2, [2], .null), (.invokestatic 112, [102, 16, 1, 1], .null), (.ifCond .ne 6, [20, 0], .null), (.bipush (-2), [], .int (-2)), (.ireturn, [0], .null)], 20, 1),
  (20, [(.aload_n 0, [0], .null), (.getfield 18, [11, 1, 2, 111], .null), (.iload_n 1, [1], .null), (.iaload, [], .null), (.istore_n 3, [3], .null), (.aload_n 0, [0], .null), (.getfield 18, [11, 1, 2, 111], .null), (.iload_n 1, [1], .null), (.iload_n 2, [2], .null), (.iastore, [], .null), (.iload_n 3, [3], .null), (.ireturn, [0], .null)], 36, 1)]
theorem pb_c103 : pm_tok 103 pb_t103 = true := by decide +kernel
theorem pb_B103 : (pm_mL 103 = 4) ∧
  pm_lk pb_t103 0 = ([(.aload_n 0, [0], .null), (.iload_n 1, [1], .null), (.invokevirtual 115, [104, 11, 18, 1, 1], .null), (.ifCond .ne 5, [10, 0], .null), (.iconst (-1), [], .int (-1)), (.ireturn, [0], .null)], 10, 1) ∧
  pm_lk pb_t103 10 = ([(.iload_n 2, [2], .null), (.invokestatic 112, [102, 16, 1, 1], .null), (.ifCond .ne 6, [20, 0], .null), (.bipush (-2), [], .int (-2)), (.ireturn, [0], .null)], 20, 1) ∧
  pm_lk pb_t103 20 = ([(.aload_n 0, [0], .null), (.getfield 18, [11, 1, 2, 111], .null), (.iload_n 1, [1], .null), (.iaload, [], .null), (.istore_n 3, [3], .null), (.aload_n 0, [0], .null), (.getfield 18, [11, 1, 2, 111], .null), (.iload_n 1, [1], .null), (.iload_n 2, [2], .null), (.iastore, [], .null), (.iload_n 3, [3], .null), (.ireturn, [0], .null)], 36, 1) := ⟨rfl, rfl, rfl, rfl⟩
/- WrongsDesk.isPerson(I)Z: loops at [] -/
def pb_t104 : pm_Tb := [(0, [(.iload_n 1, [1], .null), (.ifCond .lt 15, [16, 0], .null), (.iload_n 1, [1], .null), (.aload_n 0, [0], .null), (.getfield 22, [11, 2, 0, 112], .null), (.if_icmp .ge 7, [16, 0], .null), (.iconst 1, [], .int 1), (.goto 4, [17, 0], .null)], 16, 1),
  (16, [(.iconst 0, [], .int 0)], 17, 0),
  (17, [(.ireturn, [1], .null)], 18, 1)]
theorem pb_c104 : pm_tok 104 pb_t104 = true := by decide +kernel
theorem pb_B104 : (pm_mL 104 = 2) ∧
  pm_lk pb_t104 0 = ([(.iload_n 1, [1], .null), (.ifCond .lt 15, [16, 0], .null), (.iload_n 1, [1], .null), (.aload_n 0, [0], .null), (.getfield 22, [11, 2, 0, 112], .null), (.if_icmp .ge 7, [16, 0], .null), (.iconst 1, [], .int 1), (.goto 4, [17, 0], .null)], 16, 1) ∧
  pm_lk pb_t104 16 = ([(.iconst 0, [], .int 0)], 17, 0) ∧
  pm_lk pb_t104 17 = ([(.ireturn, [1], .null)], 18, 1) := ⟨rfl, rfl, rfl, rfl⟩
/- WrongsDesk.matter(IIIII)I: loops at [] -/
def pb_t105 : pm_Tb := [(0, [(.aload_n 0, [0], .null), (.iload_n 1, [1], .null), (.invokevirtual 115, [104, 11, 18, 1, 1], .null), (.ifCond .eq 10, [15, 0], .null), (.iload_n 2, [2], .null), (.invokestatic 118, [106, 20, 1, 1], .null), (.ifCond .ne 5, [17, 0], .null)], 15, 0),
  (15, [(.iconst (-1), [], .int (-1)), (.ireturn, [0], .null)], 17, 1),
  (17, [(.iload_n 3, [3], .null), (.ifCond .lt 39, [57, 0], .null), (.iload_n 3, [3], .null), (.bipush 9, [], .int 9), (.if_icmp .gt 33, [57, 0], .null), (.iload 4, [4], .null), (.ifCond .lt 28, [57, 0], .null), (.iload 4, [4], .null), (.aload_n 0, [0], .null), (.getfield 12, [11, 0, 2, 110], .null), (.getfield 92, [3, 0, 0, 1], .null), (.if_icmp .gt 16, [57, 0], .null), (.iload 5, [5], .null), (.ifCond .lt 11, [57, 0], .null), (.iload 5, [5], .null), (.sipush 9999, [], .int 9999), (.if_icmp .le 6, [60, 0], .null)], 57, 0),
  (57, [(.bipush (-2), [], .int (-2)), (.ireturn, [0], .null)], 60, 1),
  (60, [(.aload_n 0, [0], .null), (.getfield 32, [11, 4, 0, 114], .null), (.bipush 40, [], .int 40), (.if_icmp .lt 6, [72, 0], .null), (.bipush (-4), [], .int (-4)), (.ireturn, [0], .null)], 72, 1),
  (72, [(.new 26, [7, 2, 18, 2, 24], .null), (.dup, [], .null), (.aload_n 0, [0], .null), (.getfield 32, [11, 4, 0, 114], .null), (.iload_n 1, [1], .null), (.iload_n 2, [2], .null), (.iload_n 3, [3], .null), (.iload 4, [4], .null), (.iload 5, [5], .null), (.invokespecial 121, [58, 7, 21, 6, 1, 6, 2, 24], .null), (.astore 6, [6], .null), (.aload_n 0, [0], .null), (.getfield 28, [11, 3, 2, 113], .null), (.aload_n 0, [0], .null), (.getfield 32, [11, 4, 0, 114], .null), (.aload 6, [6], .null), (.aastore, [23, 7], .null), (.aload_n 0, [0], .null), (.dup, [], .null), (.getfield 32, [11, 4, 0, 114], .null), (.iconst 1, [], .int 1), (.iadd, [], .null), (.putfield 32, [11, 4, 0, 114, 0], .null), (.aload 6, [6], .null), (.getfield 124, [7, 0, 0, 127], .null), (.ireturn, [0], .null)], 119, 1)]
theorem pb_c105 : pm_tok 105 pb_t105 = true := by decide +kernel
theorem pb_B105 : (pm_mL 105 = 7) ∧
  pm_lk pb_t105 0 = ([(.aload_n 0, [0], .null), (.iload_n 1, [1], .null), (.invokevirtual 115, [104, 11, 18, 1, 1], .null), (.ifCond .eq 10, [15, 0], .null), (.iload_n 2, [2], .null), (.invokestatic 118, [106, 20, 1, 1], .null), (.ifCond .ne 5, [17, 0], .null)], 15, 0) ∧
  pm_lk pb_t105 15 = ([(.iconst (-1), [], .int (-1)), (.ireturn, [0], .null)], 17, 1) ∧
  pm_lk pb_t105 17 = ([(.iload_n 3, [3], .null), (.ifCond .lt 39, [57, 0], .null), (.iload_n 3, [3], .null), (.bipush 9, [], .int 9), (.if_icmp .gt 33, [57, 0], .null), (.iload 4, [4], .null), (.ifCond .lt 28, [57, 0], .null), (.iload 4, [4], .null), (.aload_n 0, [0], .null), (.getfield 12, [11, 0, 2, 110], .null), (.getfield 92, [3, 0, 0, 1], .null), (.if_icmp .gt 16, [57, 0], .null), (.iload 5, [5], .null), (.ifCond .lt 11, [57, 0], .null), (.iload 5, [5], .null), (.sipush 9999, [], .int 9999), (.if_icmp .le 6, [60, 0], .null)], 57, 0) ∧
  pm_lk pb_t105 57 = ([(.bipush (-2), [], .int (-2)), (.ireturn, [0], .null)], 60, 1) ∧
  pm_lk pb_t105 60 = ([(.aload_n 0, [0], .null), (.getfield 32, [11, 4, 0, 114], .null), (.bipush 40, [], .int 40), (.if_icmp .lt 6, [72, 0], .null), (.bipush (-4), [], .int (-4)), (.ireturn, [0], .null)], 72, 1) ∧
  pm_lk pb_t105 72 = ([(.new 26, [7, 2, 18, 2, 24], .null), (.dup, [], .null), (.aload_n 0, [0], .null), (.getfield 32, [11, 4, 0, 114], .null), (.iload_n 1, [1], .null), (.iload_n 2, [2], .null), (.iload_n 3, [3], .null), (.iload 4, [4], .null), (.iload 5, [5], .null), (.invokespecial 121, [58, 7, 21, 6, 1, 6, 2, 24], .null), (.astore 6, [6], .null), (.aload_n 0, [0], .null), (.getfield 28, [11, 3, 2, 113], .null), (.aload_n 0, [0], .null), (.getfield 32, [11, 4, 0, 114], .null), (.aload 6, [6], .null), (.aastore, [23, 7], .null), (.aload_n 0, [0], .null), (.dup, [], .null), (.getfield 32, [11, 4, 0, 114], .null), (.iconst 1, [], .int 1), (.iadd, [], .null), (.putfield 32, [11, 4, 0, 114, 0], .null), (.aload 6, [6], .null), (.getfield 124, [7, 0, 0, 127], .null), (.ireturn, [0], .null)], 119, 1) := ⟨rfl, rfl, rfl, rfl, rfl, rfl, rfl⟩
/- WrongsDesk.isBody(I)Z: loops at [] -/
def pb_t106 : pm_Tb := [(0, [(.iload_n 0, [0], .null), (.ifCond .lt 13, [14, 0], .null), (.iload_n 0, [0], .null), (.bipush 6, [], .int 6), (.if_icmp .ge 7, [14, 0], .null), (.iconst 1, [], .int 1), (.goto 4, [15, 0], .null)], 14, 1),
  (14, [(.iconst 0, [], .int 0)], 15, 0),
  (15, [(.ireturn, [1], .null)], 16, 1)]
theorem pb_c106 : pm_tok 106 pb_t106 = true := by decide +kernel
theorem pb_B106 : (pm_mL 106 = 1) ∧
  pm_lk pb_t106 0 = ([(.iload_n 0, [0], .null), (.ifCond .lt 13, [14, 0], .null), (.iload_n 0, [0], .null), (.bipush 6, [], .int 6), (.if_icmp .ge 7, [14, 0], .null), (.iconst 1, [], .int 1), (.goto 4, [15, 0], .null)], 14, 1) ∧
  pm_lk pb_t106 14 = ([(.iconst 0, [], .int 0)], 15, 0) ∧
  pm_lk pb_t106 15 = ([(.ireturn, [1], .null)], 16, 1) := ⟨rfl, rfl, rfl, rfl⟩
/- WrongsDesk.of(II)I: loops at [] -/
def pb_t107 : pm_Tb := [(0, [(.aload_n 0, [0], .null), (.iload_n 1, [1], .null), (.invokevirtual 127, [108, 11, 23, 1, 3], .null), (.astore_n 3, [3], .null), (.aload_n 3, [3], .null), (.ifnonnull 6, [13, 0], .null), (.bipush (-5), [], .int (-5)), (.ireturn, [0], .null)], 13, 1),
  (13, [(.iload_n 2, [2], .null), (.tableswitch 104 0 9 #[54, 59, 64, 69, 74, 79, 84, 89, 94, 99], [0, 68, 0, 1, 73, 0, 2, 78, 0, 3, 83, 0, 4, 88, 0, 5, 93, 0, 6, 98, 0, 7, 103, 0, 8, 108, 0, 9, 113, 0, 118, 0], .null)], 68, 1),
  (68, [(.aload_n 3, [3], .null), (.getfield 131, [7, 6, 0, 153], .null), (.ireturn, [0], .null)], 73, 1),
  (73, [(.aload_n 3, [3], .null), (.getfield 134, [7, 1, 0, 130], .null), (.ireturn, [0], .null)], 78, 1),
  (78, [(.aload_n 3, [3], .null), (.getfield 137, [7, 2, 0, 136], .null), (.ireturn, [0], .null)], 83, 1),
  (83, [(.aload_n 3, [3], .null), (.getfield 140, [7, 3, 0, 141], .null), (.ireturn, [0], .null)], 88, 1),
  (88, [(.aload_n 3, [3], .null), (.getfield 143, [7, 4, 0, 144], .null), (.ireturn, [0], .null)], 93, 1),
  (93, [(.aload_n 3, [3], .null), (.getfield 146, [7, 5, 0, 147], .null), (.ireturn, [0], .null)], 98, 1),
  (98, [(.aload_n 3, [3], .null), (.getfield 149, [7, 7, 0, 156], .null), (.ireturn, [0], .null)], 103, 1),
  (103, [(.aload_n 3, [3], .null), (.getfield 152, [7, 8, 0, 158], .null), (.ireturn, [0], .null)], 108, 1),
  (108, [(.aload_n 3, [3], .null), (.getfield 155, [7, 9, 0, 160], .null), (.ireturn, [0], .null)], 113, 1),
  (113, [(.aload_n 3, [3], .null), (.getfield 158, [7, 10, 0, 162], .null), (.ireturn, [0], .null)], 118, 1),
  (118, [(.bipush (-5), [], .int (-5)), (.ireturn, [0], .null)], 121, 1)]
theorem pb_c107 : pm_tok 107 pb_t107 = true := by decide +kernel
theorem pb_B107 : (pm_mL 107 = 4) ∧
  pm_lk pb_t107 0 = ([(.aload_n 0, [0], .null), (.iload_n 1, [1], .null), (.invokevirtual 127, [108, 11, 23, 1, 3], .null), (.astore_n 3, [3], .null), (.aload_n 3, [3], .null), (.ifnonnull 6, [13, 0], .null), (.bipush (-5), [], .int (-5)), (.ireturn, [0], .null)], 13, 1) ∧
  pm_lk pb_t107 13 = ([(.iload_n 2, [2], .null), (.tableswitch 104 0 9 #[54, 59, 64, 69, 74, 79, 84, 89, 94, 99], [0, 68, 0, 1, 73, 0, 2, 78, 0, 3, 83, 0, 4, 88, 0, 5, 93, 0, 6, 98, 0, 7, 103, 0, 8, 108, 0, 9, 113, 0, 118, 0], .null)], 68, 1) ∧
  pm_lk pb_t107 68 = ([(.aload_n 3, [3], .null), (.getfield 131, [7, 6, 0, 153], .null), (.ireturn, [0], .null)], 73, 1) ∧
  pm_lk pb_t107 73 = ([(.aload_n 3, [3], .null), (.getfield 134, [7, 1, 0, 130], .null), (.ireturn, [0], .null)], 78, 1) ∧
  pm_lk pb_t107 78 = ([(.aload_n 3, [3], .null), (.getfield 137, [7, 2, 0, 136], .null), (.ireturn, [0], .null)], 83, 1) ∧
  pm_lk pb_t107 83 = ([(.aload_n 3, [3], .null), (.getfield 140, [7, 3, 0, 141], .null), (.ireturn, [0], .null)], 88, 1) ∧
  pm_lk pb_t107 88 = ([(.aload_n 3, [3], .null), (.getfield 143, [7, 4, 0, 144], .null), (.ireturn, [0], .null)], 93, 1) ∧
  pm_lk pb_t107 93 = ([(.aload_n 3, [3], .null), (.getfield 146, [7, 5, 0, 147], .null), (.ireturn, [0], .null)], 98, 1) ∧
  pm_lk pb_t107 98 = ([(.aload_n 3, [3], .null), (.getfield 149, [7, 7, 0, 156], .null), (.ireturn, [0], .null)], 103, 1) ∧
  pm_lk pb_t107 103 = ([(.aload_n 3, [3], .null), (.getfield 152, [7, 8, 0, 158], .null), (.ireturn, [0], .null)], 108, 1) ∧
  pm_lk pb_t107 108 = ([(.aload_n 3, [3], .null), (.getfield 155, [7, 9, 0, 160], .null), (.ireturn, [0], .null)], 113, 1) ∧
  pm_lk pb_t107 113 = ([(.aload_n 3, [3], .null), (.getfield 158, [7, 10, 0, 162], .null), (.ireturn, [0], .null)], 118, 1) ∧
  pm_lk pb_t107 118 = ([(.bipush (-5), [], .int (-5)), (.ireturn, [0], .null)], 121, 1) := ⟨rfl, rfl, rfl, rfl, rfl, rfl, rfl, rfl, rfl, rfl, rfl, rfl, rfl, rfl⟩
/- WrongsDesk.matterAt(I)LWrongsDesk$Matter;: loops at [] -/
def pb_t108 : pm_Tb := [(0, [(.iload_n 1, [1], .null), (.ifCond .lt 20, [21, 0], .null), (.iload_n 1, [1], .null), (.aload_n 0, [0], .null), (.getfield 32, [11, 4, 0, 114], .null), (.if_icmp .ge 12, [21, 0], .null), (.aload_n 0, [0], .null), (.getfield 28, [11, 3, 2, 113], .null), (.iload_n 1, [1], .null), (.aaload, [23], .null), (.goto 4, [22, 0], .null)], 21, 1),
  (21, [(.aconst_null, [], .null)], 22, 0),
  (22, [(.areturn, [], .null)], 23, 1)]
theorem pb_c108 : pm_tok 108 pb_t108 = true := by decide +kernel
theorem pb_B108 : (pm_mL 108 = 2) ∧
  pm_lk pb_t108 0 = ([(.iload_n 1, [1], .null), (.ifCond .lt 20, [21, 0], .null), (.iload_n 1, [1], .null), (.aload_n 0, [0], .null), (.getfield 32, [11, 4, 0, 114], .null), (.if_icmp .ge 12, [21, 0], .null), (.aload_n 0, [0], .null), (.getfield 28, [11, 3, 2, 113], .null), (.iload_n 1, [1], .null), (.aaload, [23], .null), (.goto 4, [22, 0], .null)], 21, 1) ∧
  pm_lk pb_t108 21 = ([(.aconst_null, [], .null)], 22, 0) ∧
  pm_lk pb_t108 22 = ([(.areturn, [], .null)], 23, 1) := ⟨rfl, rfl, rfl, rfl⟩
/- WrongsDesk.out(I)I: loops at [] -/
def pb_t109 : pm_Tb := [(0, [(.aload_n 0, [0], .null), (.iload_n 1, [1], .null), (.invokevirtual 127, [108, 11, 23, 1, 3], .null), (.astore_n 2, [2], .null), (.aload_n 2, [2], .null), (.ifnonnull 5, [12, 0], .null), (.iconst (-1), [], .int (-1)), (.ireturn, [0], .null)], 12, 1),
  (12, [(.aload_n 2, [2], .null), (.getfield 131, [7, 6, 0, 153], .null), (.ifCond .ne 21, [37, 0], .null), (.aload_n 0, [0], .null), (.getfield 50, [11, 7, 2, 117], .null), (.aload_n 2, [2], .null), (.aload_n 0, [0], .null), (.getfield 12, [11, 0, 2, 110], .null), (.getfield 92, [3, 0, 0, 1], .null), (.invokevirtual 161, [2, 1, 25, 2, 1], .null), (.ifCond .eq 6, [40, 0], .null)], 37, 0),
  (37, [(.bipush (-3), [], .int (-3)), (.ireturn, [0], .null)], 40, 1),
  (40, [(.aload_n 2, [2], .null), (.iconst 1, [], .int 1), (.putfield 131, [7, 6, 0, 153, 0], .null), (.iconst 1, [], .int 1), (.ireturn, [0], .null)], 47, 1)]
theorem pb_c109 : pm_tok 109 pb_t109 = true := by decide +kernel
theorem pb_B109 : (pm_mL 109 = 3) ∧
  pm_lk pb_t109 0 = ([(.aload_n 0, [0], .null), (.iload_n 1, [1], .null), (.invokevirtual 127, [108, 11, 23, 1, 3], .null), (.astore_n 2, [2], .null), (.aload_n 2, [2], .null), (.ifnonnull 5, [12, 0], .null), (.iconst (-1), [], .int (-1)), (.ireturn, [0], .null)], 12, 1) ∧
  pm_lk pb_t109 12 = ([(.aload_n 2, [2], .null), (.getfield 131, [7, 6, 0, 153], .null), (.ifCond .ne 21, [37, 0], .null), (.aload_n 0, [0], .null), (.getfield 50, [11, 7, 2, 117], .null), (.aload_n 2, [2], .null), (.aload_n 0, [0], .null), (.getfield 12, [11, 0, 2, 110], .null), (.getfield 92, [3, 0, 0, 1], .null), (.invokevirtual 161, [2, 1, 25, 2, 1], .null), (.ifCond .eq 6, [40, 0], .null)], 37, 0) ∧
  pm_lk pb_t109 37 = ([(.bipush (-3), [], .int (-3)), (.ireturn, [0], .null)], 40, 1) ∧
  pm_lk pb_t109 40 = ([(.aload_n 2, [2], .null), (.iconst 1, [], .int 1), (.putfield 131, [7, 6, 0, 153, 0], .null), (.iconst 1, [], .int 1), (.ireturn, [0], .null)], 47, 1) := ⟨rfl, rfl, rfl, rfl, rfl⟩
/- WrongsDesk.ask(I)I: loops at [] -/
def pb_t110 : pm_Tb := [(0, [(.aload_n 0, [0], .null), (.iload_n 1, [1], .null), (.invokevirtual 127, [108, 11, 23, 1, 3], .null), (.astore_n 2, [2], .null), (.aload_n 2, [2], .null), (.ifnonnull 5, [12, 0], .null), (.iconst (-1), [], .int (-1)), (.ireturn, [0], .null)], 12, 1),
  (12, [(.aload_n 2, [2], .null), (.getfield 131, [7, 6, 0, 153], .null), (.ifCond .ne 21, [37, 0], .null), (.aload_n 0, [0], .null), (.getfield 50, [11, 7, 2, 117], .null), (.aload_n 2, [2], .null), (.aload_n 0, [0], .null), (.getfield 12, [11, 0, 2, 110], .null), (.getfield 92, [3, 0, 0, 1], .null), (.invokevirtual 161, [2, 1, 25, 2, 1], .null), (.ifCond .ne 6, [40, 0], .null)], 37, 0),
  (37, [(.bipush (-3), [], .int (-3)), (.ireturn, [0], .null)], 40, 1),
  (40, [(.aload_n 2, [2], .null), (.iconst 2, [], .int 2), (.putfield 131, [7, 6, 0, 153, 0], .null), (.aload_n 2, [2], .null), (.aload_n 0, [0], .null), (.getfield 12, [11, 0, 2, 110], .null), (.getfield 92, [3, 0, 0, 1], .null), (.putfield 149, [7, 7, 0, 156, 0], .null), (.aload_n 0, [0], .null), (.getfield 50, [11, 7, 2, 117], .null), (.aload_n 2, [2], .null), (.invokevirtual 165, [5, 1, 34, 1, 1], .null), (.ireturn, [0], .null)], 65, 1)]
theorem pb_c110 : pm_tok 110 pb_t110 = true := by decide +kernel
theorem pb_B110 : (pm_mL 110 = 3) ∧
  pm_lk pb_t110 0 = ([(.aload_n 0, [0], .null), (.iload_n 1, [1], .null), (.invokevirtual 127, [108, 11, 23, 1, 3], .null), (.astore_n 2, [2], .null), (.aload_n 2, [2], .null), (.ifnonnull 5, [12, 0], .null), (.iconst (-1), [], .int (-1)), (.ireturn, [0], .null)], 12, 1) ∧
  pm_lk pb_t110 12 = ([(.aload_n 2, [2], .null), (.getfield 131, [7, 6, 0, 153], .null), (.ifCond .ne 21, [37, 0], .null), (.aload_n 0, [0], .null), (.getfield 50, [11, 7, 2, 117], .null), (.aload_n 2, [2], .null), (.aload_n 0, [0], .null), (.getfield 12, [11, 0, 2, 110], .null), (.getfield 92, [3, 0, 0, 1], .null), (.invokevirtual 161, [2, 1, 25, 2, 1], .null), (.ifCond .ne 6, [40, 0], .null)], 37, 0) ∧
  pm_lk pb_t110 37 = ([(.bipush (-3), [], .int (-3)), (.ireturn, [0], .null)], 40, 1) ∧
  pm_lk pb_t110 40 = ([(.aload_n 2, [2], .null), (.iconst 2, [], .int 2), (.putfield 131, [7, 6, 0, 153, 0], .null), (.aload_n 2, [2], .null), (.aload_n 0, [0], .null), (.getfield 12, [11, 0, 2, 110], .null), (.getfield 92, [3, 0, 0, 1], .null), (.putfield 149, [7, 7, 0, 156, 0], .null), (.aload_n 0, [0], .null), (.getfield 50, [11, 7, 2, 117], .null), (.aload_n 2, [2], .null), (.invokevirtual 165, [5, 1, 34, 1, 1], .null), (.ireturn, [0], .null)], 65, 1) := ⟨rfl, rfl, rfl, rfl, rfl⟩
/- WrongsDesk.find(II)I: loops at [] -/
def pb_t111 : pm_Tb := [(0, [(.aload_n 0, [0], .null), (.iload_n 1, [1], .null), (.invokevirtual 127, [108, 11, 23, 1, 3], .null), (.astore_n 3, [3], .null), (.aload_n 3, [3], .null), (.ifnonnull 5, [12, 0], .null), (.iconst (-1), [], .int (-1)), (.ireturn, [0], .null)], 12, 1),
  (12, [(.iload_n 2, [2], .null), (.ifCond .lt 9, [22, 0], .null), (.iload_n 2, [2], .null), (.ldc 169, [0], .int 99999), (.if_icmp .le 6, [25, 0], .null)], 22, 0),
  (22, [(.bipush (-2), [], .int (-2)), (.ireturn, [0], .null)], 25, 1),
  (25, [(.aload_n 3, [3], .null), (.getfield 131, [7, 6, 0, 153], .null), (.iconst 2, [], .int 2), (.if_icmp .eq 6, [36, 0], .null), (.bipush (-3), [], .int (-3)), (.ireturn, [0], .null)], 36, 1),
  (36, [(.aload_n 0, [0], .null), (.getfield 50, [11, 7, 2, 117], .null), (.aload_n 3, [3], .null), (.aload_n 0, [0], .null), (.getfield 12, [11, 0, 2, 110], .null), (.getfield 92, [3, 0, 0, 1], .null), (.invokevirtual 170, [6, 1, 37, 2, 1], .null), (.istore 4, [4], .null), (.iload 4, [4], .null), (.ifCond .ne 6, [61, 0], .null), (.bipush (-3), [], .int (-3)), (.ireturn, [0], .null)], 61, 1),
  (61, [(.aload_n 3, [3], .null), (.iconst 3, [], .int 3), (.putfield 131, [7, 6, 0, 153, 0], .null), (.aload_n 3, [3], .null), (.iload_n 2, [2], .null), (.putfield 152, [7, 8, 0, 158, 0], .null), (.iload 4, [4], .null), (.ireturn, [0], .null)], 74, 1)]
theorem pb_c111 : pm_tok 111 pb_t111 = true := by decide +kernel
theorem pb_B111 : (pm_mL 111 = 5) ∧
  pm_lk pb_t111 0 = ([(.aload_n 0, [0], .null), (.iload_n 1, [1], .null), (.invokevirtual 127, [108, 11, 23, 1, 3], .null), (.astore_n 3, [3], .null), (.aload_n 3, [3], .null), (.ifnonnull 5, [12, 0], .null), (.iconst (-1), [], .int (-1)), (.ireturn, [0], .null)], 12, 1) ∧
  pm_lk pb_t111 12 = ([(.iload_n 2, [2], .null), (.ifCond .lt 9, [22, 0], .null), (.iload_n 2, [2], .null), (.ldc 169, [0], .int 99999), (.if_icmp .le 6, [25, 0], .null)], 22, 0) ∧
  pm_lk pb_t111 22 = ([(.bipush (-2), [], .int (-2)), (.ireturn, [0], .null)], 25, 1) ∧
  pm_lk pb_t111 25 = ([(.aload_n 3, [3], .null), (.getfield 131, [7, 6, 0, 153], .null), (.iconst 2, [], .int 2), (.if_icmp .eq 6, [36, 0], .null), (.bipush (-3), [], .int (-3)), (.ireturn, [0], .null)], 36, 1) ∧
  pm_lk pb_t111 36 = ([(.aload_n 0, [0], .null), (.getfield 50, [11, 7, 2, 117], .null), (.aload_n 3, [3], .null), (.aload_n 0, [0], .null), (.getfield 12, [11, 0, 2, 110], .null), (.getfield 92, [3, 0, 0, 1], .null), (.invokevirtual 170, [6, 1, 37, 2, 1], .null), (.istore 4, [4], .null), (.iload 4, [4], .null), (.ifCond .ne 6, [61, 0], .null), (.bipush (-3), [], .int (-3)), (.ireturn, [0], .null)], 61, 1) ∧
  pm_lk pb_t111 61 = ([(.aload_n 3, [3], .null), (.iconst 3, [], .int 3), (.putfield 131, [7, 6, 0, 153, 0], .null), (.aload_n 3, [3], .null), (.iload_n 2, [2], .null), (.putfield 152, [7, 8, 0, 158, 0], .null), (.iload 4, [4], .null), (.ireturn, [0], .null)], 74, 1) := ⟨rfl, rfl, rfl, rfl, rfl, rfl, rfl⟩
/- WrongsDesk.settle(I)I: loops at [] -/
def pb_t112 : pm_Tb := [(0, [(.aload_n 0, [0], .null), (.iload_n 1, [1], .null), (.invokevirtual 127, [108, 11, 23, 1, 3], .null), (.astore_n 2, [2], .null), (.aload_n 2, [2], .null), (.ifnonnull 5, [12, 0], .null), (.iconst (-1), [], .int (-1)), (.ireturn, [0], .null)], 12, 1),
  (12, [(.aload_n 2, [2], .null), (.getfield 131, [7, 6, 0, 153], .null), (.iconst 2, [], .int 2), (.if_icmp .eq 6, [23, 0], .null), (.bipush (-3), [], .int (-3)), (.ireturn, [0], .null)], 23, 1),
  (23, [(.aload_n 2, [2], .null), (.iconst 4, [], .int 4), (.putfield 131, [7, 6, 0, 153, 0], .null), (.iconst 1, [], .int 1), (.ireturn, [0], .null)], 30, 1)]
theorem pb_c112 : pm_tok 112 pb_t112 = true := by decide +kernel
theorem pb_B112 : (pm_mL 112 = 3) ∧
  pm_lk pb_t112 0 = ([(.aload_n 0, [0], .null), (.iload_n 1, [1], .null), (.invokevirtual 127, [108, 11, 23, 1, 3], .null), (.astore_n 2, [2], .null), (.aload_n 2, [2], .null), (.ifnonnull 5, [12, 0], .null), (.iconst (-1), [], .int (-1)), (.ireturn, [0], .null)], 12, 1) ∧
  pm_lk pb_t112 12 = ([(.aload_n 2, [2], .null), (.getfield 131, [7, 6, 0, 153], .null), (.iconst 2, [], .int 2), (.if_icmp .eq 6, [23, 0], .null), (.bipush (-3), [], .int (-3)), (.ireturn, [0], .null)], 23, 1) ∧
  pm_lk pb_t112 23 = ([(.aload_n 2, [2], .null), (.iconst 4, [], .int 4), (.putfield 131, [7, 6, 0, 153, 0], .null), (.iconst 1, [], .int 1), (.ireturn, [0], .null)], 30, 1) := ⟨rfl, rfl, rfl, rfl⟩
/- WrongsDesk.join(II)I: loops at [] -/
def pb_t113 : pm_Tb := [(0, [(.aload_n 0, [0], .null), (.iload_n 1, [1], .null), (.invokevirtual 127, [108, 11, 23, 1, 3], .null), (.astore_n 3, [3], .null), (.aload_n 0, [0], .null), (.iload_n 2, [2], .null), (.invokevirtual 127, [108, 11, 23, 1, 3], .null), (.astore 4, [4], .null), (.aload_n 3, [3], .null), (.ifnull 8, [22, 0], .null), (.aload 4, [4], .null), (.ifnonnull 5, [24, 0], .null)], 22, 0),
  (22, [(.iconst (-1), [], .int (-1)), (.ireturn, [0], .null)], 24, 1),
  (24, [(.iload_n 1, [1], .null), (.iload_n 2, [2], .null), (.if_icmp .ne 6, [32, 0], .null), (.bipush (-2), [], .int (-2)), (.ireturn, [0], .null)], 32, 1),
  (32, [(.aload_n 3, [3], .null), (.getfield 131, [7, 6, 0, 153], .null), (.ifCond .ne 21, [57, 0], .null), (.aload 4, [4], .null), (.getfield 131, [7, 6, 0, 153], .null), (.iconst 1, [], .int 1), (.if_icmp .eq 12, [57, 0], .null), (.aload 4, [4], .null), (.getfield 131, [7, 6, 0, 153], .null), (.iconst 5, [], .int 5), (.if_icmp .ne 6, [60, 0], .null)], 57, 0),
  (57, [(.bipush (-3), [], .int (-3)), (.ireturn, [0], .null)], 60, 1),
  (60, [(.aload_n 3, [3], .null), (.iconst 5, [], .int 5), (.putfield 131, [7, 6, 0, 153, 0], .null), (.aload_n 3, [3], .null), (.iload_n 2, [2], .null), (.putfield 155, [7, 9, 0, 160, 0], .null), (.iconst 1, [], .int 1), (.ireturn, [0], .null)], 72, 1)]
theorem pb_c113 : pm_tok 113 pb_t113 = true := by decide +kernel
theorem pb_B113 : (pm_mL 113 = 5) ∧
  pm_lk pb_t113 0 = ([(.aload_n 0, [0], .null), (.iload_n 1, [1], .null), (.invokevirtual 127, [108, 11, 23, 1, 3], .null), (.astore_n 3, [3], .null), (.aload_n 0, [0], .null), (.iload_n 2, [2], .null), (.invokevirtual 127, [108, 11, 23, 1, 3], .null), (.astore 4, [4], .null), (.aload_n 3, [3], .null), (.ifnull 8, [22, 0], .null), (.aload 4, [4], .null), (.ifnonnull 5, [24, 0], .null)], 22, 0) ∧
  pm_lk pb_t113 22 = ([(.iconst (-1), [], .int (-1)), (.ireturn, [0], .null)], 24, 1) ∧
  pm_lk pb_t113 24 = ([(.iload_n 1, [1], .null), (.iload_n 2, [2], .null), (.if_icmp .ne 6, [32, 0], .null), (.bipush (-2), [], .int (-2)), (.ireturn, [0], .null)], 32, 1) ∧
  pm_lk pb_t113 32 = ([(.aload_n 3, [3], .null), (.getfield 131, [7, 6, 0, 153], .null), (.ifCond .ne 21, [57, 0], .null), (.aload 4, [4], .null), (.getfield 131, [7, 6, 0, 153], .null), (.iconst 1, [], .int 1), (.if_icmp .eq 12, [57, 0], .null), (.aload 4, [4], .null), (.getfield 131, [7, 6, 0, 153], .null), (.iconst 5, [], .int 5), (.if_icmp .ne 6, [60, 0], .null)], 57, 0) ∧
  pm_lk pb_t113 57 = ([(.bipush (-3), [], .int (-3)), (.ireturn, [0], .null)], 60, 1) ∧
  pm_lk pb_t113 60 = ([(.aload_n 3, [3], .null), (.iconst 5, [], .int 5), (.putfield 131, [7, 6, 0, 153, 0], .null), (.aload_n 3, [3], .null), (.iload_n 2, [2], .null), (.putfield 155, [7, 9, 0, 160, 0], .null), (.iconst 1, [], .int 1), (.ireturn, [0], .null)], 72, 1) := ⟨rfl, rfl, rfl, rfl, rfl, rfl, rfl⟩
/- WrongsDesk.watch(III)I: loops at [] -/
def pb_t114 : pm_Tb := [(0, [(.aload_n 0, [0], .null), (.iload_n 1, [1], .null), (.invokevirtual 127, [108, 11, 23, 1, 3], .null), (.astore 4, [4], .null), (.aload 4, [4], .null), (.ifnonnull 5, [14, 0], .null), (.iconst (-1), [], .int (-1)), (.ireturn, [0], .null)], 14, 1),
  (14, [(.iload_n 2, [2], .null), (.invokestatic 174, [115, 47, 1, 1], .null), (.ifCond .eq 10, [28, 0], .null), (.iload_n 3, [3], .null), (.invokestatic 95, [99, 7, 1, 1], .null), (.ifCond .ne 6, [31, 0], .null)], 28, 0),
  (28, [(.bipush (-2), [], .int (-2)), (.ireturn, [0], .null)], 31, 1),
  (31, [(.aload 4, [4], .null), (.getfield 131, [7, 6, 0, 153], .null), (.iconst 3, [], .int 3), (.if_icmp .eq 6, [43, 0], .null), (.bipush (-3), [], .int (-3)), (.ireturn, [0], .null)], 43, 1),
  (43, [(.aload 4, [4], .null), (.bipush 6, [], .int 6), (.putfield 131, [7, 6, 0, 153, 0], .null), (.aload 4, [4], .null), (.iload_n 2, [2], .null), (.iload_n 3, [3], .null), (.aload_n 0, [0], .null), (.getfield 35, [11, 5, 0, 115], .null), (.invokevirtual 177, [62, 7, 48, 3, 0], .null), (.iconst 1, [], .int 1), (.ireturn, [0], .null)], 63, 1)]
theorem pb_c114 : pm_tok 114 pb_t114 = true := by decide +kernel
theorem pb_B114 : (pm_mL 114 = 5) ∧
  pm_lk pb_t114 0 = ([(.aload_n 0, [0], .null), (.iload_n 1, [1], .null), (.invokevirtual 127, [108, 11, 23, 1, 3], .null), (.astore 4, [4], .null), (.aload 4, [4], .null), (.ifnonnull 5, [14, 0], .null), (.iconst (-1), [], .int (-1)), (.ireturn, [0], .null)], 14, 1) ∧
  pm_lk pb_t114 14 = ([(.iload_n 2, [2], .null), (.invokestatic 174, [115, 47, 1, 1], .null), (.ifCond .eq 10, [28, 0], .null), (.iload_n 3, [3], .null), (.invokestatic 95, [99, 7, 1, 1], .null), (.ifCond .ne 6, [31, 0], .null)], 28, 0) ∧
  pm_lk pb_t114 28 = ([(.bipush (-2), [], .int (-2)), (.ireturn, [0], .null)], 31, 1) ∧
  pm_lk pb_t114 31 = ([(.aload 4, [4], .null), (.getfield 131, [7, 6, 0, 153], .null), (.iconst 3, [], .int 3), (.if_icmp .eq 6, [43, 0], .null), (.bipush (-3), [], .int (-3)), (.ireturn, [0], .null)], 43, 1) ∧
  pm_lk pb_t114 43 = ([(.aload 4, [4], .null), (.bipush 6, [], .int 6), (.putfield 131, [7, 6, 0, 153, 0], .null), (.aload 4, [4], .null), (.iload_n 2, [2], .null), (.iload_n 3, [3], .null), (.aload_n 0, [0], .null), (.getfield 35, [11, 5, 0, 115], .null), (.invokevirtual 177, [62, 7, 48, 3, 0], .null), (.iconst 1, [], .int 1), (.ireturn, [0], .null)], 63, 1) := ⟨rfl, rfl, rfl, rfl, rfl, rfl⟩
/- WrongsDesk.isSort(I)Z: loops at [] -/
def pb_t115 : pm_Tb := [(0, [(.iload_n 0, [0], .null), (.iconst 1, [], .int 1), (.if_icmp .lt 13, [15, 0], .null), (.iload_n 0, [0], .null), (.bipush 9, [], .int 9), (.if_icmp .gt 7, [15, 0], .null), (.iconst 1, [], .int 1), (.goto 4, [16, 0], .null)], 15, 1),
  (15, [(.iconst 0, [], .int 0)], 16, 0),
  (16, [(.ireturn, [1], .null)], 17, 1)]
theorem pb_c115 : pm_tok 115 pb_t115 = true := by decide +kernel
theorem pb_B115 : (pm_mL 115 = 1) ∧
  pm_lk pb_t115 0 = ([(.iload_n 0, [0], .null), (.iconst 1, [], .int 1), (.if_icmp .lt 13, [15, 0], .null), (.iload_n 0, [0], .null), (.bipush 9, [], .int 9), (.if_icmp .gt 7, [15, 0], .null), (.iconst 1, [], .int 1), (.goto 4, [16, 0], .null)], 15, 1) ∧
  pm_lk pb_t115 15 = ([(.iconst 0, [], .int 0)], 16, 0) ∧
  pm_lk pb_t115 16 = ([(.ireturn, [1], .null)], 17, 1) := ⟨rfl, rfl, rfl, rfl⟩
/- WrongsDesk.reach(II)I: loops at [] -/
def pb_t116 : pm_Tb := [(0, [(.aload_n 0, [0], .null), (.iload_n 1, [1], .null), (.invokevirtual 127, [108, 11, 23, 1, 3], .null), (.astore_n 3, [3], .null), (.aload_n 3, [3], .null), (.ifnonnull 5, [12, 0], .null), (.iconst (-1), [], .int (-1)), (.ireturn, [0], .null)], 12, 1),
  (12, [(.aload_n 3, [3], .null), (.iload_n 2, [2], .null), (.invokevirtual 181, [63, 7, 50, 1, 1], .null), (.ifCond .ne 6, [23, 0], .null), (.bipush (-2), [], .int (-2)), (.ireturn, [0], .null)], 23, 1),
  (23, [(.aload_n 0, [0], .null), (.getfield 50, [11, 7, 2, 117], .null), (.aload_n 3, [3], .null), (.iload_n 2, [2], .null), (.invokevirtual 161, [2, 1, 25, 2, 1], .null), (.ifCond .eq 7, [39, 0], .null), (.iconst 1, [], .int 1), (.goto 4, [40, 0], .null)], 39, 1),
  (39, [(.iconst 0, [], .int 0)], 40, 0),
  (40, [(.ireturn, [0], .null)], 41, 1)]
theorem pb_c116 : pm_tok 116 pb_t116 = true := by decide +kernel
theorem pb_B116 : (pm_mL 116 = 4) ∧
  pm_lk pb_t116 0 = ([(.aload_n 0, [0], .null), (.iload_n 1, [1], .null), (.invokevirtual 127, [108, 11, 23, 1, 3], .null), (.astore_n 3, [3], .null), (.aload_n 3, [3], .null), (.ifnonnull 5, [12, 0], .null), (.iconst (-1), [], .int (-1)), (.ireturn, [0], .null)], 12, 1) ∧
  pm_lk pb_t116 12 = ([(.aload_n 3, [3], .null), (.iload_n 2, [2], .null), (.invokevirtual 181, [63, 7, 50, 1, 1], .null), (.ifCond .ne 6, [23, 0], .null), (.bipush (-2), [], .int (-2)), (.ireturn, [0], .null)], 23, 1) ∧
  pm_lk pb_t116 23 = ([(.aload_n 0, [0], .null), (.getfield 50, [11, 7, 2, 117], .null), (.aload_n 3, [3], .null), (.iload_n 2, [2], .null), (.invokevirtual 161, [2, 1, 25, 2, 1], .null), (.ifCond .eq 7, [39, 0], .null), (.iconst 1, [], .int 1), (.goto 4, [40, 0], .null)], 39, 1) ∧
  pm_lk pb_t116 39 = ([(.iconst 0, [], .int 0)], 40, 0) ∧
  pm_lk pb_t116 40 = ([(.ireturn, [0], .null)], 41, 1) := ⟨rfl, rfl, rfl, rfl, rfl, rfl⟩
/- WrongsDesk.end(II)I: loops at [] -/
def pb_t117 : pm_Tb := [(0, [(.aload_n 0, [0], .null), (.iload_n 1, [1], .null), (.invokevirtual 127, [108, 11, 23, 1, 3], .null), (.astore_n 3, [3], .null), (.aload_n 3, [3], .null), (.ifnull 10, [17, 0], .null), (.iload_n 2, [2], .null), (.invokestatic 112, [102, 16, 1, 1], .null), (.ifCond .ne 5, [19, 0], .null)], 17, 0),
  (17, [(.iconst (-1), [], .int (-1)), (.ireturn, [0], .null)], 19, 1),
  (19, [(.aload_n 3, [3], .null), (.getfield 131, [7, 6, 0, 153], .null), (.iconst 2, [], .int 2), (.if_icmp .eq 6, [30, 0], .null), (.bipush (-3), [], .int (-3)), (.ireturn, [0], .null)], 30, 1),
  (30, [(.aload_n 0, [0], .null), (.getfield 50, [11, 7, 2, 117], .null), (.aload_n 3, [3], .null), (.invokevirtual 165, [5, 1, 34, 1, 1], .null), (.istore 4, [4], .null), (.iload_n 2, [2], .null), (.ifCond .ne 6, [47, 0], .null), (.iload 4, [4], .null), (.ireturn, [0], .null)], 47, 1),
  (47, [(.aload_n 0, [0], .null), (.getfield 12, [11, 0, 2, 110], .null), (.getfield 92, [3, 0, 0, 1], .null), (.iload 4, [4], .null), (.if_icmp .le 7, [63, 0], .null), (.iconst 1, [], .int 1), (.goto 4, [64, 0], .null)], 63, 1),
  (63, [(.iconst 0, [], .int 0)], 64, 0),
  (64, [(.ireturn, [0], .null)], 65, 1)]
theorem pb_c117 : pm_tok 117 pb_t117 = true := by decide +kernel
theorem pb_B117 : (pm_mL 117 = 5) ∧
  pm_lk pb_t117 0 = ([(.aload_n 0, [0], .null), (.iload_n 1, [1], .null), (.invokevirtual 127, [108, 11, 23, 1, 3], .null), (.astore_n 3, [3], .null), (.aload_n 3, [3], .null), (.ifnull 10, [17, 0], .null), (.iload_n 2, [2], .null), (.invokestatic 112, [102, 16, 1, 1], .null), (.ifCond .ne 5, [19, 0], .null)], 17, 0) ∧
  pm_lk pb_t117 17 = ([(.iconst (-1), [], .int (-1)), (.ireturn, [0], .null)], 19, 1) ∧
  pm_lk pb_t117 19 = ([(.aload_n 3, [3], .null), (.getfield 131, [7, 6, 0, 153], .null), (.iconst 2, [], .int 2), (.if_icmp .eq 6, [30, 0], .null), (.bipush (-3), [], .int (-3)), (.ireturn, [0], .null)], 30, 1) ∧
  pm_lk pb_t117 30 = ([(.aload_n 0, [0], .null), (.getfield 50, [11, 7, 2, 117], .null), (.aload_n 3, [3], .null), (.invokevirtual 165, [5, 1, 34, 1, 1], .null), (.istore 4, [4], .null), (.iload_n 2, [2], .null), (.ifCond .ne 6, [47, 0], .null), (.iload 4, [4], .null), (.ireturn, [0], .null)], 47, 1) ∧
  pm_lk pb_t117 47 = ([(.aload_n 0, [0], .null), (.getfield 12, [11, 0, 2, 110], .null), (.getfield 92, [3, 0, 0, 1], .null), (.iload 4, [4], .null), (.if_icmp .le 7, [63, 0], .null), (.iconst 1, [], .int 1), (.goto 4, [64, 0], .null)], 63, 1) ∧
  pm_lk pb_t117 63 = ([(.iconst 0, [], .int 0)], 64, 0) ∧
  pm_lk pb_t117 64 = ([(.ireturn, [0], .null)], 65, 1) := ⟨rfl, rfl, rfl, rfl, rfl, rfl, rfl, rfl⟩
/- WrongsDesk.kept(I)I: loops at [] -/
def pb_t118 : pm_Tb := [(0, [(.aload_n 0, [0], .null), (.iload_n 1, [1], .null), (.invokevirtual 127, [108, 11, 23, 1, 3], .null), (.astore_n 2, [2], .null), (.aload_n 2, [2], .null), (.ifnonnull 5, [12, 0], .null), (.iconst (-1), [], .int (-1)), (.ireturn, [0], .null)], 12, 1),
  (12, [(.aload_n 2, [2], .null), (.getfield 131, [7, 6, 0, 153], .null), (.bipush 6, [], .int 6), (.if_icmp .ne 17, [35, 0], .null), (.aload_n 2, [2], .null), (.aload_n 0, [0], .null), (.getfield 12, [11, 0, 2, 110], .null), (.getfield 92, [3, 0, 0, 1], .null), (.invokevirtual 184, [64, 7, 53, 1, 1], .null), (.goto 5, [37, 0], .null)], 35, 1),
  (35, [(.bipush (-3), [], .int (-3))], 37, 0),
  (37, [(.ireturn, [0], .null)], 38, 1)]
theorem pb_c118 : pm_tok 118 pb_t118 = true := by decide +kernel
theorem pb_B118 : (pm_mL 118 = 3) ∧
  pm_lk pb_t118 0 = ([(.aload_n 0, [0], .null), (.iload_n 1, [1], .null), (.invokevirtual 127, [108, 11, 23, 1, 3], .null), (.astore_n 2, [2], .null), (.aload_n 2, [2], .null), (.ifnonnull 5, [12, 0], .null), (.iconst (-1), [], .int (-1)), (.ireturn, [0], .null)], 12, 1) ∧
  pm_lk pb_t118 12 = ([(.aload_n 2, [2], .null), (.getfield 131, [7, 6, 0, 153], .null), (.bipush 6, [], .int 6), (.if_icmp .ne 17, [35, 0], .null), (.aload_n 2, [2], .null), (.aload_n 0, [0], .null), (.getfield 12, [11, 0, 2, 110], .null), (.getfield 92, [3, 0, 0, 1], .null), (.invokevirtual 184, [64, 7, 53, 1, 1], .null), (.goto 5, [37, 0], .null)], 35, 1) ∧
  pm_lk pb_t118 35 = ([(.bipush (-3), [], .int (-3))], 37, 0) ∧
  pm_lk pb_t118 37 = ([(.ireturn, [0], .null)], 38, 1) := ⟨rfl, rfl, rfl, rfl, rfl⟩
/- WrongsDesk.file(IIII)I: loops at [] -/
def pb_t119 : pm_Tb := [(0, [(.aload_n 0, [0], .null), (.iload_n 1, [1], .null), (.invokevirtual 127, [108, 11, 23, 1, 3], .null), (.astore 5, [5], .null), (.aload 5, [5], .null), (.ifnonnull 7, [16, 0], .null), (.iconst (-1), [], .int (-1)), (.goto 13, [26, 0], .null)], 16, 1),
  (16, [(.aload_n 0, [0], .null), (.aload 5, [5], .null), (.iload_n 2, [2], .null), (.iload_n 3, [3], .null), (.iload 4, [4], .null), (.invokevirtual 188, [120, 11, 55, 4, 1, 1, 6, 1, 6], .null)], 26, 0),
  (26, [(.ireturn, [0], .null)], 27, 1)]
theorem pb_c119 : pm_tok 119 pb_t119 = true := by decide +kernel
theorem pb_B119 : (pm_mL 119 = 6) ∧
  pm_lk pb_t119 0 = ([(.aload_n 0, [0], .null), (.iload_n 1, [1], .null), (.invokevirtual 127, [108, 11, 23, 1, 3], .null), (.astore 5, [5], .null), (.aload 5, [5], .null), (.ifnonnull 7, [16, 0], .null), (.iconst (-1), [], .int (-1)), (.goto 13, [26, 0], .null)], 16, 1) ∧
  pm_lk pb_t119 16 = ([(.aload_n 0, [0], .null), (.aload 5, [5], .null), (.iload_n 2, [2], .null), (.iload_n 3, [3], .null), (.iload 4, [4], .null), (.invokevirtual 188, [120, 11, 55, 4, 1, 1, 6, 1, 6], .null)], 26, 0) ∧
  pm_lk pb_t119 26 = ([(.ireturn, [0], .null)], 27, 1) := ⟨rfl, rfl, rfl, rfl⟩
/- WrongsDesk.enter(LWrongsDesk$Matter;III)I: loops at [] -/
def pb_t120 : pm_Tb := [(0, [(.iload_n 2, [2], .null), (.invokestatic 174, [115, 47, 1, 1], .null), (.ifCond .eq 32, [36, 0], .null), (.iload_n 3, [3], .null), (.ifCond .lt 28, [36, 0], .null), (.iload_n 3, [3], .null), (.aload_n 0, [0], .null), (.getfield 12, [11, 0, 2, 110], .null), (.getfield 92, [3, 0, 0, 1], .null), (.if_icmp .gt 17, [36, 0], .null), (.iload 4, [4], .null), (.bipush (-99), [], .int (-99)), (.if_icmp .lt 10, [36, 0], .null), (.iload 4, [4], .null), (.bipush 99, [], .int 99), (.if_icmp .le 6, [39, 0], .null)], 36, 0),
  (36, [(.bipush (-2), [], .int (-2)), (.ireturn, [0], .null)], 39, 1),
  (39, [(.aload_n 0, [0], .null), (.getfield 35, [11, 5, 0, 115], .null), (.sipush 150, [], .int 150), (.if_icmp .lt 6, [52, 0], .null), (.bipush (-4), [], .int (-4)), (.ireturn, [0], .null)], 52, 1),
  (52, [(.aload_n 1, [1], .null), (.new 224, [0, 12, 6, 1, 6], .null), (.dup, [], .null), (.iload_n 2, [2], .null), (.iload_n 3, [3], .null), (.iload 4, [4], .null), (.aload_n 0, [0], .null), (.getfield 12, [11, 0, 2, 110], .null), (.getfield 92, [3, 0, 0, 1], .null), (.aload_n 0, [0], .null), (.getfield 35, [11, 5, 0, 115], .null), (.invokespecial 445, [0, 0, 56, 5, 0, 0, 1, 6], .null), (.invokevirtual 448, [65, 7, 57, 1, 0], .null), (.aload_n 0, [0], .null), (.dup, [], .null), (.getfield 35, [11, 5, 0, 115], .null), (.iconst 1, [], .int 1), (.iadd, [], .null), (.putfield 35, [11, 5, 0, 115, 0], .null), (.aload_n 0, [0], .null), (.getfield 35, [11, 5, 0, 115], .null), (.ireturn, [0], .null)], 93, 1)]
theorem pb_c120 : pm_tok 120 pb_t120 = true := by decide +kernel
theorem pb_B120 : (pm_mL 120 = 5) ∧
  pm_lk pb_t120 0 = ([(.iload_n 2, [2], .null), (.invokestatic 174, [115, 47, 1, 1], .null), (.ifCond .eq 32, [36, 0], .null), (.iload_n 3, [3], .null), (.ifCond .lt 28, [36, 0], .null), (.iload_n 3, [3], .null), (.aload_n 0, [0], .null), (.getfield 12, [11, 0, 2, 110], .null), (.getfield 92, [3, 0, 0, 1], .null), (.if_icmp .gt 17, [36, 0], .null), (.iload 4, [4], .null), (.bipush (-99), [], .int (-99)), (.if_icmp .lt 10, [36, 0], .null), (.iload 4, [4], .null), (.bipush 99, [], .int 99), (.if_icmp .le 6, [39, 0], .null)], 36, 0) ∧
  pm_lk pb_t120 36 = ([(.bipush (-2), [], .int (-2)), (.ireturn, [0], .null)], 39, 1) ∧
  pm_lk pb_t120 39 = ([(.aload_n 0, [0], .null), (.getfield 35, [11, 5, 0, 115], .null), (.sipush 150, [], .int 150), (.if_icmp .lt 6, [52, 0], .null), (.bipush (-4), [], .int (-4)), (.ireturn, [0], .null)], 52, 1) ∧
  pm_lk pb_t120 52 = ([(.aload_n 1, [1], .null), (.new 224, [0, 12, 6, 1, 6], .null), (.dup, [], .null), (.iload_n 2, [2], .null), (.iload_n 3, [3], .null), (.iload 4, [4], .null), (.aload_n 0, [0], .null), (.getfield 12, [11, 0, 2, 110], .null), (.getfield 92, [3, 0, 0, 1], .null), (.aload_n 0, [0], .null), (.getfield 35, [11, 5, 0, 115], .null), (.invokespecial 445, [0, 0, 56, 5, 0, 0, 1, 6], .null), (.invokevirtual 448, [65, 7, 57, 1, 0], .null), (.aload_n 0, [0], .null), (.dup, [], .null), (.getfield 35, [11, 5, 0, 115], .null), (.iconst 1, [], .int 1), (.iadd, [], .null), (.putfield 35, [11, 5, 0, 115, 0], .null), (.aload_n 0, [0], .null), (.getfield 35, [11, 5, 0, 115], .null), (.ireturn, [0], .null)], 93, 1) := ⟨rfl, rfl, rfl, rfl, rfl⟩
/- WrongsDesk.papers(IIII)I: loops at [66] -/
def pb_t121 : pm_Tb := [(0, [(.aload_n 0, [0], .null), (.iload_n 1, [1], .null), (.invokevirtual 127, [108, 11, 23, 1, 3], .null), (.astore 5, [5], .null), (.aload_n 0, [0], .null), (.iload_n 2, [2], .null), (.invokevirtual 192, [122, 11, 59, 1, 3], .null), (.astore 6, [6], .null), (.aload 5, [5], .null), (.ifnull 8, [24, 0], .null), (.aload 6, [6], .null), (.ifnonnull 5, [26, 0], .null)], 24, 0),
  (24, [(.iconst (-1), [], .int (-1)), (.ireturn, [0], .null)], 26, 1),
  (26, [(.iload 4, [4], .null), (.iconst 1, [], .int 1), (.if_icmp .lt 10, [39, 0], .null), (.iload 4, [4], .null), (.bipush 20, [], .int 20), (.if_icmp .le 6, [42, 0], .null)], 39, 0),
  (39, [(.bipush (-2), [], .int (-2)), (.ireturn, [0], .null)], 42, 1),
  (42, [(.aload 6, [6], .null), (.getfield 196, [9, 0, 0, 105], .null), (.iconst (-1), [], .int (-1)), (.if_icmp .eq 15, [63, 0], .null), (.aload 6, [6], .null), (.getfield 196, [9, 0, 0, 105], .null), (.iconst 2, [], .int 2), (.if_icmp .eq 6, [63, 0], .null), (.bipush (-12), [], .int (-12)), (.ireturn, [0], .null)], 63, 1),
  (63, [(.iconst 0, [], .int 0), (.istore 7, [7], .null)], 66, 1),
  (66, [(.iload 7, [7], .null), (.iload 4, [4], .null), (.if_icmp .ge 104, [174, 0], .null), (.iload_n 3, [3], .null), (.i2l, [], .null), (.ldc2_w 199, [0], .long 3), (.iload 7, [7], .null), (.i2l, [], .null), (.lmul, [], .null), (.ladd, [], .null), (.lstore 8, [8], .null), (.aload 6, [6], .null), (.lload 8, [8], .null), (.iconst 3, [], .int 3), (.invokevirtual 201, [80, 9, 60, 2, 1], .null), (.ifCond .ne 18, [111, 0], .null), (.aload 5, [5], .null), (.aload_n 0, [0], .null), (.getfield 12, [11, 0, 2, 110], .null), (.getfield 92, [3, 0, 0, 1], .null), (.invokevirtual 205, [66, 7, 61, 1, 0], .null), (.iload 7, [7], .null), (.ireturn, [0], .null)], 111, 1),
  (111, [(.lload 8, [8], .null), (.l2i, [], .null), (.istore 10, [10], .null), (.aload 6, [6], .null), (.iload 10, [10], .null), (.invokevirtual 209, [81, 9, 62, 1, 2], .null), (.l2i, [], .null), (.istore 11, [11], .null), (.aload 6, [6], .null), (.iload 10, [10], .null), (.iconst 1, [], .int 1), (.iadd, [], .null), (.invokevirtual 209, [81, 9, 62, 1, 2], .null), (.l2i, [], .null), (.istore 12, [12], .null), (.aload 6, [6], .null), (.iload 10, [10], .null), (.iconst 2, [], .int 2), (.iadd, [], .null), (.invokevirtual 209, [81, 9, 62, 1, 2], .null), (.l2i, [], .null), (.istore 13, [13], .null), (.aload_n 0, [0], .null), (.aload 5, [5], .null), (.iload 11, [11], .null), (.iload 12, [12], .null), (.iload 13, [13], .null), (.invokevirtual 188, [120, 11, 55, 4, 1, 1, 6, 20, 120], .null), (.ifCond .ge 6, [168, 0], .null), (.iload 7, [7], .null), (.ireturn, [0], .null)], 168, 1),
  (168, [(.iinc 7 1, [7], .int 1), (.goto (-105), [66, 1], .null)], 174, 1),
  (174, [(.iload 4, [4], .null), (.ireturn, [0], .null)], 177, 1)]
theorem pb_c121 : pm_tok 121 pb_t121 = true := by decide +kernel
theorem pb_B121 : (pm_mL 121 = 14) ∧
  pm_lk pb_t121 0 = ([(.aload_n 0, [0], .null), (.iload_n 1, [1], .null), (.invokevirtual 127, [108, 11, 23, 1, 3], .null), (.astore 5, [5], .null), (.aload_n 0, [0], .null), (.iload_n 2, [2], .null), (.invokevirtual 192, [122, 11, 59, 1, 3], .null), (.astore 6, [6], .null), (.aload 5, [5], .null), (.ifnull 8, [24, 0], .null), (.aload 6, [6], .null), (.ifnonnull 5, [26, 0], .null)], 24, 0) ∧
  pm_lk pb_t121 24 = ([(.iconst (-1), [], .int (-1)), (.ireturn, [0], .null)], 26, 1) ∧
  pm_lk pb_t121 26 = ([(.iload 4, [4], .null), (.iconst 1, [], .int 1), (.if_icmp .lt 10, [39, 0], .null), (.iload 4, [4], .null), (.bipush 20, [], .int 20), (.if_icmp .le 6, [42, 0], .null)], 39, 0) ∧
  pm_lk pb_t121 39 = ([(.bipush (-2), [], .int (-2)), (.ireturn, [0], .null)], 42, 1) ∧
  pm_lk pb_t121 42 = ([(.aload 6, [6], .null), (.getfield 196, [9, 0, 0, 105], .null), (.iconst (-1), [], .int (-1)), (.if_icmp .eq 15, [63, 0], .null), (.aload 6, [6], .null), (.getfield 196, [9, 0, 0, 105], .null), (.iconst 2, [], .int 2), (.if_icmp .eq 6, [63, 0], .null), (.bipush (-12), [], .int (-12)), (.ireturn, [0], .null)], 63, 1) ∧
  pm_lk pb_t121 63 = ([(.iconst 0, [], .int 0), (.istore 7, [7], .null)], 66, 1) ∧
  pm_lk pb_t121 66 = ([(.iload 7, [7], .null), (.iload 4, [4], .null), (.if_icmp .ge 104, [174, 0], .null), (.iload_n 3, [3], .null), (.i2l, [], .null), (.ldc2_w 199, [0], .long 3), (.iload 7, [7], .null), (.i2l, [], .null), (.lmul, [], .null), (.ladd, [], .null), (.lstore 8, [8], .null), (.aload 6, [6], .null), (.lload 8, [8], .null), (.iconst 3, [], .int 3), (.invokevirtual 201, [80, 9, 60, 2, 1], .null), (.ifCond .ne 18, [111, 0], .null), (.aload 5, [5], .null), (.aload_n 0, [0], .null), (.getfield 12, [11, 0, 2, 110], .null), (.getfield 92, [3, 0, 0, 1], .null), (.invokevirtual 205, [66, 7, 61, 1, 0], .null), (.iload 7, [7], .null), (.ireturn, [0], .null)], 111, 1) ∧
  pm_lk pb_t121 111 = ([(.lload 8, [8], .null), (.l2i, [], .null), (.istore 10, [10], .null), (.aload 6, [6], .null), (.iload 10, [10], .null), (.invokevirtual 209, [81, 9, 62, 1, 2], .null), (.l2i, [], .null), (.istore 11, [11], .null), (.aload 6, [6], .null), (.iload 10, [10], .null), (.iconst 1, [], .int 1), (.iadd, [], .null), (.invokevirtual 209, [81, 9, 62, 1, 2], .null), (.l2i, [], .null), (.istore 12, [12], .null), (.aload 6, [6], .null), (.iload 10, [10], .null), (.iconst 2, [], .int 2), (.iadd, [], .null), (.invokevirtual 209, [81, 9, 62, 1, 2], .null), (.l2i, [], .null), (.istore 13, [13], .null), (.aload_n 0, [0], .null), (.aload 5, [5], .null), (.iload 11, [11], .null), (.iload 12, [12], .null), (.iload 13, [13], .null), (.invokevirtual 188, [120, 11, 55, 4, 1, 1, 6, 20, 120], .null), (.ifCond .ge 6, [168, 0], .null), (.iload 7, [7], .null), (.ireturn, [0], .null)], 168, 1) ∧
  pm_lk pb_t121 168 = ([(.iinc 7 1, [7], .int 1), (.goto (-105), [66, 1], .null)], 174, 1) ∧
  pm_lk pb_t121 174 = ([(.iload 4, [4], .null), (.ireturn, [0], .null)], 177, 1) := ⟨rfl, rfl, rfl, rfl, rfl, rfl, rfl, rfl, rfl, rfl, rfl⟩
/- WrongsDesk.tapeAt(I)LWrongsDesk$Tape;: loops at [] -/
def pb_t122 : pm_Tb := [(0, [(.iload_n 1, [1], .null), (.ifCond .lt 18, [19, 0], .null), (.iload_n 1, [1], .null), (.bipush 6, [], .int 6), (.if_icmp .ge 12, [19, 0], .null), (.aload_n 0, [0], .null), (.getfield 87, [11, 13, 2, 123], .null), (.iload_n 1, [1], .null), (.aaload, [25], .null), (.goto 4, [20, 0], .null)], 19, 1),
  (19, [(.aconst_null, [], .null)], 20, 0),
  (20, [(.areturn, [], .null)], 21, 1)]
theorem pb_c122 : pm_tok 122 pb_t122 = true := by decide +kernel
theorem pb_B122 : (pm_mL 122 = 2) ∧
  pm_lk pb_t122 0 = ([(.iload_n 1, [1], .null), (.ifCond .lt 18, [19, 0], .null), (.iload_n 1, [1], .null), (.bipush 6, [], .int 6), (.if_icmp .ge 12, [19, 0], .null), (.aload_n 0, [0], .null), (.getfield 87, [11, 13, 2, 123], .null), (.iload_n 1, [1], .null), (.aaload, [25], .null), (.goto 4, [20, 0], .null)], 19, 1) ∧
  pm_lk pb_t122 19 = ([(.aconst_null, [], .null)], 20, 0) ∧
  pm_lk pb_t122 20 = ([(.areturn, [], .null)], 21, 1) := ⟨rfl, rfl, rfl, rfl⟩
/- WrongsDesk.patch(I)I: loops at [] -/
def pb_t123 : pm_Tb := [(0, [(.aload_n 0, [0], .null), (.iload_n 1, [1], .null), (.invokevirtual 127, [108, 11, 23, 1, 3], .null), (.astore_n 2, [2], .null), (.aload_n 2, [2], .null), (.ifnonnull 5, [12, 0], .null), (.iconst (-1), [], .int (-1)), (.ireturn, [0], .null)], 12, 1),
  (12, [(.aload_n 2, [2], .null), (.getfield 158, [7, 10, 0, 162], .null), (.ifCond .ge 6, [22, 0], .null), (.bipush (-3), [], .int (-3)), (.ireturn, [0], .null)], 22, 1),
  (22, [(.aload_n 2, [2], .null), (.iconst (-1), [], .int (-1)), (.putfield 158, [7, 10, 0, 162, 0], .null), (.iconst 1, [], .int 1), (.ireturn, [0], .null)], 29, 1)]
theorem pb_c123 : pm_tok 123 pb_t123 = true := by decide +kernel
theorem pb_B123 : (pm_mL 123 = 3) ∧
  pm_lk pb_t123 0 = ([(.aload_n 0, [0], .null), (.iload_n 1, [1], .null), (.invokevirtual 127, [108, 11, 23, 1, 3], .null), (.astore_n 2, [2], .null), (.aload_n 2, [2], .null), (.ifnonnull 5, [12, 0], .null), (.iconst (-1), [], .int (-1)), (.ireturn, [0], .null)], 12, 1) ∧
  pm_lk pb_t123 12 = ([(.aload_n 2, [2], .null), (.getfield 158, [7, 10, 0, 162], .null), (.ifCond .ge 6, [22, 0], .null), (.bipush (-3), [], .int (-3)), (.ireturn, [0], .null)], 22, 1) ∧
  pm_lk pb_t123 22 = ([(.aload_n 2, [2], .null), (.iconst (-1), [], .int (-1)), (.putfield 158, [7, 10, 0, 162, 0], .null), (.iconst 1, [], .int 1), (.ireturn, [0], .null)], 29, 1) := ⟨rfl, rfl, rfl, rfl⟩
/- WrongsDesk.filed(IIII)I: loops at [] -/
def pb_t124 : pm_Tb := [(0, [(.aload_n 0, [0], .null), (.iload_n 1, [1], .null), (.invokevirtual 127, [108, 11, 23, 1, 3], .null), (.astore 5, [5], .null), (.aload 5, [5], .null), (.ifnull 28, [37, 0], .null), (.iload_n 2, [2], .null), (.invokestatic 174, [115, 47, 1, 1], .null), (.ifCond .eq 21, [37, 0], .null), (.iload_n 3, [3], .null), (.invokestatic 95, [99, 7, 1, 1], .null), (.ifCond .eq 14, [37, 0], .null), (.iload 4, [4], .null), (.ifCond .lt 9, [37, 0], .null), (.iload 4, [4], .null), (.iconst 3, [], .int 3), (.if_icmp .le 6, [40, 0], .null)], 37, 0),
  (37, [(.bipush (-100), [], .int (-100)), (.ireturn, [0], .null)], 40, 1),
  (40, [(.iload 4, [4], .null), (.iconst 3, [], .int 3), (.if_icmp .ne 11, [54, 0], .null), (.aload 5, [5], .null), (.iload_n 2, [2], .null), (.iload_n 3, [3], .null), (.invokevirtual 213, [67, 7, 66, 2, 1], .null), (.ireturn, [0], .null)], 54, 1),
  (54, [(.iload 4, [4], .null), (.iconst 2, [], .int 2), (.if_icmp .ne 13, [70, 0], .null), (.aload 5, [5], .null), (.iload_n 2, [2], .null), (.iload_n 3, [3], .null), (.invokevirtual 216, [59, 7, 67, 2, 3], .null), (.goto 10, [77, 0], .null)], 70, 1),
  (70, [(.aload 5, [5], .null), (.iload_n 2, [2], .null), (.iload_n 3, [3], .null), (.invokevirtual 220, [60, 7, 68, 2, 3], .null)], 77, 0),
  (77, [(.astore 6, [6], .null), (.aload 6, [6], .null), (.ifnonnull 6, [87, 0], .null), (.bipush (-100), [], .int (-100)), (.ireturn, [0], .null)], 87, 1),
  (87, [(.iload 4, [4], .null), (.iconst 1, [], .int 1), (.if_icmp .ne 11, [101, 0], .null), (.aload 6, [6], .null), (.getfield 223, [0, 2, 0, 180], .null), (.goto 8, [106, 0], .null)], 101, 1),
  (101, [(.aload 6, [6], .null), (.getfield 228, [0, 1, 0, 177], .null)], 106, 0),
  (106, [(.ireturn, [0], .null)], 107, 1)]
theorem pb_c124 : pm_tok 124 pb_t124 = true := by decide +kernel
theorem pb_B124 : (pm_mL 124 = 7) ∧
  pm_lk pb_t124 0 = ([(.aload_n 0, [0], .null), (.iload_n 1, [1], .null), (.invokevirtual 127, [108, 11, 23, 1, 3], .null), (.astore 5, [5], .null), (.aload 5, [5], .null), (.ifnull 28, [37, 0], .null), (.iload_n 2, [2], .null), (.invokestatic 174, [115, 47, 1, 1], .null), (.ifCond .eq 21, [37, 0], .null), (.iload_n 3, [3], .null), (.invokestatic 95, [99, 7, 1, 1], .null), (.ifCond .eq 14, [37, 0], .null), (.iload 4, [4], .null), (.ifCond .lt 9, [37, 0], .null), (.iload 4, [4], .null), (.iconst 3, [], .int 3), (.if_icmp .le 6, [40, 0], .null)], 37, 0) ∧
  pm_lk pb_t124 37 = ([(.bipush (-100), [], .int (-100)), (.ireturn, [0], .null)], 40, 1) ∧
  pm_lk pb_t124 40 = ([(.iload 4, [4], .null), (.iconst 3, [], .int 3), (.if_icmp .ne 11, [54, 0], .null), (.aload 5, [5], .null), (.iload_n 2, [2], .null), (.iload_n 3, [3], .null), (.invokevirtual 213, [67, 7, 66, 2, 1], .null), (.ireturn, [0], .null)], 54, 1) ∧
  pm_lk pb_t124 54 = ([(.iload 4, [4], .null), (.iconst 2, [], .int 2), (.if_icmp .ne 13, [70, 0], .null), (.aload 5, [5], .null), (.iload_n 2, [2], .null), (.iload_n 3, [3], .null), (.invokevirtual 216, [59, 7, 67, 2, 3], .null), (.goto 10, [77, 0], .null)], 70, 1) ∧
  pm_lk pb_t124 70 = ([(.aload 5, [5], .null), (.iload_n 2, [2], .null), (.iload_n 3, [3], .null), (.invokevirtual 220, [60, 7, 68, 2, 3], .null)], 77, 0) ∧
  pm_lk pb_t124 77 = ([(.astore 6, [6], .null), (.aload 6, [6], .null), (.ifnonnull 6, [87, 0], .null), (.bipush (-100), [], .int (-100)), (.ireturn, [0], .null)], 87, 1) ∧
  pm_lk pb_t124 87 = ([(.iload 4, [4], .null), (.iconst 1, [], .int 1), (.if_icmp .ne 11, [101, 0], .null), (.aload 6, [6], .null), (.getfield 223, [0, 2, 0, 180], .null), (.goto 8, [106, 0], .null)], 101, 1) ∧
  pm_lk pb_t124 101 = ([(.aload 6, [6], .null), (.getfield 228, [0, 1, 0, 177], .null)], 106, 0) ∧
  pm_lk pb_t124 106 = ([(.ireturn, [0], .null)], 107, 1) := ⟨rfl, rfl, rfl, rfl, rfl, rfl, rfl, rfl, rfl, rfl⟩
/- WrongsDesk.feed(II)I: loops at [] -/
def pb_t125 : pm_Tb := [(0, [(.iload_n 2, [2], .null), (.ifCond .lt 8, [9, 0], .null), (.iload_n 2, [2], .null), (.iconst 4, [], .int 4), (.if_icmp .le 6, [12, 0], .null)], 9, 0),
  (9, [(.bipush (-2), [], .int (-2)), (.ireturn, [0], .null)], 12, 1),
  (12, [(.aload_n 0, [0], .null), (.getfield 41, [11, 6, 2, 116], .null), (.iload_n 1, [1], .null), (.iload_n 2, [2], .null), (.invokevirtual 231, [41, 6, 70, 2, 1], .null), (.ifCond .eq 13, [34, 0], .null), (.aload_n 0, [0], .null), (.getfield 41, [11, 6, 2, 116], .null), (.getfield 235, [6, 1, 0, 56], .null), (.goto 5, [36, 0], .null)], 34, 1),
  (34, [(.bipush (-4), [], .int (-4))], 36, 0),
  (36, [(.ireturn, [0], .null)], 37, 1)]
theorem pb_c125 : pm_tok 125 pb_t125 = true := by decide +kernel
theorem pb_B125 : (pm_mL 125 = 3) ∧
  pm_lk pb_t125 0 = ([(.iload_n 2, [2], .null), (.ifCond .lt 8, [9, 0], .null), (.iload_n 2, [2], .null), (.iconst 4, [], .int 4), (.if_icmp .le 6, [12, 0], .null)], 9, 0) ∧
  pm_lk pb_t125 9 = ([(.bipush (-2), [], .int (-2)), (.ireturn, [0], .null)], 12, 1) ∧
  pm_lk pb_t125 12 = ([(.aload_n 0, [0], .null), (.getfield 41, [11, 6, 2, 116], .null), (.iload_n 1, [1], .null), (.iload_n 2, [2], .null), (.invokevirtual 231, [41, 6, 70, 2, 1], .null), (.ifCond .eq 13, [34, 0], .null), (.aload_n 0, [0], .null), (.getfield 41, [11, 6, 2, 116], .null), (.getfield 235, [6, 1, 0, 56], .null), (.goto 5, [36, 0], .null)], 34, 1) ∧
  pm_lk pb_t125 34 = ([(.bipush (-4), [], .int (-4))], 36, 0) ∧
  pm_lk pb_t125 36 = ([(.ireturn, [0], .null)], 37, 1) := ⟨rfl, rfl, rfl, rfl, rfl, rfl⟩
/- WrongsDesk.law(II)I: loops at [] -/
def pb_t126 : pm_Tb := [(0, [(.iload_n 1, [1], .null), (.invokestatic 118, [106, 20, 1, 1], .null), (.ifCond .ne 10, [14, 0], .null), (.iload_n 1, [1], .null), (.iconst (-1), [], .int (-1)), (.if_icmp .eq 5, [14, 0], .null), (.iconst (-1), [], .int (-1)), (.ireturn, [0], .null)], 14, 1),
  (14, [(.iload_n 2, [2], .null), (.invokestatic 95, [99, 7, 1, 1], .null), (.ifCond .ne 6, [24, 0], .null), (.bipush (-2), [], .int (-2)), (.ireturn, [0], .null)], 24, 1),
  (24, [(.aload_n 0, [0], .null), (.getfield 50, [11, 7, 2, 117], .null), (.getfield 238, [1, 2, 0, 63], .null), (.bipush 12, [], .int 12), (.if_icmp .lt 6, [39, 0], .null), (.bipush (-4), [], .int (-4)), (.ireturn, [0], .null)], 39, 1),
  (39, [(.aload_n 0, [0], .null), (.getfield 41, [11, 6, 2, 116], .null), (.invokevirtual 241, [42, 6, 72, 0, 1], .null), (.istore_n 3, [3], .null), (.aload_n 0, [0], .null), (.getfield 41, [11, 6, 2, 116], .null), (.iconst 0, [], .int 0), (.putfield 235, [6, 1, 0, 56, 0], .null), (.iload_n 3, [3], .null), (.ifCond .eq 22, [78, 0], .null), (.aload_n 0, [0], .null), (.getfield 50, [11, 7, 2, 117], .null), (.aload_n 0, [0], .null), (.getfield 41, [11, 6, 2, 116], .null), (.invokevirtual 245, [57, 6, 102, 0, 3, 7, 229, 7, 229], .null), (.iload_n 1, [1], .null), (.iload_n 2, [2], .null), (.invokevirtual 249, [10, 1, 103, 3, 1], .null), (.goto 13, [88, 0], .null)], 78, 1),
  (78, [(.bipush (-10), [], .int (-10)), (.aload_n 0, [0], .null), (.getfield 41, [11, 6, 2, 116], .null), (.getfield 253, [6, 2, 0, 58], .null), (.isub, [], .null)], 88, 0),
  (88, [(.ireturn, [0], .null)], 89, 1)]
theorem pb_c126 : pm_tok 126 pb_t126 = true := by decide +kernel
theorem pb_B126 : (pm_mL 126 = 4) ∧
  pm_lk pb_t126 0 = ([(.iload_n 1, [1], .null), (.invokestatic 118, [106, 20, 1, 1], .null), (.ifCond .ne 10, [14, 0], .null), (.iload_n 1, [1], .null), (.iconst (-1), [], .int (-1)), (.if_icmp .eq 5, [14, 0], .null), (.iconst (-1), [], .int (-1)), (.ireturn, [0], .null)], 14, 1) ∧
  pm_lk pb_t126 14 = ([(.iload_n 2, [2], .null), (.invokestatic 95, [99, 7, 1, 1], .null), (.ifCond .ne 6, [24, 0], .null), (.bipush (-2), [], .int (-2)), (.ireturn, [0], .null)], 24, 1) ∧
  pm_lk pb_t126 24 = ([(.aload_n 0, [0], .null), (.getfield 50, [11, 7, 2, 117], .null), (.getfield 238, [1, 2, 0, 63], .null), (.bipush 12, [], .int 12), (.if_icmp .lt 6, [39, 0], .null), (.bipush (-4), [], .int (-4)), (.ireturn, [0], .null)], 39, 1) ∧
  pm_lk pb_t126 39 = ([(.aload_n 0, [0], .null), (.getfield 41, [11, 6, 2, 116], .null), (.invokevirtual 241, [42, 6, 72, 0, 1], .null), (.istore_n 3, [3], .null), (.aload_n 0, [0], .null), (.getfield 41, [11, 6, 2, 116], .null), (.iconst 0, [], .int 0), (.putfield 235, [6, 1, 0, 56, 0], .null), (.iload_n 3, [3], .null), (.ifCond .eq 22, [78, 0], .null), (.aload_n 0, [0], .null), (.getfield 50, [11, 7, 2, 117], .null), (.aload_n 0, [0], .null), (.getfield 41, [11, 6, 2, 116], .null), (.invokevirtual 245, [57, 6, 102, 0, 3, 7, 229, 7, 229], .null), (.iload_n 1, [1], .null), (.iload_n 2, [2], .null), (.invokevirtual 249, [10, 1, 103, 3, 1], .null), (.goto 13, [88, 0], .null)], 78, 1) ∧
  pm_lk pb_t126 78 = ([(.bipush (-10), [], .int (-10)), (.aload_n 0, [0], .null), (.getfield 41, [11, 6, 2, 116], .null), (.getfield 253, [6, 2, 0, 58], .null), (.isub, [], .null)], 88, 0) ∧
  pm_lk pb_t126 88 = ([(.ireturn, [0], .null)], 89, 1) := ⟨rfl, rfl, rfl, rfl, rfl, rfl, rfl⟩
/- WrongsDesk.lawful(III)I: loops at [] -/
def pb_t127 : pm_Tb := [(0, [(.iload_n 1, [1], .null), (.invokestatic 118, [106, 20, 1, 1], .null), (.ifCond .ne 8, [12, 0], .null), (.iload_n 1, [1], .null), (.iconst (-1), [], .int (-1)), (.if_icmp .ne 10, [19, 0], .null)], 12, 0),
  (12, [(.iload_n 2, [2], .null), (.invokestatic 95, [99, 7, 1, 1], .null), (.ifCond .ne 6, [22, 0], .null)], 19, 0),
  (19, [(.bipush (-5), [], .int (-5)), (.ireturn, [0], .null)], 22, 1),
  (22, [(.aload_n 0, [0], .null), (.getfield 50, [11, 7, 2, 117], .null), (.iload_n 1, [1], .null), (.iload_n 2, [2], .null), (.invokevirtual 256, [3, 1, 105, 2, 3], .null), (.astore 4, [4], .null), (.iload_n 3, [3], .null), (.tableswitch 108 0 8 #[50, 60, 66, 72, 78, 84, 90, 96, 102], [0, 84, 0, 1, 94, 0, 2, 100, 0, 3, 106, 0, 4, 112, 0, 5, 118, 0, 6, 124, 0, 7, 130, 0, 8, 136, 0, 142, 0], .null)], 84, 1),
  (84, [(.aload_n 0, [0], .null), (.getfield 50, [11, 7, 2, 117], .null), (.iload_n 1, [1], .null), (.iload_n 2, [2], .null), (.invokevirtual 260, [4, 1, 106, 2, 1], .null), (.ireturn, [0], .null)], 94, 1),
  (94, [(.aload 4, [4], .null), (.getfield 263, [5, 2, 0, 12], .null), (.ireturn, [0], .null)], 100, 1),
  (100, [(.aload 4, [4], .null), (.getfield 268, [5, 10, 0, 27], .null), (.ireturn, [0], .null)], 106, 1),
  (106, [(.aload 4, [4], .null), (.getfield 271, [5, 11, 0, 31], .null), (.ireturn, [0], .null)], 112, 1),
  (112, [(.aload 4, [4], .null), (.getfield 274, [5, 12, 0, 35], .null), (.ireturn, [0], .null)], 118, 1),
  (118, [(.aload 4, [4], .null), (.getfield 277, [5, 13, 0, 39], .null), (.ireturn, [0], .null)], 124, 1),
  (124, [(.aload 4, [4], .null), (.getfield 280, [5, 14, 0, 43], .null), (.ireturn, [0], .null)], 130, 1),
  (130, [(.aload 4, [4], .null), (.getfield 283, [5, 15, 0, 47], .null), (.ireturn, [0], .null)], 136, 1),
  (136, [(.aload 4, [4], .null), (.getfield 286, [5, 16, 0, 50], .null), (.ireturn, [0], .null)], 142, 1),
  (142, [(.bipush (-5), [], .int (-5)), (.ireturn, [0], .null)], 145, 1)]
theorem pb_c127 : pm_tok 127 pb_t127 = true := by decide +kernel
theorem pb_B127 : (pm_mL 127 = 5) ∧
  pm_lk pb_t127 0 = ([(.iload_n 1, [1], .null), (.invokestatic 118, [106, 20, 1, 1], .null), (.ifCond .ne 8, [12, 0], .null), (.iload_n 1, [1], .null), (.iconst (-1), [], .int (-1)), (.if_icmp .ne 10, [19, 0], .null)], 12, 0) ∧
  pm_lk pb_t127 12 = ([(.iload_n 2, [2], .null), (.invokestatic 95, [99, 7, 1, 1], .null), (.ifCond .ne 6, [22, 0], .null)], 19, 0) ∧
  pm_lk pb_t127 19 = ([(.bipush (-5), [], .int (-5)), (.ireturn, [0], .null)], 22, 1) ∧
  pm_lk pb_t127 22 = ([(.aload_n 0, [0], .null), (.getfield 50, [11, 7, 2, 117], .null), (.iload_n 1, [1], .null), (.iload_n 2, [2], .null), (.invokevirtual 256, [3, 1, 105, 2, 3], .null), (.astore 4, [4], .null), (.iload_n 3, [3], .null), (.tableswitch 108 0 8 #[50, 60, 66, 72, 78, 84, 90, 96, 102], [0, 84, 0, 1, 94, 0, 2, 100, 0, 3, 106, 0, 4, 112, 0, 5, 118, 0, 6, 124, 0, 7, 130, 0, 8, 136, 0, 142, 0], .null)], 84, 1) ∧
  pm_lk pb_t127 84 = ([(.aload_n 0, [0], .null), (.getfield 50, [11, 7, 2, 117], .null), (.iload_n 1, [1], .null), (.iload_n 2, [2], .null), (.invokevirtual 260, [4, 1, 106, 2, 1], .null), (.ireturn, [0], .null)], 94, 1) ∧
  pm_lk pb_t127 94 = ([(.aload 4, [4], .null), (.getfield 263, [5, 2, 0, 12], .null), (.ireturn, [0], .null)], 100, 1) ∧
  pm_lk pb_t127 100 = ([(.aload 4, [4], .null), (.getfield 268, [5, 10, 0, 27], .null), (.ireturn, [0], .null)], 106, 1) ∧
  pm_lk pb_t127 106 = ([(.aload 4, [4], .null), (.getfield 271, [5, 11, 0, 31], .null), (.ireturn, [0], .null)], 112, 1) ∧
  pm_lk pb_t127 112 = ([(.aload 4, [4], .null), (.getfield 274, [5, 12, 0, 35], .null), (.ireturn, [0], .null)], 118, 1) ∧
  pm_lk pb_t127 118 = ([(.aload 4, [4], .null), (.getfield 277, [5, 13, 0, 39], .null), (.ireturn, [0], .null)], 124, 1) ∧
  pm_lk pb_t127 124 = ([(.aload 4, [4], .null), (.getfield 280, [5, 14, 0, 43], .null), (.ireturn, [0], .null)], 130, 1) ∧
  pm_lk pb_t127 130 = ([(.aload 4, [4], .null), (.getfield 283, [5, 15, 0, 47], .null), (.ireturn, [0], .null)], 136, 1) ∧
  pm_lk pb_t127 136 = ([(.aload 4, [4], .null), (.getfield 286, [5, 16, 0, 50], .null), (.ireturn, [0], .null)], 142, 1) ∧
  pm_lk pb_t127 142 = ([(.bipush (-5), [], .int (-5)), (.ireturn, [0], .null)], 145, 1) := ⟨rfl, rfl, rfl, rfl, rfl, rfl, rfl, rfl, rfl, rfl, rfl, rfl, rfl, rfl, rfl⟩
/- WrongsDesk.owes(II)I: loops at [] -/
def pb_t128 : pm_Tb := [(0, [(.aload_n 0, [0], .null), (.iload_n 1, [1], .null), (.invokevirtual 127, [108, 11, 23, 1, 3], .null), (.astore_n 3, [3], .null), (.aload_n 3, [3], .null), (.ifnonnull 5, [12, 0], .null), (.iconst (-1), [], .int (-1)), (.ireturn, [0], .null)], 12, 1),
  (12, [(.aload_n 3, [3], .null), (.iload_n 2, [2], .null), (.invokevirtual 181, [63, 7, 50, 1, 1], .null), (.ifCond .eq 15, [32, 0], .null), (.aload_n 0, [0], .null), (.getfield 50, [11, 7, 2, 117], .null), (.aload_n 3, [3], .null), (.iload_n 2, [2], .null), (.invokevirtual 289, [7, 1, 108, 2, 1], .null), (.goto 5, [34, 0], .null)], 32, 1),
  (32, [(.bipush (-2), [], .int (-2))], 34, 0),
  (34, [(.ireturn, [0], .null)], 35, 1)]
theorem pb_c128 : pm_tok 128 pb_t128 = true := by decide +kernel
theorem pb_B128 : (pm_mL 128 = 4) ∧
  pm_lk pb_t128 0 = ([(.aload_n 0, [0], .null), (.iload_n 1, [1], .null), (.invokevirtual 127, [108, 11, 23, 1, 3], .null), (.astore_n 3, [3], .null), (.aload_n 3, [3], .null), (.ifnonnull 5, [12, 0], .null), (.iconst (-1), [], .int (-1)), (.ireturn, [0], .null)], 12, 1) ∧
  pm_lk pb_t128 12 = ([(.aload_n 3, [3], .null), (.iload_n 2, [2], .null), (.invokevirtual 181, [63, 7, 50, 1, 1], .null), (.ifCond .eq 15, [32, 0], .null), (.aload_n 0, [0], .null), (.getfield 50, [11, 7, 2, 117], .null), (.aload_n 3, [3], .null), (.iload_n 2, [2], .null), (.invokevirtual 289, [7, 1, 108, 2, 1], .null), (.goto 5, [34, 0], .null)], 32, 1) ∧
  pm_lk pb_t128 32 = ([(.bipush (-2), [], .int (-2))], 34, 0) ∧
  pm_lk pb_t128 34 = ([(.ireturn, [0], .null)], 35, 1) := ⟨rfl, rfl, rfl, rfl, rfl⟩
/- WrongsDesk.owed(IIII)I: loops at [] -/
def pb_t129 : pm_Tb := [(0, [(.aload_n 0, [0], .null), (.iload_n 1, [1], .null), (.invokevirtual 127, [108, 11, 23, 1, 3], .null), (.astore 5, [5], .null), (.aload 5, [5], .null), (.ifnull 12, [21, 0], .null), (.aload 5, [5], .null), (.iload_n 2, [2], .null), (.invokevirtual 181, [63, 7, 50, 1, 1], .null), (.ifCond .ne 6, [24, 0], .null)], 21, 0),
  (21, [(.bipush (-5), [], .int (-5)), (.ireturn, [0], .null)], 24, 1),
  (24, [(.iload_n 3, [3], .null), (.ifCond .lt 17, [42, 0], .null), (.iload_n 3, [3], .null), (.aload_n 0, [0], .null), (.getfield 50, [11, 7, 2, 117], .null), (.aload 5, [5], .null), (.iload_n 2, [2], .null), (.invokevirtual 289, [7, 1, 108, 2, 1], .null), (.if_icmp .lt 6, [45, 0], .null)], 42, 0),
  (42, [(.bipush (-5), [], .int (-5)), (.ireturn, [0], .null)], 45, 1),
  (45, [(.iload 4, [4], .null), (.tableswitch 69 0 3 #[29, 39, 49, 59], [0, 76, 0, 1, 86, 0, 2, 96, 0, 3, 106, 0, 116, 0], .null)], 76, 1),
  (76, [(.aload_n 0, [0], .null), (.getfield 50, [11, 7, 2, 117], .null), (.getfield 292, [1, 5, 2, 69], .null), (.iload_n 3, [3], .null), (.iaload, [], .null), (.ireturn, [0], .null)], 86, 1),
  (86, [(.aload_n 0, [0], .null), (.getfield 50, [11, 7, 2, 117], .null), (.getfield 295, [1, 6, 2, 71], .null), (.iload_n 3, [3], .null), (.iaload, [], .null), (.ireturn, [0], .null)], 96, 1),
  (96, [(.aload_n 0, [0], .null), (.getfield 50, [11, 7, 2, 117], .null), (.getfield 298, [1, 7, 2, 74], .null), (.iload_n 3, [3], .null), (.iaload, [], .null), (.ireturn, [0], .null)], 106, 1),
  (106, [(.aload_n 0, [0], .null), (.getfield 50, [11, 7, 2, 117], .null), (.getfield 301, [1, 8, 2, 76], .null), (.iload_n 3, [3], .null), (.iaload, [], .null), (.ireturn, [0], .null)], 116, 1),
  (116, [(.bipush (-5), [], .int (-5)), (.ireturn, [0], .null)], 119, 1)]
theorem pb_c129 : pm_tok 129 pb_t129 = true := by decide +kernel
theorem pb_B129 : (pm_mL 129 = 6) ∧
  pm_lk pb_t129 0 = ([(.aload_n 0, [0], .null), (.iload_n 1, [1], .null), (.invokevirtual 127, [108, 11, 23, 1, 3], .null), (.astore 5, [5], .null), (.aload 5, [5], .null), (.ifnull 12, [21, 0], .null), (.aload 5, [5], .null), (.iload_n 2, [2], .null), (.invokevirtual 181, [63, 7, 50, 1, 1], .null), (.ifCond .ne 6, [24, 0], .null)], 21, 0) ∧
  pm_lk pb_t129 21 = ([(.bipush (-5), [], .int (-5)), (.ireturn, [0], .null)], 24, 1) ∧
  pm_lk pb_t129 24 = ([(.iload_n 3, [3], .null), (.ifCond .lt 17, [42, 0], .null), (.iload_n 3, [3], .null), (.aload_n 0, [0], .null), (.getfield 50, [11, 7, 2, 117], .null), (.aload 5, [5], .null), (.iload_n 2, [2], .null), (.invokevirtual 289, [7, 1, 108, 2, 1], .null), (.if_icmp .lt 6, [45, 0], .null)], 42, 0) ∧
  pm_lk pb_t129 42 = ([(.bipush (-5), [], .int (-5)), (.ireturn, [0], .null)], 45, 1) ∧
  pm_lk pb_t129 45 = ([(.iload 4, [4], .null), (.tableswitch 69 0 3 #[29, 39, 49, 59], [0, 76, 0, 1, 86, 0, 2, 96, 0, 3, 106, 0, 116, 0], .null)], 76, 1) ∧
  pm_lk pb_t129 76 = ([(.aload_n 0, [0], .null), (.getfield 50, [11, 7, 2, 117], .null), (.getfield 292, [1, 5, 2, 69], .null), (.iload_n 3, [3], .null), (.iaload, [], .null), (.ireturn, [0], .null)], 86, 1) ∧
  pm_lk pb_t129 86 = ([(.aload_n 0, [0], .null), (.getfield 50, [11, 7, 2, 117], .null), (.getfield 295, [1, 6, 2, 71], .null), (.iload_n 3, [3], .null), (.iaload, [], .null), (.ireturn, [0], .null)], 96, 1) ∧
  pm_lk pb_t129 96 = ([(.aload_n 0, [0], .null), (.getfield 50, [11, 7, 2, 117], .null), (.getfield 298, [1, 7, 2, 74], .null), (.iload_n 3, [3], .null), (.iaload, [], .null), (.ireturn, [0], .null)], 106, 1) ∧
  pm_lk pb_t129 106 = ([(.aload_n 0, [0], .null), (.getfield 50, [11, 7, 2, 117], .null), (.getfield 301, [1, 8, 2, 76], .null), (.iload_n 3, [3], .null), (.iaload, [], .null), (.ireturn, [0], .null)], 116, 1) ∧
  pm_lk pb_t129 116 = ([(.bipush (-5), [], .int (-5)), (.ireturn, [0], .null)], 119, 1) := ⟨rfl, rfl, rfl, rfl, rfl, rfl, rfl, rfl, rfl, rfl, rfl⟩
/- WrongsDesk.good(II)I: loops at [] -/
def pb_t130 : pm_Tb := [(0, [(.aload_n 0, [0], .null), (.iload_n 1, [1], .null), (.invokevirtual 127, [108, 11, 23, 1, 3], .null), (.astore_n 3, [3], .null), (.aload_n 3, [3], .null), (.ifnonnull 5, [12, 0], .null), (.iconst (-1), [], .int (-1)), (.ireturn, [0], .null)], 12, 1),
  (12, [(.aload_n 3, [3], .null), (.iload_n 2, [2], .null), (.invokevirtual 181, [63, 7, 50, 1, 1], .null), (.ifCond .eq 15, [32, 0], .null), (.aload_n 0, [0], .null), (.getfield 50, [11, 7, 2, 117], .null), (.aload_n 3, [3], .null), (.iload_n 2, [2], .null), (.invokevirtual 304, [11, 1, 111, 2, 1], .null), (.goto 5, [34, 0], .null)], 32, 1),
  (32, [(.bipush (-2), [], .int (-2))], 34, 0),
  (34, [(.ireturn, [0], .null)], 35, 1)]
theorem pb_c130 : pm_tok 130 pb_t130 = true := by decide +kernel
theorem pb_B130 : (pm_mL 130 = 4) ∧
  pm_lk pb_t130 0 = ([(.aload_n 0, [0], .null), (.iload_n 1, [1], .null), (.invokevirtual 127, [108, 11, 23, 1, 3], .null), (.astore_n 3, [3], .null), (.aload_n 3, [3], .null), (.ifnonnull 5, [12, 0], .null), (.iconst (-1), [], .int (-1)), (.ireturn, [0], .null)], 12, 1) ∧
  pm_lk pb_t130 12 = ([(.aload_n 3, [3], .null), (.iload_n 2, [2], .null), (.invokevirtual 181, [63, 7, 50, 1, 1], .null), (.ifCond .eq 15, [32, 0], .null), (.aload_n 0, [0], .null), (.getfield 50, [11, 7, 2, 117], .null), (.aload_n 3, [3], .null), (.iload_n 2, [2], .null), (.invokevirtual 304, [11, 1, 111, 2, 1], .null), (.goto 5, [34, 0], .null)], 32, 1) ∧
  pm_lk pb_t130 32 = ([(.bipush (-2), [], .int (-2))], 34, 0) ∧
  pm_lk pb_t130 34 = ([(.ireturn, [0], .null)], 35, 1) := ⟨rfl, rfl, rfl, rfl, rfl⟩
/- WrongsDesk.alike(II)I: loops at [] -/
def pb_t131 : pm_Tb := [(0, [(.aload_n 0, [0], .null), (.iload_n 1, [1], .null), (.invokevirtual 127, [108, 11, 23, 1, 3], .null), (.astore_n 3, [3], .null), (.aload_n 0, [0], .null), (.iload_n 2, [2], .null), (.invokevirtual 127, [108, 11, 23, 1, 3], .null), (.astore 4, [4], .null), (.aload_n 3, [3], .null), (.ifnull 8, [22, 0], .null), (.aload 4, [4], .null), (.ifnonnull 5, [24, 0], .null)], 22, 0),
  (22, [(.iconst (-1), [], .int (-1)), (.ireturn, [0], .null)], 24, 1),
  (24, [(.iload_n 1, [1], .null), (.iload_n 2, [2], .null), (.if_icmp .ne 6, [32, 0], .null), (.bipush (-2), [], .int (-2)), (.ireturn, [0], .null)], 32, 1),
  (32, [(.aload_n 3, [3], .null), (.invokevirtual 307, [68, 7, 115, 0, 1], .null), (.ifCond .eq 11, [47, 0], .null), (.aload 4, [4], .null), (.invokevirtual 307, [68, 7, 115, 0, 1], .null), (.ifCond .ne 6, [50, 0], .null)], 47, 0),
  (47, [(.bipush (-3), [], .int (-3)), (.ireturn, [0], .null)], 50, 1),
  (50, [(.aload_n 0, [0], .null), (.invokevirtual 310, [132, 11, 116, 0, 0], .null), (.aload_n 3, [3], .null), (.aload 4, [4], .null), (.invokestatic 313, [133, 118, 2, 1], .null), (.ifCond .eq 7, [67, 0], .null), (.iconst 1, [], .int 1), (.goto 4, [68, 0], .null)], 67, 1),
  (67, [(.iconst 0, [], .int 0)], 68, 0),
  (68, [(.ireturn, [0], .null)], 69, 1)]
theorem pb_c131 : pm_tok 131 pb_t131 = true := by decide +kernel
theorem pb_B131 : (pm_mL 131 = 5) ∧
  pm_lk pb_t131 0 = ([(.aload_n 0, [0], .null), (.iload_n 1, [1], .null), (.invokevirtual 127, [108, 11, 23, 1, 3], .null), (.astore_n 3, [3], .null), (.aload_n 0, [0], .null), (.iload_n 2, [2], .null), (.invokevirtual 127, [108, 11, 23, 1, 3], .null), (.astore 4, [4], .null), (.aload_n 3, [3], .null), (.ifnull 8, [22, 0], .null), (.aload 4, [4], .null), (.ifnonnull 5, [24, 0], .null)], 22, 0) ∧
  pm_lk pb_t131 22 = ([(.iconst (-1), [], .int (-1)), (.ireturn, [0], .null)], 24, 1) ∧
  pm_lk pb_t131 24 = ([(.iload_n 1, [1], .null), (.iload_n 2, [2], .null), (.if_icmp .ne 6, [32, 0], .null), (.bipush (-2), [], .int (-2)), (.ireturn, [0], .null)], 32, 1) ∧
  pm_lk pb_t131 32 = ([(.aload_n 3, [3], .null), (.invokevirtual 307, [68, 7, 115, 0, 1], .null), (.ifCond .eq 11, [47, 0], .null), (.aload 4, [4], .null), (.invokevirtual 307, [68, 7, 115, 0, 1], .null), (.ifCond .ne 6, [50, 0], .null)], 47, 0) ∧
  pm_lk pb_t131 47 = ([(.bipush (-3), [], .int (-3)), (.ireturn, [0], .null)], 50, 1) ∧
  pm_lk pb_t131 50 = ([(.aload_n 0, [0], .null), (.invokevirtual 310, [132, 11, 116, 0, 0], .null), (.aload_n 3, [3], .null), (.aload 4, [4], .null), (.invokestatic 313, [133, 118, 2, 1], .null), (.ifCond .eq 7, [67, 0], .null), (.iconst 1, [], .int 1), (.goto 4, [68, 0], .null)], 67, 1) ∧
  pm_lk pb_t131 67 = ([(.iconst 0, [], .int 0)], 68, 0) ∧
  pm_lk pb_t131 68 = ([(.ireturn, [0], .null)], 69, 1) := ⟨rfl, rfl, rfl, rfl, rfl, rfl, rfl, rfl, rfl⟩
/- WrongsDesk.weighWrongs()V: loops at [2] -/
def pb_t132 : pm_Tb := [(0, [(.iconst 0, [], .int 0), (.istore_n 1, [1], .null)], 2, 1),
  (2, [(.iload_n 1, [1], .null), (.aload_n 0, [0], .null), (.getfield 32, [11, 4, 0, 114], .null), (.if_icmp .ge 50, [57, 0], .null), (.aload_n 0, [0], .null), (.getfield 28, [11, 3, 2, 113], .null), (.iload_n 1, [1], .null), (.aaload, [23], .null), (.invokevirtual 307, [68, 7, 115, 0, 1], .null), (.ifCond .eq 32, [51, 0], .null), (.aload_n 0, [0], .null), (.getfield 28, [11, 3, 2, 113], .null), (.iload_n 1, [1], .null), (.aaload, [23], .null), (.aload_n 0, [0], .null), (.getfield 50, [11, 7, 2, 117], .null), (.aload_n 0, [0], .null), (.getfield 28, [11, 3, 2, 113], .null), (.iload_n 1, [1], .null), (.aaload, [23], .null), (.aload_n 0, [0], .null), (.getfield 12, [11, 0, 2, 110], .null), (.getfield 92, [3, 0, 0, 1], .null), (.invokevirtual 451, [12, 1, 117, 2, 1], .null), (.putfield 454, [7, 17, 0, 171, 0], .null)], 51, 0),
  (51, [(.iinc 1 1, [1], .int 1), (.goto (-52), [2, 1], .null)], 57, 1),
  (57, [(.return_, [], .null)], 58, 1)]
theorem pb_c132 : pm_tok 132 pb_t132 = true := by decide +kernel
theorem pb_B132 : (pm_mL 132 = 2) ∧
  pm_lk pb_t132 0 = ([(.iconst 0, [], .int 0), (.istore_n 1, [1], .null)], 2, 1) ∧
  pm_lk pb_t132 2 = ([(.iload_n 1, [1], .null), (.aload_n 0, [0], .null), (.getfield 32, [11, 4, 0, 114], .null), (.if_icmp .ge 50, [57, 0], .null), (.aload_n 0, [0], .null), (.getfield 28, [11, 3, 2, 113], .null), (.iload_n 1, [1], .null), (.aaload, [23], .null), (.invokevirtual 307, [68, 7, 115, 0, 1], .null), (.ifCond .eq 32, [51, 0], .null), (.aload_n 0, [0], .null), (.getfield 28, [11, 3, 2, 113], .null), (.iload_n 1, [1], .null), (.aaload, [23], .null), (.aload_n 0, [0], .null), (.getfield 50, [11, 7, 2, 117], .null), (.aload_n 0, [0], .null), (.getfield 28, [11, 3, 2, 113], .null), (.iload_n 1, [1], .null), (.aaload, [23], .null), (.aload_n 0, [0], .null), (.getfield 12, [11, 0, 2, 110], .null), (.getfield 92, [3, 0, 0, 1], .null), (.invokevirtual 451, [12, 1, 117, 2, 1], .null), (.putfield 454, [7, 17, 0, 171, 0], .null)], 51, 0) ∧
  pm_lk pb_t132 51 = ([(.iinc 1 1, [1], .int 1), (.goto (-52), [2, 1], .null)], 57, 1) ∧
  pm_lk pb_t132 57 = ([(.return_, [], .null)], 58, 1) := ⟨rfl, rfl, rfl, rfl, rfl⟩
/- WrongsDesk.areAlike(LWrongsDesk$Matter;LWrongsDesk$Matter;)Z: loops at [] -/
def pb_t133 : pm_Tb := [(0, [(.aload_n 0, [0], .null), (.invokevirtual 307, [68, 7, 115, 0, 1], .null), (.ifCond .eq 47, [51, 0], .null), (.aload_n 1, [1], .null), (.invokevirtual 307, [68, 7, 115, 0, 1], .null), (.ifCond .eq 40, [51, 0], .null), (.aload_n 0, [0], .null), (.getfield 137, [7, 2, 0, 136], .null), (.aload_n 1, [1], .null), (.getfield 137, [7, 2, 0, 136], .null), (.if_icmp .ne 29, [51, 0], .null), (.aload_n 0, [0], .null), (.getfield 140, [7, 3, 0, 141], .null), (.aload_n 1, [1], .null), (.getfield 140, [7, 3, 0, 141], .null), (.if_icmp .ne 18, [51, 0], .null), (.aload_n 0, [0], .null), (.getfield 454, [7, 17, 0, 171], .null), (.aload_n 1, [1], .null), (.getfield 454, [7, 17, 0, 171], .null), (.if_icmp .ne 7, [51, 0], .null), (.iconst 1, [], .int 1), (.goto 4, [52, 0], .null)], 51, 1),
  (51, [(.iconst 0, [], .int 0)], 52, 0),
  (52, [(.ireturn, [1], .null)], 53, 1)]
theorem pb_c133 : pm_tok 133 pb_t133 = true := by decide +kernel
theorem pb_B133 : (pm_mL 133 = 2) ∧
  pm_lk pb_t133 0 = ([(.aload_n 0, [0], .null), (.invokevirtual 307, [68, 7, 115, 0, 1], .null), (.ifCond .eq 47, [51, 0], .null), (.aload_n 1, [1], .null), (.invokevirtual 307, [68, 7, 115, 0, 1], .null), (.ifCond .eq 40, [51, 0], .null), (.aload_n 0, [0], .null), (.getfield 137, [7, 2, 0, 136], .null), (.aload_n 1, [1], .null), (.getfield 137, [7, 2, 0, 136], .null), (.if_icmp .ne 29, [51, 0], .null), (.aload_n 0, [0], .null), (.getfield 140, [7, 3, 0, 141], .null), (.aload_n 1, [1], .null), (.getfield 140, [7, 3, 0, 141], .null), (.if_icmp .ne 18, [51, 0], .null), (.aload_n 0, [0], .null), (.getfield 454, [7, 17, 0, 171], .null), (.aload_n 1, [1], .null), (.getfield 454, [7, 17, 0, 171], .null), (.if_icmp .ne 7, [51, 0], .null), (.iconst 1, [], .int 1), (.goto 4, [52, 0], .null)], 51, 1) ∧
  pm_lk pb_t133 51 = ([(.iconst 0, [], .int 0)], 52, 0) ∧
  pm_lk pb_t133 52 = ([(.ireturn, [1], .null)], 53, 1) := ⟨rfl, rfl, rfl, rfl⟩
/- WrongsDesk.unlike(I)I: loops at [19, 32] -/
def pb_t134 : pm_Tb := [(0, [(.iload_n 1, [1], .null), (.ifCond .lt 8, [9, 0], .null), (.iload_n 1, [1], .null), (.iconst 2, [], .int 2), (.if_icmp .le 5, [11, 0], .null)], 9, 0),
  (9, [(.iconst (-1), [], .int (-1)), (.ireturn, [0], .null)], 11, 1),
  (11, [(.aload_n 0, [0], .null), (.invokevirtual 310, [132, 11, 116, 0, 0], .null), (.iconst 0, [], .int 0), (.istore_n 2, [2], .null), (.iconst 0, [], .int 0), (.istore_n 3, [3], .null)], 19, 1),
  (19, [(.iload_n 3, [3], .null), (.aload_n 0, [0], .null), (.getfield 32, [11, 4, 0, 114], .null), (.if_icmp .ge 89, [113, 0], .null), (.iload_n 3, [3], .null), (.iconst 1, [], .int 1), (.iadd, [], .null), (.istore 4, [4], .null)], 32, 1),
  (32, [(.iload 4, [4], .null), (.aload_n 0, [0], .null), (.getfield 32, [11, 4, 0, 114], .null), (.if_icmp .ge 69, [107, 0], .null), (.aload_n 0, [0], .null), (.getfield 28, [11, 3, 2, 113], .null), (.iload_n 3, [3], .null), (.aaload, [23], .null), (.aload_n 0, [0], .null), (.getfield 28, [11, 3, 2, 113], .null), (.iload 4, [4], .null), (.aaload, [23], .null), (.invokestatic 313, [133, 118, 2, 1], .null), (.ifCond .eq 44, [101, 0], .null), (.aload_n 0, [0], .null), (.getfield 28, [11, 3, 2, 113], .null), (.iload_n 3, [3], .null), (.aaload, [23], .null), (.getfield 152, [7, 8, 0, 158], .null), (.aload_n 0, [0], .null), (.getfield 28, [11, 3, 2, 113], .null), (.iload 4, [4], .null), (.aaload, [23], .null), (.getfield 152, [7, 8, 0, 158], .null), (.if_icmp .eq 22, [101, 0], .null), (.iload_n 1, [1], .null), (.ifCond .le 15, [98, 0], .null), (.iload_n 1, [1], .null), (.iconst 1, [], .int 1), (.if_icmp .ne 7, [95, 0], .null), (.iload_n 3, [3], .null), (.goto 5, [97, 0], .null)], 95, 1),
  (95, [(.iload 4, [4], .null)], 97, 0),
  (97, [(.ireturn, [0], .null)], 98, 1),
  (98, [(.iinc 2 1, [2], .int 1)], 101, 0),
  (101, [(.iinc 4 1, [4], .int 1), (.goto (-72), [32, 1], .null)], 107, 1),
  (107, [(.iinc 3 1, [3], .int 1), (.goto (-91), [19, 1], .null)], 113, 1),
  (113, [(.iload_n 1, [1], .null), (.ifCond .ne 7, [121, 0], .null), (.iload_n 2, [2], .null), (.goto 4, [122, 0], .null)], 121, 1),
  (121, [(.iconst (-1), [], .int (-1))], 122, 0),
  (122, [(.ireturn, [0], .null)], 123, 1)]
theorem pb_c134 : pm_tok 134 pb_t134 = true := by decide +kernel
theorem pb_B134 : (pm_mL 134 = 5) ∧
  pm_lk pb_t134 0 = ([(.iload_n 1, [1], .null), (.ifCond .lt 8, [9, 0], .null), (.iload_n 1, [1], .null), (.iconst 2, [], .int 2), (.if_icmp .le 5, [11, 0], .null)], 9, 0) ∧
  pm_lk pb_t134 9 = ([(.iconst (-1), [], .int (-1)), (.ireturn, [0], .null)], 11, 1) ∧
  pm_lk pb_t134 11 = ([(.aload_n 0, [0], .null), (.invokevirtual 310, [132, 11, 116, 0, 0], .null), (.iconst 0, [], .int 0), (.istore_n 2, [2], .null), (.iconst 0, [], .int 0), (.istore_n 3, [3], .null)], 19, 1) ∧
  pm_lk pb_t134 19 = ([(.iload_n 3, [3], .null), (.aload_n 0, [0], .null), (.getfield 32, [11, 4, 0, 114], .null), (.if_icmp .ge 89, [113, 0], .null), (.iload_n 3, [3], .null), (.iconst 1, [], .int 1), (.iadd, [], .null), (.istore 4, [4], .null)], 32, 1) ∧
  pm_lk pb_t134 32 = ([(.iload 4, [4], .null), (.aload_n 0, [0], .null), (.getfield 32, [11, 4, 0, 114], .null), (.if_icmp .ge 69, [107, 0], .null), (.aload_n 0, [0], .null), (.getfield 28, [11, 3, 2, 113], .null), (.iload_n 3, [3], .null), (.aaload, [23], .null), (.aload_n 0, [0], .null), (.getfield 28, [11, 3, 2, 113], .null), (.iload 4, [4], .null), (.aaload, [23], .null), (.invokestatic 313, [133, 118, 2, 1], .null), (.ifCond .eq 44, [101, 0], .null), (.aload_n 0, [0], .null), (.getfield 28, [11, 3, 2, 113], .null), (.iload_n 3, [3], .null), (.aaload, [23], .null), (.getfield 152, [7, 8, 0, 158], .null), (.aload_n 0, [0], .null), (.getfield 28, [11, 3, 2, 113], .null), (.iload 4, [4], .null), (.aaload, [23], .null), (.getfield 152, [7, 8, 0, 158], .null), (.if_icmp .eq 22, [101, 0], .null), (.iload_n 1, [1], .null), (.ifCond .le 15, [98, 0], .null), (.iload_n 1, [1], .null), (.iconst 1, [], .int 1), (.if_icmp .ne 7, [95, 0], .null), (.iload_n 3, [3], .null), (.goto 5, [97, 0], .null)], 95, 1) ∧
  pm_lk pb_t134 95 = ([(.iload 4, [4], .null)], 97, 0) ∧
  pm_lk pb_t134 97 = ([(.ireturn, [0], .null)], 98, 1) ∧
  pm_lk pb_t134 98 = ([(.iinc 2 1, [2], .int 1)], 101, 0) ∧
  pm_lk pb_t134 101 = ([(.iinc 4 1, [4], .int 1), (.goto (-72), [32, 1], .null)], 107, 1) ∧
  pm_lk pb_t134 107 = ([(.iinc 3 1, [3], .int 1), (.goto (-91), [19, 1], .null)], 113, 1) ∧
  pm_lk pb_t134 113 = ([(.iload_n 1, [1], .null), (.ifCond .ne 7, [121, 0], .null), (.iload_n 2, [2], .null), (.goto 4, [122, 0], .null)], 121, 1) ∧
  pm_lk pb_t134 121 = ([(.iconst (-1), [], .int (-1))], 122, 0) ∧
  pm_lk pb_t134 122 = ([(.ireturn, [0], .null)], 123, 1) := ⟨rfl, rfl, rfl, rfl, rfl, rfl, rfl, rfl, rfl, rfl, rfl, rfl, rfl, rfl⟩
/- WrongsDesk.cause(III)I: loops at [] -/
def pb_t135 : pm_Tb := [(0, [(.iload_n 1, [1], .null), (.invokestatic 118, [106, 20, 1, 1], .null), (.ifCond .ne 10, [14, 0], .null), (.iload_n 1, [1], .null), (.iconst (-1), [], .int (-1)), (.if_icmp .eq 5, [14, 0], .null), (.iconst (-1), [], .int (-1)), (.ireturn, [0], .null)], 14, 1),
  (14, [(.iload_n 2, [2], .null), (.ifCond .lt 18, [33, 0], .null), (.iload_n 2, [2], .null), (.bipush 9, [], .int 9), (.if_icmp .gt 12, [33, 0], .null), (.iload_n 3, [3], .null), (.ifCond .lt 8, [33, 0], .null), (.iload_n 3, [3], .null), (.iconst 3, [], .int 3), (.if_icmp .le 6, [36, 0], .null)], 33, 0),
  (33, [(.bipush (-2), [], .int (-2)), (.ireturn, [0], .null)], 36, 1),
  (36, [(.aload_n 0, [0], .null), (.getfield 57, [11, 8, 2, 118], .null), (.iload_n 1, [1], .null), (.iload_n 2, [2], .null), (.iload_n 3, [3], .null), (.invokevirtual 317, [14, 2, 121, 3, 1], .null), (.ifCond .eq 15, [61, 0], .null), (.aload_n 0, [0], .null), (.getfield 57, [11, 8, 2, 118], .null), (.getfield 321, [2, 0, 0, 79], .null), (.iconst 1, [], .int 1), (.isub, [], .null), (.goto 5, [63, 0], .null)], 61, 1),
  (61, [(.bipush (-4), [], .int (-4))], 63, 0),
  (63, [(.ireturn, [0], .null)], 64, 1)]
theorem pb_c135 : pm_tok 135 pb_t135 = true := by decide +kernel
theorem pb_B135 : (pm_mL 135 = 4) ∧
  pm_lk pb_t135 0 = ([(.iload_n 1, [1], .null), (.invokestatic 118, [106, 20, 1, 1], .null), (.ifCond .ne 10, [14, 0], .null), (.iload_n 1, [1], .null), (.iconst (-1), [], .int (-1)), (.if_icmp .eq 5, [14, 0], .null), (.iconst (-1), [], .int (-1)), (.ireturn, [0], .null)], 14, 1) ∧
  pm_lk pb_t135 14 = ([(.iload_n 2, [2], .null), (.ifCond .lt 18, [33, 0], .null), (.iload_n 2, [2], .null), (.bipush 9, [], .int 9), (.if_icmp .gt 12, [33, 0], .null), (.iload_n 3, [3], .null), (.ifCond .lt 8, [33, 0], .null), (.iload_n 3, [3], .null), (.iconst 3, [], .int 3), (.if_icmp .le 6, [36, 0], .null)], 33, 0) ∧
  pm_lk pb_t135 33 = ([(.bipush (-2), [], .int (-2)), (.ireturn, [0], .null)], 36, 1) ∧
  pm_lk pb_t135 36 = ([(.aload_n 0, [0], .null), (.getfield 57, [11, 8, 2, 118], .null), (.iload_n 1, [1], .null), (.iload_n 2, [2], .null), (.iload_n 3, [3], .null), (.invokevirtual 317, [14, 2, 121, 3, 1], .null), (.ifCond .eq 15, [61, 0], .null), (.aload_n 0, [0], .null), (.getfield 57, [11, 8, 2, 118], .null), (.getfield 321, [2, 0, 0, 79], .null), (.iconst 1, [], .int 1), (.isub, [], .null), (.goto 5, [63, 0], .null)], 61, 1) ∧
  pm_lk pb_t135 61 = ([(.bipush (-4), [], .int (-4))], 63, 0) ∧
  pm_lk pb_t135 63 = ([(.ireturn, [0], .null)], 64, 1) := ⟨rfl, rfl, rfl, rfl, rfl, rfl, rfl⟩
/- WrongsDesk.reaches(II)I: loops at [29] -/
def pb_t136 : pm_Tb := [(0, [(.iload_n 1, [1], .null), (.ifCond .lt 21, [22, 0], .null), (.iload_n 1, [1], .null), (.aload_n 0, [0], .null), (.getfield 57, [11, 8, 2, 118], .null), (.getfield 321, [2, 0, 0, 79], .null), (.if_icmp .ge 10, [22, 0], .null), (.iload_n 2, [2], .null), (.invokestatic 112, [102, 16, 1, 1], .null), (.ifCond .ne 5, [24, 0], .null)], 22, 0),
  (22, [(.iconst (-1), [], .int (-1)), (.ireturn, [0], .null)], 24, 1),
  (24, [(.iconst 0, [], .int 0), (.istore_n 3, [3], .null), (.iconst 0, [], .int 0), (.istore 4, [4], .null)], 29, 1),
  (29, [(.iload 4, [4], .null), (.aload_n 0, [0], .null), (.getfield 32, [11, 4, 0, 114], .null), (.if_icmp .ge 77, [112, 0], .null), (.aload_n 0, [0], .null), (.getfield 28, [11, 3, 2, 113], .null), (.iload 4, [4], .null), (.aaload, [23], .null), (.astore 5, [5], .null), (.aload 5, [5], .null), (.invokevirtual 307, [68, 7, 115, 0, 1], .null), (.iload_n 2, [2], .null), (.ifCond .ne 7, [60, 0], .null), (.iconst 1, [], .int 1), (.goto 4, [61, 0], .null)], 60, 1),
  (60, [(.iconst 0, [], .int 0)], 61, 0),
  (61, [(.if_icmp .ne 45, [106, 0], .null), (.aload_n 0, [0], .null), (.getfield 50, [11, 7, 2, 117], .null), (.aload 5, [5], .null), (.aload_n 0, [0], .null), (.getfield 12, [11, 0, 2, 110], .null), (.getfield 92, [3, 0, 0, 1], .null), (.invokevirtual 289, [7, 1, 108, 2, 1], .null), (.pop, [], .null), (.iload_n 3, [3], .null), (.aload_n 0, [0], .null), (.getfield 57, [11, 8, 2, 118], .null), (.iload_n 1, [1], .null), (.aload 5, [5], .null), (.aload_n 0, [0], .null), (.getfield 50, [11, 7, 2, 117], .null), (.invokevirtual 324, [15, 2, 123, 3, 1], .null), (.ifCond .eq 7, [103, 0], .null), (.iconst 1, [], .int 1), (.goto 4, [104, 0], .null)], 103, 1),
  (103, [(.iconst 0, [], .int 0)], 104, 0),
  (104, [(.iadd, [], .null), (.istore_n 3, [3], .null)], 106, 0),
  (106, [(.iinc 4 1, [4], .int 1), (.goto (-80), [29, 1], .null)], 112, 1),
  (112, [(.iload_n 3, [3], .null), (.ireturn, [0], .null)], 114, 1)]
theorem pb_c136 : pm_tok 136 pb_t136 = true := by decide +kernel
theorem pb_B136 : (pm_mL 136 = 6) ∧
  pm_lk pb_t136 0 = ([(.iload_n 1, [1], .null), (.ifCond .lt 21, [22, 0], .null), (.iload_n 1, [1], .null), (.aload_n 0, [0], .null), (.getfield 57, [11, 8, 2, 118], .null), (.getfield 321, [2, 0, 0, 79], .null), (.if_icmp .ge 10, [22, 0], .null), (.iload_n 2, [2], .null), (.invokestatic 112, [102, 16, 1, 1], .null), (.ifCond .ne 5, [24, 0], .null)], 22, 0) ∧
  pm_lk pb_t136 22 = ([(.iconst (-1), [], .int (-1)), (.ireturn, [0], .null)], 24, 1) ∧
  pm_lk pb_t136 24 = ([(.iconst 0, [], .int 0), (.istore_n 3, [3], .null), (.iconst 0, [], .int 0), (.istore 4, [4], .null)], 29, 1) ∧
  pm_lk pb_t136 29 = ([(.iload 4, [4], .null), (.aload_n 0, [0], .null), (.getfield 32, [11, 4, 0, 114], .null), (.if_icmp .ge 77, [112, 0], .null), (.aload_n 0, [0], .null), (.getfield 28, [11, 3, 2, 113], .null), (.iload 4, [4], .null), (.aaload, [23], .null), (.astore 5, [5], .null), (.aload 5, [5], .null), (.invokevirtual 307, [68, 7, 115, 0, 1], .null), (.iload_n 2, [2], .null), (.ifCond .ne 7, [60, 0], .null), (.iconst 1, [], .int 1), (.goto 4, [61, 0], .null)], 60, 1) ∧
  pm_lk pb_t136 60 = ([(.iconst 0, [], .int 0)], 61, 0) ∧
  pm_lk pb_t136 61 = ([(.if_icmp .ne 45, [106, 0], .null), (.aload_n 0, [0], .null), (.getfield 50, [11, 7, 2, 117], .null), (.aload 5, [5], .null), (.aload_n 0, [0], .null), (.getfield 12, [11, 0, 2, 110], .null), (.getfield 92, [3, 0, 0, 1], .null), (.invokevirtual 289, [7, 1, 108, 2, 1], .null), (.pop, [], .null), (.iload_n 3, [3], .null), (.aload_n 0, [0], .null), (.getfield 57, [11, 8, 2, 118], .null), (.iload_n 1, [1], .null), (.aload 5, [5], .null), (.aload_n 0, [0], .null), (.getfield 50, [11, 7, 2, 117], .null), (.invokevirtual 324, [15, 2, 123, 3, 1], .null), (.ifCond .eq 7, [103, 0], .null), (.iconst 1, [], .int 1), (.goto 4, [104, 0], .null)], 103, 1) ∧
  pm_lk pb_t136 103 = ([(.iconst 0, [], .int 0)], 104, 0) ∧
  pm_lk pb_t136 104 = ([(.iadd, [], .null), (.istore_n 3, [3], .null)], 106, 0) ∧
  pm_lk pb_t136 106 = ([(.iinc 4 1, [4], .int 1), (.goto (-80), [29, 1], .null)], 112, 1) ∧
  pm_lk pb_t136 112 = ([(.iload_n 3, [3], .null), (.ireturn, [0], .null)], 114, 1) := ⟨rfl, rfl, rfl, rfl, rfl, rfl, rfl, rfl, rfl, rfl, rfl⟩
/- WrongsDesk.fewest()I: loops at [9] -/
def pb_t137 : pm_Tb := [(0, [(.aload_n 0, [0], .null), (.getfield 57, [11, 8, 2, 118], .null), (.invokevirtual 328, [16, 2, 125, 0, 0], .null), (.iconst 0, [], .int 0), (.istore_n 1, [1], .null)], 9, 1),
  (9, [(.iload_n 1, [1], .null), (.aload_n 0, [0], .null), (.getfield 32, [11, 4, 0, 114], .null), (.if_icmp .ge 59, [73, 0], .null), (.aload_n 0, [0], .null), (.getfield 28, [11, 3, 2, 113], .null), (.iload_n 1, [1], .null), (.aaload, [23], .null), (.invokevirtual 307, [68, 7, 115, 0, 1], .null), (.ifCond .eq 41, [67, 0], .null), (.aload_n 0, [0], .null), (.getfield 50, [11, 7, 2, 117], .null), (.aload_n 0, [0], .null), (.getfield 28, [11, 3, 2, 113], .null), (.iload_n 1, [1], .null), (.aaload, [23], .null), (.aload_n 0, [0], .null), (.getfield 12, [11, 0, 2, 110], .null), (.getfield 92, [3, 0, 0, 1], .null), (.invokevirtual 289, [7, 1, 108, 2, 1], .null), (.pop, [], .null), (.aload_n 0, [0], .null), (.getfield 57, [11, 8, 2, 118], .null), (.aload_n 0, [0], .null), (.getfield 28, [11, 3, 2, 113], .null), (.iload_n 1, [1], .null), (.aaload, [23], .null), (.aload_n 0, [0], .null), (.getfield 50, [11, 7, 2, 117], .null), (.invokevirtual 331, [17, 2, 126, 2, 0], .null)], 67, 0),
  (67, [(.iinc 1 1, [1], .int 1), (.goto (-61), [9, 1], .null)], 73, 1),
  (73, [(.aload_n 0, [0], .null), (.getfield 57, [11, 8, 2, 118], .null), (.invokevirtual 335, [18, 2, 128, 0, 1], .null), (.ireturn, [0], .null)], 81, 1)]
theorem pb_c137 : pm_tok 137 pb_t137 = true := by decide +kernel
theorem pb_B137 : (pm_mL 137 = 2) ∧
  pm_lk pb_t137 0 = ([(.aload_n 0, [0], .null), (.getfield 57, [11, 8, 2, 118], .null), (.invokevirtual 328, [16, 2, 125, 0, 0], .null), (.iconst 0, [], .int 0), (.istore_n 1, [1], .null)], 9, 1) ∧
  pm_lk pb_t137 9 = ([(.iload_n 1, [1], .null), (.aload_n 0, [0], .null), (.getfield 32, [11, 4, 0, 114], .null), (.if_icmp .ge 59, [73, 0], .null), (.aload_n 0, [0], .null), (.getfield 28, [11, 3, 2, 113], .null), (.iload_n 1, [1], .null), (.aaload, [23], .null), (.invokevirtual 307, [68, 7, 115, 0, 1], .null), (.ifCond .eq 41, [67, 0], .null), (.aload_n 0, [0], .null), (.getfield 50, [11, 7, 2, 117], .null), (.aload_n 0, [0], .null), (.getfield 28, [11, 3, 2, 113], .null), (.iload_n 1, [1], .null), (.aaload, [23], .null), (.aload_n 0, [0], .null), (.getfield 12, [11, 0, 2, 110], .null), (.getfield 92, [3, 0, 0, 1], .null), (.invokevirtual 289, [7, 1, 108, 2, 1], .null), (.pop, [], .null), (.aload_n 0, [0], .null), (.getfield 57, [11, 8, 2, 118], .null), (.aload_n 0, [0], .null), (.getfield 28, [11, 3, 2, 113], .null), (.iload_n 1, [1], .null), (.aaload, [23], .null), (.aload_n 0, [0], .null), (.getfield 50, [11, 7, 2, 117], .null), (.invokevirtual 331, [17, 2, 126, 2, 0], .null)], 67, 0) ∧
  pm_lk pb_t137 67 = ([(.iinc 1 1, [1], .int 1), (.goto (-61), [9, 1], .null)], 73, 1) ∧
  pm_lk pb_t137 73 = ([(.aload_n 0, [0], .null), (.getfield 57, [11, 8, 2, 118], .null), (.invokevirtual 335, [18, 2, 128, 0, 1], .null), (.ireturn, [0], .null)], 81, 1) := ⟨rfl, rfl, rfl, rfl, rfl⟩
/- WrongsDesk.report(I)I: loops at [] -/
def pb_t138 : pm_Tb := [(0, [(.iload_n 1, [1], .null), (.ifCond .lt 9, [10, 0], .null), (.iload_n 1, [1], .null), (.bipush 7, [], .int 7), (.if_icmp .le 6, [13, 0], .null)], 10, 0),
  (10, [(.bipush (-2), [], .int (-2)), (.ireturn, [0], .null)], 13, 1),
  (13, [(.aload_n 0, [0], .null), (.getfield 64, [11, 9, 2, 119], .null), (.aload_n 0, [0], .null), (.getfield 28, [11, 3, 2, 113], .null), (.aload_n 0, [0], .null), (.getfield 32, [11, 4, 0, 114], .null), (.iload_n 1, [1], .null), (.invokevirtual 339, [73, 8, 132, 3, 0], .null), (.aload_n 0, [0], .null), (.getfield 64, [11, 9, 2, 119], .null), (.aload_n 0, [0], .null), (.getfield 18, [11, 1, 2, 111], .null), (.aload_n 0, [0], .null), (.getfield 50, [11, 7, 2, 117], .null), (.iconst (-1), [], .int (-1)), (.aload_n 0, [0], .null), (.getfield 12, [11, 0, 2, 110], .null), (.getfield 92, [3, 0, 0, 1], .null), (.invokevirtual 256, [3, 1, 105, 2, 3], .null), (.getfield 286, [5, 16, 0, 50], .null), (.invokevirtual 343, [77, 8, 136, 2, 0], .null), (.aload_n 0, [0], .null), (.getfield 64, [11, 9, 2, 119], .null), (.getfield 347, [8, 0, 0, 85], .null), (.ireturn, [0], .null)], 66, 1)]
theorem pb_c138 : pm_tok 138 pb_t138 = true := by decide +kernel
theorem pb_B138 : (pm_mL 138 = 2) ∧
  pm_lk pb_t138 0 = ([(.iload_n 1, [1], .null), (.ifCond .lt 9, [10, 0], .null), (.iload_n 1, [1], .null), (.bipush 7, [], .int 7), (.if_icmp .le 6, [13, 0], .null)], 10, 0) ∧
  pm_lk pb_t138 10 = ([(.bipush (-2), [], .int (-2)), (.ireturn, [0], .null)], 13, 1) ∧
  pm_lk pb_t138 13 = ([(.aload_n 0, [0], .null), (.getfield 64, [11, 9, 2, 119], .null), (.aload_n 0, [0], .null), (.getfield 28, [11, 3, 2, 113], .null), (.aload_n 0, [0], .null), (.getfield 32, [11, 4, 0, 114], .null), (.iload_n 1, [1], .null), (.invokevirtual 339, [73, 8, 132, 3, 0], .null), (.aload_n 0, [0], .null), (.getfield 64, [11, 9, 2, 119], .null), (.aload_n 0, [0], .null), (.getfield 18, [11, 1, 2, 111], .null), (.aload_n 0, [0], .null), (.getfield 50, [11, 7, 2, 117], .null), (.iconst (-1), [], .int (-1)), (.aload_n 0, [0], .null), (.getfield 12, [11, 0, 2, 110], .null), (.getfield 92, [3, 0, 0, 1], .null), (.invokevirtual 256, [3, 1, 105, 2, 3], .null), (.getfield 286, [5, 16, 0, 50], .null), (.invokevirtual 343, [77, 8, 136, 2, 0], .null), (.aload_n 0, [0], .null), (.getfield 64, [11, 9, 2, 119], .null), (.getfield 347, [8, 0, 0, 85], .null), (.ireturn, [0], .null)], 66, 1) := ⟨rfl, rfl, rfl, rfl⟩
/- WrongsDesk.row(II)I: loops at [] -/
def pb_t139 : pm_Tb := [(0, [(.iload_n 1, [1], .null), (.ifCond .lt 23, [24, 0], .null), (.iload_n 1, [1], .null), (.aload_n 0, [0], .null), (.getfield 64, [11, 9, 2, 119], .null), (.getfield 347, [8, 0, 0, 85], .null), (.if_icmp .ge 12, [24, 0], .null), (.iload_n 2, [2], .null), (.ifCond .lt 8, [24, 0], .null), (.iload_n 2, [2], .null), (.iconst 3, [], .int 3), (.if_icmp .le 5, [26, 0], .null)], 24, 0),
  (24, [(.iconst (-1), [], .int (-1)), (.ireturn, [0], .null)], 26, 1),
  (26, [(.aload_n 0, [0], .null), (.getfield 64, [11, 9, 2, 119], .null), (.getfield 348, [8, 3, 2, 91], .null), (.iload_n 1, [1], .null), (.baload, [], .null), (.ifCond .eq 6, [41, 0], .null), (.bipush (-3), [], .int (-3)), (.ireturn, [0], .null)], 41, 1),
  (41, [(.iload_n 2, [2], .null), (.tableswitch 65 0 2 #[26, 36, 49], [0, 68, 0, 1, 78, 0, 2, 91, 0, 107, 0], .null)], 68, 1),
  (68, [(.aload_n 0, [0], .null), (.getfield 64, [11, 9, 2, 119], .null), (.getfield 352, [8, 2, 2, 89], .null), (.iload_n 1, [1], .null), (.iaload, [], .null), (.ireturn, [0], .null)], 78, 1),
  (78, [(.aload_n 0, [0], .null), (.getfield 64, [11, 9, 2, 119], .null), (.getfield 355, [8, 1, 2, 87], .null), (.iload_n 1, [1], .null), (.iaload, [], .null), (.bipush 100, [], .int 100), (.idiv, [], .null), (.ireturn, [0], .null)], 91, 1),
  (91, [(.aload_n 0, [0], .null), (.getfield 64, [11, 9, 2, 119], .null), (.getfield 355, [8, 1, 2, 87], .null), (.iload_n 1, [1], .null), (.iaload, [], .null), (.bipush 10, [], .int 10), (.idiv, [], .null), (.bipush 10, [], .int 10), (.irem, [], .null), (.ireturn, [0], .null)], 107, 1),
  (107, [(.aload_n 0, [0], .null), (.getfield 64, [11, 9, 2, 119], .null), (.getfield 355, [8, 1, 2, 87], .null), (.iload_n 1, [1], .null), (.iaload, [], .null), (.bipush 10, [], .int 10), (.irem, [], .null), (.ireturn, [0], .null)], 120, 1)]
theorem pb_c139 : pm_tok 139 pb_t139 = true := by decide +kernel
theorem pb_B139 : (pm_mL 139 = 3) ∧
  pm_lk pb_t139 0 = ([(.iload_n 1, [1], .null), (.ifCond .lt 23, [24, 0], .null), (.iload_n 1, [1], .null), (.aload_n 0, [0], .null), (.getfield 64, [11, 9, 2, 119], .null), (.getfield 347, [8, 0, 0, 85], .null), (.if_icmp .ge 12, [24, 0], .null), (.iload_n 2, [2], .null), (.ifCond .lt 8, [24, 0], .null), (.iload_n 2, [2], .null), (.iconst 3, [], .int 3), (.if_icmp .le 5, [26, 0], .null)], 24, 0) ∧
  pm_lk pb_t139 24 = ([(.iconst (-1), [], .int (-1)), (.ireturn, [0], .null)], 26, 1) ∧
  pm_lk pb_t139 26 = ([(.aload_n 0, [0], .null), (.getfield 64, [11, 9, 2, 119], .null), (.getfield 348, [8, 3, 2, 91], .null), (.iload_n 1, [1], .null), (.baload, [], .null), (.ifCond .eq 6, [41, 0], .null), (.bipush (-3), [], .int (-3)), (.ireturn, [0], .null)], 41, 1) ∧
  pm_lk pb_t139 41 = ([(.iload_n 2, [2], .null), (.tableswitch 65 0 2 #[26, 36, 49], [0, 68, 0, 1, 78, 0, 2, 91, 0, 107, 0], .null)], 68, 1) ∧
  pm_lk pb_t139 68 = ([(.aload_n 0, [0], .null), (.getfield 64, [11, 9, 2, 119], .null), (.getfield 352, [8, 2, 2, 89], .null), (.iload_n 1, [1], .null), (.iaload, [], .null), (.ireturn, [0], .null)], 78, 1) ∧
  pm_lk pb_t139 78 = ([(.aload_n 0, [0], .null), (.getfield 64, [11, 9, 2, 119], .null), (.getfield 355, [8, 1, 2, 87], .null), (.iload_n 1, [1], .null), (.iaload, [], .null), (.bipush 100, [], .int 100), (.idiv, [], .null), (.ireturn, [0], .null)], 91, 1) ∧
  pm_lk pb_t139 91 = ([(.aload_n 0, [0], .null), (.getfield 64, [11, 9, 2, 119], .null), (.getfield 355, [8, 1, 2, 87], .null), (.iload_n 1, [1], .null), (.iaload, [], .null), (.bipush 10, [], .int 10), (.idiv, [], .null), (.bipush 10, [], .int 10), (.irem, [], .null), (.ireturn, [0], .null)], 107, 1) ∧
  pm_lk pb_t139 107 = ([(.aload_n 0, [0], .null), (.getfield 64, [11, 9, 2, 119], .null), (.getfield 355, [8, 1, 2, 87], .null), (.iload_n 1, [1], .null), (.iaload, [], .null), (.bipush 10, [], .int 10), (.irem, [], .null), (.ireturn, [0], .null)], 120, 1) := ⟨rfl, rfl, rfl, rfl, rfl, rfl, rfl, rfl, rfl⟩
/- WrongsDesk.grade(III)I: loops at [] -/
def pb_t140 : pm_Tb := [(0, [(.aload_n 0, [0], .null), (.iload_n 2, [2], .null), (.invokevirtual 127, [108, 11, 23, 1, 3], .null), (.astore 4, [4], .null), (.iload_n 1, [1], .null), (.invokestatic 358, [141, 140, 1, 1], .null), (.ifCond .eq 8, [19, 0], .null), (.aload 4, [4], .null), (.ifnonnull 5, [21, 0], .null)], 19, 0),
  (19, [(.iconst (-1), [], .int (-1)), (.ireturn, [0], .null)], 21, 1),
  (21, [(.iload_n 3, [3], .null), (.ifCond .lt 9, [31, 0], .null), (.iload_n 3, [3], .null), (.bipush 9, [], .int 9), (.if_icmp .le 6, [34, 0], .null)], 31, 0),
  (31, [(.bipush (-2), [], .int (-2)), (.ireturn, [0], .null)], 34, 1),
  (34, [(.aload 4, [4], .null), (.getfield 361, [7, 16, 2, 169], .null), (.iload_n 1, [1], .null), (.iaload, [], .null), (.ifCond .ge 13, [54, 0], .null), (.aload_n 0, [0], .null), (.dup, [], .null), (.getfield 68, [11, 10, 0, 120], .null), (.iconst 1, [], .int 1), (.iadd, [], .null), (.putfield 68, [11, 10, 0, 120, 0], .null)], 54, 0),
  (54, [(.aload 4, [4], .null), (.getfield 361, [7, 16, 2, 169], .null), (.iload_n 1, [1], .null), (.iload_n 3, [3], .null), (.iastore, [], .null), (.aload_n 0, [0], .null), (.getfield 68, [11, 10, 0, 120], .null), (.ireturn, [0], .null)], 67, 1)]
theorem pb_c140 : pm_tok 140 pb_t140 = true := by decide +kernel
theorem pb_B140 : (pm_mL 140 = 5) ∧
  pm_lk pb_t140 0 = ([(.aload_n 0, [0], .null), (.iload_n 2, [2], .null), (.invokevirtual 127, [108, 11, 23, 1, 3], .null), (.astore 4, [4], .null), (.iload_n 1, [1], .null), (.invokestatic 358, [141, 140, 1, 1], .null), (.ifCond .eq 8, [19, 0], .null), (.aload 4, [4], .null), (.ifnonnull 5, [21, 0], .null)], 19, 0) ∧
  pm_lk pb_t140 19 = ([(.iconst (-1), [], .int (-1)), (.ireturn, [0], .null)], 21, 1) ∧
  pm_lk pb_t140 21 = ([(.iload_n 3, [3], .null), (.ifCond .lt 9, [31, 0], .null), (.iload_n 3, [3], .null), (.bipush 9, [], .int 9), (.if_icmp .le 6, [34, 0], .null)], 31, 0) ∧
  pm_lk pb_t140 31 = ([(.bipush (-2), [], .int (-2)), (.ireturn, [0], .null)], 34, 1) ∧
  pm_lk pb_t140 34 = ([(.aload 4, [4], .null), (.getfield 361, [7, 16, 2, 169], .null), (.iload_n 1, [1], .null), (.iaload, [], .null), (.ifCond .ge 13, [54, 0], .null), (.aload_n 0, [0], .null), (.dup, [], .null), (.getfield 68, [11, 10, 0, 120], .null), (.iconst 1, [], .int 1), (.iadd, [], .null), (.putfield 68, [11, 10, 0, 120, 0], .null)], 54, 0) ∧
  pm_lk pb_t140 54 = ([(.aload 4, [4], .null), (.getfield 361, [7, 16, 2, 169], .null), (.iload_n 1, [1], .null), (.iload_n 3, [3], .null), (.iastore, [], .null), (.aload_n 0, [0], .null), (.getfield 68, [11, 10, 0, 120], .null), (.ireturn, [0], .null)], 67, 1) := ⟨rfl, rfl, rfl, rfl, rfl, rfl, rfl⟩
/- WrongsDesk.isHand(I)Z: loops at [] -/
def pb_t141 : pm_Tb := [(0, [(.iload_n 0, [0], .null), (.ifCond .lt 13, [14, 0], .null), (.iload_n 0, [0], .null), (.bipush 6, [], .int 6), (.if_icmp .ge 7, [14, 0], .null), (.iconst 1, [], .int 1), (.goto 4, [15, 0], .null)], 14, 1),
  (14, [(.iconst 0, [], .int 0)], 15, 0),
  (15, [(.ireturn, [1], .null)], 16, 1)]
theorem pb_c141 : pm_tok 141 pb_t141 = true := by decide +kernel
theorem pb_B141 : (pm_mL 141 = 1) ∧
  pm_lk pb_t141 0 = ([(.iload_n 0, [0], .null), (.ifCond .lt 13, [14, 0], .null), (.iload_n 0, [0], .null), (.bipush 6, [], .int 6), (.if_icmp .ge 7, [14, 0], .null), (.iconst 1, [], .int 1), (.goto 4, [15, 0], .null)], 14, 1) ∧
  pm_lk pb_t141 14 = ([(.iconst 0, [], .int 0)], 15, 0) ∧
  pm_lk pb_t141 15 = ([(.ireturn, [1], .null)], 16, 1) := ⟨rfl, rfl, rfl, rfl⟩
/- WrongsDesk.habit(II)J: loops at [26] -/
def pb_t142 : pm_Tb := [(0, [(.iload_n 1, [1], .null), (.invokestatic 358, [141, 140, 1, 1], .null), (.ifCond .eq 10, [14, 0], .null), (.iload_n 2, [2], .null), (.invokestatic 112, [102, 16, 1, 1], .null), (.ifCond .ne 7, [18, 0], .null)], 14, 0),
  (14, [(.ldc2_w 364, [2], .long (-9223372036854775808)), (.lreturn, [], .null)], 18, 1),
  (18, [(.lconst 0, [], .long 0), (.lstore_n 3, [3], .null), (.lconst 0, [], .long 0), (.lstore 5, [5], .null), (.iconst 0, [], .int 0), (.istore 7, [7], .null)], 26, 1),
  (26, [(.iload 7, [7], .null), (.aload_n 0, [0], .null), (.getfield 32, [11, 4, 0, 114], .null), (.if_icmp .ge 46, [78, 0], .null), (.aload_n 0, [0], .null), (.getfield 28, [11, 3, 2, 113], .null), (.iload 7, [7], .null), (.aaload, [23], .null), (.iload_n 1, [1], .null), (.invokevirtual 366, [69, 7, 142, 1, 1], .null), (.ifCond .eq 26, [72, 0], .null), (.lload_n 3, [3], .null), (.aload_n 0, [0], .null), (.getfield 28, [11, 3, 2, 113], .null), (.iload 7, [7], .null), (.aaload, [23], .null), (.iload_n 1, [1], .null), (.invokevirtual 369, [71, 7, 144, 1, 1], .null), (.i2l, [], .null), (.ladd, [], .null), (.lstore_n 3, [3], .null), (.lload 5, [5], .null), (.ldc2_w 372, [3], .long 60), (.ladd, [], .null), (.lstore 5, [5], .null)], 72, 0),
  (72, [(.iinc 7 1, [7], .int 1), (.goto (-49), [26, 1], .null)], 78, 1),
  (78, [(.lload 5, [5], .null), (.lconst 0, [], .long 0), (.lcmp, [], .null), (.ifCond .ne 7, [89, 0], .null), (.ldc2_w 364, [2], .long (-9223372036854775808)), (.lreturn, [], .null)], 89, 1),
  (89, [(.lload_n 3, [3], .null), (.invokestatic 374, [94, 145], .null), (.lload 5, [5], .null), (.invokestatic 380, [143, 146, 2, 2], .null), (.lstore 7, [7], .null), (.lload 7, [7], .null), (.lconst 1, [], .long 1), (.lcmp, [], .null), (.ifCond .ge 7, [111, 0], .null), (.ldc2_w 364, [2], .long (-9223372036854775808)), (.lreturn, [], .null)], 111, 1),
  (111, [(.iload_n 2, [2], .null), (.ifCond .ne 10, [122, 0], .null), (.lload_n 3, [3], .null), (.lload 7, [7], .null), (.ldiv, [], .null), (.goto 8, [127, 0], .null)], 122, 1),
  (122, [(.lload 5, [5], .null), (.lload 7, [7], .null), (.ldiv, [], .null)], 127, 0),
  (127, [(.lreturn, [], .null)], 128, 1)]
theorem pb_c142 : pm_tok 142 pb_t142 = true := by decide +kernel
theorem pb_B142 : (pm_mL 142 = 9) ∧
  pm_lk pb_t142 0 = ([(.iload_n 1, [1], .null), (.invokestatic 358, [141, 140, 1, 1], .null), (.ifCond .eq 10, [14, 0], .null), (.iload_n 2, [2], .null), (.invokestatic 112, [102, 16, 1, 1], .null), (.ifCond .ne 7, [18, 0], .null)], 14, 0) ∧
  pm_lk pb_t142 14 = ([(.ldc2_w 364, [2], .long (-9223372036854775808)), (.lreturn, [], .null)], 18, 1) ∧
  pm_lk pb_t142 18 = ([(.lconst 0, [], .long 0), (.lstore_n 3, [3], .null), (.lconst 0, [], .long 0), (.lstore 5, [5], .null), (.iconst 0, [], .int 0), (.istore 7, [7], .null)], 26, 1) ∧
  pm_lk pb_t142 26 = ([(.iload 7, [7], .null), (.aload_n 0, [0], .null), (.getfield 32, [11, 4, 0, 114], .null), (.if_icmp .ge 46, [78, 0], .null), (.aload_n 0, [0], .null), (.getfield 28, [11, 3, 2, 113], .null), (.iload 7, [7], .null), (.aaload, [23], .null), (.iload_n 1, [1], .null), (.invokevirtual 366, [69, 7, 142, 1, 1], .null), (.ifCond .eq 26, [72, 0], .null), (.lload_n 3, [3], .null), (.aload_n 0, [0], .null), (.getfield 28, [11, 3, 2, 113], .null), (.iload 7, [7], .null), (.aaload, [23], .null), (.iload_n 1, [1], .null), (.invokevirtual 369, [71, 7, 144, 1, 1], .null), (.i2l, [], .null), (.ladd, [], .null), (.lstore_n 3, [3], .null), (.lload 5, [5], .null), (.ldc2_w 372, [3], .long 60), (.ladd, [], .null), (.lstore 5, [5], .null)], 72, 0) ∧
  pm_lk pb_t142 72 = ([(.iinc 7 1, [7], .int 1), (.goto (-49), [26, 1], .null)], 78, 1) ∧
  pm_lk pb_t142 78 = ([(.lload 5, [5], .null), (.lconst 0, [], .long 0), (.lcmp, [], .null), (.ifCond .ne 7, [89, 0], .null), (.ldc2_w 364, [2], .long (-9223372036854775808)), (.lreturn, [], .null)], 89, 1) ∧
  pm_lk pb_t142 89 = ([(.lload_n 3, [3], .null), (.invokestatic 374, [94, 145], .null), (.lload 5, [5], .null), (.invokestatic 380, [143, 146, 2, 2], .null), (.lstore 7, [7], .null), (.lload 7, [7], .null), (.lconst 1, [], .long 1), (.lcmp, [], .null), (.ifCond .ge 7, [111, 0], .null), (.ldc2_w 364, [2], .long (-9223372036854775808)), (.lreturn, [], .null)], 111, 1) ∧
  pm_lk pb_t142 111 = ([(.iload_n 2, [2], .null), (.ifCond .ne 10, [122, 0], .null), (.lload_n 3, [3], .null), (.lload 7, [7], .null), (.ldiv, [], .null), (.goto 8, [127, 0], .null)], 122, 1) ∧
  pm_lk pb_t142 122 = ([(.lload 5, [5], .null), (.lload 7, [7], .null), (.ldiv, [], .null)], 127, 0) ∧
  pm_lk pb_t142 127 = ([(.lreturn, [], .null)], 128, 1) := ⟨rfl, rfl, rfl, rfl, rfl, rfl, rfl, rfl, rfl, rfl, rfl⟩
/- WrongsDesk.commonDivisor(JJ)J: loops at [9] -/
def pb_t143 : pm_Tb := [(0, [(.lload_n 0, [0], .null), (.lstore 4, [4], .null), (.lload_n 2, [2], .null), (.lstore 6, [6], .null), (.iconst 0, [], .int 0), (.istore 8, [8], .null)], 9, 1),
  (9, [(.iload 8, [8], .null), (.bipush 100, [], .int 100), (.if_icmp .ge 31, [44, 0], .null), (.lload 6, [6], .null), (.lconst 0, [], .long 0), (.lcmp, [], .null), (.ifCond .eq 24, [44, 0], .null), (.lload 4, [4], .null), (.lload 6, [6], .null), (.lrem, [], .null), (.lstore 9, [9], .null), (.lload 6, [6], .null), (.lstore 4, [4], .null), (.lload 9, [9], .null), (.lstore 6, [6], .null), (.iinc 8 1, [8], .int 1), (.goto (-32), [9, 1], .null)], 44, 1),
  (44, [(.lload 4, [4], .null), (.lreturn, [], .null)], 47, 1)]
theorem pb_c143 : pm_tok 143 pb_t143 = true := by decide +kernel
theorem pb_B143 : (pm_mL 143 = 11) ∧
  pm_lk pb_t143 0 = ([(.lload_n 0, [0], .null), (.lstore 4, [4], .null), (.lload_n 2, [2], .null), (.lstore 6, [6], .null), (.iconst 0, [], .int 0), (.istore 8, [8], .null)], 9, 1) ∧
  pm_lk pb_t143 9 = ([(.iload 8, [8], .null), (.bipush 100, [], .int 100), (.if_icmp .ge 31, [44, 0], .null), (.lload 6, [6], .null), (.lconst 0, [], .long 0), (.lcmp, [], .null), (.ifCond .eq 24, [44, 0], .null), (.lload 4, [4], .null), (.lload 6, [6], .null), (.lrem, [], .null), (.lstore 9, [9], .null), (.lload 6, [6], .null), (.lstore 4, [4], .null), (.lload 9, [9], .null), (.lstore 6, [6], .null), (.iinc 8 1, [8], .int 1), (.goto (-32), [9, 1], .null)], 44, 1) ∧
  pm_lk pb_t143 44 = ([(.lload 4, [4], .null), (.lreturn, [], .null)], 47, 1) := ⟨rfl, rfl, rfl, rfl⟩
/- WrongsDesk.agreed(II)I: loops at [29] -/
def pb_t144 : pm_Tb := [(0, [(.iload_n 1, [1], .null), (.invokestatic 358, [141, 140, 1, 1], .null), (.ifCond .eq 10, [14, 0], .null), (.iload_n 2, [2], .null), (.invokestatic 358, [141, 140, 1, 1], .null), (.ifCond .ne 5, [16, 0], .null)], 14, 0),
  (14, [(.iconst (-1), [], .int (-1)), (.ireturn, [0], .null)], 16, 1),
  (16, [(.iload_n 1, [1], .null), (.iload_n 2, [2], .null), (.if_icmp .ne 6, [24, 0], .null), (.bipush (-2), [], .int (-2)), (.ireturn, [0], .null)], 24, 1),
  (24, [(.iconst 0, [], .int 0), (.istore_n 3, [3], .null), (.iconst 0, [], .int 0), (.istore 4, [4], .null)], 29, 1),
  (29, [(.iload 4, [4], .null), (.aload_n 0, [0], .null), (.getfield 32, [11, 4, 0, 114], .null), (.if_icmp .ge 62, [97, 0], .null), (.aload_n 0, [0], .null), (.getfield 28, [11, 3, 2, 113], .null), (.iload 4, [4], .null), (.aaload, [23], .null), (.getfield 361, [7, 16, 2, 169], .null), (.iload_n 1, [1], .null), (.iaload, [], .null), (.istore 5, [5], .null), (.aload_n 0, [0], .null), (.getfield 28, [11, 3, 2, 113], .null), (.iload 4, [4], .null), (.aaload, [23], .null), (.getfield 361, [7, 16, 2, 169], .null), (.iload_n 2, [2], .null), (.iaload, [], .null), (.istore 6, [6], .null), (.iload 5, [5], .null), (.ifCond .lt 23, [91, 0], .null), (.iload 6, [6], .null), (.ifCond .lt 18, [91, 0], .null), (.iload 5, [5], .null), (.iload 6, [6], .null), (.isub, [], .null), (.invokestatic 384, [93, 148], .null), (.iconst 1, [], .int 1), (.if_icmp .gt 6, [91, 0], .null), (.iinc 3 1, [3], .int 1)], 91, 0),
  (91, [(.iinc 4 1, [4], .int 1), (.goto (-65), [29, 1], .null)], 97, 1),
  (97, [(.iload_n 3, [3], .null), (.ireturn, [0], .null)], 99, 1)]
theorem pb_c144 : pm_tok 144 pb_t144 = true := by decide +kernel
theorem pb_B144 : (pm_mL 144 = 7) ∧
  pm_lk pb_t144 0 = ([(.iload_n 1, [1], .null), (.invokestatic 358, [141, 140, 1, 1], .null), (.ifCond .eq 10, [14, 0], .null), (.iload_n 2, [2], .null), (.invokestatic 358, [141, 140, 1, 1], .null), (.ifCond .ne 5, [16, 0], .null)], 14, 0) ∧
  pm_lk pb_t144 14 = ([(.iconst (-1), [], .int (-1)), (.ireturn, [0], .null)], 16, 1) ∧
  pm_lk pb_t144 16 = ([(.iload_n 1, [1], .null), (.iload_n 2, [2], .null), (.if_icmp .ne 6, [24, 0], .null), (.bipush (-2), [], .int (-2)), (.ireturn, [0], .null)], 24, 1) ∧
  pm_lk pb_t144 24 = ([(.iconst 0, [], .int 0), (.istore_n 3, [3], .null), (.iconst 0, [], .int 0), (.istore 4, [4], .null)], 29, 1) ∧
  pm_lk pb_t144 29 = ([(.iload 4, [4], .null), (.aload_n 0, [0], .null), (.getfield 32, [11, 4, 0, 114], .null), (.if_icmp .ge 62, [97, 0], .null), (.aload_n 0, [0], .null), (.getfield 28, [11, 3, 2, 113], .null), (.iload 4, [4], .null), (.aaload, [23], .null), (.getfield 361, [7, 16, 2, 169], .null), (.iload_n 1, [1], .null), (.iaload, [], .null), (.istore 5, [5], .null), (.aload_n 0, [0], .null), (.getfield 28, [11, 3, 2, 113], .null), (.iload 4, [4], .null), (.aaload, [23], .null), (.getfield 361, [7, 16, 2, 169], .null), (.iload_n 2, [2], .null), (.iaload, [], .null), (.istore 6, [6], .null), (.iload 5, [5], .null), (.ifCond .lt 23, [91, 0], .null), (.iload 6, [6], .null), (.ifCond .lt 18, [91, 0], .null), (.iload 5, [5], .null), (.iload 6, [6], .null), (.isub, [], .null), (.invokestatic 384, [93, 148], .null), (.iconst 1, [], .int 1), (.if_icmp .gt 6, [91, 0], .null), (.iinc 3 1, [3], .int 1)], 91, 0) ∧
  pm_lk pb_t144 91 = ([(.iinc 4 1, [4], .int 1), (.goto (-65), [29, 1], .null)], 97, 1) ∧
  pm_lk pb_t144 97 = ([(.iload_n 3, [3], .null), (.ireturn, [0], .null)], 99, 1) := ⟨rfl, rfl, rfl, rfl, rfl, rfl, rfl, rfl⟩
/- WrongsDesk.plan(III)I: loops at [] -/
def pb_t145 : pm_Tb := [(0, [(.aload_n 0, [0], .null), (.iload_n 1, [1], .null), (.invokevirtual 127, [108, 11, 23, 1, 3], .null), (.ifnonnull 5, [10, 0], .null), (.iconst (-1), [], .int (-1)), (.ireturn, [0], .null)], 10, 1),
  (10, [(.iload_n 2, [2], .null), (.iconst 1, [], .int 1), (.if_icmp .lt 16, [28, 0], .null), (.iload_n 2, [2], .null), (.bipush 9, [], .int 9), (.if_icmp .gt 10, [28, 0], .null), (.iload_n 3, [3], .null), (.invokestatic 95, [99, 7, 1, 1], .null), (.ifCond .ne 6, [31, 0], .null)], 28, 0),
  (28, [(.bipush (-2), [], .int (-2)), (.ireturn, [0], .null)], 31, 1),
  (31, [(.aload_n 0, [0], .null), (.getfield 74, [11, 11, 2, 121], .null), (.iload_n 1, [1], .null), (.invokevirtual 386, [85, 10, 150, 1, 1], .null), (.ifCond .eq 6, [45, 0], .null), (.bipush (-3), [], .int (-3)), (.ireturn, [0], .null)], 45, 1),
  (45, [(.aload_n 0, [0], .null), (.getfield 74, [11, 11, 2, 121], .null), (.iload_n 1, [1], .null), (.iload_n 2, [2], .null), (.iload_n 3, [3], .null), (.invokevirtual 389, [86, 10, 151, 3, 1], .null), (.ifCond .eq 13, [68, 0], .null), (.aload_n 0, [0], .null), (.getfield 74, [11, 11, 2, 121], .null), (.getfield 390, [10, 0, 0, 94], .null), (.goto 5, [70, 0], .null)], 68, 1),
  (68, [(.bipush (-4), [], .int (-4))], 70, 0),
  (70, [(.ireturn, [0], .null)], 71, 1)]
theorem pb_c145 : pm_tok 145 pb_t145 = true := by decide +kernel
theorem pb_B145 : (pm_mL 145 = 4) ∧
  pm_lk pb_t145 0 = ([(.aload_n 0, [0], .null), (.iload_n 1, [1], .null), (.invokevirtual 127, [108, 11, 23, 1, 3], .null), (.ifnonnull 5, [10, 0], .null), (.iconst (-1), [], .int (-1)), (.ireturn, [0], .null)], 10, 1) ∧
  pm_lk pb_t145 10 = ([(.iload_n 2, [2], .null), (.iconst 1, [], .int 1), (.if_icmp .lt 16, [28, 0], .null), (.iload_n 2, [2], .null), (.bipush 9, [], .int 9), (.if_icmp .gt 10, [28, 0], .null), (.iload_n 3, [3], .null), (.invokestatic 95, [99, 7, 1, 1], .null), (.ifCond .ne 6, [31, 0], .null)], 28, 0) ∧
  pm_lk pb_t145 28 = ([(.bipush (-2), [], .int (-2)), (.ireturn, [0], .null)], 31, 1) ∧
  pm_lk pb_t145 31 = ([(.aload_n 0, [0], .null), (.getfield 74, [11, 11, 2, 121], .null), (.iload_n 1, [1], .null), (.invokevirtual 386, [85, 10, 150, 1, 1], .null), (.ifCond .eq 6, [45, 0], .null), (.bipush (-3), [], .int (-3)), (.ireturn, [0], .null)], 45, 1) ∧
  pm_lk pb_t145 45 = ([(.aload_n 0, [0], .null), (.getfield 74, [11, 11, 2, 121], .null), (.iload_n 1, [1], .null), (.iload_n 2, [2], .null), (.iload_n 3, [3], .null), (.invokevirtual 389, [86, 10, 151, 3, 1], .null), (.ifCond .eq 13, [68, 0], .null), (.aload_n 0, [0], .null), (.getfield 74, [11, 11, 2, 121], .null), (.getfield 390, [10, 0, 0, 94], .null), (.goto 5, [70, 0], .null)], 68, 1) ∧
  pm_lk pb_t145 68 = ([(.bipush (-4), [], .int (-4))], 70, 0) ∧
  pm_lk pb_t145 70 = ([(.ireturn, [0], .null)], 71, 1) := ⟨rfl, rfl, rfl, rfl, rfl, rfl, rfl, rfl⟩
/- WrongsDesk.planless()I: loops at [] -/
def pb_t146 : pm_Tb := [(0, [(.aload_n 0, [0], .null), (.getfield 74, [11, 11, 2, 121], .null), (.getfield 390, [10, 0, 0, 94], .null), (.istore_n 1, [1], .null), (.aload_n 0, [0], .null), (.getfield 74, [11, 11, 2, 121], .null), (.iconst 0, [], .int 0), (.putfield 390, [10, 0, 0, 94, 0], .null), (.iload_n 1, [1], .null), (.ireturn, [0], .null)], 18, 1)]
theorem pb_c146 : pm_tok 146 pb_t146 = true := by decide +kernel
theorem pb_B146 : (pm_mL 146 = 2) ∧
  pm_lk pb_t146 0 = ([(.aload_n 0, [0], .null), (.getfield 74, [11, 11, 2, 121], .null), (.getfield 390, [10, 0, 0, 94], .null), (.istore_n 1, [1], .null), (.aload_n 0, [0], .null), (.getfield 74, [11, 11, 2, 121], .null), (.iconst 0, [], .int 0), (.putfield 390, [10, 0, 0, 94, 0], .null), (.iload_n 1, [1], .null), (.ireturn, [0], .null)], 18, 1) := ⟨rfl, rfl⟩
/- WrongsDesk.week(I)I: loops at [] -/
def pb_t147 : pm_Tb := [(0, [(.iload_n 1, [1], .null), (.bipush 10, [], .int 10), (.if_icmp .lt 21, [24, 0], .null), (.iload_n 1, [1], .null), (.bipush 10, [], .int 10), (.isub, [], .null), (.aload_n 0, [0], .null), (.getfield 74, [11, 11, 2, 121], .null), (.getfield 390, [10, 0, 0, 94], .null), (.if_icmp .ge 7, [24, 0], .null), (.iconst 1, [], .int 1), (.goto 4, [25, 0], .null)], 24, 1),
  (24, [(.iconst 0, [], .int 0)], 25, 0),
  (25, [(.istore_n 2, [2], .null), (.iload_n 1, [1], .null), (.invokestatic 112, [102, 16, 1, 1], .null), (.ifCond .ne 9, [39, 0], .null), (.iload_n 2, [2], .null), (.ifCond .ne 5, [39, 0], .null), (.iconst (-1), [], .int (-1)), (.ireturn, [0], .null)], 39, 1),
  (39, [(.aload_n 0, [0], .null), (.getfield 74, [11, 11, 2, 121], .null), (.aload_n 0, [0], .null), (.getfield 12, [11, 0, 2, 110], .null), (.invokevirtual 391, [87, 10, 154, 1, 0], .null), (.iload_n 1, [1], .null), (.ifCond .ne 11, [62, 0], .null), (.aload_n 0, [0], .null), (.getfield 74, [11, 11, 2, 121], .null), (.invokevirtual 394, [91, 10, 160, 0, 1], .null), (.ireturn, [0], .null)], 62, 1),
  (62, [(.iload_n 1, [1], .null), (.iconst 1, [], .int 1), (.if_icmp .ne 13, [77, 0], .null), (.aload_n 0, [0], .null), (.getfield 74, [11, 11, 2, 121], .null), (.invokevirtual 397, [92, 10, 161, 0, 1], .null), (.goto 14, [88, 0], .null)], 77, 1),
  (77, [(.aload_n 0, [0], .null), (.getfield 74, [11, 11, 2, 121], .null), (.iload_n 1, [1], .null), (.bipush 10, [], .int 10), (.isub, [], .null), (.invokevirtual 400, [93, 10, 162, 1, 1], .null)], 88, 0),
  (88, [(.ireturn, [0], .null)], 89, 1)]
theorem pb_c147 : pm_tok 147 pb_t147 = true := by decide +kernel
theorem pb_B147 : (pm_mL 147 = 3) ∧
  pm_lk pb_t147 0 = ([(.iload_n 1, [1], .null), (.bipush 10, [], .int 10), (.if_icmp .lt 21, [24, 0], .null), (.iload_n 1, [1], .null), (.bipush 10, [], .int 10), (.isub, [], .null), (.aload_n 0, [0], .null), (.getfield 74, [11, 11, 2, 121], .null), (.getfield 390, [10, 0, 0, 94], .null), (.if_icmp .ge 7, [24, 0], .null), (.iconst 1, [], .int 1), (.goto 4, [25, 0], .null)], 24, 1) ∧
  pm_lk pb_t147 24 = ([(.iconst 0, [], .int 0)], 25, 0) ∧
  pm_lk pb_t147 25 = ([(.istore_n 2, [2], .null), (.iload_n 1, [1], .null), (.invokestatic 112, [102, 16, 1, 1], .null), (.ifCond .ne 9, [39, 0], .null), (.iload_n 2, [2], .null), (.ifCond .ne 5, [39, 0], .null), (.iconst (-1), [], .int (-1)), (.ireturn, [0], .null)], 39, 1) ∧
  pm_lk pb_t147 39 = ([(.aload_n 0, [0], .null), (.getfield 74, [11, 11, 2, 121], .null), (.aload_n 0, [0], .null), (.getfield 12, [11, 0, 2, 110], .null), (.invokevirtual 391, [87, 10, 154, 1, 0], .null), (.iload_n 1, [1], .null), (.ifCond .ne 11, [62, 0], .null), (.aload_n 0, [0], .null), (.getfield 74, [11, 11, 2, 121], .null), (.invokevirtual 394, [91, 10, 160, 0, 1], .null), (.ireturn, [0], .null)], 62, 1) ∧
  pm_lk pb_t147 62 = ([(.iload_n 1, [1], .null), (.iconst 1, [], .int 1), (.if_icmp .ne 13, [77, 0], .null), (.aload_n 0, [0], .null), (.getfield 74, [11, 11, 2, 121], .null), (.invokevirtual 397, [92, 10, 161, 0, 1], .null), (.goto 14, [88, 0], .null)], 77, 1) ∧
  pm_lk pb_t147 77 = ([(.aload_n 0, [0], .null), (.getfield 74, [11, 11, 2, 121], .null), (.iload_n 1, [1], .null), (.bipush 10, [], .int 10), (.isub, [], .null), (.invokevirtual 400, [93, 10, 162, 1, 1], .null)], 88, 0) ∧
  pm_lk pb_t147 88 = ([(.ireturn, [0], .null)], 89, 1) := ⟨rfl, rfl, rfl, rfl, rfl, rfl, rfl, rfl⟩
/- WrongsDesk.judge(I)I: loops at [] -/
def pb_t148 : pm_Tb := [(0, [(.aload_n 0, [0], .null), (.iload_n 1, [1], .null), (.invokevirtual 192, [122, 11, 59, 1, 3], .null), (.astore_n 2, [2], .null), (.aload_n 2, [2], .null), (.ifnonnull 5, [12, 0], .null), (.iconst (-1), [], .int (-1)), (.ireturn, [0], .null)], 12, 1),
  (12, [(.aload_n 2, [2], .null), (.getfield 196, [9, 0, 0, 105], .null), (.iconst (-1), [], .int (-1)), (.if_icmp .ne 6, [23, 0], .null), (.bipush (-11), [], .int (-11)), (.ireturn, [0], .null)], 23, 1),
  (23, [(.aload_n 2, [2], .null), (.getfield 196, [9, 0, 0, 105], .null), (.ifCond .eq 6, [33, 0], .null), (.bipush (-12), [], .int (-12)), (.ireturn, [0], .null)], 33, 1),
  (33, [(.aload_n 2, [2], .null), (.getfield 403, [9, 1, 0, 107], .null), (.aload_n 0, [0], .null), (.getfield 74, [11, 11, 2, 121], .null), (.getfield 390, [10, 0, 0, 94], .null), (.if_icmp .ge 6, [50, 0], .null), (.bipush (-13), [], .int (-13)), (.ireturn, [0], .null)], 50, 1),
  (50, [(.aload_n 0, [0], .null), (.getfield 74, [11, 11, 2, 121], .null), (.aload_n 2, [2], .null), (.aload_n 0, [0], .null), (.getfield 12, [11, 0, 2, 110], .null), (.invokevirtual 404, [95, 10, 165, 2, 1], .null), (.ireturn, [0], .null)], 63, 1)]
theorem pb_c148 : pm_tok 148 pb_t148 = true := by decide +kernel
theorem pb_B148 : (pm_mL 148 = 3) ∧
  pm_lk pb_t148 0 = ([(.aload_n 0, [0], .null), (.iload_n 1, [1], .null), (.invokevirtual 192, [122, 11, 59, 1, 3], .null), (.astore_n 2, [2], .null), (.aload_n 2, [2], .null), (.ifnonnull 5, [12, 0], .null), (.iconst (-1), [], .int (-1)), (.ireturn, [0], .null)], 12, 1) ∧
  pm_lk pb_t148 12 = ([(.aload_n 2, [2], .null), (.getfield 196, [9, 0, 0, 105], .null), (.iconst (-1), [], .int (-1)), (.if_icmp .ne 6, [23, 0], .null), (.bipush (-11), [], .int (-11)), (.ireturn, [0], .null)], 23, 1) ∧
  pm_lk pb_t148 23 = ([(.aload_n 2, [2], .null), (.getfield 196, [9, 0, 0, 105], .null), (.ifCond .eq 6, [33, 0], .null), (.bipush (-12), [], .int (-12)), (.ireturn, [0], .null)], 33, 1) ∧
  pm_lk pb_t148 33 = ([(.aload_n 2, [2], .null), (.getfield 403, [9, 1, 0, 107], .null), (.aload_n 0, [0], .null), (.getfield 74, [11, 11, 2, 121], .null), (.getfield 390, [10, 0, 0, 94], .null), (.if_icmp .ge 6, [50, 0], .null), (.bipush (-13), [], .int (-13)), (.ireturn, [0], .null)], 50, 1) ∧
  pm_lk pb_t148 50 = ([(.aload_n 0, [0], .null), (.getfield 74, [11, 11, 2, 121], .null), (.aload_n 2, [2], .null), (.aload_n 0, [0], .null), (.getfield 12, [11, 0, 2, 110], .null), (.invokevirtual 404, [95, 10, 165, 2, 1], .null), (.ireturn, [0], .null)], 63, 1) := ⟨rfl, rfl, rfl, rfl, rfl, rfl⟩
/- WrongsDesk.act(III)I: loops at [] -/
def pb_t149 : pm_Tb := [(0, [(.aload_n 0, [0], .null), (.getfield 81, [11, 12, 2, 122], .null), (.iconst 0, [], .int 0), (.putfield 408, [4, 0, 0, 101, 0], .null), (.aload_n 0, [0], .null), (.iload_n 1, [1], .null), (.invokevirtual 127, [108, 11, 23, 1, 3], .null), (.astore 4, [4], .null), (.aload 4, [4], .null), (.ifnonnull 5, [22, 0], .null), (.iconst 0, [], .int 0), (.ireturn, [0], .null)], 22, 1),
  (22, [(.iload_n 2, [2], .null), (.tableswitch 73 0 2 #[25, 41, 57], [0, 48, 0, 1, 64, 0, 2, 80, 0, 96, 0], .null)], 48, 1),
  (48, [(.aload_n 0, [0], .null), (.getfield 81, [11, 12, 2, 122], .null), (.aload 4, [4], .null), (.aload 4, [4], .null), (.getfield 131, [7, 6, 0, 153], .null), (.iload_n 3, [3], .null), (.invokestatic 411, [27, 1007, 4, 1], .null), (.ireturn, [0], .null)], 64, 1),
  (64, [(.aload_n 0, [0], .null), (.getfield 81, [11, 12, 2, 122], .null), (.aload 4, [4], .null), (.aload 4, [4], .null), (.getfield 131, [7, 6, 0, 153], .null), (.iload_n 3, [3], .null), (.invokestatic 415, [29, 1008, 4, 1], .null), (.ireturn, [0], .null)], 80, 1),
  (80, [(.aload_n 0, [0], .null), (.getfield 81, [11, 12, 2, 122], .null), (.aload 4, [4], .null), (.aload 4, [4], .null), (.getfield 131, [7, 6, 0, 153], .null), (.iload_n 3, [3], .null), (.invokestatic 418, [30, 1009, 4, 1], .null), (.ireturn, [0], .null)], 96, 1),
  (96, [(.iconst 0, [], .int 0), (.ireturn, [0], .null)], 98, 1)]
theorem pb_c149 : pm_tok 149 pb_t149 = true := by decide +kernel
theorem pb_B149 : (pm_mL 149 = 5) ∧
  pm_lk pb_t149 0 = ([(.aload_n 0, [0], .null), (.getfield 81, [11, 12, 2, 122], .null), (.iconst 0, [], .int 0), (.putfield 408, [4, 0, 0, 101, 0], .null), (.aload_n 0, [0], .null), (.iload_n 1, [1], .null), (.invokevirtual 127, [108, 11, 23, 1, 3], .null), (.astore 4, [4], .null), (.aload 4, [4], .null), (.ifnonnull 5, [22, 0], .null), (.iconst 0, [], .int 0), (.ireturn, [0], .null)], 22, 1) ∧
  pm_lk pb_t149 22 = ([(.iload_n 2, [2], .null), (.tableswitch 73 0 2 #[25, 41, 57], [0, 48, 0, 1, 64, 0, 2, 80, 0, 96, 0], .null)], 48, 1) ∧
  pm_lk pb_t149 48 = ([(.aload_n 0, [0], .null), (.getfield 81, [11, 12, 2, 122], .null), (.aload 4, [4], .null), (.aload 4, [4], .null), (.getfield 131, [7, 6, 0, 153], .null), (.iload_n 3, [3], .null), (.invokestatic 411, [27, 1007, 4, 1], .null), (.ireturn, [0], .null)], 64, 1) ∧
  pm_lk pb_t149 64 = ([(.aload_n 0, [0], .null), (.getfield 81, [11, 12, 2, 122], .null), (.aload 4, [4], .null), (.aload 4, [4], .null), (.getfield 131, [7, 6, 0, 153], .null), (.iload_n 3, [3], .null), (.invokestatic 415, [29, 1008, 4, 1], .null), (.ireturn, [0], .null)], 80, 1) ∧
  pm_lk pb_t149 80 = ([(.aload_n 0, [0], .null), (.getfield 81, [11, 12, 2, 122], .null), (.aload 4, [4], .null), (.aload 4, [4], .null), (.getfield 131, [7, 6, 0, 153], .null), (.iload_n 3, [3], .null), (.invokestatic 418, [30, 1009, 4, 1], .null), (.ireturn, [0], .null)], 96, 1) ∧
  pm_lk pb_t149 96 = ([(.iconst 0, [], .int 0), (.ireturn, [0], .null)], 98, 1) := ⟨rfl, rfl, rfl, rfl, rfl, rfl, rfl⟩
/- WrongsDesk.trace(I)I: loops at [] -/
def pb_t150 : pm_Tb := [(0, [(.iload_n 1, [1], .null), (.ifCond .lt 20, [21, 0], .null), (.iload_n 1, [1], .null), (.aload_n 0, [0], .null), (.getfield 81, [11, 12, 2, 122], .null), (.getfield 408, [4, 0, 0, 101], .null), (.if_icmp .ge 9, [21, 0], .null), (.iload_n 1, [1], .null), (.bipush 20, [], .int 20), (.if_icmp .lt 5, [23, 0], .null)], 21, 0),
  (21, [(.iconst (-1), [], .int (-1)), (.ireturn, [0], .null)], 23, 1),
  (23, [(.aload_n 0, [0], .null), (.getfield 81, [11, 12, 2, 122], .null), (.getfield 421, [4, 1, 2, 103], .null), (.iload_n 1, [1], .null), (.iaload, [], .null), (.ireturn, [0], .null)], 33, 1)]
theorem pb_c150 : pm_tok 150 pb_t150 = true := by decide +kernel
theorem pb_B150 : (pm_mL 150 = 2) ∧
  pm_lk pb_t150 0 = ([(.iload_n 1, [1], .null), (.ifCond .lt 20, [21, 0], .null), (.iload_n 1, [1], .null), (.aload_n 0, [0], .null), (.getfield 81, [11, 12, 2, 122], .null), (.getfield 408, [4, 0, 0, 101], .null), (.if_icmp .ge 9, [21, 0], .null), (.iload_n 1, [1], .null), (.bipush 20, [], .int 20), (.if_icmp .lt 5, [23, 0], .null)], 21, 0) ∧
  pm_lk pb_t150 21 = ([(.iconst (-1), [], .int (-1)), (.ireturn, [0], .null)], 23, 1) ∧
  pm_lk pb_t150 23 = ([(.aload_n 0, [0], .null), (.getfield 81, [11, 12, 2, 122], .null), (.getfield 421, [4, 1, 2, 103], .null), (.iload_n 1, [1], .null), (.iaload, [], .null), (.ireturn, [0], .null)], 33, 1) := ⟨rfl, rfl, rfl, rfl⟩
/- WrongsDesk.taken(II)I: loops at [] -/
def pb_t151 : pm_Tb := [(0, [(.iload_n 2, [2], .null), (.ifCond .lt 9, [10, 0], .null), (.iload_n 2, [2], .null), (.bipush 6, [], .int 6), (.if_icmp .le 6, [13, 0], .null)], 10, 0),
  (10, [(.bipush (-2), [], .int (-2)), (.ireturn, [0], .null)], 13, 1),
  (13, [(.aload_n 0, [0], .null), (.iload_n 1, [1], .null), (.invokevirtual 127, [108, 11, 23, 1, 3], .null), (.astore_n 3, [3], .null), (.aload_n 3, [3], .null), (.ifnonnull 6, [26, 0], .null), (.bipush (-11), [], .int (-11)), (.ireturn, [0], .null)], 26, 1),
  (26, [(.aload_n 3, [3], .null), (.getfield 131, [7, 6, 0, 153], .null), (.iload_n 2, [2], .null), (.invokestatic 424, [31, 174, 2, 1], .null), (.ifCond .eq 10, [44, 0], .null), (.aload_n 3, [3], .null), (.getfield 131, [7, 6, 0, 153], .null), (.goto 5, [46, 0], .null)], 44, 1),
  (44, [(.bipush (-12), [], .int (-12))], 46, 0),
  (46, [(.ireturn, [0], .null)], 47, 1)]
theorem pb_c151 : pm_tok 151 pb_t151 = true := by decide +kernel
theorem pb_B151 : (pm_mL 151 = 4) ∧
  pm_lk pb_t151 0 = ([(.iload_n 2, [2], .null), (.ifCond .lt 9, [10, 0], .null), (.iload_n 2, [2], .null), (.bipush 6, [], .int 6), (.if_icmp .le 6, [13, 0], .null)], 10, 0) ∧
  pm_lk pb_t151 10 = ([(.bipush (-2), [], .int (-2)), (.ireturn, [0], .null)], 13, 1) ∧
  pm_lk pb_t151 13 = ([(.aload_n 0, [0], .null), (.iload_n 1, [1], .null), (.invokevirtual 127, [108, 11, 23, 1, 3], .null), (.astore_n 3, [3], .null), (.aload_n 3, [3], .null), (.ifnonnull 6, [26, 0], .null), (.bipush (-11), [], .int (-11)), (.ireturn, [0], .null)], 26, 1) ∧
  pm_lk pb_t151 26 = ([(.aload_n 3, [3], .null), (.getfield 131, [7, 6, 0, 153], .null), (.iload_n 2, [2], .null), (.invokestatic 424, [31, 174, 2, 1], .null), (.ifCond .eq 10, [44, 0], .null), (.aload_n 3, [3], .null), (.getfield 131, [7, 6, 0, 153], .null), (.goto 5, [46, 0], .null)], 44, 1) ∧
  pm_lk pb_t151 44 = ([(.bipush (-12), [], .int (-12))], 46, 0) ∧
  pm_lk pb_t151 46 = ([(.ireturn, [0], .null)], 47, 1) := ⟨rfl, rfl, rfl, rfl, rfl, rfl, rfl⟩
/- WrongsDesk.count(I)I: loops at [] -/
def pb_t152 : pm_Tb := [(0, [(.iload_n 1, [1], .null), (.tableswitch 135 0 10 #[59, 67, 75, 80, 85, 90, 98, 106, 114, 119, 127], [0, 60, 0, 1, 68, 0, 2, 76, 0, 3, 81, 0, 4, 86, 0, 5, 91, 0, 6, 99, 0, 7, 107, 0, 8, 115, 0, 9, 120, 0, 10, 128, 0, 136, 0], .null)], 60, 1),
  (60, [(.aload_n 0, [0], .null), (.getfield 12, [11, 0, 2, 110], .null), (.getfield 92, [3, 0, 0, 1], .null), (.ireturn, [0], .null)], 68, 1),
  (68, [(.aload_n 0, [0], .null), (.getfield 12, [11, 0, 2, 110], .null), (.getfield 105, [3, 2, 0, 5], .null), (.ireturn, [0], .null)], 76, 1),
  (76, [(.aload_n 0, [0], .null), (.getfield 22, [11, 2, 0, 112], .null), (.ireturn, [0], .null)], 81, 1),
  (81, [(.aload_n 0, [0], .null), (.getfield 32, [11, 4, 0, 114], .null), (.ireturn, [0], .null)], 86, 1),
  (86, [(.aload_n 0, [0], .null), (.getfield 35, [11, 5, 0, 115], .null), (.ireturn, [0], .null)], 91, 1),
  (91, [(.aload_n 0, [0], .null), (.getfield 50, [11, 7, 2, 117], .null), (.getfield 238, [1, 2, 0, 63], .null), (.ireturn, [0], .null)], 99, 1),
  (99, [(.aload_n 0, [0], .null), (.getfield 41, [11, 6, 2, 116], .null), (.getfield 235, [6, 1, 0, 56], .null), (.ireturn, [0], .null)], 107, 1),
  (107, [(.aload_n 0, [0], .null), (.getfield 57, [11, 8, 2, 118], .null), (.getfield 321, [2, 0, 0, 79], .null), (.ireturn, [0], .null)], 115, 1),
  (115, [(.aload_n 0, [0], .null), (.getfield 68, [11, 10, 0, 120], .null), (.ireturn, [0], .null)], 120, 1),
  (120, [(.aload_n 0, [0], .null), (.getfield 74, [11, 11, 2, 121], .null), (.getfield 390, [10, 0, 0, 94], .null), (.ireturn, [0], .null)], 128, 1),
  (128, [(.aload_n 0, [0], .null), (.getfield 81, [11, 12, 2, 122], .null), (.getfield 408, [4, 0, 0, 101], .null), (.ireturn, [0], .null)], 136, 1),
  (136, [(.bipush (-2), [], .int (-2)), (.ireturn, [0], .null)], 139, 1)]
theorem pb_c152 : pm_tok 152 pb_t152 = true := by decide +kernel
theorem pb_B152 : (pm_mL 152 = 2) ∧
  pm_lk pb_t152 0 = ([(.iload_n 1, [1], .null), (.tableswitch 135 0 10 #[59, 67, 75, 80, 85, 90, 98, 106, 114, 119, 127], [0, 60, 0, 1, 68, 0, 2, 76, 0, 3, 81, 0, 4, 86, 0, 5, 91, 0, 6, 99, 0, 7, 107, 0, 8, 115, 0, 9, 120, 0, 10, 128, 0, 136, 0], .null)], 60, 1) ∧
  pm_lk pb_t152 60 = ([(.aload_n 0, [0], .null), (.getfield 12, [11, 0, 2, 110], .null), (.getfield 92, [3, 0, 0, 1], .null), (.ireturn, [0], .null)], 68, 1) ∧
  pm_lk pb_t152 68 = ([(.aload_n 0, [0], .null), (.getfield 12, [11, 0, 2, 110], .null), (.getfield 105, [3, 2, 0, 5], .null), (.ireturn, [0], .null)], 76, 1) ∧
  pm_lk pb_t152 76 = ([(.aload_n 0, [0], .null), (.getfield 22, [11, 2, 0, 112], .null), (.ireturn, [0], .null)], 81, 1) ∧
  pm_lk pb_t152 81 = ([(.aload_n 0, [0], .null), (.getfield 32, [11, 4, 0, 114], .null), (.ireturn, [0], .null)], 86, 1) ∧
  pm_lk pb_t152 86 = ([(.aload_n 0, [0], .null), (.getfield 35, [11, 5, 0, 115], .null), (.ireturn, [0], .null)], 91, 1) ∧
  pm_lk pb_t152 91 = ([(.aload_n 0, [0], .null), (.getfield 50, [11, 7, 2, 117], .null), (.getfield 238, [1, 2, 0, 63], .null), (.ireturn, [0], .null)], 99, 1) ∧
  pm_lk pb_t152 99 = ([(.aload_n 0, [0], .null), (.getfield 41, [11, 6, 2, 116], .null), (.getfield 235, [6, 1, 0, 56], .null), (.ireturn, [0], .null)], 107, 1) ∧
  pm_lk pb_t152 107 = ([(.aload_n 0, [0], .null), (.getfield 57, [11, 8, 2, 118], .null), (.getfield 321, [2, 0, 0, 79], .null), (.ireturn, [0], .null)], 115, 1) ∧
  pm_lk pb_t152 115 = ([(.aload_n 0, [0], .null), (.getfield 68, [11, 10, 0, 120], .null), (.ireturn, [0], .null)], 120, 1) ∧
  pm_lk pb_t152 120 = ([(.aload_n 0, [0], .null), (.getfield 74, [11, 11, 2, 121], .null), (.getfield 390, [10, 0, 0, 94], .null), (.ireturn, [0], .null)], 128, 1) ∧
  pm_lk pb_t152 128 = ([(.aload_n 0, [0], .null), (.getfield 81, [11, 12, 2, 122], .null), (.getfield 408, [4, 0, 0, 101], .null), (.ireturn, [0], .null)], 136, 1) ∧
  pm_lk pb_t152 136 = ([(.bipush (-2), [], .int (-2)), (.ireturn, [0], .null)], 139, 1) := ⟨rfl, rfl, rfl, rfl, rfl, rfl, rfl, rfl, rfl, rfl, rfl, rfl, rfl, rfl⟩
/- WrongsDesk.tape(III)I: loops at [] -/
def pb_t153 : pm_Tb := [(0, [(.aload_n 0, [0], .null), (.iload_n 1, [1], .null), (.invokevirtual 192, [122, 11, 59, 1, 3], .null), (.astore 4, [4], .null), (.aload 4, [4], .null), (.ifnonnull 5, [14, 0], .null), (.iconst (-1), [], .int (-1)), (.ireturn, [0], .null)], 14, 1),
  (14, [(.iload_n 2, [2], .null), (.iconst (-1), [], .int (-1)), (.if_icmp .lt 19, [35, 0], .null), (.iload_n 2, [2], .null), (.iconst 3, [], .int 3), (.if_icmp .gt 14, [35, 0], .null), (.iload_n 2, [2], .null), (.iconst (-1), [], .int (-1)), (.if_icmp .eq 12, [38, 0], .null), (.iload_n 3, [3], .null), (.bipush 80, [], .int 80), (.if_icmp .le 6, [38, 0], .null)], 35, 0),
  (35, [(.bipush (-2), [], .int (-2)), (.ireturn, [0], .null)], 38, 1),
  (38, [(.iload_n 2, [2], .null), (.iconst (-1), [], .int (-1)), (.if_icmp .eq 10, [50, 0], .null), (.iload_n 3, [3], .null), (.ifCond .ge 6, [50, 0], .null), (.bipush (-14), [], .int (-14)), (.ireturn, [0], .null)], 50, 1),
  (50, [(.aload 4, [4], .null), (.iload_n 2, [2], .null), (.iload_n 2, [2], .null), (.iconst (-1), [], .int (-1)), (.if_icmp .ne 7, [62, 0], .null), (.iconst 0, [], .int 0), (.goto 4, [63, 0], .null)], 62, 1),
  (62, [(.iload_n 3, [3], .null)], 63, 0),
  (63, [(.invokevirtual 427, [82, 9, 177, 2, 0], .null), (.iconst 1, [], .int 1), (.ireturn, [0], .null)], 68, 1)]
theorem pb_c153 : pm_tok 153 pb_t153 = true := by decide +kernel
theorem pb_B153 : (pm_mL 153 = 5) ∧
  pm_lk pb_t153 0 = ([(.aload_n 0, [0], .null), (.iload_n 1, [1], .null), (.invokevirtual 192, [122, 11, 59, 1, 3], .null), (.astore 4, [4], .null), (.aload 4, [4], .null), (.ifnonnull 5, [14, 0], .null), (.iconst (-1), [], .int (-1)), (.ireturn, [0], .null)], 14, 1) ∧
  pm_lk pb_t153 14 = ([(.iload_n 2, [2], .null), (.iconst (-1), [], .int (-1)), (.if_icmp .lt 19, [35, 0], .null), (.iload_n 2, [2], .null), (.iconst 3, [], .int 3), (.if_icmp .gt 14, [35, 0], .null), (.iload_n 2, [2], .null), (.iconst (-1), [], .int (-1)), (.if_icmp .eq 12, [38, 0], .null), (.iload_n 3, [3], .null), (.bipush 80, [], .int 80), (.if_icmp .le 6, [38, 0], .null)], 35, 0) ∧
  pm_lk pb_t153 35 = ([(.bipush (-2), [], .int (-2)), (.ireturn, [0], .null)], 38, 1) ∧
  pm_lk pb_t153 38 = ([(.iload_n 2, [2], .null), (.iconst (-1), [], .int (-1)), (.if_icmp .eq 10, [50, 0], .null), (.iload_n 3, [3], .null), (.ifCond .ge 6, [50, 0], .null), (.bipush (-14), [], .int (-14)), (.ireturn, [0], .null)], 50, 1) ∧
  pm_lk pb_t153 50 = ([(.aload 4, [4], .null), (.iload_n 2, [2], .null), (.iload_n 2, [2], .null), (.iconst (-1), [], .int (-1)), (.if_icmp .ne 7, [62, 0], .null), (.iconst 0, [], .int 0), (.goto 4, [63, 0], .null)], 62, 1) ∧
  pm_lk pb_t153 62 = ([(.iload_n 3, [3], .null)], 63, 0) ∧
  pm_lk pb_t153 63 = ([(.invokevirtual 427, [82, 9, 177, 2, 0], .null), (.iconst 1, [], .int 1), (.ireturn, [0], .null)], 68, 1) := ⟨rfl, rfl, rfl, rfl, rfl, rfl, rfl, rfl⟩
/- WrongsDesk.item(IIJ)I: loops at [] -/
def pb_t154 : pm_Tb := [(0, [(.aload_n 0, [0], .null), (.iload_n 1, [1], .null), (.invokevirtual 192, [122, 11, 59, 1, 3], .null), (.astore 5, [5], .null), (.aload 5, [5], .null), (.ifnonnull 5, [14, 0], .null), (.iconst (-1), [], .int (-1)), (.ireturn, [0], .null)], 14, 1),
  (14, [(.aload 5, [5], .null), (.getfield 196, [9, 0, 0, 105], .null), (.iconst (-1), [], .int (-1)), (.if_icmp .ne 6, [26, 0], .null), (.bipush (-11), [], .int (-11)), (.ireturn, [0], .null)], 26, 1),
  (26, [(.aload 5, [5], .null), (.iload_n 2, [2], .null), (.i2l, [], .null), (.iconst 1, [], .int 1), (.invokevirtual 201, [80, 9, 60, 2, 1], .null), (.ifCond .ne 6, [40, 0], .null), (.bipush (-13), [], .int (-13)), (.ireturn, [0], .null)], 40, 1),
  (40, [(.aload 5, [5], .null), (.iload_n 2, [2], .null), (.lload_n 3, [3], .null), (.invokevirtual 431, [83, 9, 179, 2, 0], .null), (.iconst 1, [], .int 1), (.ireturn, [0], .null)], 49, 1)]
theorem pb_c154 : pm_tok 154 pb_t154 = true := by decide +kernel
theorem pb_B154 : (pm_mL 154 = 6) ∧
  pm_lk pb_t154 0 = ([(.aload_n 0, [0], .null), (.iload_n 1, [1], .null), (.invokevirtual 192, [122, 11, 59, 1, 3], .null), (.astore 5, [5], .null), (.aload 5, [5], .null), (.ifnonnull 5, [14, 0], .null), (.iconst (-1), [], .int (-1)), (.ireturn, [0], .null)], 14, 1) ∧
  pm_lk pb_t154 14 = ([(.aload 5, [5], .null), (.getfield 196, [9, 0, 0, 105], .null), (.iconst (-1), [], .int (-1)), (.if_icmp .ne 6, [26, 0], .null), (.bipush (-11), [], .int (-11)), (.ireturn, [0], .null)], 26, 1) ∧
  pm_lk pb_t154 26 = ([(.aload 5, [5], .null), (.iload_n 2, [2], .null), (.i2l, [], .null), (.iconst 1, [], .int 1), (.invokevirtual 201, [80, 9, 60, 2, 1], .null), (.ifCond .ne 6, [40, 0], .null), (.bipush (-13), [], .int (-13)), (.ireturn, [0], .null)], 40, 1) ∧
  pm_lk pb_t154 40 = ([(.aload 5, [5], .null), (.iload_n 2, [2], .null), (.lload_n 3, [3], .null), (.invokevirtual 431, [83, 9, 179, 2, 0], .null), (.iconst 1, [], .int 1), (.ireturn, [0], .null)], 49, 1) := ⟨rfl, rfl, rfl, rfl, rfl⟩
/- WrongsDesk.read(II)J: loops at [] -/
def pb_t155 : pm_Tb := [(0, [(.aload_n 0, [0], .null), (.iload_n 1, [1], .null), (.invokevirtual 192, [122, 11, 59, 1, 3], .null), (.astore_n 3, [3], .null), (.aload_n 3, [3], .null), (.ifnull 13, [20, 0], .null), (.aload_n 3, [3], .null), (.iload_n 2, [2], .null), (.i2l, [], .null), (.iconst 1, [], .int 1), (.invokevirtual 201, [80, 9, 60, 2, 1], .null), (.ifCond .ne 7, [24, 0], .null)], 20, 0),
  (20, [(.ldc2_w 364, [2], .long (-9223372036854775808)), (.lreturn, [], .null)], 24, 1),
  (24, [(.aload_n 3, [3], .null), (.iload_n 2, [2], .null), (.invokevirtual 209, [81, 9, 62, 1, 2], .null), (.lreturn, [], .null)], 30, 1)]
theorem pb_c155 : pm_tok 155 pb_t155 = true := by decide +kernel
theorem pb_B155 : (pm_mL 155 = 4) ∧
  pm_lk pb_t155 0 = ([(.aload_n 0, [0], .null), (.iload_n 1, [1], .null), (.invokevirtual 192, [122, 11, 59, 1, 3], .null), (.astore_n 3, [3], .null), (.aload_n 3, [3], .null), (.ifnull 13, [20, 0], .null), (.aload_n 3, [3], .null), (.iload_n 2, [2], .null), (.i2l, [], .null), (.iconst 1, [], .int 1), (.invokevirtual 201, [80, 9, 60, 2, 1], .null), (.ifCond .ne 7, [24, 0], .null)], 20, 0) ∧
  pm_lk pb_t155 20 = ([(.ldc2_w 364, [2], .long (-9223372036854775808)), (.lreturn, [], .null)], 24, 1) ∧
  pm_lk pb_t155 24 = ([(.aload_n 3, [3], .null), (.iload_n 2, [2], .null), (.invokevirtual 209, [81, 9, 62, 1, 2], .null), (.lreturn, [], .null)], 30, 1) := ⟨rfl, rfl, rfl, rfl⟩
/- WrongsDesk.shift(IIIII)I: loops at [] -/
def pb_t156 : pm_Tb := [(0, [(.aload_n 0, [0], .null), (.iload_n 1, [1], .null), (.invokevirtual 192, [122, 11, 59, 1, 3], .null), (.astore 6, [6], .null), (.aload_n 0, [0], .null), (.iload_n 3, [3], .null), (.invokevirtual 192, [122, 11, 59, 1, 3], .null), (.astore 7, [7], .null), (.aload 6, [6], .null), (.ifnull 8, [24, 0], .null), (.aload 7, [7], .null), (.ifnonnull 5, [26, 0], .null)], 24, 0),
  (24, [(.iconst (-1), [], .int (-1)), (.ireturn, [0], .null)], 26, 1),
  (26, [(.aload 6, [6], .null), (.getfield 196, [9, 0, 0, 105], .null), (.iconst (-1), [], .int (-1)), (.if_icmp .eq 12, [44, 0], .null), (.aload 7, [7], .null), (.getfield 196, [9, 0, 0, 105], .null), (.iconst (-1), [], .int (-1)), (.if_icmp .ne 6, [47, 0], .null)], 44, 0),
  (44, [(.bipush (-11), [], .int (-11)), (.ireturn, [0], .null)], 47, 1),
  (47, [(.aload 6, [6], .null), (.getfield 196, [9, 0, 0, 105], .null), (.aload 7, [7], .null), (.getfield 196, [9, 0, 0, 105], .null), (.if_icmp .eq 6, [63, 0], .null), (.bipush (-12), [], .int (-12)), (.ireturn, [0], .null)], 63, 1),
  (63, [(.aload 6, [6], .null), (.iload_n 2, [2], .null), (.i2l, [], .null), (.iload 5, [5], .null), (.invokevirtual 201, [80, 9, 60, 2, 1], .null), (.ifCond .eq 16, [88, 0], .null), (.aload 7, [7], .null), (.iload 4, [4], .null), (.i2l, [], .null), (.iload 5, [5], .null), (.invokevirtual 201, [80, 9, 60, 2, 1], .null), (.ifCond .ne 6, [91, 0], .null)], 88, 0),
  (88, [(.bipush (-13), [], .int (-13)), (.ireturn, [0], .null)], 91, 1),
  (91, [(.aload 6, [6], .null), (.getfield 435, [9, 2, 2, 109], .null), (.iload_n 2, [2], .null), (.aload 7, [7], .null), (.getfield 435, [9, 2, 2, 109], .null), (.iload 4, [4], .null), (.iload 5, [5], .null), (.invokestatic 439, [95, 0], .null), (.iload 5, [5], .null), (.ireturn, [0], .null)], 112, 1)]
theorem pb_c156 : pm_tok 156 pb_t156 = true := by decide +kernel
theorem pb_B156 : (pm_mL 156 = 8) ∧
  pm_lk pb_t156 0 = ([(.aload_n 0, [0], .null), (.iload_n 1, [1], .null), (.invokevirtual 192, [122, 11, 59, 1, 3], .null), (.astore 6, [6], .null), (.aload_n 0, [0], .null), (.iload_n 3, [3], .null), (.invokevirtual 192, [122, 11, 59, 1, 3], .null), (.astore 7, [7], .null), (.aload 6, [6], .null), (.ifnull 8, [24, 0], .null), (.aload 7, [7], .null), (.ifnonnull 5, [26, 0], .null)], 24, 0) ∧
  pm_lk pb_t156 24 = ([(.iconst (-1), [], .int (-1)), (.ireturn, [0], .null)], 26, 1) ∧
  pm_lk pb_t156 26 = ([(.aload 6, [6], .null), (.getfield 196, [9, 0, 0, 105], .null), (.iconst (-1), [], .int (-1)), (.if_icmp .eq 12, [44, 0], .null), (.aload 7, [7], .null), (.getfield 196, [9, 0, 0, 105], .null), (.iconst (-1), [], .int (-1)), (.if_icmp .ne 6, [47, 0], .null)], 44, 0) ∧
  pm_lk pb_t156 44 = ([(.bipush (-11), [], .int (-11)), (.ireturn, [0], .null)], 47, 1) ∧
  pm_lk pb_t156 47 = ([(.aload 6, [6], .null), (.getfield 196, [9, 0, 0, 105], .null), (.aload 7, [7], .null), (.getfield 196, [9, 0, 0, 105], .null), (.if_icmp .eq 6, [63, 0], .null), (.bipush (-12), [], .int (-12)), (.ireturn, [0], .null)], 63, 1) ∧
  pm_lk pb_t156 63 = ([(.aload 6, [6], .null), (.iload_n 2, [2], .null), (.i2l, [], .null), (.iload 5, [5], .null), (.invokevirtual 201, [80, 9, 60, 2, 1], .null), (.ifCond .eq 16, [88, 0], .null), (.aload 7, [7], .null), (.iload 4, [4], .null), (.i2l, [], .null), (.iload 5, [5], .null), (.invokevirtual 201, [80, 9, 60, 2, 1], .null), (.ifCond .ne 6, [91, 0], .null)], 88, 0) ∧
  pm_lk pb_t156 88 = ([(.bipush (-13), [], .int (-13)), (.ireturn, [0], .null)], 91, 1) ∧
  pm_lk pb_t156 91 = ([(.aload 6, [6], .null), (.getfield 435, [9, 2, 2, 109], .null), (.iload_n 2, [2], .null), (.aload 7, [7], .null), (.getfield 435, [9, 2, 2, 109], .null), (.iload 4, [4], .null), (.iload 5, [5], .null), (.invokestatic 439, [95, 0], .null), (.iload 5, [5], .null), (.ireturn, [0], .null)], 112, 1) := ⟨rfl, rfl, rfl, rfl, rfl, rfl, rfl, rfl, rfl⟩
