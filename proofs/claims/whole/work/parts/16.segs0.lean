/-! ===== the segments of the methods ===== -/
theorem seg_of {k pc : Nat} {is : List (Instr × Nat)} (h : sgB (mB k) (mT k) (ini k) (mH k) pc is = true) : Seg k pc is := h
/-! T init -/
theorem mk_T_init : 0 < 256 ∧ mtB 0 = true := ⟨by decide, mk_0⟩
def g_T_init_0 : List (Instr × Nat) := [(.aload 0, 1), (.nop, 3), (.aload 0, 1), (.new 1, 3), (.dup, 1), (.invokevirtual 1490101, 3), (.putstatic 2816, 3), (.aload 0, 1), (.iconst 4, 1), (.anewarray 4, 3), (.putstatic 2817, 3), (.aload 0, 1), (.new 9, 3), (.dup, 1), (.invokevirtual 2340109, 3), (.putstatic 2818, 3), (.aload 0, 1), (.new 6, 3), (.dup, 1), (.aload 0, 1), (.getstatic 2818, 3), (.invokevirtual 1910206, 3), (.putstatic 2819, 3), (.aload 0, 1), (.iconst 8, 2), (.anewarray 5, 3), (.putstatic 2820, 3), (.aload 0, 1), (.iconst 8, 2), (.anewarray 5, 3), (.putstatic 2821, 3), (.aload 0, 1), (.new 7, 3), (.dup, 1), (.invokevirtual 2090107, 3), (.putstatic 2822, 3), (.aload 0, 1), (.iconst 4, 1), (.anewarray 6, 3), (.putstatic 2823, 3), (.aload 0, 1), (.new 8, 3), (.dup, 1), (.aload 0, 1), (.getstatic 2816, 3), (.aload 0, 1), (.getstatic 2821, 3), (.aload 0, 1), (.getstatic 2822, 3), (.invokevirtual 2140408, 3), (.putstatic 2824, 3), (.aload 0, 1), (.new 5, 3), (.dup, 1), (.aload 0, 1), (.getstatic 2823, 3), (.invokevirtual 1870205, 3), (.putstatic 2825, 3), (.aload 0, 1), (.new 2, 3), (.dup, 1), (.aload 0, 1), (.getstatic 2816, 3), (.invokevirtual 1560202, 3), (.putstatic 2826, 3), (.aload 0, 1), (.new 3, 3), (.dup, 1), (.aload 0, 1), (.getstatic 2816, 3), (.invokevirtual 1660203, 3), (.putstatic 2827, 3), (.aload 0, 1), (.new 0, 3), (.dup, 1), (.invokevirtual 1460100, 3), (.putstatic 2828, 3), (.iconst 0, 1), (.istore 1, 1)]
theorem s_T_init_0 : Seg 0 0 g_T_init_0 := seg_of (by decide +kernel)
def g_T_init_167 : List (Instr × Nat) := [(.iload 1, 1), (.iconst 4, 1), (.if_icmp .ge 203, 3), (.aload 0, 1), (.getstatic 2823, 3), (.iload 1, 1), (.new 8, 3), (.dup, 1), (.aload 0, 1), (.getstatic 2816, 3), (.aload 0, 1), (.getstatic 2821, 3), (.aload 0, 1), (.getstatic 2822, 3), (.invokevirtual 2140408, 3), (.aastore, 1), (.iinc 1 (1), 3), (.goto 167, 3)]
theorem s_T_init_167 : Seg 0 167 g_T_init_167 := seg_of (by decide +kernel)
def g_T_init_203 : List (Instr × Nat) := [(.return_, 1)]
theorem s_T_init_203 : Seg 0 203 g_T_init_203 := seg_of (by decide +kernel)
/-! T elder -/
theorem mk_T_elder : 1 < 256 ∧ mtB 1 = true := ⟨by decide, mk_1⟩
def g_T_elder_0 : List (Instr × Nat) := [(.iload 1, 1), (.iconst 20, 2), (.if_icmp .lt 24, 3), (.iload 1, 1), (.iconst 99, 2), (.if_icmp .gt 24, 3), (.aload 0, 1), (.getstatic 2816, 3), (.getfield 260, 3), (.iconst 8, 2), (.if_icmp .lt 26, 3)]
theorem s_T_elder_0 : Seg 1 0 g_T_elder_0 := seg_of (by decide +kernel)
def g_T_elder_24 : List (Instr × Nat) := [(.iconst (-1), 1), (.ireturn, 1)]
theorem s_T_elder_24 : Seg 1 24 g_T_elder_24 := seg_of (by decide +kernel)
def g_T_elder_26 : List (Instr × Nat) := [(.aload 0, 1), (.iconst 0, 1), (.invokevirtual 430211, 3), (.aload 0, 1), (.getstatic 2816, 3), (.iload 1, 1), (.invokevirtual 1530201, 3), (.ireturn, 1)]
theorem s_T_elder_26 : Seg 1 26 g_T_elder_26 := seg_of (by decide +kernel)
/-! T left -/
theorem mk_T_left : 2 < 256 ∧ mtB 2 = true := ⟨by decide, mk_2⟩
def g_T_left_0 : List (Instr × Nat) := [(.aload 0, 1), (.getstatic 2816, 3), (.iload 1, 1), (.invokevirtual 1500201, 3), (.ifCond .eq 23, 3), (.aload 0, 1), (.getstatic 2816, 3), (.iload 1, 1), (.invokevirtual 1520201, 3), (.iload 2, 1), (.if_icmp .eq 25, 3)]
theorem s_T_left_0 : Seg 2 0 g_T_left_0 := seg_of (by decide +kernel)
def g_T_left_23 : List (Instr × Nat) := [(.iconst 0, 1), (.ireturn, 1)]
theorem s_T_left_23 : Seg 2 23 g_T_left_23 := seg_of (by decide +kernel)
def g_T_left_25 : List (Instr × Nat) := [(.aload 0, 1), (.iconst 0, 1), (.invokevirtual 430211, 3), (.aload 0, 1), (.getstatic 2816, 3), (.iload 1, 1), (.iload 2, 1), (.ifCond .ne 43, 3), (.iconst 1, 1), (.goto 44, 3)]
theorem s_T_left_25 : Seg 2 25 g_T_left_25 := seg_of (by decide +kernel)
def g_T_left_43 : List (Instr × Nat) := [(.iconst 0, 1)]
theorem s_T_left_43 : Seg 2 43 g_T_left_43 := seg_of (by decide +kernel)
def g_T_left_44 : List (Instr × Nat) := [(.invokevirtual 1540301, 3), (.iconst 1, 1), (.ireturn, 1)]
theorem s_T_left_44 : Seg 2 44 g_T_left_44 := seg_of (by decide +kernel)
/-! T place -/
theorem mk_T_place : 3 < 256 ∧ mtB 3 = true := ⟨by decide, mk_3⟩
def g_T_place_0 : List (Instr × Nat) := [(.iload 1, 1), (.ifCond .lt 27, 3), (.iload 1, 1), (.aload 0, 1), (.getstatic 2816, 3), (.getfield 261, 3), (.if_icmp .ge 27, 3), (.aload 0, 1), (.getstatic 2816, 3), (.getstatic 259, 3), (.iload 1, 1), (.iaload, 1), (.goto 28, 3)]
theorem s_T_place_0 : Seg 3 0 g_T_place_0 := seg_of (by decide +kernel)
def g_T_place_27 : List (Instr × Nat) := [(.iconst (-1), 1)]
theorem s_T_place_27 : Seg 3 27 g_T_place_27 := seg_of (by decide +kernel)
def g_T_place_28 : List (Instr × Nat) := [(.ireturn, 1)]
theorem s_T_place_28 : Seg 3 28 g_T_place_28 := seg_of (by decide +kernel)
/-! T heed -/
theorem mk_T_heed : 4 < 256 ∧ mtB 4 = true := ⟨by decide, mk_4⟩
def g_T_heed_0 : List (Instr × Nat) := [(.aload 0, 1), (.getstatic 2816, 3), (.iload 1, 1), (.iload 2, 1), (.invokevirtual 1510301, 3), (.ifCond .eq 22, 3), (.iload 3, 1), (.ifCond .lt 22, 3), (.iload 3, 1), (.iconst 9, 2), (.if_icmp .le 24, 3)]
theorem s_T_heed_0 : Seg 4 0 g_T_heed_0 := seg_of (by decide +kernel)
def g_T_heed_22 : List (Instr × Nat) := [(.iconst 0, 1), (.ireturn, 1)]
theorem s_T_heed_22 : Seg 4 22 g_T_heed_22 := seg_of (by decide +kernel)
def g_T_heed_24 : List (Instr × Nat) := [(.aload 0, 1), (.iconst 0, 1), (.invokevirtual 430211, 3), (.aload 0, 1), (.getstatic 2816, 3), (.getstatic 257, 3), (.iload 1, 1), (.aaload, 1), (.iload 2, 1), (.iload 3, 1), (.iastore, 1), (.iconst 1, 1), (.ireturn, 1)]
theorem s_T_heed_24 : Seg 4 24 g_T_heed_24 := seg_of (by decide +kernel)
/-! T matter -/
theorem mk_T_matter : 5 < 256 ∧ mtB 5 = true := ⟨by decide, mk_5⟩
def g_T_matter_0 : List (Instr × Nat) := [(.iload 1, 1), (.iconst 1, 1), (.if_icmp .lt 28, 3), (.iload 1, 1), (.iconst 5, 1), (.if_icmp .gt 28, 3), (.iload 2, 1), (.iconst 2, 1), (.if_icmp .lt 28, 3), (.iload 2, 1), (.iconst 4, 1), (.if_icmp .gt 28, 3), (.aload 0, 1), (.getfield 2829, 3), (.iconst 4, 1), (.if_icmp .lt 30, 3)]
theorem s_T_matter_0 : Seg 5 0 g_T_matter_0 := seg_of (by decide +kernel)
def g_T_matter_28 : List (Instr × Nat) := [(.iconst (-1), 1), (.ireturn, 1)]
theorem s_T_matter_28 : Seg 5 28 g_T_matter_28 := seg_of (by decide +kernel)
def g_T_matter_30 : List (Instr × Nat) := [(.aload 0, 1), (.getstatic 2817, 3), (.aload 0, 1), (.getfield 2829, 3), (.new 4, 3), (.dup, 1), (.iload 1, 1), (.iload 2, 1), (.invokevirtual 1740304, 3), (.aastore, 1), (.aload 0, 1), (.dup, 1), (.getfield 2829, 3), (.iconst 1, 1), (.iadd, 1), (.putfield 2829, 3), (.aload 0, 1), (.getfield 2829, 3), (.iconst 1, 1), (.isub, 1), (.ireturn, 1)]
theorem s_T_matter_30 : Seg 5 30 g_T_matter_30 := seg_of (by decide +kernel)
/-! T hold -/
theorem mk_T_hold : 6 < 256 ∧ mtB 6 = true := ⟨by decide, mk_6⟩
def g_T_hold_0 : List (Instr × Nat) := [(.aload 0, 1), (.iload 2, 1), (.invokevirtual 420211, 3), (.astore 6, 2), (.aload 6, 2), (.ifnull 45, 3), (.aload 0, 1), (.getstatic 2816, 3), (.iload 1, 1), (.invokevirtual 1500201, 3), (.ifCond .eq 45, 3), (.aload 6, 2), (.iload 3, 1), (.iload 4, 2), (.invokevirtual 1760304, 3), (.ifCond .eq 45, 3), (.iload 5, 2), (.ifCond .lt 45, 3), (.iload 5, 2), (.iconst 2, 1), (.if_icmp .le 47, 3)]
theorem s_T_hold_0 : Seg 6 0 g_T_hold_0 := seg_of (by decide +kernel)
def g_T_hold_45 : List (Instr × Nat) := [(.iconst 0, 1), (.ireturn, 1)]
theorem s_T_hold_45 : Seg 6 45 g_T_hold_45 := seg_of (by decide +kernel)
def g_T_hold_47 : List (Instr × Nat) := [(.aload 0, 1), (.iload 2, 1), (.invokevirtual 430211, 3), (.aload 6, 2), (.iload 1, 1), (.iload 3, 1), (.iload 4, 2), (.invokeinterface 41 2, 3), (.iload 5, 2), (.invokevirtual 1810404, 3), (.iconst 1, 1), (.ireturn, 1)]
theorem s_T_hold_47 : Seg 6 47 g_T_hold_47 := seg_of (by decide +kernel)
/-! T held -/
theorem mk_T_held : 7 < 256 ∧ mtB 7 = true := ⟨by decide, mk_7⟩
def g_T_held_0 : List (Instr × Nat) := [(.aload 0, 1), (.iload 2, 1), (.invokevirtual 420211, 3), (.astore 5, 2), (.aload 5, 2), (.ifnull 34, 3), (.aload 0, 1), (.getstatic 2816, 3), (.iload 1, 1), (.invokevirtual 1500201, 3), (.ifCond .eq 34, 3), (.aload 5, 2), (.iload 3, 1), (.iload 4, 2), (.invokevirtual 1760304, 3), (.ifCond .ne 36, 3)]
theorem s_T_held_0 : Seg 7 0 g_T_held_0 := seg_of (by decide +kernel)
def g_T_held_34 : List (Instr × Nat) := [(.iconst (-1), 1), (.ireturn, 1)]
theorem s_T_held_34 : Seg 7 34 g_T_held_34 := seg_of (by decide +kernel)
def g_T_held_36 : List (Instr × Nat) := [(.aload 5, 2), (.iload 1, 1), (.iload 3, 1), (.iload 4, 2), (.invokeinterface 41 2, 3), (.invokevirtual 1800304, 3), (.ireturn, 1)]
theorem s_T_held_36 : Seg 7 36 g_T_held_36 := seg_of (by decide +kernel)
/-! T care -/
theorem mk_T_care : 8 < 256 ∧ mtB 8 = true := ⟨by decide, mk_8⟩
def g_T_care_0 : List (Instr × Nat) := [(.aload 0, 1), (.iload 2, 1), (.invokevirtual 420211, 3), (.astore 5, 2), (.aload 5, 2), (.ifnull 45, 3), (.aload 0, 1), (.getstatic 2816, 3), (.iload 1, 1), (.invokevirtual 1500201, 3), (.ifCond .eq 45, 3), (.aload 5, 2), (.iload 3, 1), (.iconst 0, 1), (.invokevirtual 1760304, 3), (.ifCond .eq 45, 3), (.iload 4, 2), (.ifCond .lt 45, 3), (.iload 4, 2), (.iconst 9, 2), (.if_icmp .le 47, 3)]
theorem s_T_care_0 : Seg 8 0 g_T_care_0 := seg_of (by decide +kernel)
def g_T_care_45 : List (Instr × Nat) := [(.iconst 0, 1), (.ireturn, 1)]
theorem s_T_care_45 : Seg 8 45 g_T_care_45 := seg_of (by decide +kernel)
def g_T_care_47 : List (Instr × Nat) := [(.aload 5, 2), (.getstatic 1029, 3), (.iload 1, 1), (.aaload, 1), (.iload 3, 1), (.iload 4, 2), (.iastore, 1), (.iconst 1, 1), (.ireturn, 1)]
theorem s_T_care_47 : Seg 8 47 g_T_care_47 := seg_of (by decide +kernel)
/-! T clash -/
theorem mk_T_clash : 9 < 256 ∧ mtB 9 = true := ⟨by decide, mk_9⟩
def g_T_clash_0 : List (Instr × Nat) := [(.aload 0, 1), (.iload 2, 1), (.invokevirtual 420211, 3), (.astore 7, 2), (.aload 7, 2), (.ifnull 46, 3), (.aload 0, 1), (.getstatic 2816, 3), (.iload 1, 1), (.invokevirtual 1500201, 3), (.ifCond .eq 46, 3), (.aload 7, 2), (.iload 3, 1), (.iload 4, 2), (.invokevirtual 1760304, 3), (.ifCond .eq 46, 3), (.aload 7, 2), (.iload 5, 2), (.iload 6, 2), (.invokevirtual 1760304, 3), (.ifCond .ne 48, 3)]
theorem s_T_clash_0 : Seg 9 0 g_T_clash_0 := seg_of (by decide +kernel)
def g_T_clash_46 : List (Instr × Nat) := [(.iconst 0, 1), (.ireturn, 1)]
theorem s_T_clash_46 : Seg 9 46 g_T_clash_46 := seg_of (by decide +kernel)
def g_T_clash_48 : List (Instr × Nat) := [(.iload 3, 1), (.iload 5, 2), (.if_icmp .eq 63, 3), (.aload 0, 1), (.getfield 2830, 3), (.iconst 40, 2), (.if_icmp .lt 65, 3)]
theorem s_T_clash_48 : Seg 9 48 g_T_clash_48 := seg_of (by decide +kernel)
def g_T_clash_63 : List (Instr × Nat) := [(.iconst 0, 1), (.ireturn, 1)]
theorem s_T_clash_63 : Seg 9 63 g_T_clash_63 := seg_of (by decide +kernel)
def g_T_clash_65 : List (Instr × Nat) := [(.aload 0, 1), (.iload 2, 1), (.invokevirtual 430211, 3), (.aload 7, 2), (.iload 1, 1), (.iload 3, 1), (.iload 4, 2), (.invokeinterface 41 2, 3), (.iload 5, 2), (.iload 6, 2), (.invokeinterface 41 2, 3), (.invokevirtual 1820404, 3), (.aload 0, 1), (.dup, 1), (.getfield 2830, 3), (.iconst 1, 1), (.iadd, 1), (.putfield 2830, 3), (.iconst 1, 1), (.ireturn, 1)]
theorem s_T_clash_65 : Seg 9 65 g_T_clash_65 := seg_of (by decide +kernel)
/-! T bear -/
theorem mk_T_bear : 10 < 256 ∧ mtB 10 = true := ⟨by decide, mk_10⟩
def g_T_bear_0 : List (Instr × Nat) := [(.aload 0, 1), (.iload 2, 1), (.invokevirtual 420211, 3), (.astore 4, 2), (.aload 4, 2), (.ifnull 32, 3), (.aload 0, 1), (.getstatic 2816, 3), (.iload 1, 1), (.invokevirtual 1500201, 3), (.ifCond .eq 32, 3), (.aload 4, 2), (.iload 3, 1), (.invokevirtual 1770204, 3), (.ifCond .ne 34, 3)]
theorem s_T_bear_0 : Seg 10 0 g_T_bear_0 := seg_of (by decide +kernel)
def g_T_bear_32 : List (Instr × Nat) := [(.iconst (-1), 1), (.ireturn, 1)]
theorem s_T_bear_32 : Seg 10 32 g_T_bear_32 := seg_of (by decide +kernel)
def g_T_bear_34 : List (Instr × Nat) := [(.iconst 1, 1), (.aload 4, 2), (.aload 4, 2), (.getstatic 1026, 3), (.iload 3, 1), (.iaload, 1), (.invokevirtual 1850204, 3), (.iload 1, 1), (.ishr, 1), (.iconst 1, 1), (.iand, 1), (.isub, 1), (.ireturn, 1)]
theorem s_T_bear_34 : Seg 10 34 g_T_bear_34 := seg_of (by decide +kernel)
/-! T loss -/
theorem mk_T_loss : 11 < 256 ∧ mtB 11 = true := ⟨by decide, mk_11⟩
def g_T_loss_0 : List (Instr × Nat) := [(.aload 0, 1), (.iload 2, 1), (.invokevirtual 420211, 3), (.astore 4, 2), (.aload 4, 2), (.ifnull 32, 3), (.aload 0, 1), (.getstatic 2816, 3), (.iload 1, 1), (.invokevirtual 1500201, 3), (.ifCond .eq 32, 3), (.aload 4, 2), (.iload 3, 1), (.invokevirtual 1770204, 3), (.ifCond .ne 34, 3)]
theorem s_T_loss_0 : Seg 11 0 g_T_loss_0 := seg_of (by decide +kernel)
def g_T_loss_32 : List (Instr × Nat) := [(.iconst (-1), 1), (.ireturn, 1)]
theorem s_T_loss_32 : Seg 11 32 g_T_loss_32 := seg_of (by decide +kernel)
def g_T_loss_34 : List (Instr × Nat) := [(.aload 4, 2), (.iload 1, 1), (.aload 4, 2), (.getstatic 1026, 3), (.iload 3, 1), (.iaload, 1), (.invokevirtual 1860304, 3), (.ireturn, 1)]
theorem s_T_loss_34 : Seg 11 34 g_T_loss_34 := seg_of (by decide +kernel)
/-! T feed -/
theorem mk_T_feed : 12 < 256 ∧ mtB 12 = true := ⟨by decide, mk_12⟩
def g_T_feed_0 : List (Instr × Nat) := [(.aload 0, 1), (.getstatic 2818, 3), (.iload 1, 1), (.iload 2, 1), (.iload 3, 1), (.iload 4, 2), (.iload 5, 2), (.invokevirtual 2350609, 3), (.ireturn, 1)]
theorem s_T_feed_0 : Seg 12 0 g_T_feed_0 := seg_of (by decide +kernel)
/-! T end -/
theorem mk_T_end : 13 < 256 ∧ mtB 13 = true := ⟨by decide, mk_13⟩
def g_T_end_0 : List (Instr × Nat) := [(.iload 1, 1), (.ifCond .lt 15, 3), (.iload 1, 1), (.aload 0, 1), (.getstatic 2818, 3), (.getfield 2305, 3), (.if_icmp .le 17, 3)]
theorem s_T_end_0 : Seg 13 0 g_T_end_0 := seg_of (by decide +kernel)
def g_T_end_15 : List (Instr × Nat) := [(.iconst 0, 1), (.ireturn, 1)]
theorem s_T_end_15 : Seg 13 15 g_T_end_15 := seg_of (by decide +kernel)
def g_T_end_17 : List (Instr × Nat) := [(.aload 0, 1), (.getstatic 2818, 3), (.iload 1, 1), (.putfield 2305, 3), (.iconst 1, 1), (.ireturn, 1)]
theorem s_T_end_17 : Seg 13 17 g_T_end_17 := seg_of (by decide +kernel)
/-! T fault -/
theorem mk_T_fault : 14 < 256 ∧ mtB 14 = true := ⟨by decide, mk_14⟩
def g_T_fault_0 : List (Instr × Nat) := [(.iload 1, 1), (.ifCond .eq 9, 3), (.iload 1, 1), (.iconst 1, 1), (.if_icmp .ne 20, 3)]
theorem s_T_fault_0 : Seg 14 0 g_T_fault_0 := seg_of (by decide +kernel)
def g_T_fault_9 : List (Instr × Nat) := [(.aload 0, 1), (.getstatic 2819, 3), (.iload 1, 1), (.invokevirtual 1920206, 3), (.goto 22, 3)]
theorem s_T_fault_9 : Seg 14 9 g_T_fault_9 := seg_of (by decide +kernel)
def g_T_fault_20 : List (Instr × Nat) := [(.iconst (-2), 2)]
theorem s_T_fault_20 : Seg 14 20 g_T_fault_20 := seg_of (by decide +kernel)
def g_T_fault_22 : List (Instr × Nat) := [(.ireturn, 1)]
theorem s_T_fault_22 : Seg 14 22 g_T_fault_22 := seg_of (by decide +kernel)
/-! T law -/
theorem mk_T_law : 15 < 256 ∧ mtB 15 = true := ⟨by decide, mk_15⟩
def g_T_law_0 : List (Instr × Nat) := [(.aload 0, 1), (.getfield 2831, 3), (.iconst 8, 2), (.if_icmp .ge 21, 3), (.aload 0, 1), (.getstatic 2819, 3), (.iconst 0, 1), (.invokevirtual 1920206, 3), (.iconst (-1), 1), (.if_icmp .eq 23, 3)]
theorem s_T_law_0 : Seg 15 0 g_T_law_0 := seg_of (by decide +kernel)
def g_T_law_21 : List (Instr × Nat) := [(.iconst (-1), 1), (.ireturn, 1)]
theorem s_T_law_21 : Seg 15 21 g_T_law_21 := seg_of (by decide +kernel)
def g_T_law_23 : List (Instr × Nat) := [(.aload 0, 1), (.getstatic 2820, 3), (.aload 0, 1), (.getfield 2831, 3), (.aload 0, 1), (.getstatic 2819, 3), (.invokevirtual 1930106, 3), (.aastore, 1), (.aload 0, 1), (.dup, 1), (.getfield 2831, 3), (.iconst 1, 1), (.iadd, 1), (.putfield 2831, 3), (.aload 0, 1), (.getstatic 2818, 3), (.iconst 0, 1), (.putfield 2305, 3), (.aload 0, 1), (.getfield 2831, 3), (.iconst 1, 1), (.isub, 1), (.ireturn, 1)]
theorem s_T_law_23 : Seg 15 23 g_T_law_23 := seg_of (by decide +kernel)
/-! T mind -/
theorem mk_T_mind : 16 < 256 ∧ mtB 16 = true := ⟨by decide, mk_16⟩
def g_T_mind_0 : List (Instr × Nat) := [(.aload 0, 1), (.getfield 2832, 3), (.iconst 8, 2), (.if_icmp .ge 21, 3), (.aload 0, 1), (.getstatic 2819, 3), (.iconst 1, 1), (.invokevirtual 1920206, 3), (.iconst (-1), 1), (.if_icmp .eq 23, 3)]
theorem s_T_mind_0 : Seg 16 0 g_T_mind_0 := seg_of (by decide +kernel)
def g_T_mind_21 : List (Instr × Nat) := [(.iconst (-1), 1), (.ireturn, 1)]
theorem s_T_mind_21 : Seg 16 21 g_T_mind_21 := seg_of (by decide +kernel)
def g_T_mind_23 : List (Instr × Nat) := [(.aload 0, 1), (.getstatic 2821, 3), (.aload 0, 1), (.getfield 2832, 3), (.aload 0, 1), (.getstatic 2819, 3), (.invokevirtual 1930106, 3), (.aastore, 1), (.aload 0, 1), (.dup, 1), (.getfield 2832, 3), (.iconst 1, 1), (.iadd, 1), (.putfield 2832, 3), (.aload 0, 1), (.getstatic 2818, 3), (.iconst 0, 1), (.putfield 2305, 3), (.aload 0, 1), (.getfield 2832, 3), (.iconst 1, 1), (.isub, 1), (.ireturn, 1)]
theorem s_T_mind_23 : Seg 16 23 g_T_mind_23 := seg_of (by decide +kernel)
/-! T by -/
theorem mk_T_by : 17 < 256 ∧ mtB 17 = true := ⟨by decide, mk_17⟩
def g_T_by_0 : List (Instr × Nat) := [(.aload 0, 1), (.iload 1, 1), (.invokevirtual 420211, 3), (.astore 3, 1), (.aload 3, 1), (.ifnull 23, 3), (.iload 2, 1), (.iconst (-1), 1), (.if_icmp .lt 23, 3), (.iload 2, 1), (.aload 0, 1), (.getfield 2831, 3), (.if_icmp .lt 25, 3)]
theorem s_T_by_0 : Seg 17 0 g_T_by_0 := seg_of (by decide +kernel)
def g_T_by_23 : List (Instr × Nat) := [(.iconst 0, 1), (.ireturn, 1)]
theorem s_T_by_23 : Seg 17 23 g_T_by_23 := seg_of (by decide +kernel)
def g_T_by_25 : List (Instr × Nat) := [(.aload 0, 1), (.iload 1, 1), (.invokevirtual 430211, 3), (.aload 3, 1), (.iload 2, 1), (.iconst (-1), 1), (.if_icmp .ne 40, 3), (.aconst_null, 1), (.goto 46, 3)]
theorem s_T_by_25 : Seg 17 25 g_T_by_25 := seg_of (by decide +kernel)
def g_T_by_40 : List (Instr × Nat) := [(.aload 0, 1), (.getstatic 2820, 3), (.iload 2, 1), (.aaload, 1)]
theorem s_T_by_40 : Seg 17 40 g_T_by_40 := seg_of (by decide +kernel)
def g_T_by_46 : List (Instr × Nat) := [(.putstatic 1034, 3), (.iconst 1, 1), (.ireturn, 1)]
theorem s_T_by_46 : Seg 17 46 g_T_by_46 := seg_of (by decide +kernel)
/-! T minded -/
theorem mk_T_minded : 18 < 256 ∧ mtB 18 = true := ⟨by decide, mk_18⟩
def g_T_minded_0 : List (Instr × Nat) := [(.aload 0, 1), (.getstatic 2816, 3), (.iload 1, 1), (.invokevirtual 1500201, 3), (.ifCond .eq 24, 3), (.iload 2, 1), (.iconst (-1), 1), (.if_icmp .lt 24, 3), (.iload 2, 1), (.aload 0, 1), (.getfield 2832, 3), (.if_icmp .lt 26, 3)]
theorem s_T_minded_0 : Seg 18 0 g_T_minded_0 := seg_of (by decide +kernel)
def g_T_minded_24 : List (Instr × Nat) := [(.iconst 0, 1), (.ireturn, 1)]
theorem s_T_minded_24 : Seg 18 24 g_T_minded_24 := seg_of (by decide +kernel)
def g_T_minded_26 : List (Instr × Nat) := [(.aload 0, 1), (.iconst 0, 1), (.invokevirtual 430211, 3), (.aload 0, 1), (.getstatic 2816, 3), (.getstatic 258, 3), (.iload 1, 1), (.iload 2, 1), (.iconst (-1), 1), (.if_icmp .ne 48, 3), (.aconst_null, 1), (.goto 54, 3)]
theorem s_T_minded_26 : Seg 18 26 g_T_minded_26 := seg_of (by decide +kernel)
def g_T_minded_48 : List (Instr × Nat) := [(.aload 0, 1), (.getstatic 2821, 3), (.iload 2, 1), (.aaload, 1)]
theorem s_T_minded_48 : Seg 18 48 g_T_minded_48 := seg_of (by decide +kernel)
def g_T_minded_54 : List (Instr × Nat) := [(.aastore, 1), (.iconst 1, 1), (.ireturn, 1)]
theorem s_T_minded_54 : Seg 18 54 g_T_minded_54 := seg_of (by decide +kernel)
/-! T worth -/
theorem mk_T_worth : 19 < 256 ∧ mtB 19 = true := ⟨by decide, mk_19⟩
def g_T_worth_0 : List (Instr × Nat) := [(.iload 1, 1), (.ifCond .lt 12, 3), (.iload 1, 1), (.aload 0, 1), (.getfield 2832, 3), (.if_icmp .lt 20, 3)]
theorem s_T_worth_0 : Seg 19 0 g_T_worth_0 := seg_of (by decide +kernel)
def g_T_worth_12 : List (Instr × Nat) := [(.athrow, 8)]
theorem s_T_worth_12 : Seg 19 12 g_T_worth_12 := seg_of (by decide +kernel)
def g_T_worth_20 : List (Instr × Nat) := [(.aload 0, 1), (.getstatic 2822, 3), (.invokevirtual 2100107, 3), (.aload 0, 1), (.getstatic 2822, 3), (.iconst 104, 2), (.iload 3, 1), (.invokevirtual 2110307, 3), (.aload 0, 1), (.getstatic 2822, 3), (.iconst 101, 2), (.iload 4, 2), (.invokevirtual 2110307, 3), (.aload 0, 1), (.getstatic 2822, 3), (.iconst 111, 2), (.iload 5, 2), (.invokevirtual 2110307, 3), (.aload 0, 1), (.getstatic 2822, 3), (.iconst 116, 2), (.iload 6, 2), (.invokevirtual 2110307, 3), (.aload 0, 1), (.getstatic 2822, 3), (.iconst 107, 2), (.iload 7, 2), (.invokevirtual 2110307, 3), (.aload 0, 1), (.getstatic 2822, 3), (.aload 0, 1), (.getstatic 2821, 3), (.iload 1, 1), (.aaload, 1), (.iload 2, 1), (.invokevirtual 2120307, 3), (.lstore 8, 2), (.lload 8, 2), (.jsr_w (-9223372036854775808), 3), (.lcmp, 1), (.ifCond .ne 114, 3), (.athrow, 8)]
theorem s_T_worth_20 : Seg 19 20 g_T_worth_20 := seg_of (by decide +kernel)
def g_T_worth_114 : List (Instr × Nat) := [(.lload 8, 2), (.l2i, 1), (.ireturn, 1)]
theorem s_T_worth_114 : Seg 19 114 g_T_worth_114 := seg_of (by decide +kernel)
/-! T ground -/
theorem mk_T_ground : 20 < 256 ∧ mtB 20 = true := ⟨by decide, mk_20⟩
def g_T_ground_0 : List (Instr × Nat) := [(.aload 0, 1), (.iload 1, 1), (.invokevirtual 420211, 3), (.astore 3, 1), (.aload 3, 1), (.ifnull 18, 3), (.aload 3, 1), (.iload 2, 1), (.invokevirtual 1770204, 3), (.ifCond .ne 20, 3)]
theorem s_T_ground_0 : Seg 20 0 g_T_ground_0 := seg_of (by decide +kernel)
def g_T_ground_18 : List (Instr × Nat) := [(.iconst 0, 1), (.ireturn, 1)]
theorem s_T_ground_18 : Seg 20 18 g_T_ground_18 := seg_of (by decide +kernel)
def g_T_ground_20 : List (Instr × Nat) := [(.aload 0, 1), (.iload 1, 1), (.invokevirtual 430211, 3), (.aload 3, 1), (.iload 2, 1), (.putfield 1033, 3), (.iconst 1, 1), (.ireturn, 1)]
theorem s_T_ground_20 : Seg 20 20 g_T_ground_20 := seg_of (by decide +kernel)
/-! T talk -/
theorem mk_T_talk : 21 < 256 ∧ mtB 21 = true := ⟨by decide, mk_21⟩
def g_T_talk_0 : List (Instr × Nat) := [(.aload 0, 1), (.iload 1, 1), (.invokevirtual 420211, 3), (.ifnonnull 10, 3), (.iconst (-1), 1), (.ireturn, 1)]
theorem s_T_talk_0 : Seg 21 0 g_T_talk_0 := seg_of (by decide +kernel)
def g_T_talk_10 : List (Instr × Nat) := [(.aload 0, 1), (.iload 1, 1), (.invokevirtual 440211, 3), (.aload 0, 1), (.getstatic 2823, 3), (.iload 1, 1), (.aaload, 1), (.astore 3, 1), (.iload 2, 1), (.tableswitch 72 0 3 #[52, 57, 62, 67], 29)]
theorem s_T_talk_10 : Seg 21 10 g_T_talk_10 := seg_of (by decide +kernel)
def g_T_talk_52 : List (Instr × Nat) := [(.aload 3, 1), (.getfield 2059, 3), (.ireturn, 1)]
theorem s_T_talk_52 : Seg 21 52 g_T_talk_52 := seg_of (by decide +kernel)
def g_T_talk_57 : List (Instr × Nat) := [(.aload 3, 1), (.getfield 2060, 3), (.ireturn, 1)]
theorem s_T_talk_57 : Seg 21 57 g_T_talk_57 := seg_of (by decide +kernel)
def g_T_talk_62 : List (Instr × Nat) := [(.aload 3, 1), (.getfield 2061, 3), (.ireturn, 1)]
theorem s_T_talk_62 : Seg 21 62 g_T_talk_62 := seg_of (by decide +kernel)
def g_T_talk_67 : List (Instr × Nat) := [(.aload 3, 1), (.getfield 2062, 3), (.ireturn, 1)]
theorem s_T_talk_67 : Seg 21 67 g_T_talk_67 := seg_of (by decide +kernel)
def g_T_talk_72 : List (Instr × Nat) := [(.iconst (-1), 1), (.ireturn, 1)]
theorem s_T_talk_72 : Seg 21 72 g_T_talk_72 := seg_of (by decide +kernel)
/-! T said -/
theorem mk_T_said : 22 < 256 ∧ mtB 22 = true := ⟨by decide, mk_22⟩
def g_T_said_0 : List (Instr × Nat) := [(.aload 0, 1), (.iload 1, 1), (.invokevirtual 420211, 3), (.ifnull 21, 3), (.iload 2, 1), (.ifCond .lt 21, 3), (.iload 3, 1), (.ifCond .lt 21, 3), (.iload 3, 1), (.iconst 5, 1), (.if_icmp .lt 29, 3)]
theorem s_T_said_0 : Seg 22 0 g_T_said_0 := seg_of (by decide +kernel)
def g_T_said_21 : List (Instr × Nat) := [(.athrow, 8)]
theorem s_T_said_21 : Seg 22 21 g_T_said_21 := seg_of (by decide +kernel)
def g_T_said_29 : List (Instr × Nat) := [(.aload 0, 1), (.iload 1, 1), (.invokevirtual 440211, 3), (.iload 2, 1), (.aload 0, 1), (.getstatic 2823, 3), (.iload 1, 1), (.aaload, 1), (.getfield 2062, 3), (.if_icmp .lt 55, 3), (.athrow, 8)]
theorem s_T_said_29 : Seg 22 29 g_T_said_29 := seg_of (by decide +kernel)
def g_T_said_55 : List (Instr × Nat) := [(.aload 0, 1), (.getstatic 2823, 3), (.iload 1, 1), (.aaload, 1), (.getstatic 2053, 3), (.iload 2, 1), (.iconst 5, 1), (.imul, 1), (.iload 3, 1), (.iadd, 1), (.iaload, 1), (.ireturn, 1)]
theorem s_T_said_55 : Seg 22 55 g_T_said_55 := seg_of (by decide +kernel)
/-! T promise -/
theorem mk_T_promise : 23 < 256 ∧ mtB 23 = true := ⟨by decide, mk_23⟩
def g_T_promise_0 : List (Instr × Nat) := [(.aload 0, 1), (.iload 3, 1), (.invokevirtual 420211, 3), (.astore 6, 2), (.aload 6, 2), (.ifnull 48, 3), (.aload 0, 1), (.getstatic 2816, 3), (.iload 1, 1), (.iload 2, 1), (.invokevirtual 1510301, 3), (.ifCond .eq 48, 3), (.aload 6, 2), (.iload 4, 2), (.iload 5, 2), (.invokevirtual 1760304, 3), (.ifCond .eq 48, 3), (.aload 0, 1), (.getstatic 2825, 3), (.getfield 1285, 3), (.iconst 20, 2), (.if_icmp .lt 50, 3)]
theorem s_T_promise_0 : Seg 23 0 g_T_promise_0 := seg_of (by decide +kernel)
def g_T_promise_48 : List (Instr × Nat) := [(.iconst 0, 1), (.ireturn, 1)]
theorem s_T_promise_48 : Seg 23 48 g_T_promise_48 := seg_of (by decide +kernel)
def g_T_promise_50 : List (Instr × Nat) := [(.aload 0, 1), (.iload 3, 1), (.invokevirtual 430211, 3), (.aload 0, 1), (.getstatic 2825, 3), (.iload 1, 1), (.iload 2, 1), (.iload 3, 1), (.iload 4, 2), (.iload 5, 2), (.invokeinterface 41 2, 3), (.invokevirtual 1880505, 3), (.iconst 1, 1), (.ireturn, 1)]
theorem s_T_promise_50 : Seg 23 50 g_T_promise_50 := seg_of (by decide +kernel)
/-! T promised -/
theorem mk_T_promised : 24 < 256 ∧ mtB 24 = true := ⟨by decide, mk_24⟩
def g_T_promised_0 : List (Instr × Nat) := [(.aload 0, 1), (.getstatic 2816, 3), (.iload 1, 1), (.invokevirtual 1500201, 3), (.ifCond .ne 13, 3), (.iconst (-1), 1), (.ireturn, 1)]
theorem s_T_promised_0 : Seg 24 0 g_T_promised_0 := seg_of (by decide +kernel)
def g_T_promised_13 : List (Instr × Nat) := [(.aload 0, 1), (.aload 0, 1), (.getfield 2829, 3), (.iconst 1, 1), (.isub, 1), (.invokevirtual 440211, 3), (.aload 0, 1), (.getstatic 2825, 3), (.iload 1, 1), (.iload 2, 1), (.invokevirtual 1890305, 3), (.ireturn, 1)]
theorem s_T_promised_13 : Seg 24 13 g_T_promised_13 := seg_of (by decide +kernel)
/-! T all -/
theorem mk_T_all : 25 < 256 ∧ mtB 25 = true := ⟨by decide, mk_25⟩
def g_T_all_0 : List (Instr × Nat) := [(.aload 0, 1), (.iload 1, 1), (.invokevirtual 420211, 3), (.astore 3, 1), (.aload 3, 1), (.ifnull 15, 3), (.iload 2, 1), (.iconst (-1), 1), (.if_icmp .ge 19, 3)]
theorem s_T_all_0 : Seg 25 0 g_T_all_0 := seg_of (by decide +kernel)
def g_T_all_15 : List (Instr × Nat) := [(.iconst (-1), 1), (.goto 28, 3)]
theorem s_T_all_15 : Seg 25 15 g_T_all_15 := seg_of (by decide +kernel)
def g_T_all_19 : List (Instr × Nat) := [(.aload 0, 1), (.getstatic 2826, 3), (.aload 3, 1), (.iload 2, 1), (.invokevirtual 1570302, 3)]
theorem s_T_all_19 : Seg 25 19 g_T_all_19 := seg_of (by decide +kernel)
def g_T_all_28 : List (Instr × Nat) := [(.ireturn, 1)]
theorem s_T_all_28 : Seg 25 28 g_T_all_28 := seg_of (by decide +kernel)
/-! T fair -/
theorem mk_T_fair : 26 < 256 ∧ mtB 26 = true := ⟨by decide, mk_26⟩
def g_T_fair_0 : List (Instr × Nat) := [(.aload 0, 1), (.iload 1, 1), (.invokevirtual 420211, 3), (.astore 2, 1), (.aload 2, 1), (.ifnonnull 14, 3), (.iconst (-1), 1), (.goto 22, 3)]
theorem s_T_fair_0 : Seg 26 0 g_T_fair_0 := seg_of (by decide +kernel)
def g_T_fair_14 : List (Instr × Nat) := [(.aload 0, 1), (.getstatic 2826, 3), (.aload 2, 1), (.invokevirtual 1590202, 3)]
theorem s_T_fair_14 : Seg 26 14 g_T_fair_14 := seg_of (by decide +kernel)
def g_T_fair_22 : List (Instr × Nat) := [(.ireturn, 1)]
theorem s_T_fair_22 : Seg 26 22 g_T_fair_22 := seg_of (by decide +kernel)
/-! T barred -/
theorem mk_T_barred : 27 < 256 ∧ mtB 27 = true := ⟨by decide, mk_27⟩
def g_T_barred_0 : List (Instr × Nat) := [(.aload 0, 1), (.iload 1, 1), (.invokevirtual 420211, 3), (.astore 2, 1), (.aload 2, 1), (.ifnonnull 14, 3), (.iconst (-1), 1), (.goto 22, 3)]
theorem s_T_barred_0 : Seg 27 0 g_T_barred_0 := seg_of (by decide +kernel)
def g_T_barred_14 : List (Instr × Nat) := [(.aload 0, 1), (.getstatic 2826, 3), (.aload 2, 1), (.invokevirtual 1610202, 3)]
theorem s_T_barred_14 : Seg 27 14 g_T_barred_14 := seg_of (by decide +kernel)
def g_T_barred_22 : List (Instr × Nat) := [(.ireturn, 1)]
theorem s_T_barred_22 : Seg 27 22 g_T_barred_22 := seg_of (by decide +kernel)
/-! T open -/
theorem mk_T_open : 28 < 256 ∧ mtB 28 = true := ⟨by decide, mk_28⟩
def g_T_open_0 : List (Instr × Nat) := [(.aload 0, 1), (.iload 1, 1), (.invokevirtual 420211, 3), (.astore 2, 1), (.aload 2, 1), (.ifnonnull 14, 3), (.iconst (-1), 1), (.goto 22, 3)]
theorem s_T_open_0 : Seg 28 0 g_T_open_0 := seg_of (by decide +kernel)
def g_T_open_14 : List (Instr × Nat) := [(.aload 0, 1), (.getstatic 2826, 3), (.aload 2, 1), (.invokevirtual 1620202, 3)]
theorem s_T_open_14 : Seg 28 14 g_T_open_14 := seg_of (by decide +kernel)
def g_T_open_22 : List (Instr × Nat) := [(.ireturn, 1)]
theorem s_T_open_22 : Seg 28 22 g_T_open_22 := seg_of (by decide +kernel)
/-! T gift -/
theorem mk_T_gift : 29 < 256 ∧ mtB 29 = true := ⟨by decide, mk_29⟩
def g_T_gift_0 : List (Instr × Nat) := [(.aload 0, 1), (.iload 2, 1), (.invokevirtual 420211, 3), (.astore 8, 2), (.aload 0, 1), (.iload 5, 2), (.invokevirtual 420211, 3), (.astore 9, 2), (.aload 8, 2), (.ifnull 43, 3), (.aload 9, 2), (.ifnull 43, 3), (.iload 2, 1), (.iload 5, 2), (.if_icmp .eq 43, 3), (.aload 0, 1), (.getstatic 2827, 3), (.getfield 778, 3), (.iconst 8, 2), (.if_icmp .lt 45, 3)]
theorem s_T_gift_0 : Seg 29 0 g_T_gift_0 := seg_of (by decide +kernel)
def g_T_gift_43 : List (Instr × Nat) := [(.iconst (-1), 1), (.ireturn, 1)]
theorem s_T_gift_43 : Seg 29 43 g_T_gift_43 := seg_of (by decide +kernel)
def g_T_gift_45 : List (Instr × Nat) := [(.aload 0, 1), (.getstatic 2816, 3), (.iload 1, 1), (.invokevirtual 1500201, 3), (.ifCond .eq 79, 3), (.aload 8, 2), (.iload 3, 1), (.iload 4, 2), (.invokevirtual 1760304, 3), (.ifCond .eq 79, 3), (.aload 9, 2), (.iload 6, 2), (.iload 7, 2), (.invokevirtual 1760304, 3), (.ifCond .ne 81, 3)]
theorem s_T_gift_45 : Seg 29 45 g_T_gift_45 := seg_of (by decide +kernel)
def g_T_gift_79 : List (Instr × Nat) := [(.iconst (-1), 1), (.ireturn, 1)]
theorem s_T_gift_79 : Seg 29 79 g_T_gift_79 := seg_of (by decide +kernel)
def g_T_gift_81 : List (Instr × Nat) := [(.aload 0, 1), (.getstatic 2827, 3), (.iload 1, 1), (.iload 2, 1), (.iload 3, 1), (.iload 4, 2), (.invokeinterface 41 2, 3), (.iload 5, 2), (.iload 6, 2), (.iload 7, 2), (.invokeinterface 41 2, 3), (.invokevirtual 1670603, 3), (.ireturn, 1)]
theorem s_T_gift_81 : Seg 29 81 g_T_gift_81 := seg_of (by decide +kernel)
/-! T trade -/
theorem mk_T_trade : 30 < 256 ∧ mtB 30 = true := ⟨by decide, mk_30⟩
def g_T_trade_0 : List (Instr × Nat) := [(.aload 0, 1), (.iload 1, 1), (.invokevirtual 420211, 3), (.astore 3, 1), (.aload 0, 1), (.iload 2, 1), (.invokevirtual 420211, 3), (.astore 4, 2), (.aload 3, 1), (.ifnull 27, 3), (.aload 4, 2), (.ifnull 27, 3), (.iload 1, 1), (.iload 2, 1), (.if_icmp .ne 29, 3)]
theorem s_T_trade_0 : Seg 30 0 g_T_trade_0 := seg_of (by decide +kernel)
def g_T_trade_27 : List (Instr × Nat) := [(.iconst (-1), 1), (.ireturn, 1)]
theorem s_T_trade_27 : Seg 30 27 g_T_trade_27 := seg_of (by decide +kernel)
def g_T_trade_29 : List (Instr × Nat) := [(.aload 0, 1), (.getstatic 2827, 3), (.aload 3, 1), (.aload 4, 2), (.aload 0, 1), (.getstatic 2827, 3), (.iload 1, 1), (.iload 2, 1), (.invokevirtual 1680303, 3), (.invokevirtual 1690403, 3), (.ireturn, 1)]
theorem s_T_trade_29 : Seg 30 29 g_T_trade_29 := seg_of (by decide +kernel)
/-! T hands -/
theorem mk_T_hands : 31 < 256 ∧ mtB 31 = true := ⟨by decide, mk_31⟩
def g_T_hands_0 : List (Instr × Nat) := [(.aload 0, 1), (.iload 1, 1), (.invokevirtual 420211, 3), (.astore 3, 1), (.aload 3, 1), (.ifnull 19, 3), (.iload 2, 1), (.ifCond .lt 19, 3), (.iload 2, 1), (.iconst 2, 1), (.if_icmp .le 21, 3)]
theorem s_T_hands_0 : Seg 31 0 g_T_hands_0 := seg_of (by decide +kernel)
def g_T_hands_19 : List (Instr × Nat) := [(.iconst (-1), 1), (.ireturn, 1)]
theorem s_T_hands_19 : Seg 31 19 g_T_hands_19 := seg_of (by decide +kernel)
def g_T_hands_21 : List (Instr × Nat) := [(.aload 0, 1), (.getstatic 2826, 3), (.aload 3, 1), (.invokevirtual 1640202, 3), (.istore 4, 2), (.aload 3, 1), (.aload 3, 1), (.getstatic 1026, 3), (.iload 4, 2), (.iaload, 1), (.invokevirtual 1850204, 3), (.aload 0, 1), (.getstatic 2816, 3), (.getfield 262, 3), (.iand, 1), (.istore 5, 2), (.iload 2, 1), (.ifCond .ne 59, 3), (.iload 4, 2), (.ireturn, 1)]
theorem s_T_hands_21 : Seg 31 21 g_T_hands_21 := seg_of (by decide +kernel)
def g_T_hands_59 : List (Instr × Nat) := [(.iload 2, 1), (.iconst 1, 1), (.if_icmp .ne 69, 3), (.iload 5, 2), (.goto 82, 3)]
theorem s_T_hands_59 : Seg 31 59 g_T_hands_59 := seg_of (by decide +kernel)
def g_T_hands_69 : List (Instr × Nat) := [(.aload 0, 1), (.getstatic 2816, 3), (.getfield 261, 3), (.iload 5, 2), (.invokeinterface 254 1, 3), (.isub, 1)]
theorem s_T_hands_69 : Seg 31 69 g_T_hands_69 := seg_of (by decide +kernel)
def g_T_hands_82 : List (Instr × Nat) := [(.ireturn, 1)]
theorem s_T_hands_82 : Seg 31 82 g_T_hands_82 := seg_of (by decide +kernel)
/-! T aside -/
theorem mk_T_aside : 32 < 256 ∧ mtB 32 = true := ⟨by decide, mk_32⟩
def g_T_aside_0 : List (Instr × Nat) := [(.aload 0, 1), (.iload 3, 1), (.invokevirtual 420211, 3), (.astore 7, 2), (.aload 7, 2), (.ifnull 35, 3), (.aload 0, 1), (.getstatic 2816, 3), (.iload 1, 1), (.invokevirtual 1500201, 3), (.ifCond .eq 35, 3), (.aload 7, 2), (.iload 4, 2), (.iload 5, 2), (.invokevirtual 1760304, 3), (.ifCond .ne 37, 3)]
theorem s_T_aside_0 : Seg 32 0 g_T_aside_0 := seg_of (by decide +kernel)
def g_T_aside_35 : List (Instr × Nat) := [(.iconst 0, 1), (.ireturn, 1)]
theorem s_T_aside_35 : Seg 32 35 g_T_aside_35 := seg_of (by decide +kernel)
def g_T_aside_37 : List (Instr × Nat) := [(.iload 2, 1), (.ifCond .le 65, 3), (.iload 2, 1), (.aload 0, 1), (.getstatic 2816, 3), (.getfield 260, 3), (.ishr, 1), (.ifCond .ne 65, 3), (.aload 0, 1), (.getstatic 2828, 3), (.getfield 5, 3), (.iconst 60, 2), (.if_icmp .lt 67, 3)]
theorem s_T_aside_37 : Seg 32 37 g_T_aside_37 := seg_of (by decide +kernel)
def g_T_aside_65 : List (Instr × Nat) := [(.iconst 0, 1), (.ireturn, 1)]
theorem s_T_aside_65 : Seg 32 65 g_T_aside_65 := seg_of (by decide +kernel)
def g_T_aside_67 : List (Instr × Nat) := [(.aload 0, 1), (.getstatic 2828, 3), (.iload 1, 1), (.iload 2, 1), (.iload 3, 1), (.iload 4, 2), (.iload 5, 2), (.invokeinterface 41 2, 3), (.iload 6, 2), (.invokevirtual 1470600, 3), (.iconst 1, 1), (.ireturn, 1)]
theorem s_T_aside_67 : Seg 32 67 g_T_aside_67 := seg_of (by decide +kernel)
/-! T taken -/
theorem mk_T_taken : 33 < 256 ∧ mtB 33 = true := ⟨by decide, mk_33⟩
def g_T_taken_0 : List (Instr × Nat) := [(.aload 0, 1), (.iload 3, 1), (.invokevirtual 420211, 3), (.astore 6, 2), (.aload 6, 2), (.ifnull 36, 3), (.aload 0, 1), (.getstatic 2816, 3), (.iload 1, 1), (.iload 2, 1), (.invokevirtual 1510301, 3), (.ifCond .eq 36, 3), (.aload 6, 2), (.iload 4, 2), (.iload 5, 2), (.invokevirtual 1760304, 3), (.ifCond .ne 38, 3)]
theorem s_T_taken_0 : Seg 33 0 g_T_taken_0 := seg_of (by decide +kernel)
def g_T_taken_36 : List (Instr × Nat) := [(.iconst (-1), 1), (.ireturn, 1)]
theorem s_T_taken_36 : Seg 33 36 g_T_taken_36 := seg_of (by decide +kernel)
def g_T_taken_38 : List (Instr × Nat) := [(.aload 0, 1), (.iload 3, 1), (.invokevirtual 440211, 3), (.aload 0, 1), (.iconst 1, 1), (.iload 1, 1), (.ishl, 1), (.iload 2, 1), (.iload 3, 1), (.iload 4, 2), (.iload 5, 2), (.invokevirtual 450611, 3), (.ireturn, 1)]
theorem s_T_taken_38 : Seg 33 38 g_T_taken_38 := seg_of (by decide +kernel)
/-! T twice -/
theorem mk_T_twice : 34 < 256 ∧ mtB 34 = true := ⟨by decide, mk_34⟩
def g_T_twice_0 : List (Instr × Nat) := [(.aload 0, 1), (.iload 4, 2), (.invokevirtual 420211, 3), (.astore 7, 2), (.aload 7, 2), (.ifnull 25, 3), (.aload 7, 2), (.iload 5, 2), (.iload 6, 2), (.invokevirtual 1760304, 3), (.ifCond .ne 27, 3)]
theorem s_T_twice_0 : Seg 34 0 g_T_twice_0 := seg_of (by decide +kernel)
def g_T_twice_25 : List (Instr × Nat) := [(.iconst (-1), 1), (.ireturn, 1)]
theorem s_T_twice_25 : Seg 34 25 g_T_twice_25 := seg_of (by decide +kernel)
def g_T_twice_27 : List (Instr × Nat) := [(.aload 0, 1), (.getstatic 2816, 3), (.iload 1, 1), (.iload 2, 1), (.invokevirtual 1510301, 3), (.ifCond .eq 63, 3), (.aload 0, 1), (.getstatic 2816, 3), (.iload 1, 1), (.iload 3, 1), (.invokevirtual 1510301, 3), (.ifCond .eq 63, 3), (.aload 0, 1), (.getstatic 2816, 3), (.iload 2, 1), (.iload 3, 1), (.invokevirtual 1510301, 3), (.ifCond .ne 65, 3)]
theorem s_T_twice_27 : Seg 34 27 g_T_twice_27 := seg_of (by decide +kernel)
def g_T_twice_63 : List (Instr × Nat) := [(.iconst (-1), 1), (.ireturn, 1)]
theorem s_T_twice_63 : Seg 34 63 g_T_twice_63 := seg_of (by decide +kernel)
def g_T_twice_65 : List (Instr × Nat) := [(.aload 0, 1), (.iload 4, 2), (.invokevirtual 440211, 3), (.aload 0, 1), (.iconst 1, 1), (.iload 1, 1), (.ishl, 1), (.iconst 1, 1), (.iload 2, 1), (.ishl, 1), (.ior, 1), (.iload 3, 1), (.iload 4, 2), (.iload 5, 2), (.iload 6, 2), (.invokevirtual 450611, 3), (.ireturn, 1)]
theorem s_T_twice_65 : Seg 34 65 g_T_twice_65 := seg_of (by decide +kernel)
/-! T mistaken -/
theorem mk_T_mistaken : 35 < 256 ∧ mtB 35 = true := ⟨by decide, mk_35⟩
def g_T_mistaken_0 : List (Instr × Nat) := [(.aload 0, 1), (.iload 3, 1), (.invokevirtual 420211, 3), (.astore 4, 2), (.aload 4, 2), (.ifnull 24, 3), (.aload 0, 1), (.getstatic 2816, 3), (.iload 1, 1), (.iload 2, 1), (.invokevirtual 1510301, 3), (.ifCond .ne 26, 3)]
theorem s_T_mistaken_0 : Seg 35 0 g_T_mistaken_0 := seg_of (by decide +kernel)
def g_T_mistaken_24 : List (Instr × Nat) := [(.iconst (-1), 1), (.ireturn, 1)]
theorem s_T_mistaken_24 : Seg 35 24 g_T_mistaken_24 := seg_of (by decide +kernel)
def g_T_mistaken_26 : List (Instr × Nat) := [(.aload 0, 1), (.iload 3, 1), (.invokevirtual 440211, 3), (.iconst 0, 1), (.istore 5, 2), (.iconst 0, 1), (.istore 6, 2)]
theorem s_T_mistaken_26 : Seg 35 26 g_T_mistaken_26 := seg_of (by decide +kernel)
def g_T_mistaken_37 : List (Instr × Nat) := [(.iload 6, 2), (.aload 4, 2), (.getfield 1024, 3), (.if_icmp .ge 104, 3), (.iconst 0, 1), (.istore 7, 2)]
theorem s_T_mistaken_37 : Seg 35 37 g_T_mistaken_37 := seg_of (by decide +kernel)
def g_T_mistaken_50 : List (Instr × Nat) := [(.iload 7, 2), (.aload 4, 2), (.getfield 1025, 3), (.if_icmp .ge 98, 3), (.aload 0, 1), (.iconst 1, 1), (.iload 1, 1), (.ishl, 1), (.iload 2, 1), (.iload 3, 1), (.iload 6, 2), (.iload 7, 2), (.invokevirtual 450611, 3), (.aload 4, 2), (.iload 2, 1), (.iload 6, 2), (.iload 7, 2), (.invokeinterface 41 2, 3), (.invokevirtual 1800304, 3), (.if_icmp .eq 92, 3), (.iinc 5 (1), 3)]
theorem s_T_mistaken_50 : Seg 35 50 g_T_mistaken_50 := seg_of (by decide +kernel)
def g_T_mistaken_92 : List (Instr × Nat) := [(.iinc 7 (1), 3), (.goto 50, 3)]
theorem s_T_mistaken_92 : Seg 35 92 g_T_mistaken_92 := seg_of (by decide +kernel)
def g_T_mistaken_98 : List (Instr × Nat) := [(.iinc 6 (1), 3), (.goto 37, 3)]
theorem s_T_mistaken_98 : Seg 35 98 g_T_mistaken_98 := seg_of (by decide +kernel)
def g_T_mistaken_104 : List (Instr × Nat) := [(.iload 5, 2), (.ireturn, 1)]
theorem s_T_mistaken_104 : Seg 35 104 g_T_mistaken_104 := seg_of (by decide +kernel)
/-! T about -/
theorem mk_T_about : 36 < 256 ∧ mtB 36 = true := ⟨by decide, mk_36⟩
def g_T_about_0 : List (Instr × Nat) := [(.aload 0, 1), (.iload 2, 1), (.invokevirtual 420211, 3), (.astore 3, 1), (.aload 3, 1), (.ifnull 21, 3), (.aload 0, 1), (.getstatic 2816, 3), (.iload 1, 1), (.invokevirtual 1500201, 3), (.ifCond .ne 23, 3)]
theorem s_T_about_0 : Seg 36 0 g_T_about_0 := seg_of (by decide +kernel)
def g_T_about_21 : List (Instr × Nat) := [(.iconst (-1), 1), (.ireturn, 1)]
theorem s_T_about_21 : Seg 36 21 g_T_about_21 := seg_of (by decide +kernel)
def g_T_about_23 : List (Instr × Nat) := [(.aload 0, 1), (.iload 2, 1), (.invokevirtual 440211, 3), (.aload 0, 1), (.getstatic 2823, 3), (.iload 2, 1), (.aaload, 1), (.iload 1, 1), (.invokevirtual 2310208, 3), (.ireturn, 1)]
theorem s_T_about_23 : Seg 36 23 g_T_about_23 := seg_of (by decide +kernel)
/-! T back -/
theorem mk_T_back : 37 < 256 ∧ mtB 37 = true := ⟨by decide, mk_37⟩
def g_T_back_0 : List (Instr × Nat) := [(.aload 0, 1), (.iload 2, 1), (.invokevirtual 420211, 3), (.astore 4, 2), (.aload 4, 2), (.ifnull 32, 3), (.aload 0, 1), (.getstatic 2816, 3), (.iload 1, 1), (.invokevirtual 1500201, 3), (.ifCond .eq 32, 3), (.iload 3, 1), (.ifCond .lt 32, 3), (.iload 3, 1), (.iconst 2, 1), (.if_icmp .le 34, 3)]
theorem s_T_back_0 : Seg 37 0 g_T_back_0 := seg_of (by decide +kernel)
def g_T_back_32 : List (Instr × Nat) := [(.iconst (-1), 1), (.ireturn, 1)]
theorem s_T_back_32 : Seg 37 32 g_T_back_32 := seg_of (by decide +kernel)
def g_T_back_34 : List (Instr × Nat) := [(.aload 0, 1), (.iload 2, 1), (.invokevirtual 440211, 3), (.iconst (-1), 1), (.istore 5, 2), (.iconst 0, 1), (.istore 6, 2), (.iconst 0, 1), (.istore 7, 2)]
theorem s_T_back_34 : Seg 37 34 g_T_back_34 := seg_of (by decide +kernel)
def g_T_back_48 : List (Instr × Nat) := [(.iload 7, 2), (.iconst 4, 1), (.aload 4, 2), (.getfield 1024, 3), (.imul, 1), (.if_icmp .ge 115, 3), (.iload 7, 2), (.iconst 4, 1), (.irem, 1), (.aload 4, 2), (.getfield 1025, 3), (.if_icmp .ge 109, 3), (.aload 4, 2), (.iload 1, 1), (.iload 7, 2), (.invokevirtual 1800304, 3), (.iconst 1, 1), (.if_icmp .ne 109, 3), (.aload 0, 1), (.iload 1, 1), (.iload 2, 1), (.iload 7, 2), (.invokevirtual 460411, 3), (.istore 8, 2), (.iload 8, 2), (.iload 6, 2), (.if_icmp .le 109, 3), (.iload 8, 2), (.istore 6, 2), (.iload 7, 2), (.istore 5, 2)]
theorem s_T_back_48 : Seg 37 48 g_T_back_48 := seg_of (by decide +kernel)
def g_T_back_109 : List (Instr × Nat) := [(.iinc 7 (1), 3), (.goto 48, 3)]
theorem s_T_back_109 : Seg 37 109 g_T_back_109 := seg_of (by decide +kernel)
def g_T_back_115 : List (Instr × Nat) := [(.iload 5, 2), (.iconst (-1), 1), (.if_icmp .ne 123, 3), (.iconst (-1), 1), (.ireturn, 1)]
theorem s_T_back_115 : Seg 37 115 g_T_back_115 := seg_of (by decide +kernel)
def g_T_back_123 : List (Instr × Nat) := [(.iload 3, 1), (.ifCond .ne 132, 3), (.iload 5, 2), (.iconst 4, 1), (.idiv, 1), (.ireturn, 1)]
theorem s_T_back_123 : Seg 37 123 g_T_back_123 := seg_of (by decide +kernel)
def g_T_back_132 : List (Instr × Nat) := [(.iload 3, 1), (.iconst 1, 1), (.if_icmp .ne 144, 3), (.iload 5, 2), (.iconst 4, 1), (.irem, 1), (.goto 146, 3)]
theorem s_T_back_132 : Seg 37 132 g_T_back_132 := seg_of (by decide +kernel)
def g_T_back_144 : List (Instr × Nat) := [(.iload 6, 2)]
theorem s_T_back_144 : Seg 37 144 g_T_back_144 := seg_of (by decide +kernel)
def g_T_back_146 : List (Instr × Nat) := [(.ireturn, 1)]
theorem s_T_back_146 : Seg 37 146 g_T_back_146 := seg_of (by decide +kernel)
/-! T leans -/
theorem mk_T_leans : 38 < 256 ∧ mtB 38 = true := ⟨by decide, mk_38⟩
def g_T_leans_0 : List (Instr × Nat) := [(.aload 0, 1), (.iload 1, 1), (.invokevirtual 420211, 3), (.astore 3, 1), (.aload 3, 1), (.ifnull 18, 3), (.aload 3, 1), (.iload 2, 1), (.invokevirtual 1770204, 3), (.ifCond .ne 20, 3)]
theorem s_T_leans_0 : Seg 38 0 g_T_leans_0 := seg_of (by decide +kernel)
def g_T_leans_18 : List (Instr × Nat) := [(.iconst (-1), 1), (.ireturn, 1)]
theorem s_T_leans_18 : Seg 38 18 g_T_leans_18 := seg_of (by decide +kernel)
def g_T_leans_20 : List (Instr × Nat) := [(.aload 0, 1), (.iload 1, 1), (.invokevirtual 440211, 3), (.iconst 0, 1), (.istore 4, 2), (.iconst 0, 1), (.istore 5, 2)]
theorem s_T_leans_20 : Seg 38 20 g_T_leans_20 := seg_of (by decide +kernel)
def g_T_leans_31 : List (Instr × Nat) := [(.iload 5, 2), (.aload 3, 1), (.getfield 1024, 3), (.if_icmp .ge 70, 3), (.aload 0, 1), (.getstatic 2823, 3), (.iload 1, 1), (.aaload, 1), (.iload 5, 2), (.aload 3, 1), (.iload 2, 1), (.iload 5, 2), (.invokevirtual 1780304, 3), (.invokevirtual 2320308, 3), (.ifCond .eq 64, 3), (.iinc 4 (1), 3)]
theorem s_T_leans_31 : Seg 38 31 g_T_leans_31 := seg_of (by decide +kernel)
def g_T_leans_64 : List (Instr × Nat) := [(.iinc 5 (1), 3), (.goto 31, 3)]
theorem s_T_leans_64 : Seg 38 64 g_T_leans_64 := seg_of (by decide +kernel)
def g_T_leans_70 : List (Instr × Nat) := [(.iload 4, 2), (.ireturn, 1)]
theorem s_T_leans_70 : Seg 38 70 g_T_leans_70 := seg_of (by decide +kernel)
/-! T minds -/
theorem mk_T_minds : 39 < 256 ∧ mtB 39 = true := ⟨by decide, mk_39⟩
def g_T_minds_0 : List (Instr × Nat) := [(.aload 0, 1), (.iload 2, 1), (.invokevirtual 420211, 3), (.astore 3, 1), (.aload 3, 1), (.ifnull 21, 3), (.aload 0, 1), (.getstatic 2816, 3), (.iload 1, 1), (.invokevirtual 1500201, 3), (.ifCond .ne 23, 3)]
theorem s_T_minds_0 : Seg 39 0 g_T_minds_0 := seg_of (by decide +kernel)
def g_T_minds_21 : List (Instr × Nat) := [(.iconst (-1), 1), (.ireturn, 1)]
theorem s_T_minds_21 : Seg 39 21 g_T_minds_21 := seg_of (by decide +kernel)
def g_T_minds_23 : List (Instr × Nat) := [(.aload 0, 1), (.iload 2, 1), (.invokevirtual 440211, 3), (.aload 0, 1), (.getstatic 2825, 3), (.iload 2, 1), (.aload 0, 1), (.getstatic 2824, 3), (.getstatic 2052, 3), (.invokevirtual 1900305, 3), (.aload 0, 1), (.getstatic 2824, 3), (.iload 1, 1), (.putfield 2065, 3), (.aload 0, 1), (.getstatic 2824, 3), (.iconst 1, 1), (.aload 0, 1), (.getfield 2832, 3), (.ishl, 1), (.iconst 1, 1), (.isub, 1), (.putfield 2066, 3), (.aload 0, 1), (.getstatic 2824, 3), (.aload 3, 1), (.invokevirtual 2150208, 3), (.aload 0, 1), (.getstatic 2824, 3), (.iconst (-1), 1), (.putfield 2065, 3), (.aload 0, 1), (.getstatic 2824, 3), (.getfield 2066, 3), (.ireturn, 1)]
theorem s_T_minds_23 : Seg 39 23 g_T_minds_23 := seg_of (by decide +kernel)
/-! T count -/
theorem mk_T_count : 40 < 256 ∧ mtB 40 = true := ⟨by decide, mk_40⟩
def g_T_count_0 : List (Instr × Nat) := [(.iload 1, 1), (.tableswitch 124 0 9 #[56, 64, 72, 77, 82, 87, 92, 100, 108, 116], 55)]
theorem s_T_count_0 : Seg 40 0 g_T_count_0 := seg_of (by decide +kernel)
def g_T_count_56 : List (Instr × Nat) := [(.aload 0, 1), (.getstatic 2816, 3), (.getfield 260, 3), (.ireturn, 1)]
theorem s_T_count_56 : Seg 40 56 g_T_count_56 := seg_of (by decide +kernel)
def g_T_count_64 : List (Instr × Nat) := [(.aload 0, 1), (.getstatic 2816, 3), (.getfield 261, 3), (.ireturn, 1)]
theorem s_T_count_64 : Seg 40 64 g_T_count_64 := seg_of (by decide +kernel)
def g_T_count_72 : List (Instr × Nat) := [(.aload 0, 1), (.getfield 2829, 3), (.ireturn, 1)]
theorem s_T_count_72 : Seg 40 72 g_T_count_72 := seg_of (by decide +kernel)
def g_T_count_77 : List (Instr × Nat) := [(.aload 0, 1), (.getfield 2830, 3), (.ireturn, 1)]
theorem s_T_count_77 : Seg 40 77 g_T_count_77 := seg_of (by decide +kernel)
def g_T_count_82 : List (Instr × Nat) := [(.aload 0, 1), (.getfield 2831, 3), (.ireturn, 1)]
theorem s_T_count_82 : Seg 40 82 g_T_count_82 := seg_of (by decide +kernel)
def g_T_count_87 : List (Instr × Nat) := [(.aload 0, 1), (.getfield 2832, 3), (.ireturn, 1)]
theorem s_T_count_87 : Seg 40 87 g_T_count_87 := seg_of (by decide +kernel)
def g_T_count_92 : List (Instr × Nat) := [(.aload 0, 1), (.getstatic 2825, 3), (.getfield 1285, 3), (.ireturn, 1)]
theorem s_T_count_92 : Seg 40 92 g_T_count_92 := seg_of (by decide +kernel)
def g_T_count_100 : List (Instr × Nat) := [(.aload 0, 1), (.getstatic 2827, 3), (.getfield 778, 3), (.ireturn, 1)]
theorem s_T_count_100 : Seg 40 100 g_T_count_100 := seg_of (by decide +kernel)
def g_T_count_108 : List (Instr × Nat) := [(.aload 0, 1), (.getstatic 2828, 3), (.getfield 5, 3), (.ireturn, 1)]
theorem s_T_count_108 : Seg 40 108 g_T_count_108 := seg_of (by decide +kernel)
def g_T_count_116 : List (Instr × Nat) := [(.aload 0, 1), (.getstatic 2818, 3), (.getfield 2305, 3), (.ireturn, 1)]
theorem s_T_count_116 : Seg 40 116 g_T_count_116 := seg_of (by decide +kernel)
def g_T_count_124 : List (Instr × Nat) := [(.iconst (-1), 1), (.ireturn, 1)]
theorem s_T_count_124 : Seg 40 124 g_T_count_124 := seg_of (by decide +kernel)
/-! T slot -/
theorem mk_T_slot : 41 < 256 ∧ mtB 41 = true := ⟨by decide, mk_41⟩
def g_T_slot_0 : List (Instr × Nat) := [(.iload 0, 1), (.iconst 4, 1), (.imul, 1), (.iload 1, 1), (.iadd, 1), (.ireturn, 1)]
theorem s_T_slot_0 : Seg 41 0 g_T_slot_0 := seg_of (by decide +kernel)
/-! T matterAt -/
theorem mk_T_matterAt : 42 < 256 ∧ mtB 42 = true := ⟨by decide, mk_42⟩
def g_T_matterAt_0 : List (Instr × Nat) := [(.iload 1, 1), (.ifCond .lt 21, 3), (.iload 1, 1), (.aload 0, 1), (.getfield 2829, 3), (.if_icmp .ge 21, 3), (.aload 0, 1), (.getstatic 2817, 3), (.iload 1, 1), (.aaload, 1), (.goto 22, 3)]
theorem s_T_matterAt_0 : Seg 42 0 g_T_matterAt_0 := seg_of (by decide +kernel)
def g_T_matterAt_21 : List (Instr × Nat) := [(.aconst_null, 1)]
theorem s_T_matterAt_21 : Seg 42 21 g_T_matterAt_21 := seg_of (by decide +kernel)
def g_T_matterAt_22 : List (Instr × Nat) := [(.areturn, 1)]
theorem s_T_matterAt_22 : Seg 42 22 g_T_matterAt_22 := seg_of (by decide +kernel)
/-! T unsettleFrom -/
theorem mk_T_unsettleFrom : 43 < 256 ∧ mtB 43 = true := ⟨by decide, mk_43⟩
def g_T_unsettleFrom_0 : List (Instr × Nat) := [(.aload 0, 1), (.aload 0, 1), (.getfield 2833, 3), (.iload 1, 1), (.fsub, 3), (.putfield 2833, 3), (.return_, 1)]
theorem s_T_unsettleFrom_0 : Seg 43 0 g_T_unsettleFrom_0 := seg_of (by decide +kernel)
/-! T settle -/
theorem mk_T_settle : 44 < 256 ∧ mtB 44 = true := ⟨by decide, mk_44⟩
def g_T_settle_0 : List (Instr × Nat) := [(.aload 0, 1), (.getfield 2833, 3), (.istore 2, 1)]
theorem s_T_settle_0 : Seg 44 0 g_T_settle_0 := seg_of (by decide +kernel)
def g_T_settle_5 : List (Instr × Nat) := [(.iload 2, 1), (.iload 1, 1), (.if_icmp .gt 68, 3), (.iload 2, 1), (.aload 0, 1), (.getfield 2829, 3), (.if_icmp .ge 68, 3), (.aload 0, 1), (.iload 2, 1), (.invokevirtual 420211, 3), (.astore 3, 1), (.aload 3, 1), (.ifnull 55, 3), (.aload 0, 1), (.getstatic 2825, 3), (.iload 2, 1), (.aload 0, 1), (.getstatic 2823, 3), (.iload 2, 1), (.aaload, 1), (.getstatic 2052, 3), (.invokevirtual 1900305, 3), (.aload 0, 1), (.getstatic 2823, 3), (.iload 2, 1), (.aaload, 1), (.aload 3, 1), (.invokevirtual 2150208, 3)]
theorem s_T_settle_5 : Seg 44 5 g_T_settle_5 := seg_of (by decide +kernel)
def g_T_settle_55 : List (Instr × Nat) := [(.aload 0, 1), (.iload 2, 1), (.iconst 1, 1), (.iadd, 1), (.putfield 2833, 3), (.iinc 2 (1), 3), (.goto 5, 3)]
theorem s_T_settle_55 : Seg 44 55 g_T_settle_55 := seg_of (by decide +kernel)
def g_T_settle_68 : List (Instr × Nat) := [(.return_, 1)]
theorem s_T_settle_68 : Seg 44 68 g_T_settle_68 := seg_of (by decide +kernel)
/-! T takenBy -/
theorem mk_T_takenBy : 45 < 256 ∧ mtB 45 = true := ⟨by decide, mk_45⟩
def g_T_takenBy_0 : List (Instr × Nat) := [(.aload 0, 1), (.getstatic 2828, 3), (.iload 1, 1), (.iload 2, 1), (.iload 3, 1), (.iload 4, 2), (.iload 5, 2), (.invokeinterface 41 2, 3), (.invokevirtual 1480500, 3), (.istore 6, 2), (.aload 0, 1), (.getstatic 2823, 3), (.iload 3, 1), (.aaload, 1), (.iload 2, 1), (.iload 4, 2), (.iload 5, 2), (.iload 6, 2), (.invokevirtual 2300508, 3), (.ireturn, 1)]
theorem s_T_takenBy_0 : Seg 45 0 g_T_takenBy_0 := seg_of (by decide +kernel)
/-! T gainByHidingOf -/
theorem mk_T_gainByHidingOf : 46 < 256 ∧ mtB 46 = true := ⟨by decide, mk_46⟩
def g_T_gainByHidingOf_0 : List (Instr × Nat) := [(.aload 0, 1), (.iload 2, 1), (.invokevirtual 420211, 3), (.astore 4, 2), (.aload 4, 2), (.ifnull 24, 3), (.aload 0, 1), (.getstatic 2823, 3), (.iload 2, 1), (.aaload, 1), (.getfield 2059, 3), (.ifCond .eq 26, 3)]
theorem s_T_gainByHidingOf_0 : Seg 46 0 g_T_gainByHidingOf_0 := seg_of (by decide +kernel)
def g_T_gainByHidingOf_24 : List (Instr × Nat) := [(.iconst 0, 1), (.ireturn, 1)]
theorem s_T_gainByHidingOf_24 : Seg 46 24 g_T_gainByHidingOf_24 := seg_of (by decide +kernel)
def g_T_gainByHidingOf_26 : List (Instr × Nat) := [(.aload 4, 2), (.iload 1, 1), (.aload 4, 2), (.getstatic 1026, 3), (.aload 0, 1), (.getstatic 2823, 3), (.iload 2, 1), (.aaload, 1), (.getfield 2061, 3), (.iaload, 1), (.invokevirtual 1860304, 3), (.istore 5, 2), (.iload 5, 2), (.ifCond .ne 56, 3), (.iconst 0, 1), (.ireturn, 1)]
theorem s_T_gainByHidingOf_26 : Seg 46 26 g_T_gainByHidingOf_26 := seg_of (by decide +kernel)
def g_T_gainByHidingOf_56 : List (Instr × Nat) := [(.aload 0, 1), (.getstatic 2825, 3), (.iload 2, 1), (.aload 0, 1), (.getstatic 2824, 3), (.getstatic 2052, 3), (.invokevirtual 1900305, 3), (.aload 4, 2), (.iload 1, 1), (.iload 3, 1), (.iconst 0, 1), (.invokevirtual 1810404, 3), (.aload 0, 1), (.getstatic 2824, 3), (.aload 4, 2), (.invokevirtual 2150208, 3), (.aload 4, 2), (.iload 1, 1), (.iload 3, 1), (.iconst 1, 1), (.invokevirtual 1810404, 3), (.aload 0, 1), (.getstatic 2824, 3), (.getfield 2059, 3), (.ifCond .ne 131, 3), (.iload 5, 2), (.aload 4, 2), (.iload 1, 1), (.aload 4, 2), (.getstatic 1026, 3), (.aload 0, 1), (.getstatic 2824, 3), (.getfield 2061, 3), (.iaload, 1), (.invokevirtual 1860304, 3), (.isub, 1), (.goto 132, 3)]
theorem s_T_gainByHidingOf_56 : Seg 46 56 g_T_gainByHidingOf_56 := seg_of (by decide +kernel)
def g_T_gainByHidingOf_131 : List (Instr × Nat) := [(.iconst 0, 1)]
theorem s_T_gainByHidingOf_131 : Seg 46 131 g_T_gainByHidingOf_131 := seg_of (by decide +kernel)
def g_T_gainByHidingOf_132 : List (Instr × Nat) := [(.ireturn, 1)]
theorem s_T_gainByHidingOf_132 : Seg 46 132 g_T_gainByHidingOf_132 := seg_of (by decide +kernel)
/-! T comesFirst -/
theorem mk_T_comesFirst : 47 < 256 ∧ mtB 47 = true := ⟨by decide, mk_47⟩
def g_T_comesFirst_0 : List (Instr × Nat) := [(.iload 0, 1), (.invokeinterface 254 1, 3), (.iload 1, 1), (.invokeinterface 254 1, 3), (.isub, 1), (.istore 2, 1), (.iload 0, 1), (.iload 1, 1), (.ixor, 1), (.istore 3, 1), (.iload 2, 1), (.ifCond .eq 30, 3), (.iload 2, 1), (.ifCond .ge 26, 3), (.iconst 1, 1), (.goto 44, 3)]
theorem s_T_comesFirst_0 : Seg 47 0 g_T_comesFirst_0 := seg_of (by decide +kernel)
def g_T_comesFirst_26 : List (Instr × Nat) := [(.iconst 0, 1), (.goto 44, 3)]
theorem s_T_comesFirst_26 : Seg 47 26 g_T_comesFirst_26 := seg_of (by decide +kernel)
def g_T_comesFirst_30 : List (Instr × Nat) := [(.iload 0, 1), (.iload 3, 1), (.iand, 1), (.iload 3, 1), (.ineg, 1), (.iand, 1), (.ifCond .eq 43, 3), (.iconst 1, 1), (.goto 44, 3)]
theorem s_T_comesFirst_30 : Seg 47 30 g_T_comesFirst_30 := seg_of (by decide +kernel)
def g_T_comesFirst_43 : List (Instr × Nat) := [(.iconst 0, 1)]
theorem s_T_comesFirst_43 : Seg 47 43 g_T_comesFirst_43 := seg_of (by decide +kernel)
def g_T_comesFirst_44 : List (Instr × Nat) := [(.ireturn, 1)]
theorem s_T_comesFirst_44 : Seg 47 44 g_T_comesFirst_44 := seg_of (by decide +kernel)
/-! R init -/
theorem mk_R_init : 48 < 256 ∧ mtB 48 = true := ⟨by decide, mk_48⟩
def g_R_init_0 : List (Instr × Nat) := [(.aload 0, 1), (.nop, 3), (.aload 0, 1), (.iconst 8, 2), (.newarray .int, 2), (.putstatic 3073, 3), (.aload 0, 1), (.iconst 64, 2), (.newarray .int, 2), (.putstatic 3074, 3), (.aload 0, 1), (.iconst 8, 2), (.newarray .int, 2), (.putstatic 3075, 3), (.aload 0, 1), (.iconst 8, 2), (.newarray .boolean, 2), (.putstatic 3076, 3), (.aload 0, 1), (.iconst 4, 1), (.newarray .int, 2), (.putstatic 3077, 3), (.aload 0, 1), (.iconst 4, 1), (.newarray .int, 2), (.putstatic 3078, 3), (.aload 0, 1), (.iconst 640, 3), (.newarray .int, 2), (.putstatic 3079, 3), (.aload 0, 1), (.iconst 160, 3), (.newarray .int, 2), (.putstatic 3080, 3), (.aload 0, 1), (.iconst 4, 1), (.newarray .int, 2), (.putstatic 3081, 3), (.aload 0, 1), (.iconst 4, 1), (.newarray .int, 2), (.putstatic 3082, 3), (.aload 0, 1), (.iconst 8, 2), (.newarray .int, 2), (.putstatic 3083, 3), (.aload 0, 1), (.iconst 40, 2), (.newarray .int, 2), (.putstatic 3084, 3), (.aload 0, 1), (.iconst 40, 2), (.newarray .int, 2), (.putstatic 3085, 3), (.aload 0, 1), (.iconst 40, 2), (.newarray .int, 2), (.putstatic 3086, 3), (.aload 0, 1), (.iconst 40, 2), (.newarray .int, 2), (.putstatic 3087, 3), (.aload 0, 1), (.iconst 40, 2), (.newarray .int, 2), (.putstatic 3088, 3), (.aload 0, 1), (.iconst 40, 2), (.newarray .int, 2), (.putstatic 3089, 3), (.aload 0, 1), (.iconst 160, 3), (.newarray .byte, 2), (.putstatic 3095, 3), (.aload 0, 1), (.iconst 2560, 3), (.newarray .byte, 2), (.putstatic 3096, 3), (.aload 0, 1), (.iconst 16, 2), (.newarray .int, 2), (.putstatic 3097, 3), (.aload 0, 1), (.iconst 128, 3), (.newarray .int, 2), (.putstatic 3098, 3), (.aload 0, 1), (.aload 0, 1), (.getstatic 3095, 3), (.putstatic 3099, 3), (.aload 0, 1), (.ldc 2, 2), (.putstatic 3110, 3), (.aload 0, 1), (.ldc 6, 2), (.putstatic 3111, 3), (.aload 0, 1), (.iconst 240, 3), (.newarray .int, 2), (.putstatic 3113, 3), (.aload 0, 1), (.iconst 240, 3), (.newarray .int, 2), (.putstatic 3114, 3), (.aload 0, 1), (.iconst 240, 3), (.newarray .int, 2), (.putstatic 3115, 3), (.aload 0, 1), (.iconst 240, 3), (.newarray .int, 2), (.putstatic 3116, 3), (.aload 0, 1), (.iconst 240, 3), (.newarray .int, 2), (.putstatic 3117, 3), (.aload 0, 1), (.iconst 240, 3), (.newarray .int, 2), (.putstatic 3118, 3), (.aload 0, 1), (.iconst 20, 2), (.newarray .int, 2), (.putstatic 3119, 3), (.aload 0, 1), (.iconst 20, 2), (.newarray .int, 2), (.putstatic 3120, 3), (.aload 0, 1), (.iconst 8, 2), (.newarray .int, 2), (.putstatic 3121, 3), (.aload 0, 1), (.iconst 31, 2), (.newarray .int, 2), (.putstatic 3122, 3), (.aload 0, 1), (.iconst 620, 3), (.newarray .int, 2), (.putstatic 3123, 3), (.aload 0, 1), (.iconst 620, 3), (.newarray .int, 2), (.putstatic 3124, 3), (.aload 0, 1), (.iconst 4, 1), (.newarray .int, 2), (.putstatic 3129, 3), (.aload 0, 1), (.iconst 4, 1), (.newarray .int, 2), (.putstatic 3130, 3), (.aload 0, 1), (.iconst 13200, 3), (.newarray .int, 2), (.putstatic 3131, 3), (.aload 0, 1), (.iconst (-1), 1), (.putfield 3133, 3), (.aload 0, 1), (.iconst 20, 2), (.newarray .int, 2), (.putstatic 3134, 3), (.aload 0, 1), (.iconst 20, 2), (.newarray .int, 2), (.putstatic 3135, 3), (.aload 0, 1), (.iconst 20, 2), (.newarray .int, 2), (.putstatic 3136, 3), (.aload 0, 1), (.iconst 20, 2), (.newarray .int, 2), (.putstatic 3137, 3), (.aload 0, 1), (.iconst 20, 2), (.newarray .int, 2), (.putstatic 3138, 3), (.aload 0, 1), (.iconst 8, 2), (.newarray .int, 2), (.putstatic 3140, 3), (.aload 0, 1), (.iconst 8, 2), (.newarray .int, 2), (.putstatic 3141, 3), (.aload 0, 1), (.iconst 8, 2), (.newarray .int, 2), (.putstatic 3142, 3), (.aload 0, 1), (.iconst 8, 2), (.newarray .int, 2), (.putstatic 3143, 3), (.aload 0, 1), (.iconst 8, 2), (.newarray .int, 2), (.putstatic 3144, 3), (.aload 0, 1), (.iconst 8, 2), (.newarray .int, 2), (.putstatic 3145, 3), (.aload 0, 1), (.iconst 8, 2), (.newarray .int, 2), (.putstatic 3146, 3), (.aload 0, 1), (.iconst 8, 2), (.newarray .int, 2), (.putstatic 3147, 3), (.aload 0, 1), (.iconst 8, 2), (.newarray .int, 2), (.putstatic 3148, 3), (.aload 0, 1), (.iconst 60, 2), (.newarray .int, 2), (.putstatic 3150, 3), (.aload 0, 1), (.iconst 60, 2), (.newarray .int, 2), (.putstatic 3151, 3), (.aload 0, 1), (.iconst 60, 2), (.newarray .int, 2), (.putstatic 3152, 3), (.aload 0, 1), (.iconst 60, 2), (.newarray .int, 2), (.putstatic 3153, 3), (.aload 0, 1), (.iconst 60, 2), (.newarray .int, 2), (.putstatic 3154, 3), (.aload 0, 1), (.iconst 60, 2), (.newarray .boolean, 2), (.putstatic 3155, 3), (.return_, 1)]
theorem s_R_init_0 : Seg 48 0 g_R_init_0 := seg_of (by decide +kernel)
/-! R thrown -/
theorem mk_R_thrown : 49 < 256 ∧ mtB 49 = true := ⟨by decide, mk_49⟩
def g_R_thrown_0 : List (Instr × Nat) := [(.aload 0, 1), (.getfield 3072, 3), (.ireturn, 1)]
theorem s_R_thrown_0 : Seg 49 0 g_R_thrown_0 := seg_of (by decide +kernel)
/-! R isIn -/
theorem mk_R_isIn : 50 < 256 ∧ mtB 50 = true := ⟨by decide, mk_50⟩
def g_R_isIn_0 : List (Instr × Nat) := [(.iload 0, 1), (.iload 1, 1), (.if_icmp .lt 14, 3), (.iload 0, 1), (.iload 2, 1), (.if_icmp .gt 14, 3), (.iconst 1, 1), (.goto 15, 3)]
theorem s_R_isIn_0 : Seg 50 0 g_R_isIn_0 := seg_of (by decide +kernel)
def g_R_isIn_14 : List (Instr × Nat) := [(.iconst 0, 1)]
theorem s_R_isIn_14 : Seg 50 14 g_R_isIn_14 := seg_of (by decide +kernel)
def g_R_isIn_15 : List (Instr × Nat) := [(.ireturn, 1)]
theorem s_R_isIn_15 : Seg 50 15 g_R_isIn_15 := seg_of (by decide +kernel)
/-! R isElder -/
theorem mk_R_isElder : 51 < 256 ∧ mtB 51 = true := ⟨by decide, mk_51⟩
def g_R_isElder_0 : List (Instr × Nat) := [(.iload 1, 1), (.ifCond .lt 16, 3), (.iload 1, 1), (.aload 0, 1), (.getfield 3090, 3), (.if_icmp .ge 16, 3), (.iconst 1, 1), (.goto 17, 3)]
theorem s_R_isElder_0 : Seg 51 0 g_R_isElder_0 := seg_of (by decide +kernel)
def g_R_isElder_16 : List (Instr × Nat) := [(.iconst 0, 1)]
theorem s_R_isElder_16 : Seg 51 16 g_R_isElder_16 := seg_of (by decide +kernel)
def g_R_isElder_17 : List (Instr × Nat) := [(.ireturn, 1)]
theorem s_R_isElder_17 : Seg 51 17 g_R_isElder_17 := seg_of (by decide +kernel)
/-! R isMatter -/
theorem mk_R_isMatter : 52 < 256 ∧ mtB 52 = true := ⟨by decide, mk_52⟩
def g_R_isMatter_0 : List (Instr × Nat) := [(.iload 1, 1), (.ifCond .lt 16, 3), (.iload 1, 1), (.aload 0, 1), (.getfield 3091, 3), (.if_icmp .ge 16, 3), (.iconst 1, 1), (.goto 17, 3)]
theorem s_R_isMatter_0 : Seg 52 0 g_R_isMatter_0 := seg_of (by decide +kernel)
def g_R_isMatter_16 : List (Instr × Nat) := [(.iconst 0, 1)]
theorem s_R_isMatter_16 : Seg 52 16 g_R_isMatter_16 := seg_of (by decide +kernel)
def g_R_isMatter_17 : List (Instr × Nat) := [(.ireturn, 1)]
theorem s_R_isMatter_17 : Seg 52 17 g_R_isMatter_17 := seg_of (by decide +kernel)
/-! R isPart -/
theorem mk_R_isPart : 53 < 256 ∧ mtB 53 = true := ⟨by decide, mk_53⟩
def g_R_isPart_0 : List (Instr × Nat) := [(.aload 0, 1), (.iload 1, 1), (.invokevirtual 520212, 3), (.ifCond .eq 28, 3), (.iload 2, 1), (.iconst 0, 1), (.aload 0, 1), (.getstatic 3077, 3), (.iload 1, 1), (.iaload, 1), (.iconst 1, 1), (.isub, 1), (.invokeinterface 50 3, 3), (.ifCond .eq 28, 3), (.iconst 1, 1), (.goto 29, 3)]
theorem s_R_isPart_0 : Seg 53 0 g_R_isPart_0 := seg_of (by decide +kernel)
def g_R_isPart_28 : List (Instr × Nat) := [(.iconst 0, 1)]
theorem s_R_isPart_28 : Seg 53 28 g_R_isPart_28 := seg_of (by decide +kernel)
def g_R_isPart_29 : List (Instr × Nat) := [(.ireturn, 1)]
theorem s_R_isPart_29 : Seg 53 29 g_R_isPart_29 := seg_of (by decide +kernel)
/-! R isWay -/
theorem mk_R_isWay : 54 < 256 ∧ mtB 54 = true := ⟨by decide, mk_54⟩
def g_R_isWay_0 : List (Instr × Nat) := [(.aload 0, 1), (.iload 1, 1), (.iload 2, 1), (.invokevirtual 530312, 3), (.ifCond .eq 29, 3), (.iload 3, 1), (.iconst 0, 1), (.aload 0, 1), (.getstatic 3078, 3), (.iload 1, 1), (.iaload, 1), (.iconst 1, 1), (.isub, 1), (.invokeinterface 50 3, 3), (.ifCond .eq 29, 3), (.iconst 1, 1), (.goto 30, 3)]
theorem s_R_isWay_0 : Seg 54 0 g_R_isWay_0 := seg_of (by decide +kernel)
def g_R_isWay_29 : List (Instr × Nat) := [(.iconst 0, 1)]
theorem s_R_isWay_29 : Seg 54 29 g_R_isWay_29 := seg_of (by decide +kernel)
def g_R_isWay_30 : List (Instr × Nat) := [(.ireturn, 1)]
theorem s_R_isWay_30 : Seg 54 30 g_R_isWay_30 := seg_of (by decide +kernel)
/-! R elder -/
theorem mk_R_elder : 55 < 256 ∧ mtB 55 = true := ⟨by decide, mk_55⟩
def g_R_elder_0 : List (Instr × Nat) := [(.aload 0, 1), (.iconst 0, 1), (.putfield 3072, 3), (.aload 0, 1), (.getfield 3090, 3), (.iconst 8, 2), (.if_icmp .eq 25, 3), (.iload 1, 1), (.iconst 20, 2), (.iconst 99, 2), (.invokeinterface 50 3, 3), (.ifCond .ne 27, 3)]
theorem s_R_elder_0 : Seg 55 0 g_R_elder_0 := seg_of (by decide +kernel)
def g_R_elder_25 : List (Instr × Nat) := [(.iconst (-1), 1), (.ireturn, 1)]
theorem s_R_elder_25 : Seg 55 25 g_R_elder_25 := seg_of (by decide +kernel)
def g_R_elder_27 : List (Instr × Nat) := [(.aload 0, 1), (.getstatic 3073, 3), (.aload 0, 1), (.getfield 3090, 3), (.iload 1, 1), (.iastore, 1), (.aload 0, 1), (.getstatic 3083, 3), (.aload 0, 1), (.getfield 3090, 3), (.iconst (-1), 1), (.iastore, 1), (.iconst 0, 1), (.istore 2, 1)]
theorem s_R_elder_27 : Seg 55 27 g_R_elder_27 := seg_of (by decide +kernel)
def g_R_elder_49 : List (Instr × Nat) := [(.iload 2, 1), (.iconst 80, 2), (.if_icmp .ge 76, 3), (.aload 0, 1), (.getstatic 3079, 3), (.iconst 80, 2), (.aload 0, 1), (.getfield 3090, 3), (.imul, 1), (.iload 2, 1), (.iadd, 1), (.iconst 1, 1), (.iastore, 1), (.iinc 2 (1), 3), (.goto 49, 3)]
theorem s_R_elder_49 : Seg 55 49 g_R_elder_49 := seg_of (by decide +kernel)
def g_R_elder_76 : List (Instr × Nat) := [(.iconst 0, 1), (.istore 2, 1)]
theorem s_R_elder_76 : Seg 55 76 g_R_elder_76 := seg_of (by decide +kernel)
def g_R_elder_78 : List (Instr × Nat) := [(.iload 2, 1), (.iconst 20, 2), (.if_icmp .ge 105, 3), (.aload 0, 1), (.getstatic 3080, 3), (.iconst 20, 2), (.aload 0, 1), (.getfield 3090, 3), (.imul, 1), (.iload 2, 1), (.iadd, 1), (.iconst 1, 1), (.iastore, 1), (.iinc 2 (1), 3), (.goto 78, 3)]
theorem s_R_elder_78 : Seg 55 78 g_R_elder_78 := seg_of (by decide +kernel)
def g_R_elder_105 : List (Instr × Nat) := [(.aload 0, 1), (.dup, 1), (.getfield 3090, 3), (.iconst 1, 1), (.iadd, 1), (.putfield 3090, 3), (.aload 0, 1), (.getfield 3090, 3), (.iconst 1, 1), (.isub, 1), (.ireturn, 1)]
theorem s_R_elder_105 : Seg 55 105 g_R_elder_105 := seg_of (by decide +kernel)
/-! R left -/
theorem mk_R_left : 56 < 256 ∧ mtB 56 = true := ⟨by decide, mk_56⟩
def g_R_left_0 : List (Instr × Nat) := [(.aload 0, 1), (.iconst 0, 1), (.putfield 3072, 3), (.aload 0, 1), (.iload 1, 1), (.invokevirtual 510212, 3), (.ifCond .eq 23, 3), (.aload 0, 1), (.getstatic 3076, 3), (.iload 1, 1), (.caload, 1), (.iload 2, 1), (.if_icmp .ne 25, 3)]
theorem s_R_left_0 : Seg 56 0 g_R_left_0 := seg_of (by decide +kernel)
def g_R_left_23 : List (Instr × Nat) := [(.iconst 0, 1), (.ireturn, 1)]
theorem s_R_left_23 : Seg 56 23 g_R_left_23 := seg_of (by decide +kernel)
def g_R_left_25 : List (Instr × Nat) := [(.aload 0, 1), (.getstatic 3076, 3), (.iload 1, 1), (.iload 2, 1), (.castore, 1), (.iconst 1, 1), (.ireturn, 1)]
theorem s_R_left_25 : Seg 56 25 g_R_left_25 := seg_of (by decide +kernel)
/-! R sit -/
theorem mk_R_sit : 57 < 256 ∧ mtB 57 = true := ⟨by decide, mk_57⟩
def g_R_sit_0 : List (Instr × Nat) := [(.aload 0, 1), (.iconst 0, 1), (.putfield 3093, 3), (.iconst 20, 2), (.istore 1, 1)]
theorem s_R_sit_0 : Seg 57 0 g_R_sit_0 := seg_of (by decide +kernel)
def g_R_sit_8 : List (Instr × Nat) := [(.iload 1, 1), (.iconst 100, 2), (.if_icmp .ge 78, 3), (.iconst 0, 1), (.istore 2, 1)]
theorem s_R_sit_8 : Seg 57 8 g_R_sit_8 := seg_of (by decide +kernel)
def g_R_sit_16 : List (Instr × Nat) := [(.iload 2, 1), (.aload 0, 1), (.getfield 3090, 3), (.if_icmp .ge 72, 3), (.aload 0, 1), (.getstatic 3073, 3), (.iload 2, 1), (.iaload, 1), (.iload 1, 1), (.if_icmp .ne 66, 3), (.aload 0, 1), (.getstatic 3076, 3), (.iload 2, 1), (.caload, 1), (.ifCond .eq 46, 3), (.goto 66, 3)]
theorem s_R_sit_16 : Seg 57 16 g_R_sit_16 := seg_of (by decide +kernel)
def g_R_sit_46 : List (Instr × Nat) := [(.aload 0, 1), (.getstatic 3075, 3), (.aload 0, 1), (.getfield 3093, 3), (.iload 2, 1), (.iastore, 1), (.aload 0, 1), (.dup, 1), (.getfield 3093, 3), (.iconst 1, 1), (.iadd, 1), (.putfield 3093, 3)]
theorem s_R_sit_46 : Seg 57 46 g_R_sit_46 := seg_of (by decide +kernel)
def g_R_sit_66 : List (Instr × Nat) := [(.iinc 2 (1), 3), (.goto 16, 3)]
theorem s_R_sit_66 : Seg 57 66 g_R_sit_66 := seg_of (by decide +kernel)
def g_R_sit_72 : List (Instr × Nat) := [(.iinc 1 (1), 3), (.goto 8, 3)]
theorem s_R_sit_72 : Seg 57 72 g_R_sit_72 := seg_of (by decide +kernel)
def g_R_sit_78 : List (Instr × Nat) := [(.return_, 1)]
theorem s_R_sit_78 : Seg 57 78 g_R_sit_78 := seg_of (by decide +kernel)
/-! R place -/
theorem mk_R_place : 58 < 256 ∧ mtB 58 = true := ⟨by decide, mk_58⟩
def g_R_place_0 : List (Instr × Nat) := [(.aload 0, 1), (.iconst 0, 1), (.putfield 3072, 3), (.aload 0, 1), (.invokevirtual 570112, 3), (.iload 1, 1), (.iconst 0, 1), (.aload 0, 1), (.getfield 3093, 3), (.iconst 1, 1), (.isub, 1), (.invokeinterface 50 3, 3), (.ifCond .eq 32, 3), (.aload 0, 1), (.getstatic 3075, 3), (.iload 1, 1), (.iaload, 1), (.goto 33, 3)]
theorem s_R_place_0 : Seg 58 0 g_R_place_0 := seg_of (by decide +kernel)
def g_R_place_32 : List (Instr × Nat) := [(.iconst (-1), 1)]
theorem s_R_place_32 : Seg 58 32 g_R_place_32 := seg_of (by decide +kernel)
def g_R_place_33 : List (Instr × Nat) := [(.ireturn, 1)]
theorem s_R_place_33 : Seg 58 33 g_R_place_33 := seg_of (by decide +kernel)
/-! R heed -/
theorem mk_R_heed : 59 < 256 ∧ mtB 59 = true := ⟨by decide, mk_59⟩
def g_R_heed_0 : List (Instr × Nat) := [(.aload 0, 1), (.iconst 0, 1), (.putfield 3072, 3), (.aload 0, 1), (.iload 1, 1), (.invokevirtual 510212, 3), (.ifCond .eq 36, 3), (.aload 0, 1), (.iload 2, 1), (.invokevirtual 510212, 3), (.ifCond .eq 36, 3), (.iload 1, 1), (.iload 2, 1), (.if_icmp .eq 36, 3), (.iload 3, 1), (.iconst 0, 1), (.iconst 9, 2), (.invokeinterface 50 3, 3), (.ifCond .ne 38, 3)]
theorem s_R_heed_0 : Seg 59 0 g_R_heed_0 := seg_of (by decide +kernel)
def g_R_heed_36 : List (Instr × Nat) := [(.iconst 0, 1), (.ireturn, 1)]
theorem s_R_heed_36 : Seg 59 36 g_R_heed_36 := seg_of (by decide +kernel)
def g_R_heed_38 : List (Instr × Nat) := [(.aload 0, 1), (.getstatic 3074, 3), (.iconst 8, 2), (.iload 1, 1), (.imul, 1), (.iload 2, 1), (.iadd, 1), (.iload 3, 1), (.iastore, 1), (.iconst 1, 1), (.ireturn, 1)]
theorem s_R_heed_38 : Seg 59 38 g_R_heed_38 := seg_of (by decide +kernel)
/-! R matter -/
theorem mk_R_matter : 60 < 256 ∧ mtB 60 = true := ⟨by decide, mk_60⟩
def g_R_matter_0 : List (Instr × Nat) := [(.aload 0, 1), (.iconst 0, 1), (.putfield 3072, 3), (.aload 0, 1), (.getfield 3091, 3), (.iconst 4, 1), (.if_icmp .eq 31, 3), (.iload 1, 1), (.iconst 1, 1), (.iconst 5, 1), (.invokeinterface 50 3, 3), (.ifCond .eq 31, 3), (.iload 2, 1), (.iconst 2, 1), (.iconst 4, 1), (.invokeinterface 50 3, 3), (.ifCond .ne 33, 3)]
theorem s_R_matter_0 : Seg 60 0 g_R_matter_0 := seg_of (by decide +kernel)
def g_R_matter_31 : List (Instr × Nat) := [(.iconst (-1), 1), (.ireturn, 1)]
theorem s_R_matter_31 : Seg 60 31 g_R_matter_31 := seg_of (by decide +kernel)
def g_R_matter_33 : List (Instr × Nat) := [(.aload 0, 1), (.getstatic 3077, 3), (.aload 0, 1), (.getfield 3091, 3), (.iload 1, 1), (.iastore, 1), (.aload 0, 1), (.getstatic 3078, 3), (.aload 0, 1), (.getfield 3091, 3), (.iload 2, 1), (.iastore, 1), (.aload 0, 1), (.getstatic 3081, 3), (.aload 0, 1), (.getfield 3091, 3), (.iconst (-1), 1), (.iastore, 1), (.aload 0, 1), (.getstatic 3082, 3), (.aload 0, 1), (.getfield 3091, 3), (.iconst 0, 1), (.iastore, 1), (.aload 0, 1), (.dup, 1), (.getfield 3091, 3), (.iconst 1, 1), (.iadd, 1), (.putfield 3091, 3), (.aload 0, 1), (.getfield 3091, 3), (.iconst 1, 1), (.isub, 1), (.ireturn, 1)]
theorem s_R_matter_33 : Seg 60 33 g_R_matter_33 := seg_of (by decide +kernel)
/-! R holdAt -/
theorem mk_R_holdAt : 61 < 256 ∧ mtB 61 = true := ⟨by decide, mk_61⟩
def g_R_holdAt_0 : List (Instr × Nat) := [(.iconst 4, 1), (.iload 0, 1), (.imul, 1), (.iload 1, 1), (.iadd, 1), (.iconst 5, 1), (.imul, 1), (.iload 2, 1), (.iadd, 1), (.iconst 4, 1), (.imul, 1), (.iload 3, 1), (.iadd, 1), (.ireturn, 1)]
theorem s_R_holdAt_0 : Seg 61 0 g_R_holdAt_0 := seg_of (by decide +kernel)
/-! R hold -/
theorem mk_R_hold : 62 < 256 ∧ mtB 62 = true := ⟨by decide, mk_62⟩
def g_R_hold_0 : List (Instr × Nat) := [(.aload 0, 1), (.iconst 0, 1), (.putfield 3072, 3), (.aload 0, 1), (.iload 1, 1), (.invokevirtual 510212, 3), (.ifCond .eq 34, 3), (.aload 0, 1), (.iload 2, 1), (.iload 3, 1), (.iload 4, 2), (.invokevirtual 540412, 3), (.ifCond .eq 34, 3), (.iload 5, 2), (.iconst 0, 1), (.iconst 2, 1), (.invokeinterface 50 3, 3), (.ifCond .ne 36, 3)]
theorem s_R_hold_0 : Seg 62 0 g_R_hold_0 := seg_of (by decide +kernel)
def g_R_hold_34 : List (Instr × Nat) := [(.iconst 0, 1), (.ireturn, 1)]
theorem s_R_hold_34 : Seg 62 34 g_R_hold_34 := seg_of (by decide +kernel)
def g_R_hold_36 : List (Instr × Nat) := [(.aload 0, 1), (.getstatic 3079, 3), (.iload 1, 1), (.iload 2, 1), (.iload 3, 1), (.iload 4, 2), (.invokeinterface 61 4, 3), (.iload 5, 2), (.iastore, 1), (.iconst 1, 1), (.ireturn, 1)]
theorem s_R_hold_36 : Seg 62 36 g_R_hold_36 := seg_of (by decide +kernel)
/-! R held -/
theorem mk_R_held : 63 < 256 ∧ mtB 63 = true := ⟨by decide, mk_63⟩
def g_R_held_0 : List (Instr × Nat) := [(.aload 0, 1), (.iconst 0, 1), (.putfield 3072, 3), (.aload 0, 1), (.iload 1, 1), (.invokevirtual 510212, 3), (.ifCond .eq 40, 3), (.aload 0, 1), (.iload 2, 1), (.iload 3, 1), (.iload 4, 2), (.invokevirtual 540412, 3), (.ifCond .eq 40, 3), (.aload 0, 1), (.getstatic 3079, 3), (.iload 1, 1), (.iload 2, 1), (.iload 3, 1), (.iload 4, 2), (.invokeinterface 61 4, 3), (.iaload, 1), (.goto 41, 3)]
theorem s_R_held_0 : Seg 63 0 g_R_held_0 := seg_of (by decide +kernel)
def g_R_held_40 : List (Instr × Nat) := [(.iconst (-1), 1)]
theorem s_R_held_40 : Seg 63 40 g_R_held_40 := seg_of (by decide +kernel)
def g_R_held_41 : List (Instr × Nat) := [(.ireturn, 1)]
theorem s_R_held_41 : Seg 63 41 g_R_held_41 := seg_of (by decide +kernel)
/-! R care -/
theorem mk_R_care : 64 < 256 ∧ mtB 64 = true := ⟨by decide, mk_64⟩
def g_R_care_0 : List (Instr × Nat) := [(.aload 0, 1), (.iconst 0, 1), (.putfield 3072, 3), (.aload 0, 1), (.iload 1, 1), (.invokevirtual 510212, 3), (.ifCond .eq 33, 3), (.aload 0, 1), (.iload 2, 1), (.iload 3, 1), (.invokevirtual 530312, 3), (.ifCond .eq 33, 3), (.iload 4, 2), (.iconst 0, 1), (.iconst 9, 2), (.invokeinterface 50 3, 3), (.ifCond .ne 35, 3)]
theorem s_R_care_0 : Seg 64 0 g_R_care_0 := seg_of (by decide +kernel)
def g_R_care_33 : List (Instr × Nat) := [(.iconst 0, 1), (.ireturn, 1)]
theorem s_R_care_33 : Seg 64 33 g_R_care_33 := seg_of (by decide +kernel)
def g_R_care_35 : List (Instr × Nat) := [(.aload 0, 1), (.getstatic 3080, 3), (.iconst 4, 1), (.iload 1, 1), (.imul, 1), (.iload 2, 1), (.iadd, 1), (.iconst 5, 1), (.imul, 1), (.iload 3, 1), (.iadd, 1), (.iload 4, 2), (.iastore, 1), (.iconst 1, 1), (.ireturn, 1)]
theorem s_R_care_35 : Seg 64 35 g_R_care_35 := seg_of (by decide +kernel)
/-! R clash -/
theorem mk_R_clash : 65 < 256 ∧ mtB 65 = true := ⟨by decide, mk_65⟩
def g_R_clash_0 : List (Instr × Nat) := [(.aload 0, 1), (.iconst 0, 1), (.putfield 3072, 3), (.aload 0, 1), (.getfield 3092, 3), (.iconst 40, 2), (.if_icmp .eq 51, 3), (.aload 0, 1), (.iload 1, 1), (.invokevirtual 510212, 3), (.ifCond .eq 51, 3), (.aload 0, 1), (.iload 2, 1), (.iload 3, 1), (.iload 4, 2), (.invokevirtual 540412, 3), (.ifCond .eq 51, 3), (.aload 0, 1), (.iload 2, 1), (.iload 5, 2), (.iload 6, 2), (.invokevirtual 540412, 3), (.ifCond .eq 51, 3), (.iload 3, 1), (.iload 5, 2), (.if_icmp .ne 53, 3)]
theorem s_R_clash_0 : Seg 65 0 g_R_clash_0 := seg_of (by decide +kernel)
def g_R_clash_51 : List (Instr × Nat) := [(.iconst 0, 1), (.ireturn, 1)]
theorem s_R_clash_51 : Seg 65 51 g_R_clash_51 := seg_of (by decide +kernel)
def g_R_clash_53 : List (Instr × Nat) := [(.aload 0, 1), (.getstatic 3084, 3), (.aload 0, 1), (.getfield 3092, 3), (.iload 1, 1), (.iastore, 1), (.aload 0, 1), (.getstatic 3085, 3), (.aload 0, 1), (.getfield 3092, 3), (.iload 2, 1), (.iastore, 1), (.aload 0, 1), (.getstatic 3086, 3), (.aload 0, 1), (.getfield 3092, 3), (.iload 3, 1), (.iastore, 1), (.aload 0, 1), (.getstatic 3087, 3), (.aload 0, 1), (.getfield 3092, 3), (.iload 4, 2), (.iastore, 1), (.aload 0, 1), (.getstatic 3088, 3), (.aload 0, 1), (.getfield 3092, 3), (.iload 5, 2), (.iastore, 1), (.aload 0, 1), (.getstatic 3089, 3), (.aload 0, 1), (.getfield 3092, 3), (.iload 6, 2), (.iastore, 1), (.aload 0, 1), (.dup, 1), (.getfield 3092, 3), (.iconst 1, 1), (.iadd, 1), (.putfield 3092, 3), (.iconst 1, 1), (.ireturn, 1)]
theorem s_R_clash_53 : Seg 65 53 g_R_clash_53 := seg_of (by decide +kernel)
/-! R wayIn -/
theorem mk_R_wayIn : 66 < 256 ∧ mtB 66 = true := ⟨by decide, mk_66⟩
def g_R_wayIn_0 : List (Instr × Nat) := [(.iload 1, 1), (.iconst 2, 1), (.iload 0, 1), (.iconst 1, 1), (.isub, 1), (.iload 2, 1), (.isub, 1), (.imul, 1), (.ishr, 1), (.iconst 3, 1), (.iand, 1), (.ireturn, 1)]
theorem s_R_wayIn_0 : Seg 66 0 g_R_wayIn_0 := seg_of (by decide +kernel)
/-! R isProposal -/
theorem mk_R_isProposal : 67 < 256 ∧ mtB 67 = true := ⟨by decide, mk_67⟩
def g_R_isProposal_0 : List (Instr × Nat) := [(.aload 0, 1), (.iload 1, 1), (.invokevirtual 520212, 3), (.ifCond .eq 26, 3), (.iload 2, 1), (.ifCond .lt 26, 3), (.iload 2, 1), (.iconst 1, 1), (.iconst 2, 1), (.aload 0, 1), (.getstatic 3077, 3), (.iload 1, 1), (.iaload, 1), (.imul, 1), (.ishl, 1), (.if_icmp .lt 28, 3)]
theorem s_R_isProposal_0 : Seg 67 0 g_R_isProposal_0 := seg_of (by decide +kernel)
def g_R_isProposal_26 : List (Instr × Nat) := [(.iconst 0, 1), (.ireturn, 1)]
theorem s_R_isProposal_26 : Seg 67 26 g_R_isProposal_26 := seg_of (by decide +kernel)
def g_R_isProposal_28 : List (Instr × Nat) := [(.iconst 0, 1), (.istore 3, 1)]
theorem s_R_isProposal_28 : Seg 67 28 g_R_isProposal_28 := seg_of (by decide +kernel)
def g_R_isProposal_30 : List (Instr × Nat) := [(.iload 3, 1), (.aload 0, 1), (.getstatic 3077, 3), (.iload 1, 1), (.iaload, 1), (.if_icmp .ge 68, 3), (.aload 0, 1), (.getstatic 3077, 3), (.iload 1, 1), (.iaload, 1), (.iload 2, 1), (.iload 3, 1), (.invokeinterface 66 3, 3), (.aload 0, 1), (.getstatic 3078, 3), (.iload 1, 1), (.iaload, 1), (.if_icmp .lt 62, 3), (.iconst 0, 1), (.ireturn, 1)]
theorem s_R_isProposal_30 : Seg 67 30 g_R_isProposal_30 := seg_of (by decide +kernel)
def g_R_isProposal_62 : List (Instr × Nat) := [(.iinc 3 (1), 3), (.goto 30, 3)]
theorem s_R_isProposal_62 : Seg 67 62 g_R_isProposal_62 := seg_of (by decide +kernel)
def g_R_isProposal_68 : List (Instr × Nat) := [(.iconst 1, 1), (.ireturn, 1)]
theorem s_R_isProposal_68 : Seg 67 68 g_R_isProposal_68 := seg_of (by decide +kernel)
/-! R wayOf -/
theorem mk_R_wayOf : 68 < 256 ∧ mtB 68 = true := ⟨by decide, mk_68⟩
def g_R_wayOf_0 : List (Instr × Nat) := [(.aload 0, 1), (.getstatic 3077, 3), (.iload 1, 1), (.iaload, 1), (.iload 2, 1), (.iload 3, 1), (.invokeinterface 66 3, 3), (.ireturn, 1)]
theorem s_R_wayOf_0 : Seg 68 0 g_R_wayOf_0 := seg_of (by decide +kernel)
/-! R clashesIn -/
theorem mk_R_clashesIn : 69 < 256 ∧ mtB 69 = true := ⟨by decide, mk_69⟩
def g_R_clashesIn_0 : List (Instr × Nat) := [(.iconst 0, 1), (.istore 6, 2)]
theorem s_R_clashesIn_0 : Seg 69 0 g_R_clashesIn_0 := seg_of (by decide +kernel)
def g_R_clashesIn_3 : List (Instr × Nat) := [(.iload 6, 2), (.aload 0, 1), (.getfield 3092, 3), (.if_icmp .ge 165, 3), (.aload 0, 1), (.getstatic 3084, 3), (.iload 6, 2), (.iaload, 1), (.iload 1, 1), (.if_icmp .ne 159, 3), (.aload 0, 1), (.getstatic 3085, 3), (.iload 6, 2), (.iaload, 1), (.iload 2, 1), (.if_icmp .eq 37, 3), (.goto 159, 3)]
theorem s_R_clashesIn_3 : Seg 69 3 g_R_clashesIn_3 := seg_of (by decide +kernel)
def g_R_clashesIn_37 : List (Instr × Nat) := [(.iload 4, 2), (.aload 0, 1), (.getstatic 3086, 3), (.iload 6, 2), (.iaload, 1), (.ishr, 1), (.iconst 1, 1), (.iand, 1), (.iconst 1, 1), (.if_icmp .ne 103, 3), (.iload 4, 2), (.aload 0, 1), (.getstatic 3088, 3), (.iload 6, 2), (.iaload, 1), (.ishr, 1), (.iconst 1, 1), (.iand, 1), (.iconst 1, 1), (.if_icmp .ne 103, 3), (.iload 5, 2), (.iconst (-1), 1), (.if_icmp .eq 99, 3), (.aload 0, 1), (.getstatic 3086, 3), (.iload 6, 2), (.iaload, 1), (.iload 5, 2), (.if_icmp .eq 99, 3), (.aload 0, 1), (.getstatic 3088, 3), (.iload 6, 2), (.iaload, 1), (.iload 5, 2), (.if_icmp .ne 103, 3)]
theorem s_R_clashesIn_37 : Seg 69 37 g_R_clashesIn_37 := seg_of (by decide +kernel)
def g_R_clashesIn_99 : List (Instr × Nat) := [(.iconst 1, 1), (.goto 104, 3)]
theorem s_R_clashesIn_99 : Seg 69 99 g_R_clashesIn_99 := seg_of (by decide +kernel)
def g_R_clashesIn_103 : List (Instr × Nat) := [(.iconst 0, 1)]
theorem s_R_clashesIn_103 : Seg 69 103 g_R_clashesIn_103 := seg_of (by decide +kernel)
def g_R_clashesIn_104 : List (Instr × Nat) := [(.istore 7, 2), (.iload 7, 2), (.ifCond .eq 159, 3), (.aload 0, 1), (.iload 2, 1), (.iload 3, 1), (.aload 0, 1), (.getstatic 3086, 3), (.iload 6, 2), (.iaload, 1), (.invokevirtual 680412, 3), (.aload 0, 1), (.getstatic 3087, 3), (.iload 6, 2), (.iaload, 1), (.if_icmp .ne 159, 3), (.aload 0, 1), (.iload 2, 1), (.iload 3, 1), (.aload 0, 1), (.getstatic 3088, 3), (.iload 6, 2), (.iaload, 1), (.invokevirtual 680412, 3), (.aload 0, 1), (.getstatic 3089, 3), (.iload 6, 2), (.iaload, 1), (.if_icmp .ne 159, 3), (.iconst 1, 1), (.ireturn, 1)]
theorem s_R_clashesIn_104 : Seg 69 104 g_R_clashesIn_104 := seg_of (by decide +kernel)
def g_R_clashesIn_159 : List (Instr × Nat) := [(.iinc 6 (1), 3), (.goto 3, 3)]
theorem s_R_clashesIn_159 : Seg 69 159 g_R_clashesIn_159 := seg_of (by decide +kernel)
def g_R_clashesIn_165 : List (Instr × Nat) := [(.iconst 0, 1), (.ireturn, 1)]
theorem s_R_clashesIn_165 : Seg 69 165 g_R_clashesIn_165 := seg_of (by decide +kernel)
/-! R canBearWay -/
theorem mk_R_canBearWay : 70 < 256 ∧ mtB 70 = true := ⟨by decide, mk_70⟩
def g_R_canBearWay_0 : List (Instr × Nat) := [(.aload 0, 1), (.getstatic 3079, 3), (.iload 1, 1), (.iload 2, 1), (.iload 3, 1), (.iload 4, 2), (.invokeinterface 61 4, 3), (.iaload, 1), (.ifCond .le 18, 3), (.iconst 1, 1), (.ireturn, 1)]
theorem s_R_canBearWay_0 : Seg 70 0 g_R_canBearWay_0 := seg_of (by decide +kernel)
def g_R_canBearWay_18 : List (Instr × Nat) := [(.iconst 0, 1), (.istore 5, 2)]
theorem s_R_canBearWay_18 : Seg 70 18 g_R_canBearWay_18 := seg_of (by decide +kernel)
def g_R_canBearWay_21 : List (Instr × Nat) := [(.iload 5, 2), (.aload 0, 1), (.getfield 3149, 3), (.if_icmp .ge 96, 3), (.aload 0, 1), (.getfield 3094, 3), (.iload 5, 2), (.ishr, 1), (.iconst 1, 1), (.iand, 1), (.iconst 1, 1), (.if_icmp .ne 90, 3), (.aload 0, 1), (.getstatic 3142, 3), (.iload 5, 2), (.iaload, 1), (.iload 1, 1), (.if_icmp .ne 90, 3), (.aload 0, 1), (.getstatic 3143, 3), (.iload 5, 2), (.iaload, 1), (.iload 2, 1), (.if_icmp .ne 90, 3), (.aload 0, 1), (.getstatic 3144, 3), (.iload 5, 2), (.iaload, 1), (.iload 3, 1), (.if_icmp .ne 90, 3), (.aload 0, 1), (.getstatic 3145, 3), (.iload 5, 2), (.iaload, 1), (.iload 4, 2), (.if_icmp .ne 90, 3), (.iconst 1, 1), (.ireturn, 1)]
theorem s_R_canBearWay_21 : Seg 70 21 g_R_canBearWay_21 := seg_of (by decide +kernel)
def g_R_canBearWay_90 : List (Instr × Nat) := [(.iinc 5 (1), 3), (.goto 21, 3)]
theorem s_R_canBearWay_90 : Seg 70 90 g_R_canBearWay_90 := seg_of (by decide +kernel)
def g_R_canBearWay_96 : List (Instr × Nat) := [(.iconst 0, 1), (.ireturn, 1)]
theorem s_R_canBearWay_96 : Seg 70 96 g_R_canBearWay_96 := seg_of (by decide +kernel)
/-! R bears -/
theorem mk_R_bears : 71 < 256 ∧ mtB 71 = true := ⟨by decide, mk_71⟩
def g_R_bears_0 : List (Instr × Nat) := [(.iconst 0, 1), (.istore 5, 2)]
theorem s_R_bears_0 : Seg 71 0 g_R_bears_0 := seg_of (by decide +kernel)
def g_R_bears_3 : List (Instr × Nat) := [(.iload 5, 2), (.aload 0, 1), (.getstatic 3077, 3), (.iload 2, 1), (.iaload, 1), (.if_icmp .ge 52, 3), (.iload 4, 2), (.iload 5, 2), (.ishr, 1), (.iconst 1, 1), (.iand, 1), (.iconst 1, 1), (.if_icmp .ne 46, 3), (.aload 0, 1), (.iload 1, 1), (.iload 2, 1), (.iload 5, 2), (.aload 0, 1), (.iload 2, 1), (.iload 3, 1), (.iload 5, 2), (.invokevirtual 680412, 3), (.invokevirtual 700512, 3), (.ifCond .ne 46, 3), (.iconst 0, 1), (.ireturn, 1)]
theorem s_R_bears_3 : Seg 71 3 g_R_bears_3 := seg_of (by decide +kernel)
def g_R_bears_46 : List (Instr × Nat) := [(.iinc 5 (1), 3), (.goto 3, 3)]
theorem s_R_bears_46 : Seg 71 46 g_R_bears_46 := seg_of (by decide +kernel)
def g_R_bears_52 : List (Instr × Nat) := [(.aload 0, 1), (.iload 1, 1), (.iload 2, 1), (.iload 3, 1), (.iload 4, 2), (.iconst (-1), 1), (.invokevirtual 690612, 3), (.ifCond .ne 69, 3), (.iconst 1, 1), (.goto 70, 3)]
theorem s_R_bears_52 : Seg 71 52 g_R_bears_52 := seg_of (by decide +kernel)
def g_R_bears_69 : List (Instr × Nat) := [(.iconst 0, 1)]
theorem s_R_bears_69 : Seg 71 69 g_R_bears_69 := seg_of (by decide +kernel)
def g_R_bears_70 : List (Instr × Nat) := [(.ireturn, 1)]
theorem s_R_bears_70 : Seg 71 70 g_R_bears_70 := seg_of (by decide +kernel)
/-! R every -/
theorem mk_R_every : 72 < 256 ∧ mtB 72 = true := ⟨by decide, mk_72⟩
def g_R_every_0 : List (Instr × Nat) := [(.iconst 1, 1), (.aload 0, 1), (.getstatic 3077, 3), (.iload 1, 1), (.iaload, 1), (.ishl, 1), (.iconst 1, 1), (.isub, 1), (.ireturn, 1)]
theorem s_R_every_0 : Seg 72 0 g_R_every_0 := seg_of (by decide +kernel)
/-! R bear -/
theorem mk_R_bear : 73 < 256 ∧ mtB 73 = true := ⟨by decide, mk_73⟩
def g_R_bear_0 : List (Instr × Nat) := [(.aload 0, 1), (.iconst 0, 1), (.putfield 3072, 3), (.aload 0, 1), (.iload 1, 1), (.invokevirtual 510212, 3), (.ifCond .eq 22, 3), (.aload 0, 1), (.iload 2, 1), (.iload 3, 1), (.invokevirtual 670312, 3), (.ifCond .ne 26, 3)]
theorem s_R_bear_0 : Seg 73 0 g_R_bear_0 := seg_of (by decide +kernel)
def g_R_bear_22 : List (Instr × Nat) := [(.iconst (-1), 1), (.goto 46, 3)]
theorem s_R_bear_22 : Seg 73 22 g_R_bear_22 := seg_of (by decide +kernel)
def g_R_bear_26 : List (Instr × Nat) := [(.aload 0, 1), (.iload 1, 1), (.iload 2, 1), (.iload 3, 1), (.aload 0, 1), (.iload 2, 1), (.invokevirtual 720212, 3), (.invokevirtual 710512, 3), (.ifCond .eq 45, 3), (.iconst 1, 1), (.goto 46, 3)]
theorem s_R_bear_26 : Seg 73 26 g_R_bear_26 := seg_of (by decide +kernel)
def g_R_bear_45 : List (Instr × Nat) := [(.iconst 0, 1)]
theorem s_R_bear_45 : Seg 73 45 g_R_bear_45 := seg_of (by decide +kernel)
def g_R_bear_46 : List (Instr × Nat) := [(.ireturn, 1)]
theorem s_R_bear_46 : Seg 73 46 g_R_bear_46 := seg_of (by decide +kernel)
/-! R lossOf -/
theorem mk_R_lossOf : 74 < 256 ∧ mtB 74 = true := ⟨by decide, mk_74⟩
def g_R_lossOf_0 : List (Instr × Nat) := [(.iconst 0, 1), (.istore 4, 2), (.iconst 0, 1), (.istore 5, 2)]
theorem s_R_lossOf_0 : Seg 74 0 g_R_lossOf_0 := seg_of (by decide +kernel)
def g_R_lossOf_6 : List (Instr × Nat) := [(.iload 5, 2), (.aload 0, 1), (.getstatic 3077, 3), (.iload 2, 1), (.iaload, 1), (.if_icmp .ge 129, 3), (.iconst 0, 1), (.istore 6, 2), (.iconst 0, 1), (.istore 7, 2)]
theorem s_R_lossOf_6 : Seg 74 6 g_R_lossOf_6 := seg_of (by decide +kernel)
def g_R_lossOf_23 : List (Instr × Nat) := [(.iload 7, 2), (.aload 0, 1), (.getstatic 3078, 3), (.iload 2, 1), (.iaload, 1), (.if_icmp .ge 70, 3), (.iload 6, 2), (.ifCond .ne 57, 3), (.aload 0, 1), (.getstatic 3079, 3), (.iload 1, 1), (.iload 2, 1), (.iload 5, 2), (.iload 7, 2), (.invokeinterface 61 4, 3), (.iaload, 1), (.iconst 2, 1), (.if_icmp .ne 61, 3)]
theorem s_R_lossOf_23 : Seg 74 23 g_R_lossOf_23 := seg_of (by decide +kernel)
def g_R_lossOf_57 : List (Instr × Nat) := [(.iconst 1, 1), (.goto 62, 3)]
theorem s_R_lossOf_57 : Seg 74 57 g_R_lossOf_57 := seg_of (by decide +kernel)
def g_R_lossOf_61 : List (Instr × Nat) := [(.iconst 0, 1)]
theorem s_R_lossOf_61 : Seg 74 61 g_R_lossOf_61 := seg_of (by decide +kernel)
def g_R_lossOf_62 : List (Instr × Nat) := [(.istore 6, 2), (.iinc 7 (1), 3), (.goto 23, 3)]
theorem s_R_lossOf_62 : Seg 74 62 g_R_lossOf_62 := seg_of (by decide +kernel)
def g_R_lossOf_70 : List (Instr × Nat) := [(.iload 4, 2), (.iload 6, 2), (.ifCond .eq 119, 3), (.aload 0, 1), (.getstatic 3079, 3), (.iload 1, 1), (.iload 2, 1), (.iload 5, 2), (.aload 0, 1), (.iload 2, 1), (.iload 3, 1), (.iload 5, 2), (.invokevirtual 680412, 3), (.invokeinterface 61 4, 3), (.iaload, 1), (.iconst 2, 1), (.if_icmp .eq 119, 3), (.aload 0, 1), (.getstatic 3080, 3), (.iconst 4, 1), (.iload 1, 1), (.imul, 1), (.iload 2, 1), (.iadd, 1), (.iconst 5, 1), (.imul, 1), (.iload 5, 2), (.iadd, 1), (.iaload, 1), (.goto 120, 3)]
theorem s_R_lossOf_70 : Seg 74 70 g_R_lossOf_70 := seg_of (by decide +kernel)
def g_R_lossOf_119 : List (Instr × Nat) := [(.iconst 0, 1)]
theorem s_R_lossOf_119 : Seg 74 119 g_R_lossOf_119 := seg_of (by decide +kernel)
def g_R_lossOf_120 : List (Instr × Nat) := [(.iadd, 1), (.istore 4, 2), (.iinc 5 (1), 3), (.goto 6, 3)]
theorem s_R_lossOf_120 : Seg 74 120 g_R_lossOf_120 := seg_of (by decide +kernel)
def g_R_lossOf_129 : List (Instr × Nat) := [(.iload 4, 2), (.ireturn, 1)]
theorem s_R_lossOf_129 : Seg 74 129 g_R_lossOf_129 := seg_of (by decide +kernel)
/-! R loss -/
theorem mk_R_loss : 75 < 256 ∧ mtB 75 = true := ⟨by decide, mk_75⟩
def g_R_loss_0 : List (Instr × Nat) := [(.aload 0, 1), (.iconst 0, 1), (.putfield 3072, 3), (.aload 0, 1), (.iload 1, 1), (.invokevirtual 510212, 3), (.ifCond .eq 32, 3), (.aload 0, 1), (.iload 2, 1), (.iload 3, 1), (.invokevirtual 670312, 3), (.ifCond .eq 32, 3), (.aload 0, 1), (.iload 1, 1), (.iload 2, 1), (.iload 3, 1), (.invokevirtual 740412, 3), (.goto 33, 3)]
theorem s_R_loss_0 : Seg 75 0 g_R_loss_0 := seg_of (by decide +kernel)
def g_R_loss_32 : List (Instr × Nat) := [(.iconst (-1), 1)]
theorem s_R_loss_32 : Seg 75 32 g_R_loss_32 := seg_of (by decide +kernel)
def g_R_loss_33 : List (Instr × Nat) := [(.ireturn, 1)]
theorem s_R_loss_33 : Seg 75 33 g_R_loss_33 := seg_of (by decide +kernel)
/-! R bytesIn -/
theorem mk_R_bytesIn : 76 < 256 ∧ mtB 76 = true := ⟨by decide, mk_76⟩
def g_R_bytesIn_0 : List (Instr × Nat) := [(.iconst 0, 1), (.istore 1, 1), (.iconst 24, 2), (.istore 2, 1)]
theorem s_R_bytesIn_0 : Seg 76 0 g_R_bytesIn_0 := seg_of (by decide +kernel)
def g_R_bytesIn_5 : List (Instr × Nat) := [(.iload 2, 1), (.ifCond .lt 33, 3), (.iload 1, 1), (.iload 0, 1), (.iload 2, 1), (.ishr, 1), (.iconst 255, 3), (.iand, 1), (.ifCond .eq 24, 3), (.iconst 1, 1), (.goto 25, 3)]
theorem s_R_bytesIn_5 : Seg 76 5 g_R_bytesIn_5 := seg_of (by decide +kernel)
def g_R_bytesIn_24 : List (Instr × Nat) := [(.iconst 0, 1)]
theorem s_R_bytesIn_24 : Seg 76 24 g_R_bytesIn_24 := seg_of (by decide +kernel)
def g_R_bytesIn_25 : List (Instr × Nat) := [(.iadd, 1), (.istore 1, 1), (.iinc 2 (-8), 3), (.goto 5, 3)]
theorem s_R_bytesIn_25 : Seg 76 25 g_R_bytesIn_25 := seg_of (by decide +kernel)
def g_R_bytesIn_33 : List (Instr × Nat) := [(.iload 1, 1), (.ireturn, 1)]
theorem s_R_bytesIn_33 : Seg 76 33 g_R_bytesIn_33 := seg_of (by decide +kernel)
