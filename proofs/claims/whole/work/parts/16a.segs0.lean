/-! ===== the segments of the methods ===== -/
theorem seg_of {k pc : Nat} {is : List (Instr × Nat)} (h : sgB (mB k) (mT k) (ini k) (mH k) pc is = true) : Seg k pc is := h
/-! T init -/
theorem mk_T_init : 0 < 256 ∧ mtB 0 = true := ⟨by decide, mk_0⟩
def g_T_init_0 : List (Instr × Nat) := [(.aload 0, 1), (.nop, 3), (.aload 0, 1), (.new 1, 3), (.dup, 1), (.invokevirtual 1490101, 3), (.putstatic 2816, 3), (.aload 0, 1), (.iconst 4, 1), (.anewarray 4, 3), (.putstatic 2817, 3), (.aload 0, 1), (.new 9, 3), (.dup, 1), (.invokevirtual 2340109, 3), (.putstatic 2818, 3), (.aload 0, 1), (.new 6, 3), (.dup, 1), (.aload 0, 1), (.getstatic 2818, 3), (.invokevirtual 1910206, 3), (.putstatic 2819, 3), (.aload 0, 1), (.iconst 8, 2), (.anewarray 5, 3), (.putstatic 2820, 3), (.aload 0, 1), (.iconst 8, 2), (.anewarray 5, 3), (.putstatic 2821, 3), (.aload 0, 1), (.new 7, 3), (.dup, 1), (.invokevirtual 2090107, 3), (.putstatic 2822, 3), (.aload 0, 1), (.iconst 4, 1), (.anewarray 6, 3), (.putstatic 2823, 3), (.aload 0, 1), (.new 8, 3), (.dup, 1), (.aload 0, 1), (.getstatic 2816, 3), (.aload 0, 1), (.getstatic 2821, 3), (.aload 0, 1), (.getstatic 2822, 3), (.invokevirtual 2140408, 3), (.putstatic 2824, 3), (.aload 0, 1), (.new 5, 3), (.dup, 1), (.aload 0, 1), (.getstatic 2823, 3), (.invokevirtual 1870205, 3), (.putstatic 2825, 3), (.aload 0, 1), (.new 2, 3), (.dup, 1), (.aload 0, 1), (.getstatic 2816, 3), (.invokevirtual 1560202, 3), (.putstatic 2826, 3), (.aload 0, 1), (.new 3, 3), (.dup, 1), (.aload 0, 1), (.getstatic 2816, 3), (.invokevirtual 1660203, 3), (.putstatic 2827, 3), (.aload 0, 1), (.new 0, 3), (.dup, 1), (.invokevirtual 1460100, 3), (.putstatic 2828, 3), (.iconst 0, 1), (.istore 1, 1)]
theorem s_T_init_0 : Seg 0 0 g_T_init_0 := seg_of (by decide +kernel)
def g_T_init_167 : List (Instr × Nat) := [(.iload 1, 1), (.iconst 4, 1), (.if_icmp .ge 203, 3)]
theorem s_T_init_167 : Seg 0 167 g_T_init_167 := seg_of (by decide +kernel)
def g_T_init_172 : List (Instr × Nat) := [(.aload 0, 1), (.getstatic 2823, 3), (.iload 1, 1), (.new 8, 3), (.dup, 1), (.aload 0, 1), (.getstatic 2816, 3), (.aload 0, 1), (.getstatic 2821, 3), (.aload 0, 1), (.getstatic 2822, 3), (.invokevirtual 2140408, 3), (.aastore, 1), (.iinc 1 (1), 3), (.goto 167, 3)]
theorem s_T_init_172 : Seg 0 172 g_T_init_172 := seg_of (by decide +kernel)
def g_T_init_203 : List (Instr × Nat) := [(.return_, 1)]
theorem s_T_init_203 : Seg 0 203 g_T_init_203 := seg_of (by decide +kernel)
/-! T elder -/
theorem mk_T_elder : 1 < 256 ∧ mtB 1 = true := ⟨by decide, mk_1⟩
def g_T_elder_0 : List (Instr × Nat) := [(.iload 1, 1), (.iconst 20, 2), (.if_icmp .lt 24, 3)]
theorem s_T_elder_0 : Seg 1 0 g_T_elder_0 := seg_of (by decide +kernel)
def g_T_elder_6 : List (Instr × Nat) := [(.iload 1, 1), (.iconst 99, 2), (.if_icmp .gt 24, 3)]
theorem s_T_elder_6 : Seg 1 6 g_T_elder_6 := seg_of (by decide +kernel)
def g_T_elder_12 : List (Instr × Nat) := [(.aload 0, 1), (.getstatic 2816, 3), (.getfield 260, 3), (.iconst 8, 2), (.if_icmp .lt 26, 3)]
theorem s_T_elder_12 : Seg 1 12 g_T_elder_12 := seg_of (by decide +kernel)
def g_T_elder_24 : List (Instr × Nat) := [(.iconst (-1), 1), (.ireturn, 1)]
theorem s_T_elder_24 : Seg 1 24 g_T_elder_24 := seg_of (by decide +kernel)
def g_T_elder_26 : List (Instr × Nat) := [(.aload 0, 1), (.iconst 0, 1), (.invokevirtual 430211, 3), (.aload 0, 1), (.getstatic 2816, 3), (.iload 1, 1), (.invokevirtual 1530201, 3), (.ireturn, 1)]
theorem s_T_elder_26 : Seg 1 26 g_T_elder_26 := seg_of (by decide +kernel)
/-! T left -/
theorem mk_T_left : 2 < 256 ∧ mtB 2 = true := ⟨by decide, mk_2⟩
def g_T_left_0 : List (Instr × Nat) := [(.aload 0, 1), (.getstatic 2816, 3), (.iload 1, 1), (.invokevirtual 1500201, 3), (.ifCond .eq 23, 3)]
theorem s_T_left_0 : Seg 2 0 g_T_left_0 := seg_of (by decide +kernel)
def g_T_left_11 : List (Instr × Nat) := [(.aload 0, 1), (.getstatic 2816, 3), (.iload 1, 1), (.invokevirtual 1520201, 3), (.iload 2, 1), (.if_icmp .eq 25, 3)]
theorem s_T_left_11 : Seg 2 11 g_T_left_11 := seg_of (by decide +kernel)
def g_T_left_23 : List (Instr × Nat) := [(.iconst 0, 1), (.ireturn, 1)]
theorem s_T_left_23 : Seg 2 23 g_T_left_23 := seg_of (by decide +kernel)
def g_T_left_25 : List (Instr × Nat) := [(.aload 0, 1), (.iconst 0, 1), (.invokevirtual 430211, 3), (.aload 0, 1), (.getstatic 2816, 3), (.iload 1, 1), (.iload 2, 1), (.ifCond .ne 43, 3)]
theorem s_T_left_25 : Seg 2 25 g_T_left_25 := seg_of (by decide +kernel)
def g_T_left_39 : List (Instr × Nat) := [(.iconst 1, 1), (.goto 44, 3)]
theorem s_T_left_39 : Seg 2 39 g_T_left_39 := seg_of (by decide +kernel)
def g_T_left_43 : List (Instr × Nat) := [(.iconst 0, 1)]
theorem s_T_left_43 : Seg 2 43 g_T_left_43 := seg_of (by decide +kernel)
def g_T_left_44 : List (Instr × Nat) := [(.invokevirtual 1540301, 3), (.iconst 1, 1), (.ireturn, 1)]
theorem s_T_left_44 : Seg 2 44 g_T_left_44 := seg_of (by decide +kernel)
/-! T place -/
theorem mk_T_place : 3 < 256 ∧ mtB 3 = true := ⟨by decide, mk_3⟩
def g_T_place_0 : List (Instr × Nat) := [(.iload 1, 1), (.ifCond .lt 27, 3)]
theorem s_T_place_0 : Seg 3 0 g_T_place_0 := seg_of (by decide +kernel)
def g_T_place_4 : List (Instr × Nat) := [(.iload 1, 1), (.aload 0, 1), (.getstatic 2816, 3), (.getfield 261, 3), (.if_icmp .ge 27, 3)]
theorem s_T_place_4 : Seg 3 4 g_T_place_4 := seg_of (by decide +kernel)
def g_T_place_15 : List (Instr × Nat) := [(.aload 0, 1), (.getstatic 2816, 3), (.getstatic 259, 3), (.iload 1, 1), (.iaload, 1), (.goto 28, 3)]
theorem s_T_place_15 : Seg 3 15 g_T_place_15 := seg_of (by decide +kernel)
def g_T_place_27 : List (Instr × Nat) := [(.iconst (-1), 1)]
theorem s_T_place_27 : Seg 3 27 g_T_place_27 := seg_of (by decide +kernel)
def g_T_place_28 : List (Instr × Nat) := [(.ireturn, 1)]
theorem s_T_place_28 : Seg 3 28 g_T_place_28 := seg_of (by decide +kernel)
/-! T heed -/
theorem mk_T_heed : 4 < 256 ∧ mtB 4 = true := ⟨by decide, mk_4⟩
def g_T_heed_0 : List (Instr × Nat) := [(.aload 0, 1), (.getstatic 2816, 3), (.iload 1, 1), (.iload 2, 1), (.invokevirtual 1510301, 3), (.ifCond .eq 22, 3)]
theorem s_T_heed_0 : Seg 4 0 g_T_heed_0 := seg_of (by decide +kernel)
def g_T_heed_12 : List (Instr × Nat) := [(.iload 3, 1), (.ifCond .lt 22, 3)]
theorem s_T_heed_12 : Seg 4 12 g_T_heed_12 := seg_of (by decide +kernel)
def g_T_heed_16 : List (Instr × Nat) := [(.iload 3, 1), (.iconst 9, 2), (.if_icmp .le 24, 3)]
theorem s_T_heed_16 : Seg 4 16 g_T_heed_16 := seg_of (by decide +kernel)
def g_T_heed_22 : List (Instr × Nat) := [(.iconst 0, 1), (.ireturn, 1)]
theorem s_T_heed_22 : Seg 4 22 g_T_heed_22 := seg_of (by decide +kernel)
def g_T_heed_24 : List (Instr × Nat) := [(.aload 0, 1), (.iconst 0, 1), (.invokevirtual 430211, 3), (.aload 0, 1), (.getstatic 2816, 3), (.getstatic 257, 3), (.iload 1, 1), (.aaload, 1), (.iload 2, 1), (.iload 3, 1), (.iastore, 1), (.iconst 1, 1), (.ireturn, 1)]
theorem s_T_heed_24 : Seg 4 24 g_T_heed_24 := seg_of (by decide +kernel)
/-! T matter -/
theorem mk_T_matter : 5 < 256 ∧ mtB 5 = true := ⟨by decide, mk_5⟩
def g_T_matter_0 : List (Instr × Nat) := [(.iload 1, 1), (.iconst 1, 1), (.if_icmp .lt 28, 3)]
theorem s_T_matter_0 : Seg 5 0 g_T_matter_0 := seg_of (by decide +kernel)
def g_T_matter_5 : List (Instr × Nat) := [(.iload 1, 1), (.iconst 5, 1), (.if_icmp .gt 28, 3)]
theorem s_T_matter_5 : Seg 5 5 g_T_matter_5 := seg_of (by decide +kernel)
def g_T_matter_10 : List (Instr × Nat) := [(.iload 2, 1), (.iconst 2, 1), (.if_icmp .lt 28, 3)]
theorem s_T_matter_10 : Seg 5 10 g_T_matter_10 := seg_of (by decide +kernel)
def g_T_matter_15 : List (Instr × Nat) := [(.iload 2, 1), (.iconst 4, 1), (.if_icmp .gt 28, 3)]
theorem s_T_matter_15 : Seg 5 15 g_T_matter_15 := seg_of (by decide +kernel)
def g_T_matter_20 : List (Instr × Nat) := [(.aload 0, 1), (.getfield 2829, 3), (.iconst 4, 1), (.if_icmp .lt 30, 3)]
theorem s_T_matter_20 : Seg 5 20 g_T_matter_20 := seg_of (by decide +kernel)
def g_T_matter_28 : List (Instr × Nat) := [(.iconst (-1), 1), (.ireturn, 1)]
theorem s_T_matter_28 : Seg 5 28 g_T_matter_28 := seg_of (by decide +kernel)
def g_T_matter_30 : List (Instr × Nat) := [(.aload 0, 1), (.getstatic 2817, 3), (.aload 0, 1), (.getfield 2829, 3), (.new 4, 3), (.dup, 1), (.iload 1, 1), (.iload 2, 1), (.invokevirtual 1740304, 3), (.aastore, 1), (.aload 0, 1), (.dup, 1), (.getfield 2829, 3), (.iconst 1, 1), (.iadd, 1), (.putfield 2829, 3), (.aload 0, 1), (.getfield 2829, 3), (.iconst 1, 1), (.isub, 1), (.ireturn, 1)]
theorem s_T_matter_30 : Seg 5 30 g_T_matter_30 := seg_of (by decide +kernel)
/-! T hold -/
theorem mk_T_hold : 6 < 256 ∧ mtB 6 = true := ⟨by decide, mk_6⟩
def g_T_hold_0 : List (Instr × Nat) := [(.aload 0, 1), (.iload 2, 1), (.invokevirtual 420211, 3), (.astore 6, 2), (.aload 6, 2), (.ifnull 45, 3)]
theorem s_T_hold_0 : Seg 6 0 g_T_hold_0 := seg_of (by decide +kernel)
def g_T_hold_12 : List (Instr × Nat) := [(.aload 0, 1), (.getstatic 2816, 3), (.iload 1, 1), (.invokevirtual 1500201, 3), (.ifCond .eq 45, 3)]
theorem s_T_hold_12 : Seg 6 12 g_T_hold_12 := seg_of (by decide +kernel)
def g_T_hold_23 : List (Instr × Nat) := [(.aload 6, 2), (.iload 3, 1), (.iload 4, 2), (.invokevirtual 1760304, 3), (.ifCond .eq 45, 3)]
theorem s_T_hold_23 : Seg 6 23 g_T_hold_23 := seg_of (by decide +kernel)
def g_T_hold_34 : List (Instr × Nat) := [(.iload 5, 2), (.ifCond .lt 45, 3)]
theorem s_T_hold_34 : Seg 6 34 g_T_hold_34 := seg_of (by decide +kernel)
def g_T_hold_39 : List (Instr × Nat) := [(.iload 5, 2), (.iconst 2, 1), (.if_icmp .le 47, 3)]
theorem s_T_hold_39 : Seg 6 39 g_T_hold_39 := seg_of (by decide +kernel)
def g_T_hold_45 : List (Instr × Nat) := [(.iconst 0, 1), (.ireturn, 1)]
theorem s_T_hold_45 : Seg 6 45 g_T_hold_45 := seg_of (by decide +kernel)
def g_T_hold_47 : List (Instr × Nat) := [(.aload 0, 1), (.iload 2, 1), (.invokevirtual 430211, 3), (.aload 6, 2), (.iload 1, 1), (.iload 3, 1), (.iload 4, 2), (.invokeinterface 41 2, 3), (.iload 5, 2), (.invokevirtual 1810404, 3), (.iconst 1, 1), (.ireturn, 1)]
theorem s_T_hold_47 : Seg 6 47 g_T_hold_47 := seg_of (by decide +kernel)
/-! T held -/
theorem mk_T_held : 7 < 256 ∧ mtB 7 = true := ⟨by decide, mk_7⟩
def g_T_held_0 : List (Instr × Nat) := [(.aload 0, 1), (.iload 2, 1), (.invokevirtual 420211, 3), (.astore 5, 2), (.aload 5, 2), (.ifnull 34, 3)]
theorem s_T_held_0 : Seg 7 0 g_T_held_0 := seg_of (by decide +kernel)
def g_T_held_12 : List (Instr × Nat) := [(.aload 0, 1), (.getstatic 2816, 3), (.iload 1, 1), (.invokevirtual 1500201, 3), (.ifCond .eq 34, 3)]
theorem s_T_held_12 : Seg 7 12 g_T_held_12 := seg_of (by decide +kernel)
def g_T_held_23 : List (Instr × Nat) := [(.aload 5, 2), (.iload 3, 1), (.iload 4, 2), (.invokevirtual 1760304, 3), (.ifCond .ne 36, 3)]
theorem s_T_held_23 : Seg 7 23 g_T_held_23 := seg_of (by decide +kernel)
def g_T_held_34 : List (Instr × Nat) := [(.iconst (-1), 1), (.ireturn, 1)]
theorem s_T_held_34 : Seg 7 34 g_T_held_34 := seg_of (by decide +kernel)
def g_T_held_36 : List (Instr × Nat) := [(.aload 5, 2), (.iload 1, 1), (.iload 3, 1), (.iload 4, 2), (.invokeinterface 41 2, 3), (.invokevirtual 1800304, 3), (.ireturn, 1)]
theorem s_T_held_36 : Seg 7 36 g_T_held_36 := seg_of (by decide +kernel)
/-! T care -/
theorem mk_T_care : 8 < 256 ∧ mtB 8 = true := ⟨by decide, mk_8⟩
def g_T_care_0 : List (Instr × Nat) := [(.aload 0, 1), (.iload 2, 1), (.invokevirtual 420211, 3), (.astore 5, 2), (.aload 5, 2), (.ifnull 45, 3)]
theorem s_T_care_0 : Seg 8 0 g_T_care_0 := seg_of (by decide +kernel)
def g_T_care_12 : List (Instr × Nat) := [(.aload 0, 1), (.getstatic 2816, 3), (.iload 1, 1), (.invokevirtual 1500201, 3), (.ifCond .eq 45, 3)]
theorem s_T_care_12 : Seg 8 12 g_T_care_12 := seg_of (by decide +kernel)
def g_T_care_23 : List (Instr × Nat) := [(.aload 5, 2), (.iload 3, 1), (.iconst 0, 1), (.invokevirtual 1760304, 3), (.ifCond .eq 45, 3)]
theorem s_T_care_23 : Seg 8 23 g_T_care_23 := seg_of (by decide +kernel)
def g_T_care_33 : List (Instr × Nat) := [(.iload 4, 2), (.ifCond .lt 45, 3)]
theorem s_T_care_33 : Seg 8 33 g_T_care_33 := seg_of (by decide +kernel)
def g_T_care_38 : List (Instr × Nat) := [(.iload 4, 2), (.iconst 9, 2), (.if_icmp .le 47, 3)]
theorem s_T_care_38 : Seg 8 38 g_T_care_38 := seg_of (by decide +kernel)
def g_T_care_45 : List (Instr × Nat) := [(.iconst 0, 1), (.ireturn, 1)]
theorem s_T_care_45 : Seg 8 45 g_T_care_45 := seg_of (by decide +kernel)
def g_T_care_47 : List (Instr × Nat) := [(.aload 5, 2), (.getstatic 1029, 3), (.iload 1, 1), (.aaload, 1), (.iload 3, 1), (.iload 4, 2), (.iastore, 1), (.iconst 1, 1), (.ireturn, 1)]
theorem s_T_care_47 : Seg 8 47 g_T_care_47 := seg_of (by decide +kernel)
/-! T clash -/
theorem mk_T_clash : 9 < 256 ∧ mtB 9 = true := ⟨by decide, mk_9⟩
def g_T_clash_0 : List (Instr × Nat) := [(.aload 0, 1), (.iload 2, 1), (.invokevirtual 420211, 3), (.astore 7, 2), (.aload 7, 2), (.ifnull 46, 3)]
theorem s_T_clash_0 : Seg 9 0 g_T_clash_0 := seg_of (by decide +kernel)
def g_T_clash_12 : List (Instr × Nat) := [(.aload 0, 1), (.getstatic 2816, 3), (.iload 1, 1), (.invokevirtual 1500201, 3), (.ifCond .eq 46, 3)]
theorem s_T_clash_12 : Seg 9 12 g_T_clash_12 := seg_of (by decide +kernel)
def g_T_clash_23 : List (Instr × Nat) := [(.aload 7, 2), (.iload 3, 1), (.iload 4, 2), (.invokevirtual 1760304, 3), (.ifCond .eq 46, 3)]
theorem s_T_clash_23 : Seg 9 23 g_T_clash_23 := seg_of (by decide +kernel)
def g_T_clash_34 : List (Instr × Nat) := [(.aload 7, 2), (.iload 5, 2), (.iload 6, 2), (.invokevirtual 1760304, 3), (.ifCond .ne 48, 3)]
theorem s_T_clash_34 : Seg 9 34 g_T_clash_34 := seg_of (by decide +kernel)
def g_T_clash_46 : List (Instr × Nat) := [(.iconst 0, 1), (.ireturn, 1)]
theorem s_T_clash_46 : Seg 9 46 g_T_clash_46 := seg_of (by decide +kernel)
def g_T_clash_48 : List (Instr × Nat) := [(.iload 3, 1), (.iload 5, 2), (.if_icmp .eq 63, 3)]
theorem s_T_clash_48 : Seg 9 48 g_T_clash_48 := seg_of (by decide +kernel)
def g_T_clash_54 : List (Instr × Nat) := [(.aload 0, 1), (.getfield 2830, 3), (.iconst 40, 2), (.if_icmp .lt 65, 3)]
theorem s_T_clash_54 : Seg 9 54 g_T_clash_54 := seg_of (by decide +kernel)
def g_T_clash_63 : List (Instr × Nat) := [(.iconst 0, 1), (.ireturn, 1)]
theorem s_T_clash_63 : Seg 9 63 g_T_clash_63 := seg_of (by decide +kernel)
def g_T_clash_65 : List (Instr × Nat) := [(.aload 0, 1), (.iload 2, 1), (.invokevirtual 430211, 3), (.aload 7, 2), (.iload 1, 1), (.iload 3, 1), (.iload 4, 2), (.invokeinterface 41 2, 3), (.iload 5, 2), (.iload 6, 2), (.invokeinterface 41 2, 3), (.invokevirtual 1820404, 3), (.aload 0, 1), (.dup, 1), (.getfield 2830, 3), (.iconst 1, 1), (.iadd, 1), (.putfield 2830, 3), (.iconst 1, 1), (.ireturn, 1)]
theorem s_T_clash_65 : Seg 9 65 g_T_clash_65 := seg_of (by decide +kernel)
/-! T bear -/
theorem mk_T_bear : 10 < 256 ∧ mtB 10 = true := ⟨by decide, mk_10⟩
def g_T_bear_0 : List (Instr × Nat) := [(.aload 0, 1), (.iload 2, 1), (.invokevirtual 420211, 3), (.astore 4, 2), (.aload 4, 2), (.ifnull 32, 3)]
theorem s_T_bear_0 : Seg 10 0 g_T_bear_0 := seg_of (by decide +kernel)
def g_T_bear_12 : List (Instr × Nat) := [(.aload 0, 1), (.getstatic 2816, 3), (.iload 1, 1), (.invokevirtual 1500201, 3), (.ifCond .eq 32, 3)]
theorem s_T_bear_12 : Seg 10 12 g_T_bear_12 := seg_of (by decide +kernel)
def g_T_bear_23 : List (Instr × Nat) := [(.aload 4, 2), (.iload 3, 1), (.invokevirtual 1770204, 3), (.ifCond .ne 34, 3)]
theorem s_T_bear_23 : Seg 10 23 g_T_bear_23 := seg_of (by decide +kernel)
def g_T_bear_32 : List (Instr × Nat) := [(.iconst (-1), 1), (.ireturn, 1)]
theorem s_T_bear_32 : Seg 10 32 g_T_bear_32 := seg_of (by decide +kernel)
def g_T_bear_34 : List (Instr × Nat) := [(.iconst 1, 1), (.aload 4, 2), (.aload 4, 2), (.getstatic 1026, 3), (.iload 3, 1), (.iaload, 1), (.invokevirtual 1850204, 3), (.iload 1, 1), (.ishr, 1), (.iconst 1, 1), (.iand, 1), (.isub, 1), (.ireturn, 1)]
theorem s_T_bear_34 : Seg 10 34 g_T_bear_34 := seg_of (by decide +kernel)
/-! T loss -/
theorem mk_T_loss : 11 < 256 ∧ mtB 11 = true := ⟨by decide, mk_11⟩
def g_T_loss_0 : List (Instr × Nat) := [(.aload 0, 1), (.iload 2, 1), (.invokevirtual 420211, 3), (.astore 4, 2), (.aload 4, 2), (.ifnull 32, 3)]
theorem s_T_loss_0 : Seg 11 0 g_T_loss_0 := seg_of (by decide +kernel)
def g_T_loss_12 : List (Instr × Nat) := [(.aload 0, 1), (.getstatic 2816, 3), (.iload 1, 1), (.invokevirtual 1500201, 3), (.ifCond .eq 32, 3)]
theorem s_T_loss_12 : Seg 11 12 g_T_loss_12 := seg_of (by decide +kernel)
def g_T_loss_23 : List (Instr × Nat) := [(.aload 4, 2), (.iload 3, 1), (.invokevirtual 1770204, 3), (.ifCond .ne 34, 3)]
theorem s_T_loss_23 : Seg 11 23 g_T_loss_23 := seg_of (by decide +kernel)
def g_T_loss_32 : List (Instr × Nat) := [(.iconst (-1), 1), (.ireturn, 1)]
theorem s_T_loss_32 : Seg 11 32 g_T_loss_32 := seg_of (by decide +kernel)
def g_T_loss_34 : List (Instr × Nat) := [(.aload 4, 2), (.iload 1, 1), (.aload 4, 2), (.getstatic 1026, 3), (.iload 3, 1), (.iaload, 1), (.invokevirtual 1860304, 3), (.ireturn, 1)]
theorem s_T_loss_34 : Seg 11 34 g_T_loss_34 := seg_of (by decide +kernel)
/-! T feed -/
theorem mk_T_feed : 12 < 256 ∧ mtB 12 = true := ⟨by decide, mk_12⟩
def g_T_feed_0 : List (Instr × Nat) := [(.aload 0, 1), (.getstatic 2818, 3), (.iload 1, 1), (.iload 2, 1), (.iload 3, 1), (.iload 4, 2), (.iload 5, 2), (.invokevirtual 2350609, 3), (.ireturn, 1)]
theorem s_T_feed_0 : Seg 12 0 g_T_feed_0 := seg_of (by decide +kernel)
/-! T end -/
theorem mk_T_end : 13 < 256 ∧ mtB 13 = true := ⟨by decide, mk_13⟩
def g_T_end_0 : List (Instr × Nat) := [(.iload 1, 1), (.ifCond .lt 15, 3)]
theorem s_T_end_0 : Seg 13 0 g_T_end_0 := seg_of (by decide +kernel)
def g_T_end_4 : List (Instr × Nat) := [(.iload 1, 1), (.aload 0, 1), (.getstatic 2818, 3), (.getfield 2305, 3), (.if_icmp .le 17, 3)]
theorem s_T_end_4 : Seg 13 4 g_T_end_4 := seg_of (by decide +kernel)
def g_T_end_15 : List (Instr × Nat) := [(.iconst 0, 1), (.ireturn, 1)]
theorem s_T_end_15 : Seg 13 15 g_T_end_15 := seg_of (by decide +kernel)
def g_T_end_17 : List (Instr × Nat) := [(.aload 0, 1), (.getstatic 2818, 3), (.iload 1, 1), (.putfield 2305, 3), (.iconst 1, 1), (.ireturn, 1)]
theorem s_T_end_17 : Seg 13 17 g_T_end_17 := seg_of (by decide +kernel)
/-! T fault -/
theorem mk_T_fault : 14 < 256 ∧ mtB 14 = true := ⟨by decide, mk_14⟩
def g_T_fault_0 : List (Instr × Nat) := [(.iload 1, 1), (.ifCond .eq 9, 3)]
theorem s_T_fault_0 : Seg 14 0 g_T_fault_0 := seg_of (by decide +kernel)
def g_T_fault_4 : List (Instr × Nat) := [(.iload 1, 1), (.iconst 1, 1), (.if_icmp .ne 20, 3)]
theorem s_T_fault_4 : Seg 14 4 g_T_fault_4 := seg_of (by decide +kernel)
def g_T_fault_9 : List (Instr × Nat) := [(.aload 0, 1), (.getstatic 2819, 3), (.iload 1, 1), (.invokevirtual 1920206, 3), (.goto 22, 3)]
theorem s_T_fault_9 : Seg 14 9 g_T_fault_9 := seg_of (by decide +kernel)
def g_T_fault_20 : List (Instr × Nat) := [(.iconst (-2), 2)]
theorem s_T_fault_20 : Seg 14 20 g_T_fault_20 := seg_of (by decide +kernel)
def g_T_fault_22 : List (Instr × Nat) := [(.ireturn, 1)]
theorem s_T_fault_22 : Seg 14 22 g_T_fault_22 := seg_of (by decide +kernel)
/-! T law -/
theorem mk_T_law : 15 < 256 ∧ mtB 15 = true := ⟨by decide, mk_15⟩
def g_T_law_0 : List (Instr × Nat) := [(.aload 0, 1), (.getfield 2831, 3), (.iconst 8, 2), (.if_icmp .ge 21, 3)]
theorem s_T_law_0 : Seg 15 0 g_T_law_0 := seg_of (by decide +kernel)
def g_T_law_9 : List (Instr × Nat) := [(.aload 0, 1), (.getstatic 2819, 3), (.iconst 0, 1), (.invokevirtual 1920206, 3), (.iconst (-1), 1), (.if_icmp .eq 23, 3)]
theorem s_T_law_9 : Seg 15 9 g_T_law_9 := seg_of (by decide +kernel)
def g_T_law_21 : List (Instr × Nat) := [(.iconst (-1), 1), (.ireturn, 1)]
theorem s_T_law_21 : Seg 15 21 g_T_law_21 := seg_of (by decide +kernel)
def g_T_law_23 : List (Instr × Nat) := [(.aload 0, 1), (.getstatic 2820, 3), (.aload 0, 1), (.getfield 2831, 3), (.aload 0, 1), (.getstatic 2819, 3), (.invokevirtual 1930106, 3), (.aastore, 1), (.aload 0, 1), (.dup, 1), (.getfield 2831, 3), (.iconst 1, 1), (.iadd, 1), (.putfield 2831, 3), (.aload 0, 1), (.getstatic 2818, 3), (.iconst 0, 1), (.putfield 2305, 3), (.aload 0, 1), (.getfield 2831, 3), (.iconst 1, 1), (.isub, 1), (.ireturn, 1)]
theorem s_T_law_23 : Seg 15 23 g_T_law_23 := seg_of (by decide +kernel)
/-! T mind -/
theorem mk_T_mind : 16 < 256 ∧ mtB 16 = true := ⟨by decide, mk_16⟩
def g_T_mind_0 : List (Instr × Nat) := [(.aload 0, 1), (.getfield 2832, 3), (.iconst 8, 2), (.if_icmp .ge 21, 3)]
theorem s_T_mind_0 : Seg 16 0 g_T_mind_0 := seg_of (by decide +kernel)
def g_T_mind_9 : List (Instr × Nat) := [(.aload 0, 1), (.getstatic 2819, 3), (.iconst 1, 1), (.invokevirtual 1920206, 3), (.iconst (-1), 1), (.if_icmp .eq 23, 3)]
theorem s_T_mind_9 : Seg 16 9 g_T_mind_9 := seg_of (by decide +kernel)
def g_T_mind_21 : List (Instr × Nat) := [(.iconst (-1), 1), (.ireturn, 1)]
theorem s_T_mind_21 : Seg 16 21 g_T_mind_21 := seg_of (by decide +kernel)
def g_T_mind_23 : List (Instr × Nat) := [(.aload 0, 1), (.getstatic 2821, 3), (.aload 0, 1), (.getfield 2832, 3), (.aload 0, 1), (.getstatic 2819, 3), (.invokevirtual 1930106, 3), (.aastore, 1), (.aload 0, 1), (.dup, 1), (.getfield 2832, 3), (.iconst 1, 1), (.iadd, 1), (.putfield 2832, 3), (.aload 0, 1), (.getstatic 2818, 3), (.iconst 0, 1), (.putfield 2305, 3), (.aload 0, 1), (.getfield 2832, 3), (.iconst 1, 1), (.isub, 1), (.ireturn, 1)]
theorem s_T_mind_23 : Seg 16 23 g_T_mind_23 := seg_of (by decide +kernel)
/-! T by -/
theorem mk_T_by : 17 < 256 ∧ mtB 17 = true := ⟨by decide, mk_17⟩
def g_T_by_0 : List (Instr × Nat) := [(.aload 0, 1), (.iload 1, 1), (.invokevirtual 420211, 3), (.astore 3, 1), (.aload 3, 1), (.ifnull 23, 3)]
theorem s_T_by_0 : Seg 17 0 g_T_by_0 := seg_of (by decide +kernel)
def g_T_by_10 : List (Instr × Nat) := [(.iload 2, 1), (.iconst (-1), 1), (.if_icmp .lt 23, 3)]
theorem s_T_by_10 : Seg 17 10 g_T_by_10 := seg_of (by decide +kernel)
def g_T_by_15 : List (Instr × Nat) := [(.iload 2, 1), (.aload 0, 1), (.getfield 2831, 3), (.if_icmp .lt 25, 3)]
theorem s_T_by_15 : Seg 17 15 g_T_by_15 := seg_of (by decide +kernel)
def g_T_by_23 : List (Instr × Nat) := [(.iconst 0, 1), (.ireturn, 1)]
theorem s_T_by_23 : Seg 17 23 g_T_by_23 := seg_of (by decide +kernel)
def g_T_by_25 : List (Instr × Nat) := [(.aload 0, 1), (.iload 1, 1), (.invokevirtual 430211, 3), (.aload 3, 1), (.iload 2, 1), (.iconst (-1), 1), (.if_icmp .ne 40, 3)]
theorem s_T_by_25 : Seg 17 25 g_T_by_25 := seg_of (by decide +kernel)
def g_T_by_36 : List (Instr × Nat) := [(.aconst_null, 1), (.goto 46, 3)]
theorem s_T_by_36 : Seg 17 36 g_T_by_36 := seg_of (by decide +kernel)
def g_T_by_40 : List (Instr × Nat) := [(.aload 0, 1), (.getstatic 2820, 3), (.iload 2, 1), (.aaload, 1)]
theorem s_T_by_40 : Seg 17 40 g_T_by_40 := seg_of (by decide +kernel)
def g_T_by_46 : List (Instr × Nat) := [(.putstatic 1034, 3), (.iconst 1, 1), (.ireturn, 1)]
theorem s_T_by_46 : Seg 17 46 g_T_by_46 := seg_of (by decide +kernel)
/-! T minded -/
theorem mk_T_minded : 18 < 256 ∧ mtB 18 = true := ⟨by decide, mk_18⟩
def g_T_minded_0 : List (Instr × Nat) := [(.aload 0, 1), (.getstatic 2816, 3), (.iload 1, 1), (.invokevirtual 1500201, 3), (.ifCond .eq 24, 3)]
theorem s_T_minded_0 : Seg 18 0 g_T_minded_0 := seg_of (by decide +kernel)
def g_T_minded_11 : List (Instr × Nat) := [(.iload 2, 1), (.iconst (-1), 1), (.if_icmp .lt 24, 3)]
theorem s_T_minded_11 : Seg 18 11 g_T_minded_11 := seg_of (by decide +kernel)
def g_T_minded_16 : List (Instr × Nat) := [(.iload 2, 1), (.aload 0, 1), (.getfield 2832, 3), (.if_icmp .lt 26, 3)]
theorem s_T_minded_16 : Seg 18 16 g_T_minded_16 := seg_of (by decide +kernel)
def g_T_minded_24 : List (Instr × Nat) := [(.iconst 0, 1), (.ireturn, 1)]
theorem s_T_minded_24 : Seg 18 24 g_T_minded_24 := seg_of (by decide +kernel)
def g_T_minded_26 : List (Instr × Nat) := [(.aload 0, 1), (.iconst 0, 1), (.invokevirtual 430211, 3), (.aload 0, 1), (.getstatic 2816, 3), (.getstatic 258, 3), (.iload 1, 1), (.iload 2, 1), (.iconst (-1), 1), (.if_icmp .ne 48, 3)]
theorem s_T_minded_26 : Seg 18 26 g_T_minded_26 := seg_of (by decide +kernel)
def g_T_minded_44 : List (Instr × Nat) := [(.aconst_null, 1), (.goto 54, 3)]
theorem s_T_minded_44 : Seg 18 44 g_T_minded_44 := seg_of (by decide +kernel)
def g_T_minded_48 : List (Instr × Nat) := [(.aload 0, 1), (.getstatic 2821, 3), (.iload 2, 1), (.aaload, 1)]
theorem s_T_minded_48 : Seg 18 48 g_T_minded_48 := seg_of (by decide +kernel)
def g_T_minded_54 : List (Instr × Nat) := [(.aastore, 1), (.iconst 1, 1), (.ireturn, 1)]
theorem s_T_minded_54 : Seg 18 54 g_T_minded_54 := seg_of (by decide +kernel)
/-! T worth -/
theorem mk_T_worth : 19 < 256 ∧ mtB 19 = true := ⟨by decide, mk_19⟩
def g_T_worth_0 : List (Instr × Nat) := [(.iload 1, 1), (.ifCond .lt 12, 3)]
theorem s_T_worth_0 : Seg 19 0 g_T_worth_0 := seg_of (by decide +kernel)
def g_T_worth_4 : List (Instr × Nat) := [(.iload 1, 1), (.aload 0, 1), (.getfield 2832, 3), (.if_icmp .lt 20, 3)]
theorem s_T_worth_4 : Seg 19 4 g_T_worth_4 := seg_of (by decide +kernel)
def g_T_worth_12 : List (Instr × Nat) := [(.athrow, 8)]
theorem s_T_worth_12 : Seg 19 12 g_T_worth_12 := seg_of (by decide +kernel)
def g_T_worth_20 : List (Instr × Nat) := [(.aload 0, 1), (.getstatic 2822, 3), (.invokevirtual 2100107, 3), (.aload 0, 1), (.getstatic 2822, 3), (.iconst 104, 2), (.iload 3, 1), (.invokevirtual 2110307, 3), (.aload 0, 1), (.getstatic 2822, 3), (.iconst 101, 2), (.iload 4, 2), (.invokevirtual 2110307, 3), (.aload 0, 1), (.getstatic 2822, 3), (.iconst 111, 2), (.iload 5, 2), (.invokevirtual 2110307, 3), (.aload 0, 1), (.getstatic 2822, 3), (.iconst 116, 2), (.iload 6, 2), (.invokevirtual 2110307, 3), (.aload 0, 1), (.getstatic 2822, 3), (.iconst 107, 2), (.iload 7, 2), (.invokevirtual 2110307, 3), (.aload 0, 1), (.getstatic 2822, 3), (.aload 0, 1), (.getstatic 2821, 3), (.iload 1, 1), (.aaload, 1), (.iload 2, 1), (.invokevirtual 2120307, 3), (.lstore 8, 2), (.lload 8, 2), (.jsr_w (1099511627776), 3), (.lcmp, 1), (.ifCond .ne 114, 3)]
theorem s_T_worth_20 : Seg 19 20 g_T_worth_20 := seg_of (by decide +kernel)
def g_T_worth_106 : List (Instr × Nat) := [(.athrow, 8)]
theorem s_T_worth_106 : Seg 19 106 g_T_worth_106 := seg_of (by decide +kernel)
def g_T_worth_114 : List (Instr × Nat) := [(.lload 8, 2), (.l2i, 1), (.ireturn, 1)]
theorem s_T_worth_114 : Seg 19 114 g_T_worth_114 := seg_of (by decide +kernel)
/-! T ground -/
theorem mk_T_ground : 20 < 256 ∧ mtB 20 = true := ⟨by decide, mk_20⟩
def g_T_ground_0 : List (Instr × Nat) := [(.aload 0, 1), (.iload 1, 1), (.invokevirtual 420211, 3), (.astore 3, 1), (.aload 3, 1), (.ifnull 18, 3)]
theorem s_T_ground_0 : Seg 20 0 g_T_ground_0 := seg_of (by decide +kernel)
def g_T_ground_10 : List (Instr × Nat) := [(.aload 3, 1), (.iload 2, 1), (.invokevirtual 1770204, 3), (.ifCond .ne 20, 3)]
theorem s_T_ground_10 : Seg 20 10 g_T_ground_10 := seg_of (by decide +kernel)
def g_T_ground_18 : List (Instr × Nat) := [(.iconst 0, 1), (.ireturn, 1)]
theorem s_T_ground_18 : Seg 20 18 g_T_ground_18 := seg_of (by decide +kernel)
def g_T_ground_20 : List (Instr × Nat) := [(.aload 0, 1), (.iload 1, 1), (.invokevirtual 430211, 3), (.aload 3, 1), (.iload 2, 1), (.putfield 1033, 3), (.iconst 1, 1), (.ireturn, 1)]
theorem s_T_ground_20 : Seg 20 20 g_T_ground_20 := seg_of (by decide +kernel)
/-! T talk -/
theorem mk_T_talk : 21 < 256 ∧ mtB 21 = true := ⟨by decide, mk_21⟩
def g_T_talk_0 : List (Instr × Nat) := [(.aload 0, 1), (.iload 1, 1), (.invokevirtual 420211, 3), (.ifnonnull 10, 3)]
theorem s_T_talk_0 : Seg 21 0 g_T_talk_0 := seg_of (by decide +kernel)
def g_T_talk_8 : List (Instr × Nat) := [(.iconst (-1), 1), (.ireturn, 1)]
theorem s_T_talk_8 : Seg 21 8 g_T_talk_8 := seg_of (by decide +kernel)
def g_T_talk_10 : List (Instr × Nat) := [(.aload 0, 1), (.iload 1, 1), (.invokevirtual 440211, 3), (.aload 0, 1), (.getstatic 2823, 3), (.iload 1, 1), (.aaload, 1), (.astore 3, 1), (.iload 2, 1), (.tableswitch 72 0 3 #[52, 57, 62, 67], 29)]
theorem s_T_talk_10 : Seg 21 10 g_T_talk_10 := seg_of (by decide +kernel)
def g_T_talk_52 : List (Instr × Nat) := [(.aload 3, 1), (.getfield 2059, 3), (.ireturn, 1)]
theorem s_T_talk_52 : Seg 21 52 g_T_talk_52 := seg_of (by decide +kernel)
def g_T_talk_57 : List (Instr × Nat) := [(.aload 3, 1), (.getfield 2060, 3), (.ireturn, 1)]
theorem s_T_talk_57 : Seg 21 57 g_T_talk_57 := seg_of (by decide +kernel)
def g_T_talk_62 : List (Instr × Nat) := [(.aload 3, 1), (.getfield 2061, 3), (.ireturn, 1)]
theorem s_T_talk_62 : Seg 21 62 g_T_talk_62 := seg_of (by decide +kernel)
def g_T_talk_67 : List (Instr × Nat) := [(.aload 3, 1), (.getfield 2062, 3), (.ireturn, 1)]
theorem s_T_talk_67 : Seg 21 67 g_T_talk_67 := seg_of (by decide +kernel)
def g_T_talk_72 : List (Instr × Nat) := [(.iconst (-1), 1), (.ireturn, 1)]
theorem s_T_talk_72 : Seg 21 72 g_T_talk_72 := seg_of (by decide +kernel)
/-! T said -/
theorem mk_T_said : 22 < 256 ∧ mtB 22 = true := ⟨by decide, mk_22⟩
def g_T_said_0 : List (Instr × Nat) := [(.aload 0, 1), (.iload 1, 1), (.invokevirtual 420211, 3), (.ifnull 21, 3)]
theorem s_T_said_0 : Seg 22 0 g_T_said_0 := seg_of (by decide +kernel)
def g_T_said_8 : List (Instr × Nat) := [(.iload 2, 1), (.ifCond .lt 21, 3)]
theorem s_T_said_8 : Seg 22 8 g_T_said_8 := seg_of (by decide +kernel)
def g_T_said_12 : List (Instr × Nat) := [(.iload 3, 1), (.ifCond .lt 21, 3)]
theorem s_T_said_12 : Seg 22 12 g_T_said_12 := seg_of (by decide +kernel)
def g_T_said_16 : List (Instr × Nat) := [(.iload 3, 1), (.iconst 5, 1), (.if_icmp .lt 29, 3)]
theorem s_T_said_16 : Seg 22 16 g_T_said_16 := seg_of (by decide +kernel)
def g_T_said_21 : List (Instr × Nat) := [(.athrow, 8)]
theorem s_T_said_21 : Seg 22 21 g_T_said_21 := seg_of (by decide +kernel)
def g_T_said_29 : List (Instr × Nat) := [(.aload 0, 1), (.iload 1, 1), (.invokevirtual 440211, 3), (.iload 2, 1), (.aload 0, 1), (.getstatic 2823, 3), (.iload 1, 1), (.aaload, 1), (.getfield 2062, 3), (.if_icmp .lt 55, 3)]
theorem s_T_said_29 : Seg 22 29 g_T_said_29 := seg_of (by decide +kernel)
def g_T_said_47 : List (Instr × Nat) := [(.athrow, 8)]
theorem s_T_said_47 : Seg 22 47 g_T_said_47 := seg_of (by decide +kernel)
def g_T_said_55 : List (Instr × Nat) := [(.aload 0, 1), (.getstatic 2823, 3), (.iload 1, 1), (.aaload, 1), (.getstatic 2053, 3), (.iload 2, 1), (.iconst 5, 1), (.imul, 1), (.iload 3, 1), (.iadd, 1), (.iaload, 1), (.ireturn, 1)]
theorem s_T_said_55 : Seg 22 55 g_T_said_55 := seg_of (by decide +kernel)
/-! T promise -/
theorem mk_T_promise : 23 < 256 ∧ mtB 23 = true := ⟨by decide, mk_23⟩
def g_T_promise_0 : List (Instr × Nat) := [(.aload 0, 1), (.iload 3, 1), (.invokevirtual 420211, 3), (.astore 6, 2), (.aload 6, 2), (.ifnull 48, 3)]
theorem s_T_promise_0 : Seg 23 0 g_T_promise_0 := seg_of (by decide +kernel)
def g_T_promise_12 : List (Instr × Nat) := [(.aload 0, 1), (.getstatic 2816, 3), (.iload 1, 1), (.iload 2, 1), (.invokevirtual 1510301, 3), (.ifCond .eq 48, 3)]
theorem s_T_promise_12 : Seg 23 12 g_T_promise_12 := seg_of (by decide +kernel)
def g_T_promise_24 : List (Instr × Nat) := [(.aload 6, 2), (.iload 4, 2), (.iload 5, 2), (.invokevirtual 1760304, 3), (.ifCond .eq 48, 3)]
theorem s_T_promise_24 : Seg 23 24 g_T_promise_24 := seg_of (by decide +kernel)
def g_T_promise_36 : List (Instr × Nat) := [(.aload 0, 1), (.getstatic 2825, 3), (.getfield 1285, 3), (.iconst 20, 2), (.if_icmp .lt 50, 3)]
theorem s_T_promise_36 : Seg 23 36 g_T_promise_36 := seg_of (by decide +kernel)
def g_T_promise_48 : List (Instr × Nat) := [(.iconst 0, 1), (.ireturn, 1)]
theorem s_T_promise_48 : Seg 23 48 g_T_promise_48 := seg_of (by decide +kernel)
def g_T_promise_50 : List (Instr × Nat) := [(.aload 0, 1), (.iload 3, 1), (.invokevirtual 430211, 3), (.aload 0, 1), (.getstatic 2825, 3), (.iload 1, 1), (.iload 2, 1), (.iload 3, 1), (.iload 4, 2), (.iload 5, 2), (.invokeinterface 41 2, 3), (.invokevirtual 1880505, 3), (.iconst 1, 1), (.ireturn, 1)]
theorem s_T_promise_50 : Seg 23 50 g_T_promise_50 := seg_of (by decide +kernel)
/-! T promised -/
theorem mk_T_promised : 24 < 256 ∧ mtB 24 = true := ⟨by decide, mk_24⟩
def g_T_promised_0 : List (Instr × Nat) := [(.aload 0, 1), (.getstatic 2816, 3), (.iload 1, 1), (.invokevirtual 1500201, 3), (.ifCond .ne 13, 3)]
theorem s_T_promised_0 : Seg 24 0 g_T_promised_0 := seg_of (by decide +kernel)
def g_T_promised_11 : List (Instr × Nat) := [(.iconst (-1), 1), (.ireturn, 1)]
theorem s_T_promised_11 : Seg 24 11 g_T_promised_11 := seg_of (by decide +kernel)
def g_T_promised_13 : List (Instr × Nat) := [(.aload 0, 1), (.aload 0, 1), (.getfield 2829, 3), (.iconst 1, 1), (.isub, 1), (.invokevirtual 440211, 3), (.aload 0, 1), (.getstatic 2825, 3), (.iload 1, 1), (.iload 2, 1), (.invokevirtual 1890305, 3), (.ireturn, 1)]
theorem s_T_promised_13 : Seg 24 13 g_T_promised_13 := seg_of (by decide +kernel)
/-! T all -/
theorem mk_T_all : 25 < 256 ∧ mtB 25 = true := ⟨by decide, mk_25⟩
def g_T_all_0 : List (Instr × Nat) := [(.aload 0, 1), (.iload 1, 1), (.invokevirtual 420211, 3), (.astore 3, 1), (.aload 3, 1), (.ifnull 15, 3)]
theorem s_T_all_0 : Seg 25 0 g_T_all_0 := seg_of (by decide +kernel)
def g_T_all_10 : List (Instr × Nat) := [(.iload 2, 1), (.iconst (-1), 1), (.if_icmp .ge 19, 3)]
theorem s_T_all_10 : Seg 25 10 g_T_all_10 := seg_of (by decide +kernel)
def g_T_all_15 : List (Instr × Nat) := [(.iconst (-1), 1), (.goto 28, 3)]
theorem s_T_all_15 : Seg 25 15 g_T_all_15 := seg_of (by decide +kernel)
def g_T_all_19 : List (Instr × Nat) := [(.aload 0, 1), (.getstatic 2826, 3), (.aload 3, 1), (.iload 2, 1), (.invokevirtual 1570302, 3)]
theorem s_T_all_19 : Seg 25 19 g_T_all_19 := seg_of (by decide +kernel)
def g_T_all_28 : List (Instr × Nat) := [(.ireturn, 1)]
theorem s_T_all_28 : Seg 25 28 g_T_all_28 := seg_of (by decide +kernel)
/-! T fair -/
theorem mk_T_fair : 26 < 256 ∧ mtB 26 = true := ⟨by decide, mk_26⟩
def g_T_fair_0 : List (Instr × Nat) := [(.aload 0, 1), (.iload 1, 1), (.invokevirtual 420211, 3), (.astore 2, 1), (.aload 2, 1), (.ifnonnull 14, 3)]
theorem s_T_fair_0 : Seg 26 0 g_T_fair_0 := seg_of (by decide +kernel)
def g_T_fair_10 : List (Instr × Nat) := [(.iconst (-1), 1), (.goto 22, 3)]
theorem s_T_fair_10 : Seg 26 10 g_T_fair_10 := seg_of (by decide +kernel)
def g_T_fair_14 : List (Instr × Nat) := [(.aload 0, 1), (.getstatic 2826, 3), (.aload 2, 1), (.invokevirtual 1590202, 3)]
theorem s_T_fair_14 : Seg 26 14 g_T_fair_14 := seg_of (by decide +kernel)
def g_T_fair_22 : List (Instr × Nat) := [(.ireturn, 1)]
theorem s_T_fair_22 : Seg 26 22 g_T_fair_22 := seg_of (by decide +kernel)
/-! T barred -/
theorem mk_T_barred : 27 < 256 ∧ mtB 27 = true := ⟨by decide, mk_27⟩
def g_T_barred_0 : List (Instr × Nat) := [(.aload 0, 1), (.iload 1, 1), (.invokevirtual 420211, 3), (.astore 2, 1), (.aload 2, 1), (.ifnonnull 14, 3)]
theorem s_T_barred_0 : Seg 27 0 g_T_barred_0 := seg_of (by decide +kernel)
def g_T_barred_10 : List (Instr × Nat) := [(.iconst (-1), 1), (.goto 22, 3)]
theorem s_T_barred_10 : Seg 27 10 g_T_barred_10 := seg_of (by decide +kernel)
def g_T_barred_14 : List (Instr × Nat) := [(.aload 0, 1), (.getstatic 2826, 3), (.aload 2, 1), (.invokevirtual 1610202, 3)]
theorem s_T_barred_14 : Seg 27 14 g_T_barred_14 := seg_of (by decide +kernel)
def g_T_barred_22 : List (Instr × Nat) := [(.ireturn, 1)]
theorem s_T_barred_22 : Seg 27 22 g_T_barred_22 := seg_of (by decide +kernel)
/-! T open -/
theorem mk_T_open : 28 < 256 ∧ mtB 28 = true := ⟨by decide, mk_28⟩
def g_T_open_0 : List (Instr × Nat) := [(.aload 0, 1), (.iload 1, 1), (.invokevirtual 420211, 3), (.astore 2, 1), (.aload 2, 1), (.ifnonnull 14, 3)]
theorem s_T_open_0 : Seg 28 0 g_T_open_0 := seg_of (by decide +kernel)
def g_T_open_10 : List (Instr × Nat) := [(.iconst (-1), 1), (.goto 22, 3)]
theorem s_T_open_10 : Seg 28 10 g_T_open_10 := seg_of (by decide +kernel)
def g_T_open_14 : List (Instr × Nat) := [(.aload 0, 1), (.getstatic 2826, 3), (.aload 2, 1), (.invokevirtual 1620202, 3)]
theorem s_T_open_14 : Seg 28 14 g_T_open_14 := seg_of (by decide +kernel)
def g_T_open_22 : List (Instr × Nat) := [(.ireturn, 1)]
theorem s_T_open_22 : Seg 28 22 g_T_open_22 := seg_of (by decide +kernel)
/-! T gift -/
theorem mk_T_gift : 29 < 256 ∧ mtB 29 = true := ⟨by decide, mk_29⟩
def g_T_gift_0 : List (Instr × Nat) := [(.aload 0, 1), (.iload 2, 1), (.invokevirtual 420211, 3), (.astore 8, 2), (.aload 0, 1), (.iload 5, 2), (.invokevirtual 420211, 3), (.astore 9, 2), (.aload 8, 2), (.ifnull 43, 3)]
theorem s_T_gift_0 : Seg 29 0 g_T_gift_0 := seg_of (by decide +kernel)
def g_T_gift_20 : List (Instr × Nat) := [(.aload 9, 2), (.ifnull 43, 3)]
theorem s_T_gift_20 : Seg 29 20 g_T_gift_20 := seg_of (by decide +kernel)
def g_T_gift_25 : List (Instr × Nat) := [(.iload 2, 1), (.iload 5, 2), (.if_icmp .eq 43, 3)]
theorem s_T_gift_25 : Seg 29 25 g_T_gift_25 := seg_of (by decide +kernel)
def g_T_gift_31 : List (Instr × Nat) := [(.aload 0, 1), (.getstatic 2827, 3), (.getfield 778, 3), (.iconst 8, 2), (.if_icmp .lt 45, 3)]
theorem s_T_gift_31 : Seg 29 31 g_T_gift_31 := seg_of (by decide +kernel)
def g_T_gift_43 : List (Instr × Nat) := [(.iconst (-1), 1), (.ireturn, 1)]
theorem s_T_gift_43 : Seg 29 43 g_T_gift_43 := seg_of (by decide +kernel)
def g_T_gift_45 : List (Instr × Nat) := [(.aload 0, 1), (.getstatic 2816, 3), (.iload 1, 1), (.invokevirtual 1500201, 3), (.ifCond .eq 79, 3)]
theorem s_T_gift_45 : Seg 29 45 g_T_gift_45 := seg_of (by decide +kernel)
def g_T_gift_56 : List (Instr × Nat) := [(.aload 8, 2), (.iload 3, 1), (.iload 4, 2), (.invokevirtual 1760304, 3), (.ifCond .eq 79, 3)]
theorem s_T_gift_56 : Seg 29 56 g_T_gift_56 := seg_of (by decide +kernel)
def g_T_gift_67 : List (Instr × Nat) := [(.aload 9, 2), (.iload 6, 2), (.iload 7, 2), (.invokevirtual 1760304, 3), (.ifCond .ne 81, 3)]
theorem s_T_gift_67 : Seg 29 67 g_T_gift_67 := seg_of (by decide +kernel)
def g_T_gift_79 : List (Instr × Nat) := [(.iconst (-1), 1), (.ireturn, 1)]
theorem s_T_gift_79 : Seg 29 79 g_T_gift_79 := seg_of (by decide +kernel)
def g_T_gift_81 : List (Instr × Nat) := [(.aload 0, 1), (.getstatic 2827, 3), (.iload 1, 1), (.iload 2, 1), (.iload 3, 1), (.iload 4, 2), (.invokeinterface 41 2, 3), (.iload 5, 2), (.iload 6, 2), (.iload 7, 2), (.invokeinterface 41 2, 3), (.invokevirtual 1670603, 3), (.ireturn, 1)]
theorem s_T_gift_81 : Seg 29 81 g_T_gift_81 := seg_of (by decide +kernel)
/-! T trade -/
theorem mk_T_trade : 30 < 256 ∧ mtB 30 = true := ⟨by decide, mk_30⟩
def g_T_trade_0 : List (Instr × Nat) := [(.aload 0, 1), (.iload 1, 1), (.invokevirtual 420211, 3), (.astore 3, 1), (.aload 0, 1), (.iload 2, 1), (.invokevirtual 420211, 3), (.astore 4, 2), (.aload 3, 1), (.ifnull 27, 3)]
theorem s_T_trade_0 : Seg 30 0 g_T_trade_0 := seg_of (by decide +kernel)
def g_T_trade_17 : List (Instr × Nat) := [(.aload 4, 2), (.ifnull 27, 3)]
theorem s_T_trade_17 : Seg 30 17 g_T_trade_17 := seg_of (by decide +kernel)
def g_T_trade_22 : List (Instr × Nat) := [(.iload 1, 1), (.iload 2, 1), (.if_icmp .ne 29, 3)]
theorem s_T_trade_22 : Seg 30 22 g_T_trade_22 := seg_of (by decide +kernel)
def g_T_trade_27 : List (Instr × Nat) := [(.iconst (-1), 1), (.ireturn, 1)]
theorem s_T_trade_27 : Seg 30 27 g_T_trade_27 := seg_of (by decide +kernel)
def g_T_trade_29 : List (Instr × Nat) := [(.aload 0, 1), (.getstatic 2827, 3), (.aload 3, 1), (.aload 4, 2), (.aload 0, 1), (.getstatic 2827, 3), (.iload 1, 1), (.iload 2, 1), (.invokevirtual 1680303, 3), (.invokevirtual 1690403, 3), (.ireturn, 1)]
theorem s_T_trade_29 : Seg 30 29 g_T_trade_29 := seg_of (by decide +kernel)
/-! T hands -/
theorem mk_T_hands : 31 < 256 ∧ mtB 31 = true := ⟨by decide, mk_31⟩
def g_T_hands_0 : List (Instr × Nat) := [(.aload 0, 1), (.iload 1, 1), (.invokevirtual 420211, 3), (.astore 3, 1), (.aload 3, 1), (.ifnull 19, 3)]
theorem s_T_hands_0 : Seg 31 0 g_T_hands_0 := seg_of (by decide +kernel)
def g_T_hands_10 : List (Instr × Nat) := [(.iload 2, 1), (.ifCond .lt 19, 3)]
theorem s_T_hands_10 : Seg 31 10 g_T_hands_10 := seg_of (by decide +kernel)
def g_T_hands_14 : List (Instr × Nat) := [(.iload 2, 1), (.iconst 2, 1), (.if_icmp .le 21, 3)]
theorem s_T_hands_14 : Seg 31 14 g_T_hands_14 := seg_of (by decide +kernel)
def g_T_hands_19 : List (Instr × Nat) := [(.iconst (-1), 1), (.ireturn, 1)]
theorem s_T_hands_19 : Seg 31 19 g_T_hands_19 := seg_of (by decide +kernel)
def g_T_hands_21 : List (Instr × Nat) := [(.aload 0, 1), (.getstatic 2826, 3), (.aload 3, 1), (.invokevirtual 1640202, 3), (.istore 4, 2), (.aload 3, 1), (.aload 3, 1), (.getstatic 1026, 3), (.iload 4, 2), (.iaload, 1), (.invokevirtual 1850204, 3), (.aload 0, 1), (.getstatic 2816, 3), (.getfield 262, 3), (.iand, 1), (.istore 5, 2), (.iload 2, 1), (.ifCond .ne 59, 3)]
theorem s_T_hands_21 : Seg 31 21 g_T_hands_21 := seg_of (by decide +kernel)
def g_T_hands_56 : List (Instr × Nat) := [(.iload 4, 2), (.ireturn, 1)]
theorem s_T_hands_56 : Seg 31 56 g_T_hands_56 := seg_of (by decide +kernel)
def g_T_hands_59 : List (Instr × Nat) := [(.iload 2, 1), (.iconst 1, 1), (.if_icmp .ne 69, 3)]
theorem s_T_hands_59 : Seg 31 59 g_T_hands_59 := seg_of (by decide +kernel)
def g_T_hands_64 : List (Instr × Nat) := [(.iload 5, 2), (.goto 82, 3)]
theorem s_T_hands_64 : Seg 31 64 g_T_hands_64 := seg_of (by decide +kernel)
def g_T_hands_69 : List (Instr × Nat) := [(.aload 0, 1), (.getstatic 2816, 3), (.getfield 261, 3), (.iload 5, 2), (.invokeinterface 254 1, 3), (.isub, 1)]
theorem s_T_hands_69 : Seg 31 69 g_T_hands_69 := seg_of (by decide +kernel)
def g_T_hands_82 : List (Instr × Nat) := [(.ireturn, 1)]
theorem s_T_hands_82 : Seg 31 82 g_T_hands_82 := seg_of (by decide +kernel)
/-! T aside -/
theorem mk_T_aside : 32 < 256 ∧ mtB 32 = true := ⟨by decide, mk_32⟩
def g_T_aside_0 : List (Instr × Nat) := [(.aload 0, 1), (.iload 3, 1), (.invokevirtual 420211, 3), (.astore 7, 2), (.aload 7, 2), (.ifnull 35, 3)]
theorem s_T_aside_0 : Seg 32 0 g_T_aside_0 := seg_of (by decide +kernel)
def g_T_aside_12 : List (Instr × Nat) := [(.aload 0, 1), (.getstatic 2816, 3), (.iload 1, 1), (.invokevirtual 1500201, 3), (.ifCond .eq 35, 3)]
theorem s_T_aside_12 : Seg 32 12 g_T_aside_12 := seg_of (by decide +kernel)
def g_T_aside_23 : List (Instr × Nat) := [(.aload 7, 2), (.iload 4, 2), (.iload 5, 2), (.invokevirtual 1760304, 3), (.ifCond .ne 37, 3)]
theorem s_T_aside_23 : Seg 32 23 g_T_aside_23 := seg_of (by decide +kernel)
def g_T_aside_35 : List (Instr × Nat) := [(.iconst 0, 1), (.ireturn, 1)]
theorem s_T_aside_35 : Seg 32 35 g_T_aside_35 := seg_of (by decide +kernel)
def g_T_aside_37 : List (Instr × Nat) := [(.iload 2, 1), (.ifCond .le 65, 3)]
theorem s_T_aside_37 : Seg 32 37 g_T_aside_37 := seg_of (by decide +kernel)
def g_T_aside_41 : List (Instr × Nat) := [(.iload 2, 1), (.aload 0, 1), (.getstatic 2816, 3), (.getfield 260, 3), (.ishr, 1), (.ifCond .ne 65, 3)]
theorem s_T_aside_41 : Seg 32 41 g_T_aside_41 := seg_of (by decide +kernel)
def g_T_aside_53 : List (Instr × Nat) := [(.aload 0, 1), (.getstatic 2828, 3), (.getfield 5, 3), (.iconst 60, 2), (.if_icmp .lt 67, 3)]
theorem s_T_aside_53 : Seg 32 53 g_T_aside_53 := seg_of (by decide +kernel)
def g_T_aside_65 : List (Instr × Nat) := [(.iconst 0, 1), (.ireturn, 1)]
theorem s_T_aside_65 : Seg 32 65 g_T_aside_65 := seg_of (by decide +kernel)
def g_T_aside_67 : List (Instr × Nat) := [(.aload 0, 1), (.getstatic 2828, 3), (.iload 1, 1), (.iload 2, 1), (.iload 3, 1), (.iload 4, 2), (.iload 5, 2), (.invokeinterface 41 2, 3), (.iload 6, 2), (.invokevirtual 1470600, 3), (.iconst 1, 1), (.ireturn, 1)]
theorem s_T_aside_67 : Seg 32 67 g_T_aside_67 := seg_of (by decide +kernel)
/-! T taken -/
theorem mk_T_taken : 33 < 256 ∧ mtB 33 = true := ⟨by decide, mk_33⟩
def g_T_taken_0 : List (Instr × Nat) := [(.aload 0, 1), (.iload 3, 1), (.invokevirtual 420211, 3), (.astore 6, 2), (.aload 6, 2), (.ifnull 36, 3)]
theorem s_T_taken_0 : Seg 33 0 g_T_taken_0 := seg_of (by decide +kernel)
def g_T_taken_12 : List (Instr × Nat) := [(.aload 0, 1), (.getstatic 2816, 3), (.iload 1, 1), (.iload 2, 1), (.invokevirtual 1510301, 3), (.ifCond .eq 36, 3)]
theorem s_T_taken_12 : Seg 33 12 g_T_taken_12 := seg_of (by decide +kernel)
def g_T_taken_24 : List (Instr × Nat) := [(.aload 6, 2), (.iload 4, 2), (.iload 5, 2), (.invokevirtual 1760304, 3), (.ifCond .ne 38, 3)]
theorem s_T_taken_24 : Seg 33 24 g_T_taken_24 := seg_of (by decide +kernel)
def g_T_taken_36 : List (Instr × Nat) := [(.iconst (-1), 1), (.ireturn, 1)]
theorem s_T_taken_36 : Seg 33 36 g_T_taken_36 := seg_of (by decide +kernel)
def g_T_taken_38 : List (Instr × Nat) := [(.aload 0, 1), (.iload 3, 1), (.invokevirtual 440211, 3), (.aload 0, 1), (.iconst 1, 1), (.iload 1, 1), (.ishl, 1), (.iload 2, 1), (.iload 3, 1), (.iload 4, 2), (.iload 5, 2), (.invokevirtual 450611, 3), (.ireturn, 1)]
theorem s_T_taken_38 : Seg 33 38 g_T_taken_38 := seg_of (by decide +kernel)
/-! T twice -/
theorem mk_T_twice : 34 < 256 ∧ mtB 34 = true := ⟨by decide, mk_34⟩
def g_T_twice_0 : List (Instr × Nat) := [(.aload 0, 1), (.iload 4, 2), (.invokevirtual 420211, 3), (.astore 7, 2), (.aload 7, 2), (.ifnull 25, 3)]
theorem s_T_twice_0 : Seg 34 0 g_T_twice_0 := seg_of (by decide +kernel)
def g_T_twice_13 : List (Instr × Nat) := [(.aload 7, 2), (.iload 5, 2), (.iload 6, 2), (.invokevirtual 1760304, 3), (.ifCond .ne 27, 3)]
theorem s_T_twice_13 : Seg 34 13 g_T_twice_13 := seg_of (by decide +kernel)
def g_T_twice_25 : List (Instr × Nat) := [(.iconst (-1), 1), (.ireturn, 1)]
theorem s_T_twice_25 : Seg 34 25 g_T_twice_25 := seg_of (by decide +kernel)
def g_T_twice_27 : List (Instr × Nat) := [(.aload 0, 1), (.getstatic 2816, 3), (.iload 1, 1), (.iload 2, 1), (.invokevirtual 1510301, 3), (.ifCond .eq 63, 3)]
theorem s_T_twice_27 : Seg 34 27 g_T_twice_27 := seg_of (by decide +kernel)
def g_T_twice_39 : List (Instr × Nat) := [(.aload 0, 1), (.getstatic 2816, 3), (.iload 1, 1), (.iload 3, 1), (.invokevirtual 1510301, 3), (.ifCond .eq 63, 3)]
theorem s_T_twice_39 : Seg 34 39 g_T_twice_39 := seg_of (by decide +kernel)
def g_T_twice_51 : List (Instr × Nat) := [(.aload 0, 1), (.getstatic 2816, 3), (.iload 2, 1), (.iload 3, 1), (.invokevirtual 1510301, 3), (.ifCond .ne 65, 3)]
theorem s_T_twice_51 : Seg 34 51 g_T_twice_51 := seg_of (by decide +kernel)
def g_T_twice_63 : List (Instr × Nat) := [(.iconst (-1), 1), (.ireturn, 1)]
theorem s_T_twice_63 : Seg 34 63 g_T_twice_63 := seg_of (by decide +kernel)
def g_T_twice_65 : List (Instr × Nat) := [(.aload 0, 1), (.iload 4, 2), (.invokevirtual 440211, 3), (.aload 0, 1), (.iconst 1, 1), (.iload 1, 1), (.ishl, 1), (.iconst 1, 1), (.iload 2, 1), (.ishl, 1), (.ior, 1), (.iload 3, 1), (.iload 4, 2), (.iload 5, 2), (.iload 6, 2), (.invokevirtual 450611, 3), (.ireturn, 1)]
theorem s_T_twice_65 : Seg 34 65 g_T_twice_65 := seg_of (by decide +kernel)
/-! T mistaken -/
theorem mk_T_mistaken : 35 < 256 ∧ mtB 35 = true := ⟨by decide, mk_35⟩
def g_T_mistaken_0 : List (Instr × Nat) := [(.aload 0, 1), (.iload 3, 1), (.invokevirtual 420211, 3), (.astore 4, 2), (.aload 4, 2), (.ifnull 24, 3)]
theorem s_T_mistaken_0 : Seg 35 0 g_T_mistaken_0 := seg_of (by decide +kernel)
def g_T_mistaken_12 : List (Instr × Nat) := [(.aload 0, 1), (.getstatic 2816, 3), (.iload 1, 1), (.iload 2, 1), (.invokevirtual 1510301, 3), (.ifCond .ne 26, 3)]
theorem s_T_mistaken_12 : Seg 35 12 g_T_mistaken_12 := seg_of (by decide +kernel)
def g_T_mistaken_24 : List (Instr × Nat) := [(.iconst (-1), 1), (.ireturn, 1)]
theorem s_T_mistaken_24 : Seg 35 24 g_T_mistaken_24 := seg_of (by decide +kernel)
def g_T_mistaken_26 : List (Instr × Nat) := [(.aload 0, 1), (.iload 3, 1), (.invokevirtual 440211, 3), (.iconst 0, 1), (.istore 5, 2), (.iconst 0, 1), (.istore 6, 2)]
theorem s_T_mistaken_26 : Seg 35 26 g_T_mistaken_26 := seg_of (by decide +kernel)
def g_T_mistaken_37 : List (Instr × Nat) := [(.iload 6, 2), (.aload 4, 2), (.getfield 1024, 3), (.if_icmp .ge 104, 3)]
theorem s_T_mistaken_37 : Seg 35 37 g_T_mistaken_37 := seg_of (by decide +kernel)
def g_T_mistaken_47 : List (Instr × Nat) := [(.iconst 0, 1), (.istore 7, 2)]
theorem s_T_mistaken_47 : Seg 35 47 g_T_mistaken_47 := seg_of (by decide +kernel)
def g_T_mistaken_50 : List (Instr × Nat) := [(.iload 7, 2), (.aload 4, 2), (.getfield 1025, 3), (.if_icmp .ge 98, 3)]
theorem s_T_mistaken_50 : Seg 35 50 g_T_mistaken_50 := seg_of (by decide +kernel)
def g_T_mistaken_60 : List (Instr × Nat) := [(.aload 0, 1), (.iconst 1, 1), (.iload 1, 1), (.ishl, 1), (.iload 2, 1), (.iload 3, 1), (.iload 6, 2), (.iload 7, 2), (.invokevirtual 450611, 3), (.aload 4, 2), (.iload 2, 1), (.iload 6, 2), (.iload 7, 2), (.invokeinterface 41 2, 3), (.invokevirtual 1800304, 3), (.if_icmp .eq 92, 3)]
theorem s_T_mistaken_60 : Seg 35 60 g_T_mistaken_60 := seg_of (by decide +kernel)
def g_T_mistaken_89 : List (Instr × Nat) := [(.iinc 5 (1), 3)]
theorem s_T_mistaken_89 : Seg 35 89 g_T_mistaken_89 := seg_of (by decide +kernel)
def g_T_mistaken_92 : List (Instr × Nat) := [(.iinc 7 (1), 3), (.goto 50, 3)]
theorem s_T_mistaken_92 : Seg 35 92 g_T_mistaken_92 := seg_of (by decide +kernel)
def g_T_mistaken_98 : List (Instr × Nat) := [(.iinc 6 (1), 3), (.goto 37, 3)]
theorem s_T_mistaken_98 : Seg 35 98 g_T_mistaken_98 := seg_of (by decide +kernel)
def g_T_mistaken_104 : List (Instr × Nat) := [(.iload 5, 2), (.ireturn, 1)]
theorem s_T_mistaken_104 : Seg 35 104 g_T_mistaken_104 := seg_of (by decide +kernel)
/-! T about -/
theorem mk_T_about : 36 < 256 ∧ mtB 36 = true := ⟨by decide, mk_36⟩
def g_T_about_0 : List (Instr × Nat) := [(.aload 0, 1), (.iload 2, 1), (.invokevirtual 420211, 3), (.astore 3, 1), (.aload 3, 1), (.ifnull 21, 3)]
theorem s_T_about_0 : Seg 36 0 g_T_about_0 := seg_of (by decide +kernel)
def g_T_about_10 : List (Instr × Nat) := [(.aload 0, 1), (.getstatic 2816, 3), (.iload 1, 1), (.invokevirtual 1500201, 3), (.ifCond .ne 23, 3)]
theorem s_T_about_10 : Seg 36 10 g_T_about_10 := seg_of (by decide +kernel)
def g_T_about_21 : List (Instr × Nat) := [(.iconst (-1), 1), (.ireturn, 1)]
theorem s_T_about_21 : Seg 36 21 g_T_about_21 := seg_of (by decide +kernel)
def g_T_about_23 : List (Instr × Nat) := [(.aload 0, 1), (.iload 2, 1), (.invokevirtual 440211, 3), (.aload 0, 1), (.getstatic 2823, 3), (.iload 2, 1), (.aaload, 1), (.iload 1, 1), (.invokevirtual 2310208, 3), (.ireturn, 1)]
theorem s_T_about_23 : Seg 36 23 g_T_about_23 := seg_of (by decide +kernel)
/-! T back -/
theorem mk_T_back : 37 < 256 ∧ mtB 37 = true := ⟨by decide, mk_37⟩
def g_T_back_0 : List (Instr × Nat) := [(.aload 0, 1), (.iload 2, 1), (.invokevirtual 420211, 3), (.astore 4, 2), (.aload 4, 2), (.ifnull 32, 3)]
theorem s_T_back_0 : Seg 37 0 g_T_back_0 := seg_of (by decide +kernel)
def g_T_back_12 : List (Instr × Nat) := [(.aload 0, 1), (.getstatic 2816, 3), (.iload 1, 1), (.invokevirtual 1500201, 3), (.ifCond .eq 32, 3)]
theorem s_T_back_12 : Seg 37 12 g_T_back_12 := seg_of (by decide +kernel)
def g_T_back_23 : List (Instr × Nat) := [(.iload 3, 1), (.ifCond .lt 32, 3)]
theorem s_T_back_23 : Seg 37 23 g_T_back_23 := seg_of (by decide +kernel)
def g_T_back_27 : List (Instr × Nat) := [(.iload 3, 1), (.iconst 2, 1), (.if_icmp .le 34, 3)]
theorem s_T_back_27 : Seg 37 27 g_T_back_27 := seg_of (by decide +kernel)
def g_T_back_32 : List (Instr × Nat) := [(.iconst (-1), 1), (.ireturn, 1)]
theorem s_T_back_32 : Seg 37 32 g_T_back_32 := seg_of (by decide +kernel)
def g_T_back_34 : List (Instr × Nat) := [(.aload 0, 1), (.iload 2, 1), (.invokevirtual 440211, 3), (.iconst (-1), 1), (.istore 5, 2), (.iconst 0, 1), (.istore 6, 2), (.iconst 0, 1), (.istore 7, 2)]
theorem s_T_back_34 : Seg 37 34 g_T_back_34 := seg_of (by decide +kernel)
def g_T_back_48 : List (Instr × Nat) := [(.iload 7, 2), (.iconst 4, 1), (.aload 4, 2), (.getfield 1024, 3), (.imul, 1), (.if_icmp .ge 115, 3)]
theorem s_T_back_48 : Seg 37 48 g_T_back_48 := seg_of (by decide +kernel)
def g_T_back_60 : List (Instr × Nat) := [(.iload 7, 2), (.iconst 4, 1), (.irem, 1), (.aload 4, 2), (.getfield 1025, 3), (.if_icmp .ge 109, 3)]
theorem s_T_back_60 : Seg 37 60 g_T_back_60 := seg_of (by decide +kernel)
def g_T_back_72 : List (Instr × Nat) := [(.aload 4, 2), (.iload 1, 1), (.iload 7, 2), (.invokevirtual 1800304, 3), (.iconst 1, 1), (.if_icmp .ne 109, 3)]
theorem s_T_back_72 : Seg 37 72 g_T_back_72 := seg_of (by decide +kernel)
def g_T_back_84 : List (Instr × Nat) := [(.aload 0, 1), (.iload 1, 1), (.iload 2, 1), (.iload 7, 2), (.invokevirtual 460411, 3), (.istore 8, 2), (.iload 8, 2), (.iload 6, 2), (.if_icmp .le 109, 3)]
theorem s_T_back_84 : Seg 37 84 g_T_back_84 := seg_of (by decide +kernel)
def g_T_back_101 : List (Instr × Nat) := [(.iload 8, 2), (.istore 6, 2), (.iload 7, 2), (.istore 5, 2)]
theorem s_T_back_101 : Seg 37 101 g_T_back_101 := seg_of (by decide +kernel)
def g_T_back_109 : List (Instr × Nat) := [(.iinc 7 (1), 3), (.goto 48, 3)]
theorem s_T_back_109 : Seg 37 109 g_T_back_109 := seg_of (by decide +kernel)
def g_T_back_115 : List (Instr × Nat) := [(.iload 5, 2), (.iconst (-1), 1), (.if_icmp .ne 123, 3)]
theorem s_T_back_115 : Seg 37 115 g_T_back_115 := seg_of (by decide +kernel)
def g_T_back_121 : List (Instr × Nat) := [(.iconst (-1), 1), (.ireturn, 1)]
theorem s_T_back_121 : Seg 37 121 g_T_back_121 := seg_of (by decide +kernel)
def g_T_back_123 : List (Instr × Nat) := [(.iload 3, 1), (.ifCond .ne 132, 3)]
theorem s_T_back_123 : Seg 37 123 g_T_back_123 := seg_of (by decide +kernel)
def g_T_back_127 : List (Instr × Nat) := [(.iload 5, 2), (.iconst 4, 1), (.idiv, 1), (.ireturn, 1)]
theorem s_T_back_127 : Seg 37 127 g_T_back_127 := seg_of (by decide +kernel)
def g_T_back_132 : List (Instr × Nat) := [(.iload 3, 1), (.iconst 1, 1), (.if_icmp .ne 144, 3)]
theorem s_T_back_132 : Seg 37 132 g_T_back_132 := seg_of (by decide +kernel)
def g_T_back_137 : List (Instr × Nat) := [(.iload 5, 2), (.iconst 4, 1), (.irem, 1), (.goto 146, 3)]
theorem s_T_back_137 : Seg 37 137 g_T_back_137 := seg_of (by decide +kernel)
def g_T_back_144 : List (Instr × Nat) := [(.iload 6, 2)]
theorem s_T_back_144 : Seg 37 144 g_T_back_144 := seg_of (by decide +kernel)
def g_T_back_146 : List (Instr × Nat) := [(.ireturn, 1)]
theorem s_T_back_146 : Seg 37 146 g_T_back_146 := seg_of (by decide +kernel)
