/-! ===== the segments of the methods ===== -/
/-! R count -/
theorem mk_R_count : 145 < 256 ∧ mtB 145 = true := ⟨by decide, mk_145⟩
def g_R_count_0 : List (Instr × Nat) := [(.aload 0, 1), (.iconst 0, 1), (.putfield 3072, 3), (.iload 1, 1), (.tableswitch 114 0 9 #[60, 65, 74, 79, 84, 89, 94, 99, 104, 109], 54)]
theorem s_R_count_0 : Seg 145 0 g_R_count_0 := seg_of (by decide +kernel)
def g_R_count_60 : List (Instr × Nat) := [(.aload 0, 1), (.getfield 3090, 3), (.ireturn, 1)]
theorem s_R_count_60 : Seg 145 60 g_R_count_60 := seg_of (by decide +kernel)
def g_R_count_65 : List (Instr × Nat) := [(.aload 0, 1), (.invokevirtual 570112, 3), (.aload 0, 1), (.getfield 3093, 3), (.ireturn, 1)]
theorem s_R_count_65 : Seg 145 65 g_R_count_65 := seg_of (by decide +kernel)
def g_R_count_74 : List (Instr × Nat) := [(.aload 0, 1), (.getfield 3091, 3), (.ireturn, 1)]
theorem s_R_count_74 : Seg 145 74 g_R_count_74 := seg_of (by decide +kernel)
def g_R_count_79 : List (Instr × Nat) := [(.aload 0, 1), (.getfield 3092, 3), (.ireturn, 1)]
theorem s_R_count_79 : Seg 145 79 g_R_count_79 := seg_of (by decide +kernel)
def g_R_count_84 : List (Instr × Nat) := [(.aload 0, 1), (.getfield 3101, 3), (.ireturn, 1)]
theorem s_R_count_84 : Seg 145 84 g_R_count_84 := seg_of (by decide +kernel)
def g_R_count_89 : List (Instr × Nat) := [(.aload 0, 1), (.getfield 3102, 3), (.ireturn, 1)]
theorem s_R_count_89 : Seg 145 89 g_R_count_89 := seg_of (by decide +kernel)
def g_R_count_94 : List (Instr × Nat) := [(.aload 0, 1), (.getfield 3139, 3), (.ireturn, 1)]
theorem s_R_count_94 : Seg 145 94 g_R_count_94 := seg_of (by decide +kernel)
def g_R_count_99 : List (Instr × Nat) := [(.aload 0, 1), (.getfield 3149, 3), (.ireturn, 1)]
theorem s_R_count_99 : Seg 145 99 g_R_count_99 := seg_of (by decide +kernel)
def g_R_count_104 : List (Instr × Nat) := [(.aload 0, 1), (.getfield 3156, 3), (.ireturn, 1)]
theorem s_R_count_104 : Seg 145 104 g_R_count_104 := seg_of (by decide +kernel)
def g_R_count_109 : List (Instr × Nat) := [(.aload 0, 1), (.getfield 3100, 3), (.ireturn, 1)]
theorem s_R_count_109 : Seg 145 109 g_R_count_109 := seg_of (by decide +kernel)
def g_R_count_114 : List (Instr × Nat) := [(.iconst (-1), 1), (.ireturn, 1)]
theorem s_R_count_114 : Seg 145 114 g_R_count_114 := seg_of (by decide +kernel)
/-! As init -/
theorem mk_As_init : 146 < 256 ∧ mtB 146 = true := ⟨by decide, mk_146⟩
def g_As_init_0 : List (Instr × Nat) := [(.aload 0, 1), (.nop, 3), (.aload 0, 1), (.iconst 60, 2), (.newarray .int, 2), (.putstatic 0, 3), (.aload 0, 1), (.iconst 60, 2), (.newarray .int, 2), (.putstatic 1, 3), (.aload 0, 1), (.iconst 60, 2), (.newarray .int, 2), (.putstatic 2, 3), (.aload 0, 1), (.iconst 60, 2), (.newarray .int, 2), (.putstatic 3, 3), (.aload 0, 1), (.iconst 60, 2), (.newarray .int, 2), (.putstatic 4, 3), (.return_, 1)]
theorem s_As_init_0 : Seg 146 0 g_As_init_0 := seg_of (by decide +kernel)
/-! As add -/
theorem mk_As_add : 147 < 256 ∧ mtB 147 = true := ⟨by decide, mk_147⟩
def g_As_add_0 : List (Instr × Nat) := [(.aload 0, 1), (.getstatic 0, 3), (.aload 0, 1), (.getfield 5, 3), (.iload 1, 1), (.iastore, 1), (.aload 0, 1), (.getstatic 1, 3), (.aload 0, 1), (.getfield 5, 3), (.iload 2, 1), (.iastore, 1), (.aload 0, 1), (.getstatic 2, 3), (.aload 0, 1), (.getfield 5, 3), (.iload 3, 1), (.iastore, 1), (.aload 0, 1), (.getstatic 3, 3), (.aload 0, 1), (.getfield 5, 3), (.iload 4, 2), (.iastore, 1), (.aload 0, 1), (.getstatic 4, 3), (.aload 0, 1), (.getfield 5, 3), (.iload 5, 2), (.ifCond .eq 58, 3)]
theorem s_As_add_0 : Seg 147 0 g_As_add_0 := seg_of (by decide +kernel)
def g_As_add_54 : List (Instr × Nat) := [(.iconst 1, 1), (.goto 59, 3)]
theorem s_As_add_54 : Seg 147 54 g_As_add_54 := seg_of (by decide +kernel)
def g_As_add_58 : List (Instr × Nat) := [(.iconst 0, 1)]
theorem s_As_add_58 : Seg 147 58 g_As_add_58 := seg_of (by decide +kernel)
def g_As_add_59 : List (Instr × Nat) := [(.iastore, 1), (.aload 0, 1), (.dup, 1), (.getfield 5, 3), (.iconst 1, 1), (.iadd, 1), (.putfield 5, 3), (.return_, 1)]
theorem s_As_add_59 : Seg 147 59 g_As_add_59 := seg_of (by decide +kernel)
/-! As lastHeard -/
theorem mk_As_lastHeard : 148 < 256 ∧ mtB 148 = true := ⟨by decide, mk_148⟩
def g_As_lastHeard_0 : List (Instr × Nat) := [(.iconst 1, 1), (.istore 5, 2), (.iconst 0, 1), (.istore 6, 2)]
theorem s_As_lastHeard_0 : Seg 148 0 g_As_lastHeard_0 := seg_of (by decide +kernel)
def g_As_lastHeard_6 : List (Instr × Nat) := [(.iload 6, 2), (.aload 0, 1), (.getfield 5, 3), (.if_icmp .ge 90, 3)]
theorem s_As_lastHeard_6 : Seg 148 6 g_As_lastHeard_6 := seg_of (by decide +kernel)
def g_As_lastHeard_15 : List (Instr × Nat) := [(.aload 0, 1), (.getstatic 0, 3), (.iload 6, 2), (.iaload, 1), (.iload 2, 1), (.if_icmp .ne 53, 3)]
theorem s_As_lastHeard_15 : Seg 148 15 g_As_lastHeard_15 := seg_of (by decide +kernel)
def g_As_lastHeard_26 : List (Instr × Nat) := [(.aload 0, 1), (.getstatic 2, 3), (.iload 6, 2), (.iaload, 1), (.iload 3, 1), (.if_icmp .ne 53, 3)]
theorem s_As_lastHeard_26 : Seg 148 26 g_As_lastHeard_26 := seg_of (by decide +kernel)
def g_As_lastHeard_37 : List (Instr × Nat) := [(.aload 0, 1), (.getstatic 3, 3), (.iload 6, 2), (.iaload, 1), (.iload 4, 2), (.if_icmp .ne 53, 3)]
theorem s_As_lastHeard_37 : Seg 148 37 g_As_lastHeard_37 := seg_of (by decide +kernel)
def g_As_lastHeard_49 : List (Instr × Nat) := [(.iconst 1, 1), (.goto 54, 3)]
theorem s_As_lastHeard_49 : Seg 148 49 g_As_lastHeard_49 := seg_of (by decide +kernel)
def g_As_lastHeard_53 : List (Instr × Nat) := [(.iconst 0, 1)]
theorem s_As_lastHeard_53 : Seg 148 53 g_As_lastHeard_53 := seg_of (by decide +kernel)
def g_As_lastHeard_54 : List (Instr × Nat) := [(.istore 7, 2), (.iload 7, 2), (.ifCond .eq 84, 3)]
theorem s_As_lastHeard_54 : Seg 148 54 g_As_lastHeard_54 := seg_of (by decide +kernel)
def g_As_lastHeard_61 : List (Instr × Nat) := [(.iload 1, 1), (.aload 0, 1), (.getstatic 1, 3), (.iload 6, 2), (.iaload, 1), (.iconst (-1), 1), (.ixor, 1), (.iand, 1), (.ifCond .ne 84, 3)]
theorem s_As_lastHeard_61 : Seg 148 61 g_As_lastHeard_61 := seg_of (by decide +kernel)
def g_As_lastHeard_75 : List (Instr × Nat) := [(.aload 0, 1), (.getstatic 4, 3), (.iload 6, 2), (.iaload, 1), (.istore 5, 2)]
theorem s_As_lastHeard_75 : Seg 148 75 g_As_lastHeard_75 := seg_of (by decide +kernel)
def g_As_lastHeard_84 : List (Instr × Nat) := [(.iinc 6 (1), 3), (.goto 6, 3)]
theorem s_As_lastHeard_84 : Seg 148 84 g_As_lastHeard_84 := seg_of (by decide +kernel)
def g_As_lastHeard_90 : List (Instr × Nat) := [(.iload 5, 2), (.ireturn, 1)]
theorem s_As_lastHeard_90 : Seg 148 90 g_As_lastHeard_90 := seg_of (by decide +kernel)
/-! Ci init -/
theorem mk_Ci_init : 149 < 256 ∧ mtB 149 = true := ⟨by decide, mk_149⟩
def g_Ci_init_0 : List (Instr × Nat) := [(.aload 0, 1), (.nop, 3), (.aload 0, 1), (.iconst 8, 2), (.newarray .int, 2), (.putstatic 256, 3), (.aload 0, 1), (.iconst 8, 2), (.iconst 8, 2), (.multianewarray 7 2, 4), (.putstatic 257, 3), (.aload 0, 1), (.iconst 8, 2), (.anewarray 5, 3), (.putstatic 258, 3), (.aload 0, 1), (.iconst 8, 2), (.newarray .int, 2), (.putstatic 259, 3), (.return_, 1)]
theorem s_Ci_init_0 : Seg 149 0 g_Ci_init_0 := seg_of (by decide +kernel)
/-! Ci has -/
theorem mk_Ci_has : 150 < 256 ∧ mtB 150 = true := ⟨by decide, mk_150⟩
def g_Ci_has_0 : List (Instr × Nat) := [(.iload 1, 1), (.ifCond .lt 16, 3)]
theorem s_Ci_has_0 : Seg 150 0 g_Ci_has_0 := seg_of (by decide +kernel)
def g_Ci_has_4 : List (Instr × Nat) := [(.iload 1, 1), (.aload 0, 1), (.getfield 260, 3), (.if_icmp .ge 16, 3)]
theorem s_Ci_has_4 : Seg 150 4 g_Ci_has_4 := seg_of (by decide +kernel)
def g_Ci_has_12 : List (Instr × Nat) := [(.iconst 1, 1), (.goto 17, 3)]
theorem s_Ci_has_12 : Seg 150 12 g_Ci_has_12 := seg_of (by decide +kernel)
def g_Ci_has_16 : List (Instr × Nat) := [(.iconst 0, 1)]
theorem s_Ci_has_16 : Seg 150 16 g_Ci_has_16 := seg_of (by decide +kernel)
def g_Ci_has_17 : List (Instr × Nat) := [(.ireturn, 1)]
theorem s_Ci_has_17 : Seg 150 17 g_Ci_has_17 := seg_of (by decide +kernel)
/-! Ci hasTwo -/
theorem mk_Ci_hasTwo : 151 < 256 ∧ mtB 151 = true := ⟨by decide, mk_151⟩
def g_Ci_hasTwo_0 : List (Instr × Nat) := [(.aload 0, 1), (.iload 1, 1), (.invokevirtual 1500201, 3), (.ifCond .eq 25, 3)]
theorem s_Ci_hasTwo_0 : Seg 151 0 g_Ci_hasTwo_0 := seg_of (by decide +kernel)
def g_Ci_hasTwo_8 : List (Instr × Nat) := [(.aload 0, 1), (.iload 2, 1), (.invokevirtual 1500201, 3), (.ifCond .eq 25, 3)]
theorem s_Ci_hasTwo_8 : Seg 151 8 g_Ci_hasTwo_8 := seg_of (by decide +kernel)
def g_Ci_hasTwo_16 : List (Instr × Nat) := [(.iload 1, 1), (.iload 2, 1), (.if_icmp .eq 25, 3)]
theorem s_Ci_hasTwo_16 : Seg 151 16 g_Ci_hasTwo_16 := seg_of (by decide +kernel)
def g_Ci_hasTwo_21 : List (Instr × Nat) := [(.iconst 1, 1), (.goto 26, 3)]
theorem s_Ci_hasTwo_21 : Seg 151 21 g_Ci_hasTwo_21 := seg_of (by decide +kernel)
def g_Ci_hasTwo_25 : List (Instr × Nat) := [(.iconst 0, 1)]
theorem s_Ci_hasTwo_25 : Seg 151 25 g_Ci_hasTwo_25 := seg_of (by decide +kernel)
def g_Ci_hasTwo_26 : List (Instr × Nat) := [(.ireturn, 1)]
theorem s_Ci_hasTwo_26 : Seg 151 26 g_Ci_hasTwo_26 := seg_of (by decide +kernel)
/-! Ci sits -/
theorem mk_Ci_sits : 152 < 256 ∧ mtB 152 = true := ⟨by decide, mk_152⟩
def g_Ci_sits_0 : List (Instr × Nat) := [(.aload 0, 1), (.getfield 262, 3), (.iload 1, 1), (.ishr, 1), (.iconst 1, 1), (.iand, 1), (.ifCond .eq 15, 3)]
theorem s_Ci_sits_0 : Seg 152 0 g_Ci_sits_0 := seg_of (by decide +kernel)
def g_Ci_sits_11 : List (Instr × Nat) := [(.iconst 1, 1), (.goto 16, 3)]
theorem s_Ci_sits_11 : Seg 152 11 g_Ci_sits_11 := seg_of (by decide +kernel)
def g_Ci_sits_15 : List (Instr × Nat) := [(.iconst 0, 1)]
theorem s_Ci_sits_15 : Seg 152 15 g_Ci_sits_15 := seg_of (by decide +kernel)
def g_Ci_sits_16 : List (Instr × Nat) := [(.ireturn, 1)]
theorem s_Ci_sits_16 : Seg 152 16 g_Ci_sits_16 := seg_of (by decide +kernel)
/-! Ci add -/
theorem mk_Ci_add : 153 < 256 ∧ mtB 153 = true := ⟨by decide, mk_153⟩
def g_Ci_add_0 : List (Instr × Nat) := [(.aload 0, 1), (.getstatic 256, 3), (.aload 0, 1), (.getfield 260, 3), (.iload 1, 1), (.iastore, 1), (.aload 0, 1), (.dup, 1), (.getfield 260, 3), (.iconst 1, 1), (.iadd, 1), (.putfield 260, 3), (.aload 0, 1), (.aload 0, 1), (.getfield 260, 3), (.iconst 1, 1), (.isub, 1), (.iconst 1, 1), (.invokevirtual 1540301, 3), (.aload 0, 1), (.getfield 260, 3), (.iconst 1, 1), (.isub, 1), (.ireturn, 1)]
theorem s_Ci_add_0 : Seg 153 0 g_Ci_add_0 := seg_of (by decide +kernel)
/-! Ci setSitting -/
theorem mk_Ci_setSitting : 154 < 256 ∧ mtB 154 = true := ⟨by decide, mk_154⟩
def g_Ci_setSitting_0 : List (Instr × Nat) := [(.aload 0, 1), (.iload 2, 1), (.ifCond .eq 16, 3)]
theorem s_Ci_setSitting_0 : Seg 154 0 g_Ci_setSitting_0 := seg_of (by decide +kernel)
def g_Ci_setSitting_5 : List (Instr × Nat) := [(.aload 0, 1), (.getfield 262, 3), (.iconst 1, 1), (.iload 1, 1), (.ishl, 1), (.ior, 1), (.goto 26, 3)]
theorem s_Ci_setSitting_5 : Seg 154 5 g_Ci_setSitting_5 := seg_of (by decide +kernel)
def g_Ci_setSitting_16 : List (Instr × Nat) := [(.aload 0, 1), (.getfield 262, 3), (.iconst 1, 1), (.iload 1, 1), (.ishl, 1), (.iconst (-1), 1), (.ixor, 1), (.iand, 1)]
theorem s_Ci_setSitting_16 : Seg 154 16 g_Ci_setSitting_16 := seg_of (by decide +kernel)
def g_Ci_setSitting_26 : List (Instr × Nat) := [(.putfield 262, 3), (.aload 0, 1), (.iconst 0, 1), (.putfield 261, 3), (.iconst 0, 1), (.istore 3, 1)]
theorem s_Ci_setSitting_26 : Seg 154 26 g_Ci_setSitting_26 := seg_of (by decide +kernel)
def g_Ci_setSitting_36 : List (Instr × Nat) := [(.iload 3, 1), (.aload 0, 1), (.getfield 260, 3), (.if_icmp .ge 63, 3)]
theorem s_Ci_setSitting_36 : Seg 154 36 g_Ci_setSitting_36 := seg_of (by decide +kernel)
def g_Ci_setSitting_44 : List (Instr × Nat) := [(.aload 0, 1), (.iload 3, 1), (.invokevirtual 1520201, 3), (.ifCond .eq 57, 3)]
theorem s_Ci_setSitting_44 : Seg 154 44 g_Ci_setSitting_44 := seg_of (by decide +kernel)
def g_Ci_setSitting_52 : List (Instr × Nat) := [(.aload 0, 1), (.iload 3, 1), (.invokevirtual 1550201, 3)]
theorem s_Ci_setSitting_52 : Seg 154 52 g_Ci_setSitting_52 := seg_of (by decide +kernel)
def g_Ci_setSitting_57 : List (Instr × Nat) := [(.iinc 3 (1), 3), (.goto 36, 3)]
theorem s_Ci_setSitting_57 : Seg 154 57 g_Ci_setSitting_57 := seg_of (by decide +kernel)
def g_Ci_setSitting_63 : List (Instr × Nat) := [(.return_, 1)]
theorem s_Ci_setSitting_63 : Seg 154 63 g_Ci_setSitting_63 := seg_of (by decide +kernel)
/-! Ci seatNext -/
theorem mk_Ci_seatNext : 155 < 256 ∧ mtB 155 = true := ⟨by decide, mk_155⟩
def g_Ci_seatNext_0 : List (Instr × Nat) := [(.aload 0, 1), (.getfield 261, 3), (.istore 2, 1)]
theorem s_Ci_seatNext_0 : Seg 155 0 g_Ci_seatNext_0 := seg_of (by decide +kernel)
def g_Ci_seatNext_5 : List (Instr × Nat) := [(.iload 2, 1), (.ifCond .le 51, 3)]
theorem s_Ci_seatNext_5 : Seg 155 5 g_Ci_seatNext_5 := seg_of (by decide +kernel)
def g_Ci_seatNext_9 : List (Instr × Nat) := [(.aload 0, 1), (.getstatic 256, 3), (.aload 0, 1), (.getstatic 259, 3), (.iload 2, 1), (.iconst 1, 1), (.isub, 1), (.iaload, 1), (.iaload, 1), (.aload 0, 1), (.getstatic 256, 3), (.iload 1, 1), (.iaload, 1), (.if_icmp .le 51, 3)]
theorem s_Ci_seatNext_9 : Seg 155 9 g_Ci_seatNext_9 := seg_of (by decide +kernel)
def g_Ci_seatNext_31 : List (Instr × Nat) := [(.aload 0, 1), (.getstatic 259, 3), (.iload 2, 1), (.aload 0, 1), (.getstatic 259, 3), (.iload 2, 1), (.iconst 1, 1), (.isub, 1), (.iaload, 1), (.iastore, 1), (.iinc 2 (-1), 3), (.goto 5, 3)]
theorem s_Ci_seatNext_31 : Seg 155 31 g_Ci_seatNext_31 := seg_of (by decide +kernel)
def g_Ci_seatNext_51 : List (Instr × Nat) := [(.aload 0, 1), (.getstatic 259, 3), (.iload 2, 1), (.iload 1, 1), (.iastore, 1), (.aload 0, 1), (.dup, 1), (.getfield 261, 3), (.iconst 1, 1), (.iadd, 1), (.putfield 261, 3), (.return_, 1)]
theorem s_Ci_seatNext_51 : Seg 155 51 g_Ci_seatNext_51 := seg_of (by decide +kernel)
/-! Co init -/
theorem mk_Co_init : 156 < 256 ∧ mtB 156 = true := ⟨by decide, mk_156⟩
def g_Co_init_0 : List (Instr × Nat) := [(.aload 0, 1), (.nop, 3), (.aload 0, 1), (.iconst 8, 2), (.newarray .int, 2), (.putstatic 513, 3), (.aload 0, 1), (.aload 1, 1), (.putstatic 512, 3), (.return_, 1)]
theorem s_Co_init_0 : Seg 156 0 g_Co_init_0 := seg_of (by decide +kernel)
/-! Co borneByAll -/
theorem mk_Co_borneByAll : 157 < 256 ∧ mtB 157 = true := ⟨by decide, mk_157⟩
def g_Co_borneByAll_0 : List (Instr × Nat) := [(.iconst 0, 1), (.istore 3, 1), (.iconst 0, 1), (.istore 4, 2)]
theorem s_Co_borneByAll_0 : Seg 157 0 g_Co_borneByAll_0 := seg_of (by decide +kernel)
def g_Co_borneByAll_5 : List (Instr × Nat) := [(.iload 4, 2), (.aload 1, 1), (.getstatic 1026, 3), (.arraylength, 1), (.if_icmp .ge 47, 3)]
theorem s_Co_borneByAll_5 : Seg 157 5 g_Co_borneByAll_5 := seg_of (by decide +kernel)
def g_Co_borneByAll_15 : List (Instr × Nat) := [(.aload 0, 1), (.aload 1, 1), (.aload 1, 1), (.getstatic 1026, 3), (.iload 4, 2), (.iaload, 1), (.invokevirtual 1580302, 3), (.ifCond .eq 41, 3)]
theorem s_Co_borneByAll_15 : Seg 157 15 g_Co_borneByAll_15 := seg_of (by decide +kernel)
def g_Co_borneByAll_30 : List (Instr × Nat) := [(.iload 3, 1), (.iload 2, 1), (.if_icmp .ne 38, 3)]
theorem s_Co_borneByAll_30 : Seg 157 30 g_Co_borneByAll_30 := seg_of (by decide +kernel)
def g_Co_borneByAll_35 : List (Instr × Nat) := [(.iload 4, 2), (.ireturn, 1)]
theorem s_Co_borneByAll_35 : Seg 157 35 g_Co_borneByAll_35 := seg_of (by decide +kernel)
def g_Co_borneByAll_38 : List (Instr × Nat) := [(.iinc 3 (1), 3)]
theorem s_Co_borneByAll_38 : Seg 157 38 g_Co_borneByAll_38 := seg_of (by decide +kernel)
def g_Co_borneByAll_41 : List (Instr × Nat) := [(.iinc 4 (1), 3), (.goto 5, 3)]
theorem s_Co_borneByAll_41 : Seg 157 41 g_Co_borneByAll_41 := seg_of (by decide +kernel)
def g_Co_borneByAll_47 : List (Instr × Nat) := [(.iload 2, 1), (.iconst (-1), 1), (.if_icmp .ne 56, 3)]
theorem s_Co_borneByAll_47 : Seg 157 47 g_Co_borneByAll_47 := seg_of (by decide +kernel)
def g_Co_borneByAll_52 : List (Instr × Nat) := [(.iload 3, 1), (.goto 57, 3)]
theorem s_Co_borneByAll_52 : Seg 157 52 g_Co_borneByAll_52 := seg_of (by decide +kernel)
def g_Co_borneByAll_56 : List (Instr × Nat) := [(.iconst (-1), 1)]
theorem s_Co_borneByAll_56 : Seg 157 56 g_Co_borneByAll_56 := seg_of (by decide +kernel)
def g_Co_borneByAll_57 : List (Instr × Nat) := [(.ireturn, 1)]
theorem s_Co_borneByAll_57 : Seg 157 57 g_Co_borneByAll_57 := seg_of (by decide +kernel)
/-! Co isBorneByAll -/
theorem mk_Co_isBorneByAll : 158 < 256 ∧ mtB 158 = true := ⟨by decide, mk_158⟩
def g_Co_isBorneByAll_0 : List (Instr × Nat) := [(.iload 2, 1), (.ifCond .eq 24, 3)]
theorem s_Co_isBorneByAll_0 : Seg 158 0 g_Co_isBorneByAll_0 := seg_of (by decide +kernel)
def g_Co_isBorneByAll_4 : List (Instr × Nat) := [(.aload 1, 1), (.iload 2, 1), (.invokevirtual 1850204, 3), (.aload 0, 1), (.getstatic 512, 3), (.getfield 262, 3), (.iand, 1), (.ifCond .ne 24, 3)]
theorem s_Co_isBorneByAll_4 : Seg 158 4 g_Co_isBorneByAll_4 := seg_of (by decide +kernel)
def g_Co_isBorneByAll_20 : List (Instr × Nat) := [(.iconst 1, 1), (.goto 25, 3)]
theorem s_Co_isBorneByAll_20 : Seg 158 20 g_Co_isBorneByAll_20 := seg_of (by decide +kernel)
def g_Co_isBorneByAll_24 : List (Instr × Nat) := [(.iconst 0, 1)]
theorem s_Co_isBorneByAll_24 : Seg 158 24 g_Co_isBorneByAll_24 := seg_of (by decide +kernel)
def g_Co_isBorneByAll_25 : List (Instr × Nat) := [(.ireturn, 1)]
theorem s_Co_isBorneByAll_25 : Seg 158 25 g_Co_isBorneByAll_25 := seg_of (by decide +kernel)
/-! Co fairest -/
theorem mk_Co_fairest : 159 < 256 ∧ mtB 159 = true := ⟨by decide, mk_159⟩
def g_Co_fairest_0 : List (Instr × Nat) := [(.iconst (-1), 1), (.istore 2, 1), (.goto_w 0, 1), (.lstore 3, 1), (.iconst 0, 1), (.istore 5, 2)]
theorem s_Co_fairest_0 : Seg 159 0 g_Co_fairest_0 := seg_of (by decide +kernel)
def g_Co_fairest_7 : List (Instr × Nat) := [(.iload 5, 2), (.aload 1, 1), (.getstatic 1026, 3), (.arraylength, 1), (.if_icmp .ge 70, 3)]
theorem s_Co_fairest_7 : Seg 159 7 g_Co_fairest_7 := seg_of (by decide +kernel)
def g_Co_fairest_17 : List (Instr × Nat) := [(.aload 0, 1), (.aload 1, 1), (.aload 1, 1), (.getstatic 1026, 3), (.iload 5, 2), (.iaload, 1), (.invokevirtual 1580302, 3), (.ifCond .eq 64, 3)]
theorem s_Co_fairest_17 : Seg 159 17 g_Co_fairest_17 := seg_of (by decide +kernel)
def g_Co_fairest_32 : List (Instr × Nat) := [(.aload 0, 1), (.aload 1, 1), (.aload 1, 1), (.getstatic 1026, 3), (.iload 5, 2), (.iaload, 1), (.invokevirtual 1600302, 3), (.lstore 6, 2), (.iload 2, 1), (.iconst (-1), 1), (.if_icmp .eq 58, 3)]
theorem s_Co_fairest_32 : Seg 159 32 g_Co_fairest_32 := seg_of (by decide +kernel)
def g_Co_fairest_51 : List (Instr × Nat) := [(.lload 6, 2), (.lload 3, 1), (.lcmp, 1), (.ifCond .ge 64, 3)]
theorem s_Co_fairest_51 : Seg 159 51 g_Co_fairest_51 := seg_of (by decide +kernel)
def g_Co_fairest_58 : List (Instr × Nat) := [(.iload 5, 2), (.istore 2, 1), (.lload 6, 2), (.lstore 3, 1)]
theorem s_Co_fairest_58 : Seg 159 58 g_Co_fairest_58 := seg_of (by decide +kernel)
def g_Co_fairest_64 : List (Instr × Nat) := [(.iinc 5 (1), 3), (.goto 7, 3)]
theorem s_Co_fairest_64 : Seg 159 64 g_Co_fairest_64 := seg_of (by decide +kernel)
def g_Co_fairest_70 : List (Instr × Nat) := [(.iload 2, 1), (.ireturn, 1)]
theorem s_Co_fairest_70 : Seg 159 70 g_Co_fairest_70 := seg_of (by decide +kernel)
/-! Co lossesFalling -/
theorem mk_Co_lossesFalling : 160 < 256 ∧ mtB 160 = true := ⟨by decide, mk_160⟩
def g_Co_lossesFalling_0 : List (Instr × Nat) := [(.iconst 0, 1), (.istore 3, 1)]
theorem s_Co_lossesFalling_0 : Seg 160 0 g_Co_lossesFalling_0 := seg_of (by decide +kernel)
def g_Co_lossesFalling_2 : List (Instr × Nat) := [(.iload 3, 1), (.aload 0, 1), (.getstatic 512, 3), (.getfield 261, 3), (.if_icmp .ge 88, 3)]
theorem s_Co_lossesFalling_2 : Seg 160 2 g_Co_lossesFalling_2 := seg_of (by decide +kernel)
def g_Co_lossesFalling_13 : List (Instr × Nat) := [(.aload 1, 1), (.aload 0, 1), (.getstatic 512, 3), (.getstatic 259, 3), (.iload 3, 1), (.iaload, 1), (.iload 2, 1), (.invokevirtual 1860304, 3), (.istore 4, 2), (.iload 3, 1), (.istore 5, 2)]
theorem s_Co_lossesFalling_13 : Seg 160 13 g_Co_lossesFalling_13 := seg_of (by decide +kernel)
def g_Co_lossesFalling_32 : List (Instr × Nat) := [(.iload 5, 2), (.ifCond .le 73, 3)]
theorem s_Co_lossesFalling_32 : Seg 160 32 g_Co_lossesFalling_32 := seg_of (by decide +kernel)
def g_Co_lossesFalling_37 : List (Instr × Nat) := [(.aload 0, 1), (.getstatic 513, 3), (.iload 5, 2), (.iconst 1, 1), (.isub, 1), (.iaload, 1), (.iload 4, 2), (.if_icmp .ge 73, 3)]
theorem s_Co_lossesFalling_37 : Seg 160 37 g_Co_lossesFalling_37 := seg_of (by decide +kernel)
def g_Co_lossesFalling_51 : List (Instr × Nat) := [(.aload 0, 1), (.getstatic 513, 3), (.iload 5, 2), (.aload 0, 1), (.getstatic 513, 3), (.iload 5, 2), (.iconst 1, 1), (.isub, 1), (.iaload, 1), (.iastore, 1), (.iinc 5 (-1), 3), (.goto 32, 3)]
theorem s_Co_lossesFalling_51 : Seg 160 51 g_Co_lossesFalling_51 := seg_of (by decide +kernel)
def g_Co_lossesFalling_73 : List (Instr × Nat) := [(.aload 0, 1), (.getstatic 513, 3), (.iload 5, 2), (.iload 4, 2), (.iastore, 1), (.iinc 3 (1), 3), (.goto 2, 3)]
theorem s_Co_lossesFalling_73 : Seg 160 73 g_Co_lossesFalling_73 := seg_of (by decide +kernel)
def g_Co_lossesFalling_88 : List (Instr × Nat) := [(.goto_w 0, 1), (.lstore 3, 1), (.iconst 0, 1), (.istore 5, 2)]
theorem s_Co_lossesFalling_88 : Seg 160 88 g_Co_lossesFalling_88 := seg_of (by decide +kernel)
def g_Co_lossesFalling_93 : List (Instr × Nat) := [(.iload 5, 2), (.aload 0, 1), (.getstatic 512, 3), (.getfield 261, 3), (.if_icmp .ge 125, 3)]
theorem s_Co_lossesFalling_93 : Seg 160 93 g_Co_lossesFalling_93 := seg_of (by decide +kernel)
def g_Co_lossesFalling_105 : List (Instr × Nat) := [(.lload 3, 1), (.iconst 6, 2), (.lshl, 1), (.aload 0, 1), (.getstatic 513, 3), (.iload 5, 2), (.iaload, 1), (.i2l, 1), (.lor, 1), (.lstore 3, 1), (.iinc 5 (1), 3), (.goto 93, 3)]
theorem s_Co_lossesFalling_105 : Seg 160 105 g_Co_lossesFalling_105 := seg_of (by decide +kernel)
def g_Co_lossesFalling_125 : List (Instr × Nat) := [(.lload 3, 1), (.lreturn, 1)]
theorem s_Co_lossesFalling_125 : Seg 160 125 g_Co_lossesFalling_125 := seg_of (by decide +kernel)
/-! Co barring -/
theorem mk_Co_barring : 161 < 256 ∧ mtB 161 = true := ⟨by decide, mk_161⟩
def g_Co_barring_0 : List (Instr × Nat) := [(.iconst (-1), 1), (.istore 2, 1), (.iconst 0, 1), (.istore 3, 1)]
theorem s_Co_barring_0 : Seg 161 0 g_Co_barring_0 := seg_of (by decide +kernel)
def g_Co_barring_4 : List (Instr × Nat) := [(.iload 3, 1), (.aload 1, 1), (.getstatic 1026, 3), (.arraylength, 1), (.if_icmp .ge 65, 3)]
theorem s_Co_barring_4 : Seg 161 4 g_Co_barring_4 := seg_of (by decide +kernel)
def g_Co_barring_13 : List (Instr × Nat) := [(.aload 1, 1), (.getstatic 1026, 3), (.iload 3, 1), (.iaload, 1), (.ifCond .eq 59, 3)]
theorem s_Co_barring_13 : Seg 161 13 g_Co_barring_13 := seg_of (by decide +kernel)
def g_Co_barring_22 : List (Instr × Nat) := [(.aload 1, 1), (.aload 1, 1), (.getstatic 1026, 3), (.iload 3, 1), (.iaload, 1), (.invokevirtual 1850204, 3), (.aload 0, 1), (.getstatic 512, 3), (.getfield 262, 3), (.iand, 1), (.istore 4, 2), (.iload 2, 1), (.iconst (-1), 1), (.if_icmp .eq 56, 3)]
theorem s_Co_barring_22 : Seg 161 22 g_Co_barring_22 := seg_of (by decide +kernel)
def g_Co_barring_47 : List (Instr × Nat) := [(.iload 4, 2), (.iload 2, 1), (.invokeinterface 47 2, 3), (.ifCond .eq 59, 3)]
theorem s_Co_barring_47 : Seg 161 47 g_Co_barring_47 := seg_of (by decide +kernel)
def g_Co_barring_56 : List (Instr × Nat) := [(.iload 4, 2), (.istore 2, 1)]
theorem s_Co_barring_56 : Seg 161 56 g_Co_barring_56 := seg_of (by decide +kernel)
def g_Co_barring_59 : List (Instr × Nat) := [(.iinc 3 (1), 3), (.goto 4, 3)]
theorem s_Co_barring_59 : Seg 161 59 g_Co_barring_59 := seg_of (by decide +kernel)
def g_Co_barring_65 : List (Instr × Nat) := [(.iload 2, 1), (.ifCond .ne 73, 3)]
theorem s_Co_barring_65 : Seg 161 65 g_Co_barring_65 := seg_of (by decide +kernel)
def g_Co_barring_69 : List (Instr × Nat) := [(.iconst (-1), 1), (.goto 74, 3)]
theorem s_Co_barring_69 : Seg 161 69 g_Co_barring_69 := seg_of (by decide +kernel)
def g_Co_barring_73 : List (Instr × Nat) := [(.iload 2, 1)]
theorem s_Co_barring_73 : Seg 161 73 g_Co_barring_73 := seg_of (by decide +kernel)
def g_Co_barring_74 : List (Instr × Nat) := [(.ireturn, 1)]
theorem s_Co_barring_74 : Seg 161 74 g_Co_barring_74 := seg_of (by decide +kernel)
/-! Co fewestOpen -/
theorem mk_Co_fewestOpen : 162 < 256 ∧ mtB 162 = true := ⟨by decide, mk_162⟩
def g_Co_fewestOpen_0 : List (Instr × Nat) := [(.iconst (-1), 1), (.istore 2, 1), (.iconst 0, 1), (.istore 3, 1)]
theorem s_Co_fewestOpen_0 : Seg 162 0 g_Co_fewestOpen_0 := seg_of (by decide +kernel)
def g_Co_fewestOpen_4 : List (Instr × Nat) := [(.iload 3, 1), (.iconst 1, 1), (.aload 1, 1), (.getfield 1024, 3), (.ishl, 1), (.if_icmp .ge 44, 3)]
theorem s_Co_fewestOpen_4 : Seg 162 4 g_Co_fewestOpen_4 := seg_of (by decide +kernel)
def g_Co_fewestOpen_14 : List (Instr × Nat) := [(.iload 2, 1), (.iconst (-1), 1), (.if_icmp .eq 27, 3)]
theorem s_Co_fewestOpen_14 : Seg 162 14 g_Co_fewestOpen_14 := seg_of (by decide +kernel)
def g_Co_fewestOpen_19 : List (Instr × Nat) := [(.iload 3, 1), (.iload 2, 1), (.invokeinterface 47 2, 3), (.ifCond .eq 38, 3)]
theorem s_Co_fewestOpen_19 : Seg 162 19 g_Co_fewestOpen_19 := seg_of (by decide +kernel)
def g_Co_fewestOpen_27 : List (Instr × Nat) := [(.aload 0, 1), (.aload 1, 1), (.iload 3, 1), (.invokevirtual 1630302, 3), (.ifCond .eq 38, 3)]
theorem s_Co_fewestOpen_27 : Seg 162 27 g_Co_fewestOpen_27 := seg_of (by decide +kernel)
def g_Co_fewestOpen_36 : List (Instr × Nat) := [(.iload 3, 1), (.istore 2, 1)]
theorem s_Co_fewestOpen_36 : Seg 162 36 g_Co_fewestOpen_36 := seg_of (by decide +kernel)
def g_Co_fewestOpen_38 : List (Instr × Nat) := [(.iinc 3 (1), 3), (.goto 4, 3)]
theorem s_Co_fewestOpen_38 : Seg 162 38 g_Co_fewestOpen_38 := seg_of (by decide +kernel)
def g_Co_fewestOpen_44 : List (Instr × Nat) := [(.iload 2, 1), (.ireturn, 1)]
theorem s_Co_fewestOpen_44 : Seg 162 44 g_Co_fewestOpen_44 := seg_of (by decide +kernel)
/-! Co canLeaveOpen -/
theorem mk_Co_canLeaveOpen : 163 < 256 ∧ mtB 163 = true := ⟨by decide, mk_163⟩
def g_Co_canLeaveOpen_0 : List (Instr × Nat) := [(.iconst 0, 1), (.istore 3, 1), (.iconst 0, 1), (.istore 4, 2)]
theorem s_Co_canLeaveOpen_0 : Seg 163 0 g_Co_canLeaveOpen_0 := seg_of (by decide +kernel)
def g_Co_canLeaveOpen_5 : List (Instr × Nat) := [(.iload 4, 2), (.aload 1, 1), (.getfield 1024, 3), (.if_icmp .ge 39, 3)]
theorem s_Co_canLeaveOpen_5 : Seg 163 5 g_Co_canLeaveOpen_5 := seg_of (by decide +kernel)
def g_Co_canLeaveOpen_14 : List (Instr × Nat) := [(.iload 3, 1), (.iload 2, 1), (.iload 4, 2), (.ishr, 1), (.iconst 1, 1), (.iand, 1), (.iconst 15, 2), (.iload 4, 2), (.iconst 0, 1), (.invokeinterface 41 2, 3), (.ishl, 1), (.imul, 1), (.ior, 1), (.istore 3, 1), (.iinc 4 (1), 3), (.goto 5, 3)]
theorem s_Co_canLeaveOpen_14 : Seg 163 14 g_Co_canLeaveOpen_14 := seg_of (by decide +kernel)
def g_Co_canLeaveOpen_39 : List (Instr × Nat) := [(.iconst 0, 1), (.istore 4, 2)]
theorem s_Co_canLeaveOpen_39 : Seg 163 39 g_Co_canLeaveOpen_39 := seg_of (by decide +kernel)
def g_Co_canLeaveOpen_42 : List (Instr × Nat) := [(.iload 4, 2), (.aload 1, 1), (.getstatic 1026, 3), (.arraylength, 1), (.if_icmp .ge 117, 3)]
theorem s_Co_canLeaveOpen_42 : Seg 163 42 g_Co_canLeaveOpen_42 := seg_of (by decide +kernel)
def g_Co_canLeaveOpen_52 : List (Instr × Nat) := [(.aload 1, 1), (.getstatic 1026, 3), (.iload 4, 2), (.iaload, 1), (.istore 5, 2), (.iload 5, 2), (.ifCond .eq 80, 3)]
theorem s_Co_canLeaveOpen_52 : Seg 163 52 g_Co_canLeaveOpen_52 := seg_of (by decide +kernel)
def g_Co_canLeaveOpen_66 : List (Instr × Nat) := [(.iload 5, 2), (.iload 3, 1), (.iand, 1), (.bipush (978670), 2), (.iand, 1), (.ifCond .ne 80, 3)]
theorem s_Co_canLeaveOpen_66 : Seg 163 66 g_Co_canLeaveOpen_66 := seg_of (by decide +kernel)
def g_Co_canLeaveOpen_76 : List (Instr × Nat) := [(.iconst 1, 1), (.goto 81, 3)]
theorem s_Co_canLeaveOpen_76 : Seg 163 76 g_Co_canLeaveOpen_76 := seg_of (by decide +kernel)
def g_Co_canLeaveOpen_80 : List (Instr × Nat) := [(.iconst 0, 1)]
theorem s_Co_canLeaveOpen_80 : Seg 163 80 g_Co_canLeaveOpen_80 := seg_of (by decide +kernel)
def g_Co_canLeaveOpen_81 : List (Instr × Nat) := [(.istore 6, 2), (.iload 6, 2), (.ifCond .eq 111, 3)]
theorem s_Co_canLeaveOpen_81 : Seg 163 81 g_Co_canLeaveOpen_81 := seg_of (by decide +kernel)
def g_Co_canLeaveOpen_88 : List (Instr × Nat) := [(.aload 1, 1), (.iload 5, 2), (.iload 3, 1), (.iconst (-1), 1), (.ixor, 1), (.iand, 1), (.invokevirtual 1850204, 3), (.aload 0, 1), (.getstatic 512, 3), (.getfield 262, 3), (.iand, 1), (.ifCond .ne 111, 3)]
theorem s_Co_canLeaveOpen_88 : Seg 163 88 g_Co_canLeaveOpen_88 := seg_of (by decide +kernel)
def g_Co_canLeaveOpen_109 : List (Instr × Nat) := [(.iconst 1, 1), (.ireturn, 1)]
theorem s_Co_canLeaveOpen_109 : Seg 163 109 g_Co_canLeaveOpen_109 := seg_of (by decide +kernel)
def g_Co_canLeaveOpen_111 : List (Instr × Nat) := [(.iinc 4 (1), 3), (.goto 42, 3)]
theorem s_Co_canLeaveOpen_111 : Seg 163 111 g_Co_canLeaveOpen_111 := seg_of (by decide +kernel)
def g_Co_canLeaveOpen_117 : List (Instr × Nat) := [(.iconst 0, 1), (.ireturn, 1)]
theorem s_Co_canLeaveOpen_117 : Seg 163 117 g_Co_canLeaveOpen_117 := seg_of (by decide +kernel)
/-! Co mostHands -/
theorem mk_Co_mostHands : 164 < 256 ∧ mtB 164 = true := ⟨by decide, mk_164⟩
def g_Co_mostHands_0 : List (Instr × Nat) := [(.iconst 0, 1), (.istore 2, 1), (.iconst (-1), 1), (.istore 3, 1), (.iconst 0, 1), (.istore 4, 2), (.iconst 0, 1), (.istore 5, 2)]
theorem s_Co_mostHands_0 : Seg 164 0 g_Co_mostHands_0 := seg_of (by decide +kernel)
def g_Co_mostHands_10 : List (Instr × Nat) := [(.iload 5, 2), (.aload 1, 1), (.getstatic 1026, 3), (.arraylength, 1), (.if_icmp .ge 114, 3)]
theorem s_Co_mostHands_10 : Seg 164 10 g_Co_mostHands_10 := seg_of (by decide +kernel)
def g_Co_mostHands_20 : List (Instr × Nat) := [(.aload 1, 1), (.getstatic 1026, 3), (.iload 5, 2), (.iaload, 1), (.istore 6, 2), (.iload 6, 2), (.ifCond .ne 38, 3)]
theorem s_Co_mostHands_20 : Seg 164 20 g_Co_mostHands_20 := seg_of (by decide +kernel)
def g_Co_mostHands_34 : List (Instr × Nat) := [(.iconst (-1), 1), (.goto 63, 3)]
theorem s_Co_mostHands_34 : Seg 164 34 g_Co_mostHands_34 := seg_of (by decide +kernel)
def g_Co_mostHands_38 : List (Instr × Nat) := [(.aload 0, 1), (.getstatic 512, 3), (.getfield 261, 3), (.aload 1, 1), (.iload 6, 2), (.invokevirtual 1850204, 3), (.aload 0, 1), (.getstatic 512, 3), (.getfield 262, 3), (.iand, 1), (.invokeinterface 254 1, 3), (.isub, 1)]
theorem s_Co_mostHands_38 : Seg 164 38 g_Co_mostHands_38 := seg_of (by decide +kernel)
def g_Co_mostHands_63 : List (Instr × Nat) := [(.istore 7, 2), (.iload 6, 2), (.ifCond .eq 108, 3)]
theorem s_Co_mostHands_63 : Seg 164 63 g_Co_mostHands_63 := seg_of (by decide +kernel)
def g_Co_mostHands_70 : List (Instr × Nat) := [(.iload 7, 2), (.iload 3, 1), (.if_icmp .lt 108, 3)]
theorem s_Co_mostHands_70 : Seg 164 70 g_Co_mostHands_70 := seg_of (by decide +kernel)
def g_Co_mostHands_76 : List (Instr × Nat) := [(.aload 0, 1), (.aload 1, 1), (.iload 6, 2), (.invokevirtual 1650302, 3), (.istore 8, 2), (.iload 7, 2), (.iload 3, 1), (.if_icmp .gt 98, 3)]
theorem s_Co_mostHands_76 : Seg 164 76 g_Co_mostHands_76 := seg_of (by decide +kernel)
def g_Co_mostHands_91 : List (Instr × Nat) := [(.iload 8, 2), (.iload 4, 2), (.if_icmp .ge 108, 3)]
theorem s_Co_mostHands_91 : Seg 164 91 g_Co_mostHands_91 := seg_of (by decide +kernel)
def g_Co_mostHands_98 : List (Instr × Nat) := [(.iload 5, 2), (.istore 2, 1), (.iload 7, 2), (.istore 3, 1), (.iload 8, 2), (.istore 4, 2)]
theorem s_Co_mostHands_98 : Seg 164 98 g_Co_mostHands_98 := seg_of (by decide +kernel)
def g_Co_mostHands_108 : List (Instr × Nat) := [(.iinc 5 (1), 3), (.goto 10, 3)]
theorem s_Co_mostHands_108 : Seg 164 108 g_Co_mostHands_108 := seg_of (by decide +kernel)
def g_Co_mostHands_114 : List (Instr × Nat) := [(.iload 2, 1), (.ireturn, 1)]
theorem s_Co_mostHands_114 : Seg 164 114 g_Co_mostHands_114 := seg_of (by decide +kernel)
/-! Co lossOfAll -/
theorem mk_Co_lossOfAll : 165 < 256 ∧ mtB 165 = true := ⟨by decide, mk_165⟩
def g_Co_lossOfAll_0 : List (Instr × Nat) := [(.iconst 0, 1), (.istore 3, 1), (.iconst 0, 1), (.istore 4, 2)]
theorem s_Co_lossOfAll_0 : Seg 165 0 g_Co_lossOfAll_0 := seg_of (by decide +kernel)
def g_Co_lossOfAll_5 : List (Instr × Nat) := [(.iload 4, 2), (.aload 0, 1), (.getstatic 512, 3), (.getfield 261, 3), (.if_icmp .ge 41, 3)]
theorem s_Co_lossOfAll_5 : Seg 165 5 g_Co_lossOfAll_5 := seg_of (by decide +kernel)
def g_Co_lossOfAll_17 : List (Instr × Nat) := [(.iload 3, 1), (.aload 1, 1), (.aload 0, 1), (.getstatic 512, 3), (.getstatic 259, 3), (.iload 4, 2), (.iaload, 1), (.iload 2, 1), (.invokevirtual 1860304, 3), (.iadd, 1), (.istore 3, 1), (.iinc 4 (1), 3), (.goto 5, 3)]
theorem s_Co_lossOfAll_17 : Seg 165 17 g_Co_lossOfAll_17 := seg_of (by decide +kernel)
def g_Co_lossOfAll_41 : List (Instr × Nat) := [(.iload 3, 1), (.ireturn, 1)]
theorem s_Co_lossOfAll_41 : Seg 165 41 g_Co_lossOfAll_41 := seg_of (by decide +kernel)
/-! Gf init -/
theorem mk_Gf_init : 166 < 256 ∧ mtB 166 = true := ⟨by decide, mk_166⟩
def g_Gf_init_0 : List (Instr × Nat) := [(.aload 0, 1), (.nop, 3), (.aload 0, 1), (.iconst 8, 2), (.newarray .int, 2), (.putstatic 769, 3), (.aload 0, 1), (.iconst 8, 2), (.newarray .int, 2), (.putstatic 770, 3), (.aload 0, 1), (.iconst 8, 2), (.newarray .int, 2), (.putstatic 771, 3), (.aload 0, 1), (.iconst 8, 2), (.newarray .int, 2), (.putstatic 772, 3), (.aload 0, 1), (.iconst 8, 2), (.newarray .int, 2), (.putstatic 773, 3), (.aload 0, 1), (.iconst 1024, 3), (.newarray .int, 2), (.putstatic 774, 3), (.aload 0, 1), (.iconst 1024, 3), (.newarray .int, 2), (.putstatic 775, 3), (.aload 0, 1), (.aload 1, 1), (.putstatic 768, 3), (.return_, 1)]
theorem s_Gf_init_0 : Seg 166 0 g_Gf_init_0 := seg_of (by decide +kernel)
/-! Gf add -/
theorem mk_Gf_add : 167 < 256 ∧ mtB 167 = true := ⟨by decide, mk_167⟩
def g_Gf_add_0 : List (Instr × Nat) := [(.aload 0, 1), (.getstatic 769, 3), (.aload 0, 1), (.getfield 778, 3), (.iload 1, 1), (.iastore, 1), (.aload 0, 1), (.getstatic 770, 3), (.aload 0, 1), (.getfield 778, 3), (.iload 2, 1), (.iastore, 1), (.aload 0, 1), (.getstatic 771, 3), (.aload 0, 1), (.getfield 778, 3), (.iload 3, 1), (.iastore, 1), (.aload 0, 1), (.getstatic 772, 3), (.aload 0, 1), (.getfield 778, 3), (.iload 4, 2), (.iastore, 1), (.aload 0, 1), (.getstatic 773, 3), (.aload 0, 1), (.getfield 778, 3), (.iload 5, 2), (.iastore, 1), (.aload 0, 1), (.dup, 1), (.getfield 778, 3), (.iconst 1, 1), (.iadd, 1), (.putfield 778, 3), (.aload 0, 1), (.getfield 778, 3), (.iconst 1, 1), (.isub, 1), (.ireturn, 1)]
theorem s_Gf_add_0 : Seg 167 0 g_Gf_add_0 := seg_of (by decide +kernel)
/-! Gf between -/
theorem mk_Gf_between : 168 < 256 ∧ mtB 168 = true := ⟨by decide, mk_168⟩
def g_Gf_between_0 : List (Instr × Nat) := [(.iconst 0, 1), (.istore 3, 1), (.iconst 0, 1), (.istore 4, 2)]
theorem s_Gf_between_0 : Seg 168 0 g_Gf_between_0 := seg_of (by decide +kernel)
def g_Gf_between_5 : List (Instr × Nat) := [(.iload 4, 2), (.aload 0, 1), (.getfield 778, 3), (.if_icmp .ge 66, 3)]
theorem s_Gf_between_5 : Seg 168 5 g_Gf_between_5 := seg_of (by decide +kernel)
def g_Gf_between_14 : List (Instr × Nat) := [(.aload 0, 1), (.getstatic 770, 3), (.iload 4, 2), (.iaload, 1), (.iload 1, 1), (.if_icmp .ne 60, 3)]
theorem s_Gf_between_14 : Seg 168 14 g_Gf_between_14 := seg_of (by decide +kernel)
def g_Gf_between_25 : List (Instr × Nat) := [(.aload 0, 1), (.getstatic 772, 3), (.iload 4, 2), (.iaload, 1), (.iload 2, 1), (.if_icmp .ne 60, 3)]
theorem s_Gf_between_25 : Seg 168 25 g_Gf_between_25 := seg_of (by decide +kernel)
def g_Gf_between_36 : List (Instr × Nat) := [(.aload 0, 1), (.getstatic 768, 3), (.aload 0, 1), (.getstatic 769, 3), (.iload 4, 2), (.iaload, 1), (.invokevirtual 1520201, 3), (.ifCond .eq 60, 3)]
theorem s_Gf_between_36 : Seg 168 36 g_Gf_between_36 := seg_of (by decide +kernel)
def g_Gf_between_53 : List (Instr × Nat) := [(.iload 3, 1), (.iconst 1, 1), (.iload 4, 2), (.ishl, 1), (.ior, 1), (.istore 3, 1)]
theorem s_Gf_between_53 : Seg 168 53 g_Gf_between_53 := seg_of (by decide +kernel)
def g_Gf_between_60 : List (Instr × Nat) := [(.iinc 4 (1), 3), (.goto 5, 3)]
theorem s_Gf_between_60 : Seg 168 60 g_Gf_between_60 := seg_of (by decide +kernel)
def g_Gf_between_66 : List (Instr × Nat) := [(.iload 3, 1), (.ireturn, 1)]
theorem s_Gf_between_66 : Seg 168 66 g_Gf_between_66 := seg_of (by decide +kernel)
/-! Gf fewestFor -/
theorem mk_Gf_fewestFor : 169 < 256 ∧ mtB 169 = true := ⟨by decide, mk_169⟩
def g_Gf_fewestFor_0 : List (Instr × Nat) := [(.aload 0, 1), (.aload 1, 1), (.aload 2, 1), (.invokevirtual 1700303, 3), (.iconst (-1), 1), (.istore 4, 2), (.iconst 0, 1), (.istore 5, 2)]
theorem s_Gf_fewestFor_0 : Seg 169 0 g_Gf_fewestFor_0 := seg_of (by decide +kernel)
def g_Gf_fewestFor_12 : List (Instr × Nat) := [(.iload 5, 2), (.iconst 1, 1), (.aload 0, 1), (.getfield 778, 3), (.ishl, 1), (.if_icmp .ge 89, 3)]
theorem s_Gf_fewestFor_12 : Seg 169 12 g_Gf_fewestFor_12 := seg_of (by decide +kernel)
def g_Gf_fewestFor_23 : List (Instr × Nat) := [(.iload 5, 2), (.iload 3, 1), (.iconst (-1), 1), (.ixor, 1), (.iand, 1), (.ifCond .ne 52, 3)]
theorem s_Gf_fewestFor_23 : Seg 169 23 g_Gf_fewestFor_23 := seg_of (by decide +kernel)
def g_Gf_fewestFor_32 : List (Instr × Nat) := [(.iload 4, 2), (.iconst (-1), 1), (.if_icmp .eq 48, 3)]
theorem s_Gf_fewestFor_32 : Seg 169 32 g_Gf_fewestFor_32 := seg_of (by decide +kernel)
def g_Gf_fewestFor_38 : List (Instr × Nat) := [(.iload 5, 2), (.iload 4, 2), (.invokeinterface 47 2, 3), (.ifCond .eq 52, 3)]
theorem s_Gf_fewestFor_38 : Seg 169 38 g_Gf_fewestFor_38 := seg_of (by decide +kernel)
def g_Gf_fewestFor_48 : List (Instr × Nat) := [(.iconst 1, 1), (.goto 53, 3)]
theorem s_Gf_fewestFor_48 : Seg 169 48 g_Gf_fewestFor_48 := seg_of (by decide +kernel)
def g_Gf_fewestFor_52 : List (Instr × Nat) := [(.iconst 0, 1)]
theorem s_Gf_fewestFor_52 : Seg 169 52 g_Gf_fewestFor_52 := seg_of (by decide +kernel)
def g_Gf_fewestFor_53 : List (Instr × Nat) := [(.istore 6, 2), (.iload 6, 2), (.ifCond .eq 83, 3)]
theorem s_Gf_fewestFor_53 : Seg 169 53 g_Gf_fewestFor_53 := seg_of (by decide +kernel)
def g_Gf_fewestFor_60 : List (Instr × Nat) := [(.aload 0, 1), (.iload 5, 2), (.invokevirtual 1710203, 3), (.ifCond .eq 83, 3)]
theorem s_Gf_fewestFor_60 : Seg 169 60 g_Gf_fewestFor_60 := seg_of (by decide +kernel)
def g_Gf_fewestFor_69 : List (Instr × Nat) := [(.aload 0, 1), (.aload 1, 1), (.iload 5, 2), (.invokevirtual 1720303, 3), (.ifCond .eq 83, 3)]
theorem s_Gf_fewestFor_69 : Seg 169 69 g_Gf_fewestFor_69 := seg_of (by decide +kernel)
def g_Gf_fewestFor_79 : List (Instr × Nat) := [(.iload 5, 2), (.istore 4, 2)]
theorem s_Gf_fewestFor_79 : Seg 169 79 g_Gf_fewestFor_79 := seg_of (by decide +kernel)
def g_Gf_fewestFor_83 : List (Instr × Nat) := [(.iinc 5 (1), 3), (.goto 12, 3)]
theorem s_Gf_fewestFor_83 : Seg 169 83 g_Gf_fewestFor_83 := seg_of (by decide +kernel)
def g_Gf_fewestFor_89 : List (Instr × Nat) := [(.iload 4, 2), (.ireturn, 1)]
theorem s_Gf_fewestFor_89 : Seg 169 89 g_Gf_fewestFor_89 := seg_of (by decide +kernel)
/-! Gf gather -/
theorem mk_Gf_gather : 170 < 256 ∧ mtB 170 = true := ⟨by decide, mk_170⟩
def g_Gf_gather_0 : List (Instr × Nat) := [(.aload 0, 1), (.iconst 0, 1), (.putfield 776, 3), (.iconst 0, 1), (.istore 3, 1)]
theorem s_Gf_gather_0 : Seg 170 0 g_Gf_gather_0 := seg_of (by decide +kernel)
def g_Gf_gather_7 : List (Instr × Nat) := [(.iload 3, 1), (.aload 1, 1), (.getstatic 1026, 3), (.arraylength, 1), (.if_icmp .ge 73, 3)]
theorem s_Gf_gather_7 : Seg 170 7 g_Gf_gather_7 := seg_of (by decide +kernel)
def g_Gf_gather_16 : List (Instr × Nat) := [(.aload 1, 1), (.getstatic 1026, 3), (.iload 3, 1), (.iaload, 1), (.istore 4, 2), (.iload 4, 2), (.ifCond .eq 67, 3)]
theorem s_Gf_gather_16 : Seg 170 16 g_Gf_gather_16 := seg_of (by decide +kernel)
def g_Gf_gather_29 : List (Instr × Nat) := [(.aload 1, 1), (.iload 4, 2), (.invokevirtual 1840204, 3), (.aload 0, 1), (.getstatic 768, 3), (.getfield 262, 3), (.iand, 1), (.ifCond .ne 67, 3)]
theorem s_Gf_gather_29 : Seg 170 29 g_Gf_gather_29 := seg_of (by decide +kernel)
def g_Gf_gather_46 : List (Instr × Nat) := [(.aload 0, 1), (.getstatic 774, 3), (.aload 0, 1), (.getfield 776, 3), (.iload 4, 2), (.iastore, 1), (.aload 0, 1), (.dup, 1), (.getfield 776, 3), (.iconst 1, 1), (.iadd, 1), (.putfield 776, 3)]
theorem s_Gf_gather_46 : Seg 170 46 g_Gf_gather_46 := seg_of (by decide +kernel)
def g_Gf_gather_67 : List (Instr × Nat) := [(.iinc 3 (1), 3), (.goto 7, 3)]
theorem s_Gf_gather_67 : Seg 170 67 g_Gf_gather_67 := seg_of (by decide +kernel)
def g_Gf_gather_73 : List (Instr × Nat) := [(.aload 0, 1), (.iconst 0, 1), (.putfield 777, 3), (.iconst 0, 1), (.istore 3, 1)]
theorem s_Gf_gather_73 : Seg 170 73 g_Gf_gather_73 := seg_of (by decide +kernel)
def g_Gf_gather_80 : List (Instr × Nat) := [(.iload 3, 1), (.aload 2, 1), (.getstatic 1026, 3), (.arraylength, 1), (.if_icmp .ge 146, 3)]
theorem s_Gf_gather_80 : Seg 170 80 g_Gf_gather_80 := seg_of (by decide +kernel)
def g_Gf_gather_89 : List (Instr × Nat) := [(.aload 2, 1), (.getstatic 1026, 3), (.iload 3, 1), (.iaload, 1), (.istore 4, 2), (.iload 4, 2), (.ifCond .eq 140, 3)]
theorem s_Gf_gather_89 : Seg 170 89 g_Gf_gather_89 := seg_of (by decide +kernel)
def g_Gf_gather_102 : List (Instr × Nat) := [(.aload 2, 1), (.iload 4, 2), (.invokevirtual 1850204, 3), (.aload 0, 1), (.getstatic 768, 3), (.getfield 262, 3), (.iand, 1), (.ifCond .ne 140, 3)]
theorem s_Gf_gather_102 : Seg 170 102 g_Gf_gather_102 := seg_of (by decide +kernel)
def g_Gf_gather_119 : List (Instr × Nat) := [(.aload 0, 1), (.getstatic 775, 3), (.aload 0, 1), (.getfield 777, 3), (.iload 4, 2), (.iastore, 1), (.aload 0, 1), (.dup, 1), (.getfield 777, 3), (.iconst 1, 1), (.iadd, 1), (.putfield 777, 3)]
theorem s_Gf_gather_119 : Seg 170 119 g_Gf_gather_119 := seg_of (by decide +kernel)
def g_Gf_gather_140 : List (Instr × Nat) := [(.iinc 3 (1), 3), (.goto 80, 3)]
theorem s_Gf_gather_140 : Seg 170 140 g_Gf_gather_140 := seg_of (by decide +kernel)
def g_Gf_gather_146 : List (Instr × Nat) := [(.return_, 1)]
theorem s_Gf_gather_146 : Seg 170 146 g_Gf_gather_146 := seg_of (by decide +kernel)
/-! Gf isGiven -/
theorem mk_Gf_isGiven : 171 < 256 ∧ mtB 171 = true := ⟨by decide, mk_171⟩
def g_Gf_isGiven_0 : List (Instr × Nat) := [(.iconst 0, 1), (.istore 2, 1), (.iconst 0, 1), (.istore 3, 1)]
theorem s_Gf_isGiven_0 : Seg 171 0 g_Gf_isGiven_0 := seg_of (by decide +kernel)
def g_Gf_isGiven_4 : List (Instr × Nat) := [(.iload 3, 1), (.aload 0, 1), (.getfield 778, 3), (.if_icmp .ge 33, 3)]
theorem s_Gf_isGiven_4 : Seg 171 4 g_Gf_isGiven_4 := seg_of (by decide +kernel)
def g_Gf_isGiven_12 : List (Instr × Nat) := [(.iload 2, 1), (.iload 1, 1), (.iload 3, 1), (.ishr, 1), (.iconst 1, 1), (.iand, 1), (.aload 0, 1), (.getstatic 773, 3), (.iload 3, 1), (.iaload, 1), (.ishl, 1), (.ior, 1), (.istore 2, 1), (.iinc 3 (1), 3), (.goto 4, 3)]
theorem s_Gf_isGiven_12 : Seg 171 12 g_Gf_isGiven_12 := seg_of (by decide +kernel)
def g_Gf_isGiven_33 : List (Instr × Nat) := [(.iconst 0, 1), (.istore 3, 1)]
theorem s_Gf_isGiven_33 : Seg 171 33 g_Gf_isGiven_33 := seg_of (by decide +kernel)
def g_Gf_isGiven_35 : List (Instr × Nat) := [(.iload 3, 1), (.aload 0, 1), (.getfield 777, 3), (.if_icmp .ge 64, 3)]
theorem s_Gf_isGiven_35 : Seg 171 35 g_Gf_isGiven_35 := seg_of (by decide +kernel)
def g_Gf_isGiven_43 : List (Instr × Nat) := [(.iload 2, 1), (.aload 0, 1), (.getstatic 775, 3), (.iload 3, 1), (.iaload, 1), (.iconst (-1), 1), (.ixor, 1), (.iand, 1), (.ifCond .ne 58, 3)]
theorem s_Gf_isGiven_43 : Seg 171 43 g_Gf_isGiven_43 := seg_of (by decide +kernel)
def g_Gf_isGiven_56 : List (Instr × Nat) := [(.iconst 1, 1), (.ireturn, 1)]
theorem s_Gf_isGiven_56 : Seg 171 56 g_Gf_isGiven_56 := seg_of (by decide +kernel)
def g_Gf_isGiven_58 : List (Instr × Nat) := [(.iinc 3 (1), 3), (.goto 35, 3)]
theorem s_Gf_isGiven_58 : Seg 171 58 g_Gf_isGiven_58 := seg_of (by decide +kernel)
def g_Gf_isGiven_64 : List (Instr × Nat) := [(.iconst 0, 1), (.ireturn, 1)]
theorem s_Gf_isGiven_64 : Seg 171 64 g_Gf_isGiven_64 := seg_of (by decide +kernel)
/-! Gf isEnough -/
theorem mk_Gf_isEnough : 172 < 256 ∧ mtB 172 = true := ⟨by decide, mk_172⟩
def g_Gf_isEnough_0 : List (Instr × Nat) := [(.iconst 0, 1), (.istore 3, 1), (.iconst 0, 1), (.istore 4, 2)]
theorem s_Gf_isEnough_0 : Seg 172 0 g_Gf_isEnough_0 := seg_of (by decide +kernel)
def g_Gf_isEnough_5 : List (Instr × Nat) := [(.iload 4, 2), (.aload 0, 1), (.getstatic 768, 3), (.getfield 261, 3), (.if_icmp .ge 42, 3)]
theorem s_Gf_isEnough_5 : Seg 172 5 g_Gf_isEnough_5 := seg_of (by decide +kernel)
def g_Gf_isEnough_17 : List (Instr × Nat) := [(.iload 3, 1), (.aload 0, 1), (.aload 0, 1), (.getstatic 768, 3), (.getstatic 259, 3), (.iload 4, 2), (.iaload, 1), (.aload 1, 1), (.iload 2, 1), (.invokevirtual 1730403, 3), (.ior, 1), (.istore 3, 1), (.iinc 4 (1), 3), (.goto 5, 3)]
theorem s_Gf_isEnough_17 : Seg 172 17 g_Gf_isEnough_17 := seg_of (by decide +kernel)
def g_Gf_isEnough_42 : List (Instr × Nat) := [(.iconst 0, 1), (.istore 4, 2)]
theorem s_Gf_isEnough_42 : Seg 172 42 g_Gf_isEnough_42 := seg_of (by decide +kernel)
def g_Gf_isEnough_45 : List (Instr × Nat) := [(.iload 4, 2), (.aload 0, 1), (.getfield 776, 3), (.if_icmp .ge 74, 3)]
theorem s_Gf_isEnough_45 : Seg 172 45 g_Gf_isEnough_45 := seg_of (by decide +kernel)
def g_Gf_isEnough_54 : List (Instr × Nat) := [(.aload 0, 1), (.getstatic 774, 3), (.iload 4, 2), (.iaload, 1), (.iload 3, 1), (.iand, 1), (.ifCond .ne 68, 3)]
theorem s_Gf_isEnough_54 : Seg 172 54 g_Gf_isEnough_54 := seg_of (by decide +kernel)
def g_Gf_isEnough_66 : List (Instr × Nat) := [(.iconst 1, 1), (.ireturn, 1)]
theorem s_Gf_isEnough_66 : Seg 172 66 g_Gf_isEnough_66 := seg_of (by decide +kernel)
def g_Gf_isEnough_68 : List (Instr × Nat) := [(.iinc 4 (1), 3), (.goto 45, 3)]
theorem s_Gf_isEnough_68 : Seg 172 68 g_Gf_isEnough_68 := seg_of (by decide +kernel)
def g_Gf_isEnough_74 : List (Instr × Nat) := [(.iconst 0, 1), (.ireturn, 1)]
theorem s_Gf_isEnough_74 : Seg 172 74 g_Gf_isEnough_74 := seg_of (by decide +kernel)
/-! Gf unborneBy -/
theorem mk_Gf_unborneBy : 173 < 256 ∧ mtB 173 = true := ⟨by decide, mk_173⟩
def g_Gf_unborneBy_0 : List (Instr × Nat) := [(.aload 2, 1), (.getstatic 1027, 3), (.iload 1, 1), (.iaload, 1), (.istore 4, 2), (.iconst 0, 1), (.istore 5, 2)]
theorem s_Gf_unborneBy_0 : Seg 173 0 g_Gf_unborneBy_0 := seg_of (by decide +kernel)
def g_Gf_unborneBy_11 : List (Instr × Nat) := [(.iload 5, 2), (.aload 0, 1), (.getfield 778, 3), (.if_icmp .ge 62, 3)]
theorem s_Gf_unborneBy_11 : Seg 173 11 g_Gf_unborneBy_11 := seg_of (by decide +kernel)
def g_Gf_unborneBy_20 : List (Instr × Nat) := [(.aload 0, 1), (.getstatic 769, 3), (.iload 5, 2), (.iaload, 1), (.iload 1, 1), (.if_icmp .ne 56, 3)]
theorem s_Gf_unborneBy_20 : Seg 173 20 g_Gf_unborneBy_20 := seg_of (by decide +kernel)
def g_Gf_unborneBy_31 : List (Instr × Nat) := [(.iload 3, 1), (.iload 5, 2), (.ishr, 1), (.iconst 1, 1), (.iand, 1), (.ifCond .eq 56, 3)]
theorem s_Gf_unborneBy_31 : Seg 173 31 g_Gf_unborneBy_31 := seg_of (by decide +kernel)
def g_Gf_unborneBy_40 : List (Instr × Nat) := [(.iload 4, 2), (.iconst 1, 1), (.aload 0, 1), (.getstatic 771, 3), (.iload 5, 2), (.iaload, 1), (.ishl, 1), (.iconst (-1), 1), (.ixor, 1), (.iand, 1), (.istore 4, 2)]
theorem s_Gf_unborneBy_40 : Seg 173 40 g_Gf_unborneBy_40 := seg_of (by decide +kernel)
def g_Gf_unborneBy_56 : List (Instr × Nat) := [(.iinc 5 (1), 3), (.goto 11, 3)]
theorem s_Gf_unborneBy_56 : Seg 173 56 g_Gf_unborneBy_56 := seg_of (by decide +kernel)
def g_Gf_unborneBy_62 : List (Instr × Nat) := [(.iload 4, 2), (.ireturn, 1)]
theorem s_Gf_unborneBy_62 : Seg 173 62 g_Gf_unborneBy_62 := seg_of (by decide +kernel)
/-! Ma init -/
theorem mk_Ma_init : 174 < 256 ∧ mtB 174 = true := ⟨by decide, mk_174⟩
def g_Ma_init_0 : List (Instr × Nat) := [(.aload 0, 1), (.nop, 3), (.aload 0, 1), (.iconst 8, 2), (.newarray .int, 2), (.putstatic 1027, 3), (.aload 0, 1), (.iconst 8, 2), (.newarray .int, 2), (.putstatic 1028, 3), (.aload 0, 1), (.iconst 8, 2), (.iconst 5, 1), (.multianewarray 7 2, 4), (.putstatic 1029, 3), (.aload 0, 1), (.iconst 40, 2), (.newarray .int, 2), (.putstatic 1030, 3), (.aload 0, 1), (.iconst 40, 2), (.newarray .int, 2), (.putstatic 1031, 3), (.aload 0, 1), (.iload 1, 1), (.putfield 1024, 3), (.aload 0, 1), (.iload 2, 1), (.putfield 1025, 3), (.aload 0, 1), (.iconst 1, 1), (.iconst 2, 1), (.iload 1, 1), (.imul, 1), (.ishl, 1), (.newarray .int, 2), (.putstatic 1026, 3), (.iconst 0, 1), (.istore 3, 1)]
theorem s_Ma_init_0 : Seg 174 0 g_Ma_init_0 := seg_of (by decide +kernel)
def g_Ma_init_70 : List (Instr × Nat) := [(.iload 3, 1), (.aload 0, 1), (.getstatic 1026, 3), (.arraylength, 1), (.if_icmp .ge 97, 3)]
theorem s_Ma_init_70 : Seg 174 70 g_Ma_init_70 := seg_of (by decide +kernel)
def g_Ma_init_79 : List (Instr × Nat) := [(.aload 0, 1), (.getstatic 1026, 3), (.iload 3, 1), (.iload 3, 1), (.iload 1, 1), (.iload 2, 1), (.invokeinterface 175 3, 3), (.iastore, 1), (.iinc 3 (1), 3), (.goto 70, 3)]
theorem s_Ma_init_79 : Seg 174 79 g_Ma_init_79 := seg_of (by decide +kernel)
def g_Ma_init_97 : List (Instr × Nat) := [(.iconst 0, 1), (.istore 3, 1)]
theorem s_Ma_init_97 : Seg 174 97 g_Ma_init_97 := seg_of (by decide +kernel)
def g_Ma_init_99 : List (Instr × Nat) := [(.iload 3, 1), (.iconst 8, 2), (.if_icmp .ge 121, 3)]
theorem s_Ma_init_99 : Seg 174 99 g_Ma_init_99 := seg_of (by decide +kernel)
def g_Ma_init_105 : List (Instr × Nat) := [(.aload 0, 1), (.getstatic 1029, 3), (.iload 3, 1), (.aaload, 1), (.iconst 1, 1), (.invokeinterface 252 2, 3), (.iinc 3 (1), 3), (.goto 99, 3)]
theorem s_Ma_init_105 : Seg 174 105 g_Ma_init_105 := seg_of (by decide +kernel)
def g_Ma_init_121 : List (Instr × Nat) := [(.return_, 1)]
theorem s_Ma_init_121 : Seg 174 121 g_Ma_init_121 := seg_of (by decide +kernel)
/-! Ma slotsIn -/
theorem mk_Ma_slotsIn : 175 < 256 ∧ mtB 175 = true := ⟨by decide, mk_175⟩
def g_Ma_slotsIn_0 : List (Instr × Nat) := [(.iconst 0, 1), (.istore 3, 1), (.iconst 0, 1), (.istore 4, 2)]
theorem s_Ma_slotsIn_0 : Seg 175 0 g_Ma_slotsIn_0 := seg_of (by decide +kernel)
def g_Ma_slotsIn_5 : List (Instr × Nat) := [(.iload 4, 2), (.iload 1, 1), (.if_icmp .ge 51, 3)]
theorem s_Ma_slotsIn_5 : Seg 175 5 g_Ma_slotsIn_5 := seg_of (by decide +kernel)
def g_Ma_slotsIn_11 : List (Instr × Nat) := [(.iload 0, 1), (.iconst 2, 1), (.iload 1, 1), (.iconst 1, 1), (.isub, 1), (.iload 4, 2), (.isub, 1), (.imul, 1), (.ishr, 1), (.iconst 3, 1), (.iand, 1), (.istore 5, 2), (.iload 5, 2), (.iload 2, 1), (.if_icmp .lt 33, 3)]
theorem s_Ma_slotsIn_11 : Seg 175 11 g_Ma_slotsIn_11 := seg_of (by decide +kernel)
def g_Ma_slotsIn_31 : List (Instr × Nat) := [(.iconst 0, 1), (.ireturn, 1)]
theorem s_Ma_slotsIn_31 : Seg 175 31 g_Ma_slotsIn_31 := seg_of (by decide +kernel)
def g_Ma_slotsIn_33 : List (Instr × Nat) := [(.iload 3, 1), (.iconst 1, 1), (.iload 4, 2), (.iload 5, 2), (.invokeinterface 41 2, 3), (.ishl, 1), (.ior, 1), (.istore 3, 1), (.iinc 4 (1), 3), (.goto 5, 3)]
theorem s_Ma_slotsIn_33 : Seg 175 33 g_Ma_slotsIn_33 := seg_of (by decide +kernel)
def g_Ma_slotsIn_51 : List (Instr × Nat) := [(.iload 3, 1), (.ireturn, 1)]
theorem s_Ma_slotsIn_51 : Seg 175 51 g_Ma_slotsIn_51 := seg_of (by decide +kernel)
/-! Ma hasWay -/
theorem mk_Ma_hasWay : 176 < 256 ∧ mtB 176 = true := ⟨by decide, mk_176⟩
def g_Ma_hasWay_0 : List (Instr × Nat) := [(.iload 1, 1), (.ifCond .lt 28, 3)]
theorem s_Ma_hasWay_0 : Seg 176 0 g_Ma_hasWay_0 := seg_of (by decide +kernel)
def g_Ma_hasWay_4 : List (Instr × Nat) := [(.iload 1, 1), (.aload 0, 1), (.getfield 1024, 3), (.if_icmp .ge 28, 3)]
theorem s_Ma_hasWay_4 : Seg 176 4 g_Ma_hasWay_4 := seg_of (by decide +kernel)
def g_Ma_hasWay_12 : List (Instr × Nat) := [(.iload 2, 1), (.ifCond .lt 28, 3)]
theorem s_Ma_hasWay_12 : Seg 176 12 g_Ma_hasWay_12 := seg_of (by decide +kernel)
def g_Ma_hasWay_16 : List (Instr × Nat) := [(.iload 2, 1), (.aload 0, 1), (.getfield 1025, 3), (.if_icmp .ge 28, 3)]
theorem s_Ma_hasWay_16 : Seg 176 16 g_Ma_hasWay_16 := seg_of (by decide +kernel)
def g_Ma_hasWay_24 : List (Instr × Nat) := [(.iconst 1, 1), (.goto 29, 3)]
theorem s_Ma_hasWay_24 : Seg 176 24 g_Ma_hasWay_24 := seg_of (by decide +kernel)
def g_Ma_hasWay_28 : List (Instr × Nat) := [(.iconst 0, 1)]
theorem s_Ma_hasWay_28 : Seg 176 28 g_Ma_hasWay_28 := seg_of (by decide +kernel)
def g_Ma_hasWay_29 : List (Instr × Nat) := [(.ireturn, 1)]
theorem s_Ma_hasWay_29 : Seg 176 29 g_Ma_hasWay_29 := seg_of (by decide +kernel)
/-! Ma hasProposal -/
theorem mk_Ma_hasProposal : 177 < 256 ∧ mtB 177 = true := ⟨by decide, mk_177⟩
def g_Ma_hasProposal_0 : List (Instr × Nat) := [(.iload 1, 1), (.ifCond .lt 26, 3)]
theorem s_Ma_hasProposal_0 : Seg 177 0 g_Ma_hasProposal_0 := seg_of (by decide +kernel)
def g_Ma_hasProposal_4 : List (Instr × Nat) := [(.iload 1, 1), (.aload 0, 1), (.getstatic 1026, 3), (.arraylength, 1), (.if_icmp .ge 26, 3)]
theorem s_Ma_hasProposal_4 : Seg 177 4 g_Ma_hasProposal_4 := seg_of (by decide +kernel)
def g_Ma_hasProposal_13 : List (Instr × Nat) := [(.aload 0, 1), (.getstatic 1026, 3), (.iload 1, 1), (.iaload, 1), (.ifCond .eq 26, 3)]
theorem s_Ma_hasProposal_13 : Seg 177 13 g_Ma_hasProposal_13 := seg_of (by decide +kernel)
def g_Ma_hasProposal_22 : List (Instr × Nat) := [(.iconst 1, 1), (.goto 27, 3)]
theorem s_Ma_hasProposal_22 : Seg 177 22 g_Ma_hasProposal_22 := seg_of (by decide +kernel)
def g_Ma_hasProposal_26 : List (Instr × Nat) := [(.iconst 0, 1)]
theorem s_Ma_hasProposal_26 : Seg 177 26 g_Ma_hasProposal_26 := seg_of (by decide +kernel)
def g_Ma_hasProposal_27 : List (Instr × Nat) := [(.ireturn, 1)]
theorem s_Ma_hasProposal_27 : Seg 177 27 g_Ma_hasProposal_27 := seg_of (by decide +kernel)
