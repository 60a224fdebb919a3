/-! ===== the segments of the methods ===== -/
/-! Ma wayIn -/
theorem mk_Ma_wayIn : 178 < 256 ∧ mtB 178 = true := ⟨by decide, mk_178⟩
def g_Ma_wayIn_0 : List (Instr × Nat) := [(.iload 1, 1), (.iconst 2, 1), (.aload 0, 1), (.getfield 1024, 3), (.iconst 1, 1), (.isub, 1), (.iload 2, 1), (.isub, 1), (.imul, 1), (.ishr, 1), (.iconst 3, 1), (.iand, 1), (.ireturn, 1)]
theorem s_Ma_wayIn_0 : Seg 178 0 g_Ma_wayIn_0 := seg_of (by decide +kernel)
/-! Ma withWay -/
theorem mk_Ma_withWay : 179 < 256 ∧ mtB 179 = true := ⟨by decide, mk_179⟩
def g_Ma_withWay_0 : List (Instr × Nat) := [(.iconst 2, 1), (.aload 0, 1), (.getfield 1024, 3), (.iconst 1, 1), (.isub, 1), (.iload 2, 1), (.isub, 1), (.imul, 1), (.istore 4, 2), (.iload 1, 1), (.iconst 3, 1), (.iload 4, 2), (.ishl, 1), (.iconst (-1), 1), (.ixor, 1), (.iand, 1), (.iload 3, 1), (.iload 4, 2), (.ishl, 1), (.ior, 1), (.ireturn, 1)]
theorem s_Ma_withWay_0 : Seg 179 0 g_Ma_withWay_0 := seg_of (by decide +kernel)
/-! Ma holdOf -/
theorem mk_Ma_holdOf : 180 < 256 ∧ mtB 180 = true := ⟨by decide, mk_180⟩
def g_Ma_holdOf_0 : List (Instr × Nat) := [(.aload 0, 1), (.getstatic 1027, 3), (.iload 1, 1), (.iaload, 1), (.iload 2, 1), (.ishr, 1), (.iconst 1, 1), (.iand, 1), (.ifCond .eq 15, 3)]
theorem s_Ma_holdOf_0 : Seg 180 0 g_Ma_holdOf_0 := seg_of (by decide +kernel)
def g_Ma_holdOf_13 : List (Instr × Nat) := [(.iconst 0, 1), (.ireturn, 1)]
theorem s_Ma_holdOf_13 : Seg 180 13 g_Ma_holdOf_13 := seg_of (by decide +kernel)
def g_Ma_holdOf_15 : List (Instr × Nat) := [(.aload 0, 1), (.getstatic 1028, 3), (.iload 1, 1), (.iaload, 1), (.iload 2, 1), (.ishr, 1), (.iconst 1, 1), (.iand, 1), (.ifCond .eq 32, 3)]
theorem s_Ma_holdOf_15 : Seg 180 15 g_Ma_holdOf_15 := seg_of (by decide +kernel)
def g_Ma_holdOf_28 : List (Instr × Nat) := [(.iconst 2, 1), (.goto 33, 3)]
theorem s_Ma_holdOf_28 : Seg 180 28 g_Ma_holdOf_28 := seg_of (by decide +kernel)
def g_Ma_holdOf_32 : List (Instr × Nat) := [(.iconst 1, 1)]
theorem s_Ma_holdOf_32 : Seg 180 32 g_Ma_holdOf_32 := seg_of (by decide +kernel)
def g_Ma_holdOf_33 : List (Instr × Nat) := [(.ireturn, 1)]
theorem s_Ma_holdOf_33 : Seg 180 33 g_Ma_holdOf_33 := seg_of (by decide +kernel)
/-! Ma setHold -/
theorem mk_Ma_setHold : 181 < 256 ∧ mtB 181 = true := ⟨by decide, mk_181⟩
def g_Ma_setHold_0 : List (Instr × Nat) := [(.iconst 1, 1), (.iload 2, 1), (.ishl, 1), (.istore 4, 2), (.aload 0, 1), (.getstatic 1027, 3), (.iload 1, 1), (.iload 3, 1), (.ifCond .ne 26, 3)]
theorem s_Ma_setHold_0 : Seg 181 0 g_Ma_setHold_0 := seg_of (by decide +kernel)
def g_Ma_setHold_14 : List (Instr × Nat) := [(.aload 0, 1), (.getstatic 1027, 3), (.iload 1, 1), (.iaload, 1), (.iload 4, 2), (.ior, 1), (.goto 37, 3)]
theorem s_Ma_setHold_14 : Seg 181 14 g_Ma_setHold_14 := seg_of (by decide +kernel)
def g_Ma_setHold_26 : List (Instr × Nat) := [(.aload 0, 1), (.getstatic 1027, 3), (.iload 1, 1), (.iaload, 1), (.iload 4, 2), (.iconst (-1), 1), (.ixor, 1), (.iand, 1)]
theorem s_Ma_setHold_26 : Seg 181 26 g_Ma_setHold_26 := seg_of (by decide +kernel)
def g_Ma_setHold_37 : List (Instr × Nat) := [(.iastore, 1), (.aload 0, 1), (.getstatic 1028, 3), (.iload 1, 1), (.iload 3, 1), (.iconst 2, 1), (.if_icmp .ne 60, 3)]
theorem s_Ma_setHold_37 : Seg 181 37 g_Ma_setHold_37 := seg_of (by decide +kernel)
def g_Ma_setHold_48 : List (Instr × Nat) := [(.aload 0, 1), (.getstatic 1028, 3), (.iload 1, 1), (.iaload, 1), (.iload 4, 2), (.ior, 1), (.goto 71, 3)]
theorem s_Ma_setHold_48 : Seg 181 48 g_Ma_setHold_48 := seg_of (by decide +kernel)
def g_Ma_setHold_60 : List (Instr × Nat) := [(.aload 0, 1), (.getstatic 1028, 3), (.iload 1, 1), (.iaload, 1), (.iload 4, 2), (.iconst (-1), 1), (.ixor, 1), (.iand, 1)]
theorem s_Ma_setHold_60 : Seg 181 60 g_Ma_setHold_60 := seg_of (by decide +kernel)
def g_Ma_setHold_71 : List (Instr × Nat) := [(.iastore, 1), (.return_, 1)]
theorem s_Ma_setHold_71 : Seg 181 71 g_Ma_setHold_71 := seg_of (by decide +kernel)
/-! Ma addClash -/
theorem mk_Ma_addClash : 182 < 256 ∧ mtB 182 = true := ⟨by decide, mk_182⟩
def g_Ma_addClash_0 : List (Instr × Nat) := [(.aload 0, 1), (.getfield 1032, 3), (.iconst 40, 2), (.if_icmp .ge 45, 3)]
theorem s_Ma_addClash_0 : Seg 182 0 g_Ma_addClash_0 := seg_of (by decide +kernel)
def g_Ma_addClash_9 : List (Instr × Nat) := [(.aload 0, 1), (.getstatic 1030, 3), (.aload 0, 1), (.getfield 1032, 3), (.iload 1, 1), (.iastore, 1), (.aload 0, 1), (.getstatic 1031, 3), (.aload 0, 1), (.getfield 1032, 3), (.iconst 1, 1), (.iload 2, 1), (.ishl, 1), (.iconst 1, 1), (.iload 3, 1), (.ishl, 1), (.ior, 1), (.iastore, 1), (.aload 0, 1), (.dup, 1), (.getfield 1032, 3), (.iconst 1, 1), (.iadd, 1), (.putfield 1032, 3)]
theorem s_Ma_addClash_9 : Seg 182 9 g_Ma_addClash_9 := seg_of (by decide +kernel)
def g_Ma_addClash_45 : List (Instr × Nat) := [(.return_, 1)]
theorem s_Ma_addClash_45 : Seg 182 45 g_Ma_addClash_45 := seg_of (by decide +kernel)
/-! Ma isAgainst -/
theorem mk_Ma_isAgainst : 183 < 256 ∧ mtB 183 = true := ⟨by decide, mk_183⟩
def g_Ma_isAgainst_0 : List (Instr × Nat) := [(.aload 0, 1), (.getstatic 1027, 3), (.iload 1, 1), (.iaload, 1), (.iload 2, 1), (.ishr, 1), (.iconst 1, 1), (.iand, 1), (.ifCond .eq 15, 3)]
theorem s_Ma_isAgainst_0 : Seg 183 0 g_Ma_isAgainst_0 := seg_of (by decide +kernel)
def g_Ma_isAgainst_13 : List (Instr × Nat) := [(.iconst 1, 1), (.ireturn, 1)]
theorem s_Ma_isAgainst_13 : Seg 183 13 g_Ma_isAgainst_13 := seg_of (by decide +kernel)
def g_Ma_isAgainst_15 : List (Instr × Nat) := [(.iconst 0, 1), (.istore 4, 2)]
theorem s_Ma_isAgainst_15 : Seg 183 15 g_Ma_isAgainst_15 := seg_of (by decide +kernel)
def g_Ma_isAgainst_18 : List (Instr × Nat) := [(.iload 4, 2), (.aload 0, 1), (.getfield 1032, 3), (.if_icmp .ge 86, 3)]
theorem s_Ma_isAgainst_18 : Seg 183 18 g_Ma_isAgainst_18 := seg_of (by decide +kernel)
def g_Ma_isAgainst_27 : List (Instr × Nat) := [(.aload 0, 1), (.getstatic 1030, 3), (.iload 4, 2), (.iaload, 1), (.iload 1, 1), (.if_icmp .ne 56, 3)]
theorem s_Ma_isAgainst_27 : Seg 183 27 g_Ma_isAgainst_27 := seg_of (by decide +kernel)
def g_Ma_isAgainst_38 : List (Instr × Nat) := [(.aload 0, 1), (.getstatic 1031, 3), (.iload 4, 2), (.iaload, 1), (.iload 2, 1), (.ishr, 1), (.iconst 1, 1), (.iand, 1), (.ifCond .eq 56, 3)]
theorem s_Ma_isAgainst_38 : Seg 183 38 g_Ma_isAgainst_38 := seg_of (by decide +kernel)
def g_Ma_isAgainst_52 : List (Instr × Nat) := [(.iconst 1, 1), (.goto 57, 3)]
theorem s_Ma_isAgainst_52 : Seg 183 52 g_Ma_isAgainst_52 := seg_of (by decide +kernel)
def g_Ma_isAgainst_56 : List (Instr × Nat) := [(.iconst 0, 1)]
theorem s_Ma_isAgainst_56 : Seg 183 56 g_Ma_isAgainst_56 := seg_of (by decide +kernel)
def g_Ma_isAgainst_57 : List (Instr × Nat) := [(.istore 5, 2), (.iload 5, 2), (.ifCond .eq 80, 3)]
theorem s_Ma_isAgainst_57 : Seg 183 57 g_Ma_isAgainst_57 := seg_of (by decide +kernel)
def g_Ma_isAgainst_64 : List (Instr × Nat) := [(.aload 0, 1), (.getstatic 1031, 3), (.iload 4, 2), (.iaload, 1), (.iload 3, 1), (.iconst (-1), 1), (.ixor, 1), (.iand, 1), (.ifCond .ne 80, 3)]
theorem s_Ma_isAgainst_64 : Seg 183 64 g_Ma_isAgainst_64 := seg_of (by decide +kernel)
def g_Ma_isAgainst_78 : List (Instr × Nat) := [(.iconst 1, 1), (.ireturn, 1)]
theorem s_Ma_isAgainst_78 : Seg 183 78 g_Ma_isAgainst_78 := seg_of (by decide +kernel)
def g_Ma_isAgainst_80 : List (Instr × Nat) := [(.iinc 4 (1), 3), (.goto 18, 3)]
theorem s_Ma_isAgainst_80 : Seg 183 80 g_Ma_isAgainst_80 := seg_of (by decide +kernel)
def g_Ma_isAgainst_86 : List (Instr × Nat) := [(.iconst 0, 1), (.ireturn, 1)]
theorem s_Ma_isAgainst_86 : Seg 183 86 g_Ma_isAgainst_86 := seg_of (by decide +kernel)
/-! Ma clashed -/
theorem mk_Ma_clashed : 184 < 256 ∧ mtB 184 = true := ⟨by decide, mk_184⟩
def g_Ma_clashed_0 : List (Instr × Nat) := [(.iconst 0, 1), (.istore 2, 1), (.iconst 0, 1), (.istore 3, 1)]
theorem s_Ma_clashed_0 : Seg 184 0 g_Ma_clashed_0 := seg_of (by decide +kernel)
def g_Ma_clashed_4 : List (Instr × Nat) := [(.iload 3, 1), (.aload 0, 1), (.getfield 1032, 3), (.if_icmp .ge 42, 3)]
theorem s_Ma_clashed_4 : Seg 184 4 g_Ma_clashed_4 := seg_of (by decide +kernel)
def g_Ma_clashed_12 : List (Instr × Nat) := [(.aload 0, 1), (.getstatic 1031, 3), (.iload 3, 1), (.iaload, 1), (.iload 1, 1), (.iconst (-1), 1), (.ixor, 1), (.iand, 1), (.ifCond .ne 36, 3)]
theorem s_Ma_clashed_12 : Seg 184 12 g_Ma_clashed_12 := seg_of (by decide +kernel)
def g_Ma_clashed_25 : List (Instr × Nat) := [(.iload 2, 1), (.iconst 1, 1), (.aload 0, 1), (.getstatic 1030, 3), (.iload 3, 1), (.iaload, 1), (.ishl, 1), (.ior, 1), (.istore 2, 1)]
theorem s_Ma_clashed_25 : Seg 184 25 g_Ma_clashed_25 := seg_of (by decide +kernel)
def g_Ma_clashed_36 : List (Instr × Nat) := [(.iinc 3 (1), 3), (.goto 4, 3)]
theorem s_Ma_clashed_36 : Seg 184 36 g_Ma_clashed_36 := seg_of (by decide +kernel)
def g_Ma_clashed_42 : List (Instr × Nat) := [(.iload 2, 1), (.ireturn, 1)]
theorem s_Ma_clashed_42 : Seg 184 42 g_Ma_clashed_42 := seg_of (by decide +kernel)
/-! Ma unable -/
theorem mk_Ma_unable : 185 < 256 ∧ mtB 185 = true := ⟨by decide, mk_185⟩
def g_Ma_unable_0 : List (Instr × Nat) := [(.aload 0, 1), (.iload 1, 1), (.invokevirtual 1840204, 3), (.istore 2, 1), (.iconst 0, 1), (.istore 3, 1)]
theorem s_Ma_unable_0 : Seg 185 0 g_Ma_unable_0 := seg_of (by decide +kernel)
def g_Ma_unable_8 : List (Instr × Nat) := [(.iload 3, 1), (.iconst 8, 2), (.if_icmp .ge 37, 3)]
theorem s_Ma_unable_8 : Seg 185 8 g_Ma_unable_8 := seg_of (by decide +kernel)
def g_Ma_unable_14 : List (Instr × Nat) := [(.aload 0, 1), (.getstatic 1027, 3), (.iload 3, 1), (.iaload, 1), (.iload 1, 1), (.iand, 1), (.ifCond .eq 31, 3)]
theorem s_Ma_unable_14 : Seg 185 14 g_Ma_unable_14 := seg_of (by decide +kernel)
def g_Ma_unable_25 : List (Instr × Nat) := [(.iload 2, 1), (.iconst 1, 1), (.iload 3, 1), (.ishl, 1), (.ior, 1), (.istore 2, 1)]
theorem s_Ma_unable_25 : Seg 185 25 g_Ma_unable_25 := seg_of (by decide +kernel)
def g_Ma_unable_31 : List (Instr × Nat) := [(.iinc 3 (1), 3), (.goto 8, 3)]
theorem s_Ma_unable_31 : Seg 185 31 g_Ma_unable_31 := seg_of (by decide +kernel)
def g_Ma_unable_37 : List (Instr × Nat) := [(.iload 2, 1), (.ireturn, 1)]
theorem s_Ma_unable_37 : Seg 185 37 g_Ma_unable_37 := seg_of (by decide +kernel)
/-! Ma lossOf -/
theorem mk_Ma_lossOf : 186 < 256 ∧ mtB 186 = true := ⟨by decide, mk_186⟩
def g_Ma_lossOf_0 : List (Instr × Nat) := [(.aload 0, 1), (.getstatic 1028, 3), (.iload 1, 1), (.iaload, 1), (.istore 3, 1), (.iconst 0, 1), (.istore 4, 2), (.iconst 0, 1), (.istore 5, 2)]
theorem s_Ma_lossOf_0 : Seg 186 0 g_Ma_lossOf_0 := seg_of (by decide +kernel)
def g_Ma_lossOf_13 : List (Instr × Nat) := [(.iload 5, 2), (.aload 0, 1), (.getfield 1024, 3), (.if_icmp .ge 67, 3)]
theorem s_Ma_lossOf_13 : Seg 186 13 g_Ma_lossOf_13 := seg_of (by decide +kernel)
def g_Ma_lossOf_22 : List (Instr × Nat) := [(.iload 3, 1), (.iconst 15, 2), (.iload 5, 2), (.iconst 0, 1), (.invokeinterface 41 2, 3), (.ishl, 1), (.iand, 1), (.istore 6, 2), (.iload 6, 2), (.ifCond .eq 61, 3)]
theorem s_Ma_lossOf_22 : Seg 186 22 g_Ma_lossOf_22 := seg_of (by decide +kernel)
def g_Ma_lossOf_40 : List (Instr × Nat) := [(.iload 6, 2), (.iload 2, 1), (.iand, 1), (.ifCond .ne 61, 3)]
theorem s_Ma_lossOf_40 : Seg 186 40 g_Ma_lossOf_40 := seg_of (by decide +kernel)
def g_Ma_lossOf_47 : List (Instr × Nat) := [(.iload 4, 2), (.aload 0, 1), (.getstatic 1029, 3), (.iload 1, 1), (.aaload, 1), (.iload 5, 2), (.iaload, 1), (.iadd, 1), (.istore 4, 2)]
theorem s_Ma_lossOf_47 : Seg 186 47 g_Ma_lossOf_47 := seg_of (by decide +kernel)
def g_Ma_lossOf_61 : List (Instr × Nat) := [(.iinc 5 (1), 3), (.goto 13, 3)]
theorem s_Ma_lossOf_61 : Seg 186 61 g_Ma_lossOf_61 := seg_of (by decide +kernel)
def g_Ma_lossOf_67 : List (Instr × Nat) := [(.iload 4, 2), (.ireturn, 1)]
theorem s_Ma_lossOf_67 : Seg 186 67 g_Ma_lossOf_67 := seg_of (by decide +kernel)
/-! Pl init -/
theorem mk_Pl_init : 187 < 256 ∧ mtB 187 = true := ⟨by decide, mk_187⟩
def g_Pl_init_0 : List (Instr × Nat) := [(.aload 0, 1), (.nop, 3), (.aload 0, 1), (.iconst 20, 2), (.newarray .int, 2), (.putstatic 1281, 3), (.aload 0, 1), (.iconst 20, 2), (.newarray .int, 2), (.putstatic 1282, 3), (.aload 0, 1), (.iconst 20, 2), (.newarray .int, 2), (.putstatic 1283, 3), (.aload 0, 1), (.iconst 20, 2), (.newarray .int, 2), (.putstatic 1284, 3), (.aload 0, 1), (.aload 1, 1), (.putstatic 1280, 3), (.return_, 1)]
theorem s_Pl_init_0 : Seg 187 0 g_Pl_init_0 := seg_of (by decide +kernel)
/-! Pl add -/
theorem mk_Pl_add : 188 < 256 ∧ mtB 188 = true := ⟨by decide, mk_188⟩
def g_Pl_add_0 : List (Instr × Nat) := [(.aload 0, 1), (.getstatic 1281, 3), (.aload 0, 1), (.getfield 1285, 3), (.iload 1, 1), (.iastore, 1), (.aload 0, 1), (.getstatic 1282, 3), (.aload 0, 1), (.getfield 1285, 3), (.iload 2, 1), (.iastore, 1), (.aload 0, 1), (.getstatic 1283, 3), (.aload 0, 1), (.getfield 1285, 3), (.iload 3, 1), (.iastore, 1), (.aload 0, 1), (.getstatic 1284, 3), (.aload 0, 1), (.getfield 1285, 3), (.iload 4, 2), (.iastore, 1), (.aload 0, 1), (.dup, 1), (.getfield 1285, 3), (.iconst 1, 1), (.iadd, 1), (.putfield 1285, 3), (.return_, 1)]
theorem s_Pl_add_0 : Seg 188 0 g_Pl_add_0 := seg_of (by decide +kernel)
/-! Pl countOf -/
theorem mk_Pl_countOf : 189 < 256 ∧ mtB 189 = true := ⟨by decide, mk_189⟩
def g_Pl_countOf_0 : List (Instr × Nat) := [(.iconst 0, 1), (.istore 3, 1), (.iconst 0, 1), (.istore 4, 2)]
theorem s_Pl_countOf_0 : Seg 189 0 g_Pl_countOf_0 := seg_of (by decide +kernel)
def g_Pl_countOf_5 : List (Instr × Nat) := [(.iload 4, 2), (.aload 0, 1), (.getfield 1285, 3), (.if_icmp .ge 60, 3)]
theorem s_Pl_countOf_5 : Seg 189 5 g_Pl_countOf_5 := seg_of (by decide +kernel)
def g_Pl_countOf_14 : List (Instr × Nat) := [(.aload 0, 1), (.getstatic 1281, 3), (.iload 4, 2), (.iaload, 1), (.iload 1, 1), (.if_icmp .ne 54, 3)]
theorem s_Pl_countOf_14 : Seg 189 14 g_Pl_countOf_14 := seg_of (by decide +kernel)
def g_Pl_countOf_25 : List (Instr × Nat) := [(.aload 0, 1), (.getstatic 1280, 3), (.aload 0, 1), (.getstatic 1283, 3), (.iload 4, 2), (.iaload, 1), (.aaload, 1), (.aload 0, 1), (.getstatic 1284, 3), (.iload 4, 2), (.iaload, 1), (.invokevirtual 2290208, 3), (.iload 2, 1), (.if_icmp .ne 54, 3)]
theorem s_Pl_countOf_25 : Seg 189 25 g_Pl_countOf_25 := seg_of (by decide +kernel)
def g_Pl_countOf_51 : List (Instr × Nat) := [(.iinc 3 (1), 3)]
theorem s_Pl_countOf_51 : Seg 189 51 g_Pl_countOf_51 := seg_of (by decide +kernel)
def g_Pl_countOf_54 : List (Instr × Nat) := [(.iinc 4 (1), 3), (.goto 5, 3)]
theorem s_Pl_countOf_54 : Seg 189 54 g_Pl_countOf_54 := seg_of (by decide +kernel)
def g_Pl_countOf_60 : List (Instr × Nat) := [(.iload 3, 1), (.ireturn, 1)]
theorem s_Pl_countOf_60 : Seg 189 60 g_Pl_countOf_60 := seg_of (by decide +kernel)
/-! Pl weighBefore -/
theorem mk_Pl_weighBefore : 190 < 256 ∧ mtB 190 = true := ⟨by decide, mk_190⟩
def g_Pl_weighBefore_0 : List (Instr × Nat) := [(.aload 2, 1), (.iconst 0, 1), (.invokeinterface 252 2, 3), (.iconst 0, 1), (.istore 3, 1)]
theorem s_Pl_weighBefore_0 : Seg 190 0 g_Pl_weighBefore_0 := seg_of (by decide +kernel)
def g_Pl_weighBefore_7 : List (Instr × Nat) := [(.iload 3, 1), (.aload 0, 1), (.getfield 1285, 3), (.if_icmp .ge 70, 3)]
theorem s_Pl_weighBefore_7 : Seg 190 7 g_Pl_weighBefore_7 := seg_of (by decide +kernel)
def g_Pl_weighBefore_15 : List (Instr × Nat) := [(.aload 0, 1), (.getstatic 1283, 3), (.iload 3, 1), (.iaload, 1), (.iload 1, 1), (.if_icmp .ge 64, 3)]
theorem s_Pl_weighBefore_15 : Seg 190 15 g_Pl_weighBefore_15 := seg_of (by decide +kernel)
def g_Pl_weighBefore_25 : List (Instr × Nat) := [(.aload 2, 1), (.aload 0, 1), (.getstatic 1282, 3), (.iload 3, 1), (.iaload, 1), (.dup2, 1), (.iaload, 1), (.aload 0, 1), (.getstatic 1280, 3), (.aload 0, 1), (.getstatic 1283, 3), (.iload 3, 1), (.iaload, 1), (.aaload, 1), (.aload 0, 1), (.getstatic 1284, 3), (.iload 3, 1), (.iaload, 1), (.invokevirtual 2290208, 3), (.ifCond .eq 61, 3)]
theorem s_Pl_weighBefore_25 : Seg 190 25 g_Pl_weighBefore_25 := seg_of (by decide +kernel)
def g_Pl_weighBefore_57 : List (Instr × Nat) := [(.iconst 1, 1), (.goto 62, 3)]
theorem s_Pl_weighBefore_57 : Seg 190 57 g_Pl_weighBefore_57 := seg_of (by decide +kernel)
def g_Pl_weighBefore_61 : List (Instr × Nat) := [(.iconst (-1), 1)]
theorem s_Pl_weighBefore_61 : Seg 190 61 g_Pl_weighBefore_61 := seg_of (by decide +kernel)
def g_Pl_weighBefore_62 : List (Instr × Nat) := [(.iadd, 1), (.iastore, 1)]
theorem s_Pl_weighBefore_62 : Seg 190 62 g_Pl_weighBefore_62 := seg_of (by decide +kernel)
def g_Pl_weighBefore_64 : List (Instr × Nat) := [(.iinc 3 (1), 3), (.goto 7, 3)]
theorem s_Pl_weighBefore_64 : Seg 190 64 g_Pl_weighBefore_64 := seg_of (by decide +kernel)
def g_Pl_weighBefore_70 : List (Instr × Nat) := [(.return_, 1)]
theorem s_Pl_weighBefore_70 : Seg 190 70 g_Pl_weighBefore_70 := seg_of (by decide +kernel)
/-! Re init -/
theorem mk_Re_init : 191 < 256 ∧ mtB 191 = true := ⟨by decide, mk_191⟩
def g_Re_init_0 : List (Instr × Nat) := [(.aload 0, 1), (.nop, 3), (.aload 0, 1), (.iconst 160, 3), (.newarray .int, 2), (.putstatic 1537, 3), (.aload 0, 1), (.iconst 164, 3), (.newarray .int, 2), (.putstatic 1538, 3), (.aload 0, 1), (.ldc 0, 2), (.putstatic 1539, 3), (.aload 0, 1), (.ldc 0, 2), (.putstatic 1540, 3), (.aload 0, 1), (.aload 1, 1), (.putstatic 1536, 3), (.return_, 1)]
theorem s_Re_init_0 : Seg 191 0 g_Re_init_0 := seg_of (by decide +kernel)
/-! Re faultAs -/
theorem mk_Re_faultAs : 192 < 256 ∧ mtB 192 = true := ⟨by decide, mk_192⟩
def g_Re_faultAs_0 : List (Instr × Nat) := [(.aload 0, 1), (.iload 1, 1), (.ifCond .ne 10, 3)]
theorem s_Re_faultAs_0 : Seg 192 0 g_Re_faultAs_0 := seg_of (by decide +kernel)
def g_Re_faultAs_5 : List (Instr × Nat) := [(.ldc 2, 2), (.goto 12, 3)]
theorem s_Re_faultAs_5 : Seg 192 5 g_Re_faultAs_5 := seg_of (by decide +kernel)
def g_Re_faultAs_10 : List (Instr × Nat) := [(.ldc 4, 2)]
theorem s_Re_faultAs_10 : Seg 192 10 g_Re_faultAs_10 := seg_of (by decide +kernel)
def g_Re_faultAs_12 : List (Instr × Nat) := [(.putstatic 1539, 3), (.aload 0, 1), (.iload 1, 1), (.ifCond .ne 25, 3)]
theorem s_Re_faultAs_12 : Seg 192 12 g_Re_faultAs_12 := seg_of (by decide +kernel)
def g_Re_faultAs_20 : List (Instr × Nat) := [(.ldc 6, 2), (.goto 27, 3)]
theorem s_Re_faultAs_20 : Seg 192 20 g_Re_faultAs_20 := seg_of (by decide +kernel)
def g_Re_faultAs_25 : List (Instr × Nat) := [(.ldc 8, 2)]
theorem s_Re_faultAs_25 : Seg 192 25 g_Re_faultAs_25 := seg_of (by decide +kernel)
def g_Re_faultAs_27 : List (Instr × Nat) := [(.putstatic 1540, 3), (.aload 0, 1), (.iconst 0, 1), (.putfield 1541, 3), (.aload 0, 1), (.iconst 0, 1), (.putfield 1542, 3), (.aload 0, 1), (.iconst 0, 1), (.putfield 1543, 3), (.aload 0, 1), (.invokevirtual 1980106, 3), (.istore 2, 1), (.iconst 0, 1), (.istore 3, 1)]
theorem s_Re_faultAs_27 : Seg 192 27 g_Re_faultAs_27 := seg_of (by decide +kernel)
def g_Re_faultAs_52 : List (Instr × Nat) := [(.iload 2, 1), (.ifCond .eq 93, 3)]
theorem s_Re_faultAs_52 : Seg 192 52 g_Re_faultAs_52 := seg_of (by decide +kernel)
def g_Re_faultAs_56 : List (Instr × Nat) := [(.iload 3, 1), (.iconst 160, 3), (.if_icmp .ge 93, 3)]
theorem s_Re_faultAs_56 : Seg 192 56 g_Re_faultAs_56 := seg_of (by decide +kernel)
def g_Re_faultAs_63 : List (Instr × Nat) := [(.aload 0, 1), (.invokevirtual 1940106, 3), (.iconst 59, 2), (.if_icmp .ne 93, 3)]
theorem s_Re_faultAs_63 : Seg 192 63 g_Re_faultAs_63 := seg_of (by decide +kernel)
def g_Re_faultAs_72 : List (Instr × Nat) := [(.aload 0, 1), (.dup, 1), (.getfield 1541, 3), (.iconst 1, 1), (.iadd, 1), (.putfield 1541, 3), (.aload 0, 1), (.invokevirtual 1980106, 3), (.istore 2, 1), (.iinc 3 (1), 3), (.goto 52, 3)]
theorem s_Re_faultAs_72 : Seg 192 72 g_Re_faultAs_72 := seg_of (by decide +kernel)
def g_Re_faultAs_93 : List (Instr × Nat) := [(.iload 2, 1), (.ifCond .eq 108, 3)]
theorem s_Re_faultAs_93 : Seg 192 93 g_Re_faultAs_93 := seg_of (by decide +kernel)
def g_Re_faultAs_97 : List (Instr × Nat) := [(.aload 0, 1), (.invokevirtual 1940106, 3), (.ifCond .ne 108, 3)]
theorem s_Re_faultAs_97 : Seg 192 97 g_Re_faultAs_97 := seg_of (by decide +kernel)
def g_Re_faultAs_104 : List (Instr × Nat) := [(.iconst (-1), 1), (.goto 112, 3)]
theorem s_Re_faultAs_104 : Seg 192 104 g_Re_faultAs_104 := seg_of (by decide +kernel)
def g_Re_faultAs_108 : List (Instr × Nat) := [(.aload 0, 1), (.getfield 1541, 3)]
theorem s_Re_faultAs_108 : Seg 192 108 g_Re_faultAs_108 := seg_of (by decide +kernel)
def g_Re_faultAs_112 : List (Instr × Nat) := [(.ireturn, 1)]
theorem s_Re_faultAs_112 : Seg 192 112 g_Re_faultAs_112 := seg_of (by decide +kernel)
/-! Re readText -/
theorem mk_Re_readText : 193 < 256 ∧ mtB 193 = true := ⟨by decide, mk_193⟩
def g_Re_readText_0 : List (Instr × Nat) := [(.new 10, 3), (.dup, 1), (.aload 0, 1), (.getstatic 1537, 3), (.aload 0, 1), (.getfield 1542, 3), (.invokeinterface 253 2, 3), (.aload 0, 1), (.getstatic 1538, 3), (.aload 0, 1), (.getfield 1543, 3), (.invokeinterface 253 2, 3), (.invokevirtual 2370310, 3), (.areturn, 1)]
theorem s_Re_readText_0 : Seg 193 0 g_Re_readText_0 := seg_of (by decide +kernel)
/-! Re next -/
theorem mk_Re_next : 194 < 256 ∧ mtB 194 = true := ⟨by decide, mk_194⟩
def g_Re_next_0 : List (Instr × Nat) := [(.aload 0, 1), (.getfield 1541, 3), (.aload 0, 1), (.getstatic 1536, 3), (.getfield 2305, 3), (.if_icmp .ge 44, 3)]
theorem s_Re_next_0 : Seg 194 0 g_Re_next_0 := seg_of (by decide +kernel)
def g_Re_next_14 : List (Instr × Nat) := [(.aload 0, 1), (.getstatic 1536, 3), (.getstatic 2304, 3), (.aload 0, 1), (.getfield 1541, 3), (.iaload, 1), (.iconst 32, 2), (.if_icmp .ne 44, 3)]
theorem s_Re_next_14 : Seg 194 14 g_Re_next_14 := seg_of (by decide +kernel)
def g_Re_next_31 : List (Instr × Nat) := [(.aload 0, 1), (.dup, 1), (.getfield 1541, 3), (.iconst 1, 1), (.iadd, 1), (.putfield 1541, 3), (.goto 0, 3)]
theorem s_Re_next_31 : Seg 194 31 g_Re_next_31 := seg_of (by decide +kernel)
def g_Re_next_44 : List (Instr × Nat) := [(.aload 0, 1), (.getfield 1541, 3), (.aload 0, 1), (.getstatic 1536, 3), (.getfield 2305, 3), (.if_icmp .ge 73, 3)]
theorem s_Re_next_44 : Seg 194 44 g_Re_next_44 := seg_of (by decide +kernel)
def g_Re_next_58 : List (Instr × Nat) := [(.aload 0, 1), (.getstatic 1536, 3), (.getstatic 2304, 3), (.aload 0, 1), (.getfield 1541, 3), (.iaload, 1), (.goto 74, 3)]
theorem s_Re_next_58 : Seg 194 58 g_Re_next_58 := seg_of (by decide +kernel)
def g_Re_next_73 : List (Instr × Nat) := [(.iconst 0, 1)]
theorem s_Re_next_73 : Seg 194 73 g_Re_next_73 := seg_of (by decide +kernel)
def g_Re_next_74 : List (Instr × Nat) := [(.ireturn, 1)]
theorem s_Re_next_74 : Seg 194 74 g_Re_next_74 := seg_of (by decide +kernel)
/-! Re isIn -/
theorem mk_Re_isIn : 195 < 256 ∧ mtB 195 = true := ⟨by decide, mk_195⟩
def g_Re_isIn_0 : List (Instr × Nat) := [(.iload 1, 1), (.ifCond .eq 17, 3)]
theorem s_Re_isIn_0 : Seg 195 0 g_Re_isIn_0 := seg_of (by decide +kernel)
def g_Re_isIn_4 : List (Instr × Nat) := [(.aload 0, 1), (.iload 1, 1), (.i2c, 1), (.invokevirtual 2410213, 3), (.ifCond .lt 17, 3)]
theorem s_Re_isIn_4 : Seg 195 4 g_Re_isIn_4 := seg_of (by decide +kernel)
def g_Re_isIn_13 : List (Instr × Nat) := [(.iconst 1, 1), (.goto 18, 3)]
theorem s_Re_isIn_13 : Seg 195 13 g_Re_isIn_13 := seg_of (by decide +kernel)
def g_Re_isIn_17 : List (Instr × Nat) := [(.iconst 0, 1)]
theorem s_Re_isIn_17 : Seg 195 17 g_Re_isIn_17 := seg_of (by decide +kernel)
def g_Re_isIn_18 : List (Instr × Nat) := [(.ireturn, 1)]
theorem s_Re_isIn_18 : Seg 195 18 g_Re_isIn_18 := seg_of (by decide +kernel)
/-! Re put -/
theorem mk_Re_put : 196 < 256 ∧ mtB 196 = true := ⟨by decide, mk_196⟩
def g_Re_put_0 : List (Instr × Nat) := [(.aload 0, 1), (.getfield 1542, 3), (.aload 0, 1), (.getstatic 1537, 3), (.arraylength, 1), (.if_icmp .ge 37, 3)]
theorem s_Re_put_0 : Seg 196 0 g_Re_put_0 := seg_of (by decide +kernel)
def g_Re_put_12 : List (Instr × Nat) := [(.aload 0, 1), (.getstatic 1537, 3), (.aload 0, 1), (.getfield 1542, 3), (.iload 1, 1), (.iload 2, 1), (.iconst 8, 2), (.ishl, 1), (.ior, 1), (.iastore, 1), (.aload 0, 1), (.dup, 1), (.getfield 1542, 3), (.iconst 1, 1), (.iadd, 1), (.putfield 1542, 3)]
theorem s_Re_put_12 : Seg 196 12 g_Re_put_12 := seg_of (by decide +kernel)
def g_Re_put_37 : List (Instr × Nat) := [(.return_, 1)]
theorem s_Re_put_37 : Seg 196 37 g_Re_put_37 := seg_of (by decide +kernel)
/-! Re putClause -/
theorem mk_Re_putClause : 197 < 256 ∧ mtB 197 = true := ⟨by decide, mk_197⟩
def g_Re_putClause_0 : List (Instr × Nat) := [(.aload 0, 1), (.getfield 1543, 3), (.iconst 4, 1), (.iadd, 1), (.aload 0, 1), (.getstatic 1538, 3), (.arraylength, 1), (.if_icmp .gt 73, 3)]
theorem s_Re_putClause_0 : Seg 197 0 g_Re_putClause_0 := seg_of (by decide +kernel)
def g_Re_putClause_14 : List (Instr × Nat) := [(.aload 0, 1), (.getstatic 1538, 3), (.aload 0, 1), (.getfield 1543, 3), (.iload 1, 1), (.iastore, 1), (.aload 0, 1), (.getstatic 1538, 3), (.aload 0, 1), (.getfield 1543, 3), (.iconst 1, 1), (.iadd, 1), (.iload 2, 1), (.iastore, 1), (.aload 0, 1), (.getstatic 1538, 3), (.aload 0, 1), (.getfield 1543, 3), (.iconst 2, 1), (.iadd, 1), (.iload 3, 1), (.iastore, 1), (.aload 0, 1), (.getstatic 1538, 3), (.aload 0, 1), (.getfield 1543, 3), (.iconst 3, 1), (.iadd, 1), (.aload 0, 1), (.getfield 1542, 3), (.iastore, 1), (.aload 0, 1), (.dup, 1), (.getfield 1543, 3), (.iconst 4, 1), (.iadd, 1), (.putfield 1543, 3)]
theorem s_Re_putClause_14 : Seg 197 14 g_Re_putClause_14 := seg_of (by decide +kernel)
def g_Re_putClause_73 : List (Instr × Nat) := [(.return_, 1)]
theorem s_Re_putClause_73 : Seg 197 73 g_Re_putClause_73 := seg_of (by decide +kernel)
/-! Re readClause -/
theorem mk_Re_readClause : 198 < 256 ∧ mtB 198 = true := ⟨by decide, mk_198⟩
def g_Re_readClause_0 : List (Instr × Nat) := [(.aload 0, 1), (.invokevirtual 1940106, 3), (.istore 1, 1), (.aload 0, 1), (.getstatic 1539, 3), (.iload 1, 1), (.invokeinterface 195 2, 3), (.ifCond .ne 18, 3)]
theorem s_Re_readClause_0 : Seg 198 0 g_Re_readClause_0 := seg_of (by decide +kernel)
def g_Re_readClause_16 : List (Instr × Nat) := [(.iconst 0, 1), (.ireturn, 1)]
theorem s_Re_readClause_16 : Seg 198 16 g_Re_readClause_16 := seg_of (by decide +kernel)
def g_Re_readClause_18 : List (Instr × Nat) := [(.aload 0, 1), (.dup, 1), (.getfield 1541, 3), (.iconst 1, 1), (.iadd, 1), (.putfield 1541, 3), (.aload 0, 1), (.invokevirtual 1940106, 3), (.iconst 58, 2), (.if_icmp .eq 39, 3)]
theorem s_Re_readClause_18 : Seg 198 18 g_Re_readClause_18 := seg_of (by decide +kernel)
def g_Re_readClause_37 : List (Instr × Nat) := [(.iconst 0, 1), (.ireturn, 1)]
theorem s_Re_readClause_37 : Seg 198 37 g_Re_readClause_37 := seg_of (by decide +kernel)
def g_Re_readClause_39 : List (Instr × Nat) := [(.aload 0, 1), (.dup, 1), (.getfield 1541, 3), (.iconst 1, 1), (.iadd, 1), (.putfield 1541, 3), (.aload 0, 1), (.getfield 1542, 3), (.istore 2, 1), (.ldc 10, 2), (.aload 0, 1), (.invokevirtual 1940106, 3), (.invokeinterface 195 2, 3), (.ifCond .eq 75, 3)]
theorem s_Re_readClause_39 : Seg 198 39 g_Re_readClause_39 := seg_of (by decide +kernel)
def g_Re_readClause_66 : List (Instr × Nat) := [(.aload 0, 1), (.iconst 0, 1), (.invokevirtual 1990206, 3), (.istore 3, 1), (.goto 140, 3)]
theorem s_Re_readClause_66 : Seg 198 66 g_Re_readClause_66 := seg_of (by decide +kernel)
def g_Re_readClause_75 : List (Instr × Nat) := [(.aload 0, 1), (.iconst 0, 1), (.invokevirtual 2050206, 3), (.istore 3, 1), (.iload 3, 1), (.ifCond .eq 106, 3)]
theorem s_Re_readClause_75 : Seg 198 75 g_Re_readClause_75 := seg_of (by decide +kernel)
def g_Re_readClause_85 : List (Instr × Nat) := [(.ldc 12, 2), (.aload 0, 1), (.invokevirtual 1940106, 3), (.invokeinterface 195 2, 3), (.ifCond .ne 106, 3)]
theorem s_Re_readClause_85 : Seg 198 85 g_Re_readClause_85 := seg_of (by decide +kernel)
def g_Re_readClause_97 : List (Instr × Nat) := [(.aload 0, 1), (.iload 1, 1), (.iload 2, 1), (.iload 2, 1), (.invokevirtual 1970406, 3), (.iconst 1, 1), (.ireturn, 1)]
theorem s_Re_readClause_97 : Seg 198 97 g_Re_readClause_97 := seg_of (by decide +kernel)
def g_Re_readClause_106 : List (Instr × Nat) := [(.iload 3, 1), (.ifCond .eq 138, 3)]
theorem s_Re_readClause_106 : Seg 198 106 g_Re_readClause_106 := seg_of (by decide +kernel)
def g_Re_readClause_110 : List (Instr × Nat) := [(.aload 0, 1), (.iconst 0, 1), (.invokevirtual 2040206, 3), (.ifCond .eq 138, 3)]
theorem s_Re_readClause_110 : Seg 198 110 g_Re_readClause_110 := seg_of (by decide +kernel)
def g_Re_readClause_118 : List (Instr × Nat) := [(.aload 0, 1), (.iconst 0, 1), (.invokevirtual 2020206, 3), (.ifCond .eq 138, 3)]
theorem s_Re_readClause_118 : Seg 198 118 g_Re_readClause_118 := seg_of (by decide +kernel)
def g_Re_readClause_126 : List (Instr × Nat) := [(.aload 0, 1), (.iconst 0, 1), (.invokevirtual 2000206, 3), (.ifCond .eq 138, 3)]
theorem s_Re_readClause_126 : Seg 198 126 g_Re_readClause_126 := seg_of (by decide +kernel)
def g_Re_readClause_134 : List (Instr × Nat) := [(.iconst 1, 1), (.goto 139, 3)]
theorem s_Re_readClause_134 : Seg 198 134 g_Re_readClause_134 := seg_of (by decide +kernel)
def g_Re_readClause_138 : List (Instr × Nat) := [(.iconst 0, 1)]
theorem s_Re_readClause_138 : Seg 198 138 g_Re_readClause_138 := seg_of (by decide +kernel)
def g_Re_readClause_139 : List (Instr × Nat) := [(.istore 3, 1)]
theorem s_Re_readClause_139 : Seg 198 139 g_Re_readClause_139 := seg_of (by decide +kernel)
def g_Re_readClause_140 : List (Instr × Nat) := [(.iload 3, 1), (.ifCond .eq 153, 3)]
theorem s_Re_readClause_140 : Seg 198 140 g_Re_readClause_140 := seg_of (by decide +kernel)
def g_Re_readClause_144 : List (Instr × Nat) := [(.aload 0, 1), (.invokevirtual 1940106, 3), (.iconst 63, 2), (.if_icmp .eq 155, 3)]
theorem s_Re_readClause_144 : Seg 198 144 g_Re_readClause_144 := seg_of (by decide +kernel)
def g_Re_readClause_153 : List (Instr × Nat) := [(.iconst 0, 1), (.ireturn, 1)]
theorem s_Re_readClause_153 : Seg 198 153 g_Re_readClause_153 := seg_of (by decide +kernel)
def g_Re_readClause_155 : List (Instr × Nat) := [(.aload 0, 1), (.dup, 1), (.getfield 1541, 3), (.iconst 1, 1), (.iadd, 1), (.putfield 1541, 3), (.aload 0, 1), (.getfield 1542, 3), (.istore 4, 2), (.aload 0, 1), (.iconst 0, 1), (.invokevirtual 2050206, 3), (.istore 3, 1), (.aload 0, 1), (.iload 1, 1), (.iload 2, 1), (.iload 4, 2), (.invokevirtual 1970406, 3), (.iload 3, 1), (.ireturn, 1)]
theorem s_Re_readClause_155 : Seg 198 155 g_Re_readClause_155 := seg_of (by decide +kernel)
/-! Re readCondition -/
theorem mk_Re_readCondition : 199 < 256 ∧ mtB 199 = true := ⟨by decide, mk_199⟩
def g_Re_readCondition_0 : List (Instr × Nat) := [(.aload 0, 1), (.iload 1, 1), (.invokevirtual 2010206, 3), (.ifCond .eq 20, 3)]
theorem s_Re_readCondition_0 : Seg 199 0 g_Re_readCondition_0 := seg_of (by decide +kernel)
def g_Re_readCondition_8 : List (Instr × Nat) := [(.aload 0, 1), (.iload 1, 1), (.invokevirtual 2000206, 3), (.ifCond .eq 20, 3)]
theorem s_Re_readCondition_8 : Seg 199 8 g_Re_readCondition_8 := seg_of (by decide +kernel)
def g_Re_readCondition_16 : List (Instr × Nat) := [(.iconst 1, 1), (.goto 21, 3)]
theorem s_Re_readCondition_16 : Seg 199 16 g_Re_readCondition_16 := seg_of (by decide +kernel)
def g_Re_readCondition_20 : List (Instr × Nat) := [(.iconst 0, 1)]
theorem s_Re_readCondition_20 : Seg 199 20 g_Re_readCondition_20 := seg_of (by decide +kernel)
def g_Re_readCondition_21 : List (Instr × Nat) := [(.ireturn, 1)]
theorem s_Re_readCondition_21 : Seg 199 21 g_Re_readCondition_21 := seg_of (by decide +kernel)
/-! Re readMoreTruths -/
theorem mk_Re_readMoreTruths : 200 < 256 ∧ mtB 200 = true := ⟨by decide, mk_200⟩
def g_Re_readMoreTruths_0 : List (Instr × Nat) := [(.iconst 1, 1), (.istore 2, 1), (.iconst 0, 1), (.istore 3, 1)]
theorem s_Re_readMoreTruths_0 : Seg 200 0 g_Re_readMoreTruths_0 := seg_of (by decide +kernel)
def g_Re_readMoreTruths_4 : List (Instr × Nat) := [(.iload 2, 1), (.ifCond .eq 53, 3)]
theorem s_Re_readMoreTruths_4 : Seg 200 4 g_Re_readMoreTruths_4 := seg_of (by decide +kernel)
def g_Re_readMoreTruths_8 : List (Instr × Nat) := [(.iload 3, 1), (.iconst 160, 3), (.if_icmp .ge 53, 3)]
theorem s_Re_readMoreTruths_8 : Seg 200 8 g_Re_readMoreTruths_8 := seg_of (by decide +kernel)
def g_Re_readMoreTruths_15 : List (Instr × Nat) := [(.aload 0, 1), (.invokevirtual 1940106, 3), (.iconst 124, 2), (.if_icmp .ne 53, 3)]
theorem s_Re_readMoreTruths_15 : Seg 200 15 g_Re_readMoreTruths_15 := seg_of (by decide +kernel)
def g_Re_readMoreTruths_24 : List (Instr × Nat) := [(.aload 0, 1), (.dup, 1), (.getfield 1541, 3), (.iconst 1, 1), (.iadd, 1), (.putfield 1541, 3), (.aload 0, 1), (.iload 1, 1), (.invokevirtual 2010206, 3), (.istore 2, 1), (.aload 0, 1), (.iconst 124, 2), (.iconst 0, 1), (.invokevirtual 1960306, 3), (.iinc 3 (1), 3), (.goto 4, 3)]
theorem s_Re_readMoreTruths_24 : Seg 200 24 g_Re_readMoreTruths_24 := seg_of (by decide +kernel)
def g_Re_readMoreTruths_53 : List (Instr × Nat) := [(.iload 2, 1), (.ireturn, 1)]
theorem s_Re_readMoreTruths_53 : Seg 200 53 g_Re_readMoreTruths_53 := seg_of (by decide +kernel)
/-! Re readTruth -/
theorem mk_Re_readTruth : 201 < 256 ∧ mtB 201 = true := ⟨by decide, mk_201⟩
def g_Re_readTruth_0 : List (Instr × Nat) := [(.aload 0, 1), (.iload 1, 1), (.invokevirtual 2030206, 3), (.ifCond .eq 20, 3)]
theorem s_Re_readTruth_0 : Seg 201 0 g_Re_readTruth_0 := seg_of (by decide +kernel)
def g_Re_readTruth_8 : List (Instr × Nat) := [(.aload 0, 1), (.iload 1, 1), (.invokevirtual 2020206, 3), (.ifCond .eq 20, 3)]
theorem s_Re_readTruth_8 : Seg 201 8 g_Re_readTruth_8 := seg_of (by decide +kernel)
def g_Re_readTruth_16 : List (Instr × Nat) := [(.iconst 1, 1), (.goto 21, 3)]
theorem s_Re_readTruth_16 : Seg 201 16 g_Re_readTruth_16 := seg_of (by decide +kernel)
def g_Re_readTruth_20 : List (Instr × Nat) := [(.iconst 0, 1)]
theorem s_Re_readTruth_20 : Seg 201 20 g_Re_readTruth_20 := seg_of (by decide +kernel)
def g_Re_readTruth_21 : List (Instr × Nat) := [(.ireturn, 1)]
theorem s_Re_readTruth_21 : Seg 201 21 g_Re_readTruth_21 := seg_of (by decide +kernel)
/-! Re readMoreUnits -/
theorem mk_Re_readMoreUnits : 202 < 256 ∧ mtB 202 = true := ⟨by decide, mk_202⟩
def g_Re_readMoreUnits_0 : List (Instr × Nat) := [(.iconst 1, 1), (.istore 2, 1), (.iconst 0, 1), (.istore 3, 1)]
theorem s_Re_readMoreUnits_0 : Seg 202 0 g_Re_readMoreUnits_0 := seg_of (by decide +kernel)
def g_Re_readMoreUnits_4 : List (Instr × Nat) := [(.iload 2, 1), (.ifCond .eq 53, 3)]
theorem s_Re_readMoreUnits_4 : Seg 202 4 g_Re_readMoreUnits_4 := seg_of (by decide +kernel)
def g_Re_readMoreUnits_8 : List (Instr × Nat) := [(.iload 3, 1), (.iconst 160, 3), (.if_icmp .ge 53, 3)]
theorem s_Re_readMoreUnits_8 : Seg 202 8 g_Re_readMoreUnits_8 := seg_of (by decide +kernel)
def g_Re_readMoreUnits_15 : List (Instr × Nat) := [(.aload 0, 1), (.invokevirtual 1940106, 3), (.iconst 38, 2), (.if_icmp .ne 53, 3)]
theorem s_Re_readMoreUnits_15 : Seg 202 15 g_Re_readMoreUnits_15 := seg_of (by decide +kernel)
def g_Re_readMoreUnits_24 : List (Instr × Nat) := [(.aload 0, 1), (.dup, 1), (.getfield 1541, 3), (.iconst 1, 1), (.iadd, 1), (.putfield 1541, 3), (.aload 0, 1), (.iload 1, 1), (.invokevirtual 2030206, 3), (.istore 2, 1), (.aload 0, 1), (.iconst 38, 2), (.iconst 0, 1), (.invokevirtual 1960306, 3), (.iinc 3 (1), 3), (.goto 4, 3)]
theorem s_Re_readMoreUnits_24 : Seg 202 24 g_Re_readMoreUnits_24 := seg_of (by decide +kernel)
def g_Re_readMoreUnits_53 : List (Instr × Nat) := [(.iload 2, 1), (.ireturn, 1)]
theorem s_Re_readMoreUnits_53 : Seg 202 53 g_Re_readMoreUnits_53 := seg_of (by decide +kernel)
/-! Re readUnit -/
theorem mk_Re_readUnit : 203 < 256 ∧ mtB 203 = true := ⟨by decide, mk_203⟩
def g_Re_readUnit_0 : List (Instr × Nat) := [(.aload 0, 1), (.invokevirtual 1940106, 3), (.istore 2, 1), (.ldc 10, 2), (.iload 2, 1), (.invokeinterface 195 2, 3), (.ifCond .ne 36, 3)]
theorem s_Re_readUnit_0 : Seg 203 0 g_Re_readUnit_0 := seg_of (by decide +kernel)
def g_Re_readUnit_14 : List (Instr × Nat) := [(.aload 0, 1), (.iload 1, 1), (.invokevirtual 2050206, 3), (.ifCond .eq 34, 3)]
theorem s_Re_readUnit_14 : Seg 203 14 g_Re_readUnit_14 := seg_of (by decide +kernel)
def g_Re_readUnit_22 : List (Instr × Nat) := [(.aload 0, 1), (.iload 1, 1), (.invokevirtual 2040206, 3), (.ifCond .eq 34, 3)]
theorem s_Re_readUnit_22 : Seg 203 22 g_Re_readUnit_22 := seg_of (by decide +kernel)
def g_Re_readUnit_30 : List (Instr × Nat) := [(.iconst 1, 1), (.goto 35, 3)]
theorem s_Re_readUnit_30 : Seg 203 30 g_Re_readUnit_30 := seg_of (by decide +kernel)
def g_Re_readUnit_34 : List (Instr × Nat) := [(.iconst 0, 1)]
theorem s_Re_readUnit_34 : Seg 203 34 g_Re_readUnit_34 := seg_of (by decide +kernel)
def g_Re_readUnit_35 : List (Instr × Nat) := [(.ireturn, 1)]
theorem s_Re_readUnit_35 : Seg 203 35 g_Re_readUnit_35 := seg_of (by decide +kernel)
def g_Re_readUnit_36 : List (Instr × Nat) := [(.iload 1, 1), (.iconst 6, 2), (.if_icmp .lt 44, 3)]
theorem s_Re_readUnit_36 : Seg 203 36 g_Re_readUnit_36 := seg_of (by decide +kernel)
def g_Re_readUnit_42 : List (Instr × Nat) := [(.iconst 0, 1), (.ireturn, 1)]
theorem s_Re_readUnit_42 : Seg 203 42 g_Re_readUnit_42 := seg_of (by decide +kernel)
def g_Re_readUnit_44 : List (Instr × Nat) := [(.aload 0, 1), (.dup, 1), (.getfield 1541, 3), (.iconst 1, 1), (.iadd, 1), (.putfield 1541, 3), (.iload 2, 1), (.iconst 33, 2), (.if_icmp .ne 77, 3)]
theorem s_Re_readUnit_44 : Seg 203 44 g_Re_readUnit_44 := seg_of (by decide +kernel)
def g_Re_readUnit_60 : List (Instr × Nat) := [(.aload 0, 1), (.iload 1, 1), (.iconst 1, 1), (.iadd, 1), (.invokevirtual 2030206, 3), (.istore 3, 1), (.aload 0, 1), (.iconst 33, 2), (.iconst 0, 1), (.invokevirtual 1960306, 3), (.iload 3, 1), (.ireturn, 1)]
theorem s_Re_readUnit_60 : Seg 203 60 g_Re_readUnit_60 := seg_of (by decide +kernel)
def g_Re_readUnit_77 : List (Instr × Nat) := [(.aload 0, 1), (.iload 1, 1), (.iconst 1, 1), (.iadd, 1), (.invokevirtual 1990206, 3), (.ifCond .eq 96, 3)]
theorem s_Re_readUnit_77 : Seg 203 77 g_Re_readUnit_77 := seg_of (by decide +kernel)
def g_Re_readUnit_87 : List (Instr × Nat) := [(.aload 0, 1), (.invokevirtual 1940106, 3), (.iconst 41, 2), (.if_icmp .eq 98, 3)]
theorem s_Re_readUnit_87 : Seg 203 87 g_Re_readUnit_87 := seg_of (by decide +kernel)
def g_Re_readUnit_96 : List (Instr × Nat) := [(.iconst 0, 1), (.ireturn, 1)]
theorem s_Re_readUnit_96 : Seg 203 96 g_Re_readUnit_96 := seg_of (by decide +kernel)
def g_Re_readUnit_98 : List (Instr × Nat) := [(.aload 0, 1), (.dup, 1), (.getfield 1541, 3), (.iconst 1, 1), (.iadd, 1), (.putfield 1541, 3), (.iconst 1, 1), (.ireturn, 1)]
theorem s_Re_readUnit_98 : Seg 203 98 g_Re_readUnit_98 := seg_of (by decide +kernel)
/-! Re readRelation -/
theorem mk_Re_readRelation : 204 < 256 ∧ mtB 204 = true := ⟨by decide, mk_204⟩
def g_Re_readRelation_0 : List (Instr × Nat) := [(.aload 0, 1), (.invokevirtual 1940106, 3), (.istore 2, 1), (.ldc 12, 2), (.iload 2, 1), (.invokeinterface 195 2, 3), (.ifCond .ne 16, 3)]
theorem s_Re_readRelation_0 : Seg 204 0 g_Re_readRelation_0 := seg_of (by decide +kernel)
def g_Re_readRelation_14 : List (Instr × Nat) := [(.iconst 0, 1), (.ireturn, 1)]
theorem s_Re_readRelation_14 : Seg 204 14 g_Re_readRelation_14 := seg_of (by decide +kernel)
def g_Re_readRelation_16 : List (Instr × Nat) := [(.aload 0, 1), (.dup, 1), (.getfield 1541, 3), (.iconst 1, 1), (.iadd, 1), (.putfield 1541, 3), (.aload 0, 1), (.iload 1, 1), (.invokevirtual 2050206, 3), (.istore 3, 1), (.aload 0, 1), (.iload 2, 1), (.iconst 0, 1), (.invokevirtual 1960306, 3), (.iload 3, 1), (.ireturn, 1)]
theorem s_Re_readRelation_16 : Seg 204 16 g_Re_readRelation_16 := seg_of (by decide +kernel)
/-! Re readSum -/
theorem mk_Re_readSum : 205 < 256 ∧ mtB 205 = true := ⟨by decide, mk_205⟩
def g_Re_readSum_0 : List (Instr × Nat) := [(.aload 0, 1), (.iload 1, 1), (.invokevirtual 2060206, 3), (.istore 2, 1), (.iconst 0, 1), (.istore 3, 1)]
theorem s_Re_readSum_0 : Seg 205 0 g_Re_readSum_0 := seg_of (by decide +kernel)
def g_Re_readSum_8 : List (Instr × Nat) := [(.iload 2, 1), (.ifCond .eq 66, 3)]
theorem s_Re_readSum_8 : Seg 205 8 g_Re_readSum_8 := seg_of (by decide +kernel)
def g_Re_readSum_12 : List (Instr × Nat) := [(.iload 3, 1), (.iconst 160, 3), (.if_icmp .ge 66, 3)]
theorem s_Re_readSum_12 : Seg 205 12 g_Re_readSum_12 := seg_of (by decide +kernel)
def g_Re_readSum_19 : List (Instr × Nat) := [(.ldc 14, 2), (.aload 0, 1), (.invokevirtual 1940106, 3), (.invokeinterface 195 2, 3), (.ifCond .eq 66, 3)]
theorem s_Re_readSum_19 : Seg 205 19 g_Re_readSum_19 := seg_of (by decide +kernel)
def g_Re_readSum_31 : List (Instr × Nat) := [(.aload 0, 1), (.invokevirtual 1940106, 3), (.istore 4, 2), (.aload 0, 1), (.dup, 1), (.getfield 1541, 3), (.iconst 1, 1), (.iadd, 1), (.putfield 1541, 3), (.aload 0, 1), (.iload 1, 1), (.invokevirtual 2060206, 3), (.istore 2, 1), (.aload 0, 1), (.iload 4, 2), (.iconst 0, 1), (.invokevirtual 1960306, 3), (.iinc 3 (1), 3), (.goto 8, 3)]
theorem s_Re_readSum_31 : Seg 205 31 g_Re_readSum_31 := seg_of (by decide +kernel)
def g_Re_readSum_66 : List (Instr × Nat) := [(.iload 2, 1), (.ireturn, 1)]
theorem s_Re_readSum_66 : Seg 205 66 g_Re_readSum_66 := seg_of (by decide +kernel)
/-! Re readTerm -/
theorem mk_Re_readTerm : 206 < 256 ∧ mtB 206 = true := ⟨by decide, mk_206⟩
def g_Re_readTerm_0 : List (Instr × Nat) := [(.aload 0, 1), (.iload 1, 1), (.invokevirtual 2070206, 3), (.istore 2, 1), (.iconst 0, 1), (.istore 3, 1)]
theorem s_Re_readTerm_0 : Seg 206 0 g_Re_readTerm_0 := seg_of (by decide +kernel)
def g_Re_readTerm_8 : List (Instr × Nat) := [(.iload 2, 1), (.ifCond .eq 66, 3)]
theorem s_Re_readTerm_8 : Seg 206 8 g_Re_readTerm_8 := seg_of (by decide +kernel)
def g_Re_readTerm_12 : List (Instr × Nat) := [(.iload 3, 1), (.iconst 160, 3), (.if_icmp .ge 66, 3)]
theorem s_Re_readTerm_12 : Seg 206 12 g_Re_readTerm_12 := seg_of (by decide +kernel)
def g_Re_readTerm_19 : List (Instr × Nat) := [(.ldc 16, 2), (.aload 0, 1), (.invokevirtual 1940106, 3), (.invokeinterface 195 2, 3), (.ifCond .eq 66, 3)]
theorem s_Re_readTerm_19 : Seg 206 19 g_Re_readTerm_19 := seg_of (by decide +kernel)
def g_Re_readTerm_31 : List (Instr × Nat) := [(.aload 0, 1), (.invokevirtual 1940106, 3), (.istore 4, 2), (.aload 0, 1), (.dup, 1), (.getfield 1541, 3), (.iconst 1, 1), (.iadd, 1), (.putfield 1541, 3), (.aload 0, 1), (.iload 1, 1), (.invokevirtual 2070206, 3), (.istore 2, 1), (.aload 0, 1), (.iload 4, 2), (.iconst 0, 1), (.invokevirtual 1960306, 3), (.iinc 3 (1), 3), (.goto 8, 3)]
theorem s_Re_readTerm_31 : Seg 206 31 g_Re_readTerm_31 := seg_of (by decide +kernel)
def g_Re_readTerm_66 : List (Instr × Nat) := [(.iload 2, 1), (.ireturn, 1)]
theorem s_Re_readTerm_66 : Seg 206 66 g_Re_readTerm_66 := seg_of (by decide +kernel)
/-! Re readAtom -/
theorem mk_Re_readAtom : 207 < 256 ∧ mtB 207 = true := ⟨by decide, mk_207⟩
def g_Re_readAtom_0 : List (Instr × Nat) := [(.aload 0, 1), (.invokevirtual 1940106, 3), (.istore 2, 1), (.iload 2, 1), (.iconst 48, 2), (.if_icmp .lt 30, 3)]
theorem s_Re_readAtom_0 : Seg 207 0 g_Re_readAtom_0 := seg_of (by decide +kernel)
def g_Re_readAtom_11 : List (Instr × Nat) := [(.iload 2, 1), (.iconst 57, 2), (.if_icmp .gt 30, 3)]
theorem s_Re_readAtom_11 : Seg 207 11 g_Re_readAtom_11 := seg_of (by decide +kernel)
def g_Re_readAtom_17 : List (Instr × Nat) := [(.aload 0, 1), (.iconst 48, 2), (.aload 0, 1), (.iload 2, 1), (.invokevirtual 2080206, 3), (.invokevirtual 1960306, 3), (.iconst 1, 1), (.ireturn, 1)]
theorem s_Re_readAtom_17 : Seg 207 17 g_Re_readAtom_17 := seg_of (by decide +kernel)
def g_Re_readAtom_30 : List (Instr × Nat) := [(.aload 0, 1), (.getstatic 1540, 3), (.iload 2, 1), (.invokeinterface 195 2, 3), (.ifCond .eq 63, 3)]
theorem s_Re_readAtom_30 : Seg 207 30 g_Re_readAtom_30 := seg_of (by decide +kernel)
def g_Re_readAtom_41 : List (Instr × Nat) := [(.aload 0, 1), (.dup, 1), (.getfield 1541, 3), (.iconst 1, 1), (.iadd, 1), (.putfield 1541, 3), (.aload 0, 1), (.iconst 97, 2), (.iload 2, 1), (.iconst 97, 2), (.isub, 1), (.invokevirtual 1960306, 3), (.iconst 1, 1), (.ireturn, 1)]
theorem s_Re_readAtom_41 : Seg 207 41 g_Re_readAtom_41 := seg_of (by decide +kernel)
def g_Re_readAtom_63 : List (Instr × Nat) := [(.iload 2, 1), (.iconst 91, 2), (.if_icmp .ne 75, 3)]
theorem s_Re_readAtom_63 : Seg 207 63 g_Re_readAtom_63 := seg_of (by decide +kernel)
def g_Re_readAtom_69 : List (Instr × Nat) := [(.iload 1, 1), (.iconst 6, 2), (.if_icmp .lt 77, 3)]
theorem s_Re_readAtom_69 : Seg 207 69 g_Re_readAtom_69 := seg_of (by decide +kernel)
def g_Re_readAtom_75 : List (Instr × Nat) := [(.iconst 0, 1), (.ireturn, 1)]
theorem s_Re_readAtom_75 : Seg 207 75 g_Re_readAtom_75 := seg_of (by decide +kernel)
def g_Re_readAtom_77 : List (Instr × Nat) := [(.aload 0, 1), (.dup, 1), (.getfield 1541, 3), (.iconst 1, 1), (.iadd, 1), (.putfield 1541, 3), (.aload 0, 1), (.iload 1, 1), (.iconst 1, 1), (.iadd, 1), (.invokevirtual 2050206, 3), (.ifCond .eq 106, 3)]
theorem s_Re_readAtom_77 : Seg 207 77 g_Re_readAtom_77 := seg_of (by decide +kernel)
def g_Re_readAtom_97 : List (Instr × Nat) := [(.aload 0, 1), (.invokevirtual 1940106, 3), (.iconst 93, 2), (.if_icmp .eq 108, 3)]
theorem s_Re_readAtom_97 : Seg 207 97 g_Re_readAtom_97 := seg_of (by decide +kernel)
def g_Re_readAtom_106 : List (Instr × Nat) := [(.iconst 0, 1), (.ireturn, 1)]
theorem s_Re_readAtom_106 : Seg 207 106 g_Re_readAtom_106 := seg_of (by decide +kernel)
def g_Re_readAtom_108 : List (Instr × Nat) := [(.aload 0, 1), (.dup, 1), (.getfield 1541, 3), (.iconst 1, 1), (.iadd, 1), (.putfield 1541, 3), (.iconst 1, 1), (.ireturn, 1)]
theorem s_Re_readAtom_108 : Seg 207 108 g_Re_readAtom_108 := seg_of (by decide +kernel)
/-! Re readNumber -/
theorem mk_Re_readNumber : 208 < 256 ∧ mtB 208 = true := ⟨by decide, mk_208⟩
def g_Re_readNumber_0 : List (Instr × Nat) := [(.iconst 0, 1), (.istore 2, 1), (.iload 1, 1), (.istore 3, 1), (.iconst 0, 1), (.istore 4, 2)]
theorem s_Re_readNumber_0 : Seg 208 0 g_Re_readNumber_0 := seg_of (by decide +kernel)
def g_Re_readNumber_7 : List (Instr × Nat) := [(.iload 4, 2), (.iconst 4, 1), (.if_icmp .ge 82, 3)]
theorem s_Re_readNumber_7 : Seg 208 7 g_Re_readNumber_7 := seg_of (by decide +kernel)
def g_Re_readNumber_13 : List (Instr × Nat) := [(.iload 3, 1), (.iconst 48, 2), (.if_icmp .lt 82, 3)]
theorem s_Re_readNumber_13 : Seg 208 13 g_Re_readNumber_13 := seg_of (by decide +kernel)
def g_Re_readNumber_19 : List (Instr × Nat) := [(.iload 3, 1), (.iconst 57, 2), (.if_icmp .gt 82, 3)]
theorem s_Re_readNumber_19 : Seg 208 19 g_Re_readNumber_19 := seg_of (by decide +kernel)
def g_Re_readNumber_25 : List (Instr × Nat) := [(.iload 2, 1), (.iconst 10, 2), (.imul, 1), (.iload 3, 1), (.iadd, 1), (.iconst 48, 2), (.isub, 1), (.istore 2, 1), (.aload 0, 1), (.dup, 1), (.getfield 1541, 3), (.iconst 1, 1), (.iadd, 1), (.putfield 1541, 3), (.aload 0, 1), (.getfield 1541, 3), (.aload 0, 1), (.getstatic 1536, 3), (.getfield 2305, 3), (.if_icmp .ge 74, 3)]
theorem s_Re_readNumber_25 : Seg 208 25 g_Re_readNumber_25 := seg_of (by decide +kernel)
def g_Re_readNumber_59 : List (Instr × Nat) := [(.aload 0, 1), (.getstatic 1536, 3), (.getstatic 2304, 3), (.aload 0, 1), (.getfield 1541, 3), (.iaload, 1), (.goto 75, 3)]
theorem s_Re_readNumber_59 : Seg 208 59 g_Re_readNumber_59 := seg_of (by decide +kernel)
def g_Re_readNumber_74 : List (Instr × Nat) := [(.iconst 0, 1)]
theorem s_Re_readNumber_74 : Seg 208 74 g_Re_readNumber_74 := seg_of (by decide +kernel)
def g_Re_readNumber_75 : List (Instr × Nat) := [(.istore 3, 1), (.iinc 4 (1), 3), (.goto 7, 3)]
theorem s_Re_readNumber_75 : Seg 208 75 g_Re_readNumber_75 := seg_of (by decide +kernel)
def g_Re_readNumber_82 : List (Instr × Nat) := [(.iload 2, 1), (.ireturn, 1)]
theorem s_Re_readNumber_82 : Seg 208 82 g_Re_readNumber_82 := seg_of (by decide +kernel)
/-! Sc init -/
theorem mk_Sc_init : 209 < 256 ∧ mtB 209 = true := ⟨by decide, mk_209⟩
def g_Sc_init_0 : List (Instr × Nat) := [(.aload 0, 1), (.nop, 3), (.aload 0, 1), (.iconst 26, 2), (.newarray .int, 2), (.putstatic 1792, 3), (.aload 0, 1), (.iconst 160, 3), (.newarray .int, 2), (.putstatic 1793, 3), (.return_, 1)]
theorem s_Sc_init_0 : Seg 209 0 g_Sc_init_0 := seg_of (by decide +kernel)
/-! Sc clear -/
theorem mk_Sc_clear : 210 < 256 ∧ mtB 210 = true := ⟨by decide, mk_210⟩
def g_Sc_clear_0 : List (Instr × Nat) := [(.aload 0, 1), (.getstatic 1792, 3), (.iconst 0, 1), (.invokeinterface 252 2, 3), (.return_, 1)]
theorem s_Sc_clear_0 : Seg 210 0 g_Sc_clear_0 := seg_of (by decide +kernel)
/-! Sc tell -/
theorem mk_Sc_tell : 211 < 256 ∧ mtB 211 = true := ⟨by decide, mk_211⟩
def g_Sc_tell_0 : List (Instr × Nat) := [(.iload 1, 1), (.iconst 97, 2), (.if_icmp .lt 22, 3)]
theorem s_Sc_tell_0 : Seg 211 0 g_Sc_tell_0 := seg_of (by decide +kernel)
def g_Sc_tell_6 : List (Instr × Nat) := [(.iload 1, 1), (.iconst 122, 2), (.if_icmp .gt 22, 3)]
theorem s_Sc_tell_6 : Seg 211 6 g_Sc_tell_6 := seg_of (by decide +kernel)
def g_Sc_tell_12 : List (Instr × Nat) := [(.aload 0, 1), (.getstatic 1792, 3), (.iload 1, 1), (.iconst 97, 2), (.isub, 1), (.iload 2, 1), (.iastore, 1)]
theorem s_Sc_tell_12 : Seg 211 12 g_Sc_tell_12 := seg_of (by decide +kernel)
def g_Sc_tell_22 : List (Instr × Nat) := [(.return_, 1)]
theorem s_Sc_tell_22 : Seg 211 22 g_Sc_tell_22 := seg_of (by decide +kernel)
/-! Sc weigh -/
theorem mk_Sc_weigh : 212 < 256 ∧ mtB 212 = true := ⟨by decide, mk_212⟩
def g_Sc_weigh_0 : List (Instr × Nat) := [(.aload 1, 1), (.ifnonnull 8, 3)]
theorem s_Sc_weigh_0 : Seg 212 0 g_Sc_weigh_0 := seg_of (by decide +kernel)
def g_Sc_weigh_4 : List (Instr × Nat) := [(.jsr_w (1099511627776), 3), (.lreturn, 1)]
theorem s_Sc_weigh_4 : Seg 212 4 g_Sc_weigh_4 := seg_of (by decide +kernel)
def g_Sc_weigh_8 : List (Instr × Nat) := [(.aload 1, 1), (.getstatic 2561, 3), (.astore 3, 1), (.iconst 0, 1), (.istore 4, 2)]
theorem s_Sc_weigh_8 : Seg 212 8 g_Sc_weigh_8 := seg_of (by decide +kernel)
def g_Sc_weigh_16 : List (Instr × Nat) := [(.iload 4, 2), (.iconst 4, 1), (.iadd, 1), (.aload 3, 1), (.arraylength, 1), (.if_icmp .gt 142, 3)]
theorem s_Sc_weigh_16 : Seg 212 16 g_Sc_weigh_16 := seg_of (by decide +kernel)
def g_Sc_weigh_25 : List (Instr × Nat) := [(.aload 3, 1), (.iload 4, 2), (.iaload, 1), (.iload 2, 1), (.if_icmp .ne 37, 3)]
theorem s_Sc_weigh_25 : Seg 212 25 g_Sc_weigh_25 := seg_of (by decide +kernel)
def g_Sc_weigh_33 : List (Instr × Nat) := [(.iconst 1, 1), (.goto 38, 3)]
theorem s_Sc_weigh_33 : Seg 212 33 g_Sc_weigh_33 := seg_of (by decide +kernel)
def g_Sc_weigh_37 : List (Instr × Nat) := [(.iconst 0, 1)]
theorem s_Sc_weigh_37 : Seg 212 37 g_Sc_weigh_37 := seg_of (by decide +kernel)
def g_Sc_weigh_38 : List (Instr × Nat) := [(.istore 5, 2), (.iconst 0, 1), (.istore 6, 2), (.aload 3, 1), (.iload 4, 2), (.iconst 1, 1), (.iadd, 1), (.iaload, 1), (.istore 7, 2)]
theorem s_Sc_weigh_38 : Seg 212 38 g_Sc_weigh_38 := seg_of (by decide +kernel)
def g_Sc_weigh_51 : List (Instr × Nat) := [(.iload 5, 2), (.ifCond .eq 123, 3)]
theorem s_Sc_weigh_51 : Seg 212 51 g_Sc_weigh_51 := seg_of (by decide +kernel)
def g_Sc_weigh_56 : List (Instr × Nat) := [(.iload 7, 2), (.aload 3, 1), (.iload 4, 2), (.iconst 3, 1), (.iadd, 1), (.iaload, 1), (.if_icmp .ge 123, 3)]
theorem s_Sc_weigh_56 : Seg 212 56 g_Sc_weigh_56 := seg_of (by decide +kernel)
def g_Sc_weigh_67 : List (Instr × Nat) := [(.iload 7, 2), (.aload 3, 1), (.iload 4, 2), (.iconst 2, 1), (.iadd, 1), (.iaload, 1), (.if_icmp .ne 102, 3)]
theorem s_Sc_weigh_67 : Seg 212 67 g_Sc_weigh_67 := seg_of (by decide +kernel)
def g_Sc_weigh_78 : List (Instr × Nat) := [(.iload 6, 2), (.ifCond .le 102, 3)]
theorem s_Sc_weigh_78 : Seg 212 78 g_Sc_weigh_78 := seg_of (by decide +kernel)
def g_Sc_weigh_83 : List (Instr × Nat) := [(.aload 0, 1), (.getstatic 1793, 3), (.iconst 0, 1), (.iaload, 1), (.ifCond .eq 96, 3)]
theorem s_Sc_weigh_83 : Seg 212 83 g_Sc_weigh_83 := seg_of (by decide +kernel)
def g_Sc_weigh_92 : List (Instr × Nat) := [(.iconst 1, 1), (.goto 97, 3)]
theorem s_Sc_weigh_92 : Seg 212 92 g_Sc_weigh_92 := seg_of (by decide +kernel)
def g_Sc_weigh_96 : List (Instr × Nat) := [(.iconst 0, 1)]
theorem s_Sc_weigh_96 : Seg 212 96 g_Sc_weigh_96 := seg_of (by decide +kernel)
def g_Sc_weigh_97 : List (Instr × Nat) := [(.istore 5, 2), (.iconst 0, 1), (.istore 6, 2)]
theorem s_Sc_weigh_97 : Seg 212 97 g_Sc_weigh_97 := seg_of (by decide +kernel)
def g_Sc_weigh_102 : List (Instr × Nat) := [(.aload 0, 1), (.aload 1, 1), (.getstatic 2560, 3), (.iload 7, 2), (.iaload, 1), (.iload 6, 2), (.invokevirtual 2130307, 3), (.istore 6, 2), (.iinc 7 (1), 3), (.goto 51, 3)]
theorem s_Sc_weigh_102 : Seg 212 102 g_Sc_weigh_102 := seg_of (by decide +kernel)
def g_Sc_weigh_123 : List (Instr × Nat) := [(.iload 5, 2), (.ifCond .eq 136, 3)]
theorem s_Sc_weigh_123 : Seg 212 123 g_Sc_weigh_123 := seg_of (by decide +kernel)
def g_Sc_weigh_128 : List (Instr × Nat) := [(.aload 0, 1), (.getstatic 1793, 3), (.iconst 0, 1), (.iaload, 1), (.i2l, 1), (.lreturn, 1)]
theorem s_Sc_weigh_128 : Seg 212 128 g_Sc_weigh_128 := seg_of (by decide +kernel)
def g_Sc_weigh_136 : List (Instr × Nat) := [(.iinc 4 (4), 3), (.goto 16, 3)]
theorem s_Sc_weigh_136 : Seg 212 136 g_Sc_weigh_136 := seg_of (by decide +kernel)
def g_Sc_weigh_142 : List (Instr × Nat) := [(.jsr_w (1099511627776), 3), (.lreturn, 1)]
theorem s_Sc_weigh_142 : Seg 212 142 g_Sc_weigh_142 := seg_of (by decide +kernel)
/-! Sc step -/
theorem mk_Sc_step : 213 < 256 ∧ mtB 213 = true := ⟨by decide, mk_213⟩
def g_Sc_step_0 : List (Instr × Nat) := [(.iload 1, 1), (.iconst 255, 3), (.iand, 1), (.istore 3, 1), (.iload 3, 1), (.iconst 48, 2), (.if_icmp .eq 18, 3)]
theorem s_Sc_step_0 : Seg 213 0 g_Sc_step_0 := seg_of (by decide +kernel)
def g_Sc_step_12 : List (Instr × Nat) := [(.iload 3, 1), (.iconst 97, 2), (.if_icmp .ne 59, 3)]
theorem s_Sc_step_12 : Seg 213 12 g_Sc_step_12 := seg_of (by decide +kernel)
def g_Sc_step_18 : List (Instr × Nat) := [(.iload 2, 1), (.aload 0, 1), (.getstatic 1793, 3), (.arraylength, 1), (.if_icmp .ge 59, 3)]
theorem s_Sc_step_18 : Seg 213 18 g_Sc_step_18 := seg_of (by decide +kernel)
def g_Sc_step_27 : List (Instr × Nat) := [(.aload 0, 1), (.getstatic 1793, 3), (.iload 2, 1), (.iload 3, 1), (.iconst 48, 2), (.if_icmp .ne 45, 3)]
theorem s_Sc_step_27 : Seg 213 27 g_Sc_step_27 := seg_of (by decide +kernel)
def g_Sc_step_38 : List (Instr × Nat) := [(.iload 1, 1), (.iconst 8, 2), (.ishr, 1), (.goto 54, 3)]
theorem s_Sc_step_38 : Seg 213 38 g_Sc_step_38 := seg_of (by decide +kernel)
def g_Sc_step_45 : List (Instr × Nat) := [(.aload 0, 1), (.getstatic 1792, 3), (.iload 1, 1), (.iconst 8, 2), (.ishr, 1), (.iaload, 1)]
theorem s_Sc_step_45 : Seg 213 45 g_Sc_step_45 := seg_of (by decide +kernel)
def g_Sc_step_54 : List (Instr × Nat) := [(.iastore, 1), (.iload 2, 1), (.iconst 1, 1), (.iadd, 1), (.ireturn, 1)]
theorem s_Sc_step_54 : Seg 213 54 g_Sc_step_54 := seg_of (by decide +kernel)
def g_Sc_step_59 : List (Instr × Nat) := [(.iload 3, 1), (.iconst 33, 2), (.if_icmp .ne 90, 3)]
theorem s_Sc_step_59 : Seg 213 59 g_Sc_step_59 := seg_of (by decide +kernel)
def g_Sc_step_65 : List (Instr × Nat) := [(.iload 2, 1), (.iconst 1, 1), (.if_icmp .lt 90, 3)]
theorem s_Sc_step_65 : Seg 213 65 g_Sc_step_65 := seg_of (by decide +kernel)
def g_Sc_step_70 : List (Instr × Nat) := [(.aload 0, 1), (.getstatic 1793, 3), (.iload 2, 1), (.iconst 1, 1), (.isub, 1), (.iconst 1, 1), (.aload 0, 1), (.getstatic 1793, 3), (.iload 2, 1), (.iconst 1, 1), (.isub, 1), (.iaload, 1), (.isub, 1), (.iastore, 1), (.iload 2, 1), (.ireturn, 1)]
theorem s_Sc_step_70 : Seg 213 70 g_Sc_step_70 := seg_of (by decide +kernel)
def g_Sc_step_90 : List (Instr × Nat) := [(.iload 2, 1), (.iconst 2, 1), (.if_icmp .ge 97, 3)]
theorem s_Sc_step_90 : Seg 213 90 g_Sc_step_90 := seg_of (by decide +kernel)
def g_Sc_step_95 : List (Instr × Nat) := [(.iload 2, 1), (.ireturn, 1)]
theorem s_Sc_step_95 : Seg 213 95 g_Sc_step_95 := seg_of (by decide +kernel)
def g_Sc_step_97 : List (Instr × Nat) := [(.aload 0, 1), (.getstatic 1793, 3), (.iload 2, 1), (.iconst 2, 1), (.isub, 1), (.iaload, 1), (.i2l, 1), (.lstore 4, 2), (.aload 0, 1), (.getstatic 1793, 3), (.iload 2, 1), (.iconst 1, 1), (.isub, 1), (.iaload, 1), (.i2l, 1), (.lstore 6, 2), (.iload 3, 1), (.tableswitch 351 38 62 #[341, 351, 351, 351, 256, 236, 351, 246, 351, 266, 351, 351, 351, 351, 351, 351, 351, 351, 351, 351, 351, 351, 305, 287, 323], 116)]
theorem s_Sc_step_97 : Seg 213 97 g_Sc_step_97 := seg_of (by decide +kernel)
def g_Sc_step_236 : List (Instr × Nat) := [(.lload 4, 2), (.lload 6, 2), (.ladd, 1), (.lstore 8, 2), (.goto 358, 3)]
theorem s_Sc_step_236 : Seg 213 236 g_Sc_step_236 := seg_of (by decide +kernel)
def g_Sc_step_246 : List (Instr × Nat) := [(.lload 4, 2), (.lload 6, 2), (.lsub, 1), (.lstore 8, 2), (.goto 358, 3)]
theorem s_Sc_step_246 : Seg 213 246 g_Sc_step_246 := seg_of (by decide +kernel)
def g_Sc_step_256 : List (Instr × Nat) := [(.lload 4, 2), (.lload 6, 2), (.lmul, 1), (.lstore 8, 2), (.goto 358, 3)]
theorem s_Sc_step_256 : Seg 213 256 g_Sc_step_256 := seg_of (by decide +kernel)
def g_Sc_step_266 : List (Instr × Nat) := [(.lload 6, 2), (.goto_w 0, 1), (.lcmp, 1), (.ifCond .ne 277, 3)]
theorem s_Sc_step_266 : Seg 213 266 g_Sc_step_266 := seg_of (by decide +kernel)
def g_Sc_step_273 : List (Instr × Nat) := [(.goto_w 0, 1), (.goto 282, 3)]
theorem s_Sc_step_273 : Seg 213 273 g_Sc_step_273 := seg_of (by decide +kernel)
def g_Sc_step_277 : List (Instr × Nat) := [(.lload 4, 2), (.lload 6, 2), (.ldiv, 1)]
theorem s_Sc_step_277 : Seg 213 277 g_Sc_step_277 := seg_of (by decide +kernel)
def g_Sc_step_282 : List (Instr × Nat) := [(.lstore 8, 2), (.goto 358, 3)]
theorem s_Sc_step_282 : Seg 213 282 g_Sc_step_282 := seg_of (by decide +kernel)
def g_Sc_step_287 : List (Instr × Nat) := [(.lload 4, 2), (.lload 6, 2), (.lcmp, 1), (.ifCond .ne 299, 3)]
theorem s_Sc_step_287 : Seg 213 287 g_Sc_step_287 := seg_of (by decide +kernel)
def g_Sc_step_295 : List (Instr × Nat) := [(.goto_w 1, 1), (.goto 300, 3)]
theorem s_Sc_step_295 : Seg 213 295 g_Sc_step_295 := seg_of (by decide +kernel)
def g_Sc_step_299 : List (Instr × Nat) := [(.goto_w 0, 1)]
theorem s_Sc_step_299 : Seg 213 299 g_Sc_step_299 := seg_of (by decide +kernel)
def g_Sc_step_300 : List (Instr × Nat) := [(.lstore 8, 2), (.goto 358, 3)]
theorem s_Sc_step_300 : Seg 213 300 g_Sc_step_300 := seg_of (by decide +kernel)
def g_Sc_step_305 : List (Instr × Nat) := [(.lload 4, 2), (.lload 6, 2), (.lcmp, 1), (.ifCond .ge 317, 3)]
theorem s_Sc_step_305 : Seg 213 305 g_Sc_step_305 := seg_of (by decide +kernel)
def g_Sc_step_313 : List (Instr × Nat) := [(.goto_w 1, 1), (.goto 318, 3)]
theorem s_Sc_step_313 : Seg 213 313 g_Sc_step_313 := seg_of (by decide +kernel)
def g_Sc_step_317 : List (Instr × Nat) := [(.goto_w 0, 1)]
theorem s_Sc_step_317 : Seg 213 317 g_Sc_step_317 := seg_of (by decide +kernel)
def g_Sc_step_318 : List (Instr × Nat) := [(.lstore 8, 2), (.goto 358, 3)]
theorem s_Sc_step_318 : Seg 213 318 g_Sc_step_318 := seg_of (by decide +kernel)
def g_Sc_step_323 : List (Instr × Nat) := [(.lload 4, 2), (.lload 6, 2), (.lcmp, 1), (.ifCond .le 335, 3)]
theorem s_Sc_step_323 : Seg 213 323 g_Sc_step_323 := seg_of (by decide +kernel)
def g_Sc_step_331 : List (Instr × Nat) := [(.goto_w 1, 1), (.goto 336, 3)]
theorem s_Sc_step_331 : Seg 213 331 g_Sc_step_331 := seg_of (by decide +kernel)
def g_Sc_step_335 : List (Instr × Nat) := [(.goto_w 0, 1)]
theorem s_Sc_step_335 : Seg 213 335 g_Sc_step_335 := seg_of (by decide +kernel)
def g_Sc_step_336 : List (Instr × Nat) := [(.lstore 8, 2), (.goto 358, 3)]
theorem s_Sc_step_336 : Seg 213 336 g_Sc_step_336 := seg_of (by decide +kernel)
def g_Sc_step_341 : List (Instr × Nat) := [(.lload 4, 2), (.lload 6, 2), (.land, 1), (.lstore 8, 2), (.goto 358, 3)]
theorem s_Sc_step_341 : Seg 213 341 g_Sc_step_341 := seg_of (by decide +kernel)
def g_Sc_step_351 : List (Instr × Nat) := [(.lload 4, 2), (.lload 6, 2), (.lor, 1), (.lstore 8, 2)]
theorem s_Sc_step_351 : Seg 213 351 g_Sc_step_351 := seg_of (by decide +kernel)
def g_Sc_step_358 : List (Instr × Nat) := [(.lload 8, 2), (.jsr_w (1000000), 3), (.lcmp, 1), (.ifCond .le 372, 3)]
theorem s_Sc_step_358 : Seg 213 358 g_Sc_step_358 := seg_of (by decide +kernel)
def g_Sc_step_367 : List (Instr × Nat) := [(.jsr_w (1000000), 3), (.lstore 8, 2)]
theorem s_Sc_step_367 : Seg 213 367 g_Sc_step_367 := seg_of (by decide +kernel)
def g_Sc_step_372 : List (Instr × Nat) := [(.aload 0, 1), (.getstatic 1793, 3), (.iload 2, 1), (.iconst 2, 1), (.isub, 1), (.lload 8, 2), (.jsr_w (-1000000), 3), (.lcmp, 1), (.ifCond .ge 393, 3)]
theorem s_Sc_step_372 : Seg 213 372 g_Sc_step_372 := seg_of (by decide +kernel)
def g_Sc_step_388 : List (Instr × Nat) := [(.bipush (-1000000), 2), (.goto 396, 3)]
theorem s_Sc_step_388 : Seg 213 388 g_Sc_step_388 := seg_of (by decide +kernel)
def g_Sc_step_393 : List (Instr × Nat) := [(.lload 8, 2), (.l2i, 1)]
theorem s_Sc_step_393 : Seg 213 393 g_Sc_step_393 := seg_of (by decide +kernel)
def g_Sc_step_396 : List (Instr × Nat) := [(.iastore, 1), (.iload 2, 1), (.iconst 1, 1), (.isub, 1), (.ireturn, 1)]
theorem s_Sc_step_396 : Seg 213 396 g_Sc_step_396 := seg_of (by decide +kernel)
