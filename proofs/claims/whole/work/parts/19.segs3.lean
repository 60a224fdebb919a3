/-! ===== the segments of the methods ===== -/
/-! Re init -/
theorem mk_Re_init : 191 < 256 ∧ mtB 191 = true := ⟨by decide, mk_191⟩
def g_Re_init_0 : List (Instr × Nat) := [(.aload 0, 1), (.nop, 3), (.aload 0, 1), (.iconst 160, 3), (.newarray .int, 2), (.putstatic 1537, 3), (.aload 0, 1), (.iconst 164, 3), (.newarray .int, 2), (.putstatic 1538, 3), (.aload 0, 1), (.ldc 0, 2), (.putstatic 1539, 3), (.aload 0, 1), (.ldc 0, 2), (.putstatic 1540, 3), (.aload 0, 1), (.aload 1, 1), (.putstatic 1536, 3), (.return_, 1)]
theorem s_Re_init_0 : Seg 191 0 g_Re_init_0 := seg_of (by decide +kernel)
/-! Re faultAs -/
theorem mk_Re_faultAs : 192 < 256 ∧ mtB 192 = true := ⟨by decide, mk_192⟩
def g_Re_faultAs_0 : List (Instr × Nat) := [(.aload 0, 1), (.iload 1, 1), (.ifCond .ne 10, 3), (.ldc 2, 2), (.goto 12, 3)]
theorem s_Re_faultAs_0 : Seg 192 0 g_Re_faultAs_0 := seg_of (by decide +kernel)
def g_Re_faultAs_10 : List (Instr × Nat) := [(.ldc 4, 2)]
theorem s_Re_faultAs_10 : Seg 192 10 g_Re_faultAs_10 := seg_of (by decide +kernel)
def g_Re_faultAs_12 : List (Instr × Nat) := [(.putstatic 1539, 3), (.aload 0, 1), (.iload 1, 1), (.ifCond .ne 25, 3), (.ldc 6, 2), (.goto 27, 3)]
theorem s_Re_faultAs_12 : Seg 192 12 g_Re_faultAs_12 := seg_of (by decide +kernel)
def g_Re_faultAs_25 : List (Instr × Nat) := [(.ldc 8, 2)]
theorem s_Re_faultAs_25 : Seg 192 25 g_Re_faultAs_25 := seg_of (by decide +kernel)
def g_Re_faultAs_27 : List (Instr × Nat) := [(.putstatic 1540, 3), (.aload 0, 1), (.iconst 0, 1), (.putfield 1541, 3), (.aload 0, 1), (.iconst 0, 1), (.putfield 1542, 3), (.aload 0, 1), (.iconst 0, 1), (.putfield 1543, 3), (.aload 0, 1), (.invokevirtual 1980106, 3), (.istore 2, 1), (.iconst 0, 1), (.istore 3, 1)]
theorem s_Re_faultAs_27 : Seg 192 27 g_Re_faultAs_27 := seg_of (by decide +kernel)
def g_Re_faultAs_52 : List (Instr × Nat) := [(.iload 2, 1), (.ifCond .eq 93, 3), (.iload 3, 1), (.iconst 160, 3), (.if_icmp .ge 93, 3), (.aload 0, 1), (.invokevirtual 1940106, 3), (.iconst 59, 2), (.if_icmp .ne 93, 3), (.aload 0, 1), (.dup, 1), (.getfield 1541, 3), (.iconst 1, 1), (.iadd, 1), (.putfield 1541, 3), (.aload 0, 1), (.invokevirtual 1980106, 3), (.istore 2, 1), (.iinc 3 (1), 3), (.goto 52, 3)]
theorem s_Re_faultAs_52 : Seg 192 52 g_Re_faultAs_52 := seg_of (by decide +kernel)
def g_Re_faultAs_93 : List (Instr × Nat) := [(.iload 2, 1), (.ifCond .eq 108, 3), (.aload 0, 1), (.invokevirtual 1940106, 3), (.ifCond .ne 108, 3), (.iconst (-1), 1), (.goto 112, 3)]
theorem s_Re_faultAs_93 : Seg 192 93 g_Re_faultAs_93 := seg_of (by decide +kernel)
def g_Re_faultAs_108 : List (Instr × Nat) := [(.aload 0, 1), (.getfield 1541, 3)]
theorem s_Re_faultAs_108 : Seg 192 108 g_Re_faultAs_108 := seg_of (by decide +kernel)
def g_Re_faultAs_112 : List (Instr × Nat) := [(.ireturn, 1)]
theorem s_Re_faultAs_112 : Seg 192 112 g_Re_faultAs_112 := seg_of (by decide +kernel)
/-! Re readText -/
theorem mk_Re_readText : 193 < 256 ∧ mtB 193 = true := ⟨by decide, mk_193⟩
def g_Re_readText_0 : List (Instr × Nat) := [(.new 10, 3), (.dup, 1), (.aload 0, 1), (.getstatic 1537, 3), (.aload 0, 1), (.getfield 1542, 3), (.invokeinterface 253 2, 3), (.aload 0, 1), (.getstatic 1538, 3), (.aload 0, 1), (.getfield 1543, 3), (.invokeinterface 253 2, 3), (.invokevirtual 2370310, 3), (.areturn, 1)]
theorem s_Re_readText_0 : Seg 193 0 g_Re_readText_0 := seg_of (by decide +kernel)
/-! Re next -/
theorem mk_Re_next : 194 < 256 ∧ mtB 194 = true := ⟨by decide, mk_194⟩
def g_Re_next_0 : List (Instr × Nat) := [(.aload 0, 1), (.getfield 1541, 3), (.aload 0, 1), (.getstatic 1536, 3), (.getfield 2305, 3), (.if_icmp .ge 44, 3), (.aload 0, 1), (.getstatic 1536, 3), (.getstatic 2304, 3), (.aload 0, 1), (.getfield 1541, 3), (.iaload, 1), (.iconst 32, 2), (.if_icmp .ne 44, 3), (.aload 0, 1), (.dup, 1), (.getfield 1541, 3), (.iconst 1, 1), (.iadd, 1), (.putfield 1541, 3), (.goto 0, 3)]
theorem s_Re_next_0 : Seg 194 0 g_Re_next_0 := seg_of (by decide +kernel)
def g_Re_next_44 : List (Instr × Nat) := [(.aload 0, 1), (.getfield 1541, 3), (.aload 0, 1), (.getstatic 1536, 3), (.getfield 2305, 3), (.if_icmp .ge 73, 3), (.aload 0, 1), (.getstatic 1536, 3), (.getstatic 2304, 3), (.aload 0, 1), (.getfield 1541, 3), (.iaload, 1), (.goto 74, 3)]
theorem s_Re_next_44 : Seg 194 44 g_Re_next_44 := seg_of (by decide +kernel)
def g_Re_next_73 : List (Instr × Nat) := [(.iconst 0, 1)]
theorem s_Re_next_73 : Seg 194 73 g_Re_next_73 := seg_of (by decide +kernel)
def g_Re_next_74 : List (Instr × Nat) := [(.ireturn, 1)]
theorem s_Re_next_74 : Seg 194 74 g_Re_next_74 := seg_of (by decide +kernel)
/-! Re isIn -/
theorem mk_Re_isIn : 195 < 256 ∧ mtB 195 = true := ⟨by decide, mk_195⟩
def g_Re_isIn_0 : List (Instr × Nat) := [(.iload 1, 1), (.ifCond .eq 17, 3), (.aload 0, 1), (.iload 1, 1), (.i2c, 1), (.invokevirtual 2410213, 3), (.ifCond .lt 17, 3), (.iconst 1, 1), (.goto 18, 3)]
theorem s_Re_isIn_0 : Seg 195 0 g_Re_isIn_0 := seg_of (by decide +kernel)
def g_Re_isIn_17 : List (Instr × Nat) := [(.iconst 0, 1)]
theorem s_Re_isIn_17 : Seg 195 17 g_Re_isIn_17 := seg_of (by decide +kernel)
def g_Re_isIn_18 : List (Instr × Nat) := [(.ireturn, 1)]
theorem s_Re_isIn_18 : Seg 195 18 g_Re_isIn_18 := seg_of (by decide +kernel)
/-! Re put -/
theorem mk_Re_put : 196 < 256 ∧ mtB 196 = true := ⟨by decide, mk_196⟩
def g_Re_put_0 : List (Instr × Nat) := [(.aload 0, 1), (.getfield 1542, 3), (.aload 0, 1), (.getstatic 1537, 3), (.arraylength, 1), (.if_icmp .ge 37, 3), (.aload 0, 1), (.getstatic 1537, 3), (.aload 0, 1), (.getfield 1542, 3), (.iload 1, 1), (.iload 2, 1), (.iconst 8, 2), (.ishl, 1), (.ior, 1), (.iastore, 1), (.aload 0, 1), (.dup, 1), (.getfield 1542, 3), (.iconst 1, 1), (.iadd, 1), (.putfield 1542, 3)]
theorem s_Re_put_0 : Seg 196 0 g_Re_put_0 := seg_of (by decide +kernel)
def g_Re_put_37 : List (Instr × Nat) := [(.return_, 1)]
theorem s_Re_put_37 : Seg 196 37 g_Re_put_37 := seg_of (by decide +kernel)
/-! Re putClause -/
theorem mk_Re_putClause : 197 < 256 ∧ mtB 197 = true := ⟨by decide, mk_197⟩
def g_Re_putClause_0 : List (Instr × Nat) := [(.aload 0, 1), (.getfield 1543, 3), (.iconst 4, 1), (.iadd, 1), (.aload 0, 1), (.getstatic 1538, 3), (.arraylength, 1), (.if_icmp .gt 73, 3), (.aload 0, 1), (.getstatic 1538, 3), (.aload 0, 1), (.getfield 1543, 3), (.iload 1, 1), (.iastore, 1), (.aload 0, 1), (.getstatic 1538, 3), (.aload 0, 1), (.getfield 1543, 3), (.iconst 1, 1), (.iadd, 1), (.iload 2, 1), (.iastore, 1), (.aload 0, 1), (.getstatic 1538, 3), (.aload 0, 1), (.getfield 1543, 3), (.iconst 2, 1), (.iadd, 1), (.iload 3, 1), (.iastore, 1), (.aload 0, 1), (.getstatic 1538, 3), (.aload 0, 1), (.getfield 1543, 3), (.iconst 3, 1), (.iadd, 1), (.aload 0, 1), (.getfield 1542, 3), (.iastore, 1), (.aload 0, 1), (.dup, 1), (.getfield 1543, 3), (.iconst 4, 1), (.iadd, 1), (.putfield 1543, 3)]
theorem s_Re_putClause_0 : Seg 197 0 g_Re_putClause_0 := seg_of (by decide +kernel)
def g_Re_putClause_73 : List (Instr × Nat) := [(.return_, 1)]
theorem s_Re_putClause_73 : Seg 197 73 g_Re_putClause_73 := seg_of (by decide +kernel)
/-! Re readClause -/
theorem mk_Re_readClause : 198 < 256 ∧ mtB 198 = true := ⟨by decide, mk_198⟩
def g_Re_readClause_0 : List (Instr × Nat) := [(.aload 0, 1), (.invokevirtual 1940106, 3), (.istore 1, 1), (.aload 0, 1), (.getstatic 1539, 3), (.iload 1, 1), (.invokeinterface 195 2, 3), (.ifCond .ne 18, 3), (.iconst 0, 1), (.ireturn, 1)]
theorem s_Re_readClause_0 : Seg 198 0 g_Re_readClause_0 := seg_of (by decide +kernel)
def g_Re_readClause_18 : List (Instr × Nat) := [(.aload 0, 1), (.dup, 1), (.getfield 1541, 3), (.iconst 1, 1), (.iadd, 1), (.putfield 1541, 3), (.aload 0, 1), (.invokevirtual 1940106, 3), (.iconst 58, 2), (.if_icmp .eq 39, 3), (.iconst 0, 1), (.ireturn, 1)]
theorem s_Re_readClause_18 : Seg 198 18 g_Re_readClause_18 := seg_of (by decide +kernel)
def g_Re_readClause_39 : List (Instr × Nat) := [(.aload 0, 1), (.dup, 1), (.getfield 1541, 3), (.iconst 1, 1), (.iadd, 1), (.putfield 1541, 3), (.aload 0, 1), (.getfield 1542, 3), (.istore 2, 1), (.ldc 10, 2), (.aload 0, 1), (.invokevirtual 1940106, 3), (.invokeinterface 195 2, 3), (.ifCond .eq 75, 3), (.aload 0, 1), (.iconst 0, 1), (.invokevirtual 1990206, 3), (.istore 3, 1), (.goto 140, 3)]
theorem s_Re_readClause_39 : Seg 198 39 g_Re_readClause_39 := seg_of (by decide +kernel)
def g_Re_readClause_75 : List (Instr × Nat) := [(.aload 0, 1), (.iconst 0, 1), (.invokevirtual 2050206, 3), (.istore 3, 1), (.iload 3, 1), (.ifCond .eq 106, 3), (.ldc 12, 2), (.aload 0, 1), (.invokevirtual 1940106, 3), (.invokeinterface 195 2, 3), (.ifCond .ne 106, 3), (.aload 0, 1), (.iload 1, 1), (.iload 2, 1), (.iload 2, 1), (.invokevirtual 1970406, 3), (.iconst 1, 1), (.ireturn, 1)]
theorem s_Re_readClause_75 : Seg 198 75 g_Re_readClause_75 := seg_of (by decide +kernel)
def g_Re_readClause_106 : List (Instr × Nat) := [(.iload 3, 1), (.ifCond .eq 138, 3), (.aload 0, 1), (.iconst 0, 1), (.invokevirtual 2040206, 3), (.ifCond .eq 138, 3), (.aload 0, 1), (.iconst 0, 1), (.invokevirtual 2020206, 3), (.ifCond .eq 138, 3), (.aload 0, 1), (.iconst 0, 1), (.invokevirtual 2000206, 3), (.ifCond .eq 138, 3), (.iconst 1, 1), (.goto 139, 3)]
theorem s_Re_readClause_106 : Seg 198 106 g_Re_readClause_106 := seg_of (by decide +kernel)
def g_Re_readClause_138 : List (Instr × Nat) := [(.iconst 0, 1)]
theorem s_Re_readClause_138 : Seg 198 138 g_Re_readClause_138 := seg_of (by decide +kernel)
def g_Re_readClause_139 : List (Instr × Nat) := [(.istore 3, 1)]
theorem s_Re_readClause_139 : Seg 198 139 g_Re_readClause_139 := seg_of (by decide +kernel)
def g_Re_readClause_140 : List (Instr × Nat) := [(.iload 3, 1), (.ifCond .eq 153, 3), (.aload 0, 1), (.invokevirtual 1940106, 3), (.iconst 63, 2), (.if_icmp .eq 155, 3)]
theorem s_Re_readClause_140 : Seg 198 140 g_Re_readClause_140 := seg_of (by decide +kernel)
def g_Re_readClause_153 : List (Instr × Nat) := [(.iconst 0, 1), (.ireturn, 1)]
theorem s_Re_readClause_153 : Seg 198 153 g_Re_readClause_153 := seg_of (by decide +kernel)
def g_Re_readClause_155 : List (Instr × Nat) := [(.aload 0, 1), (.dup, 1), (.getfield 1541, 3), (.iconst 1, 1), (.iadd, 1), (.putfield 1541, 3), (.aload 0, 1), (.getfield 1542, 3), (.istore 4, 2), (.aload 0, 1), (.iconst 0, 1), (.invokevirtual 2050206, 3), (.istore 3, 1), (.aload 0, 1), (.iload 1, 1), (.iload 2, 1), (.iload 4, 2), (.invokevirtual 1970406, 3), (.iload 3, 1), (.ireturn, 1)]
theorem s_Re_readClause_155 : Seg 198 155 g_Re_readClause_155 := seg_of (by decide +kernel)
/-! Re readCondition -/
theorem mk_Re_readCondition : 199 < 256 ∧ mtB 199 = true := ⟨by decide, mk_199⟩
def g_Re_readCondition_0 : List (Instr × Nat) := [(.aload 0, 1), (.iload 1, 1), (.invokevirtual 2010206, 3), (.ifCond .eq 20, 3), (.aload 0, 1), (.iload 1, 1), (.invokevirtual 2000206, 3), (.ifCond .eq 20, 3), (.iconst 1, 1), (.goto 21, 3)]
theorem s_Re_readCondition_0 : Seg 199 0 g_Re_readCondition_0 := seg_of (by decide +kernel)
def g_Re_readCondition_20 : List (Instr × Nat) := [(.iconst 0, 1)]
theorem s_Re_readCondition_20 : Seg 199 20 g_Re_readCondition_20 := seg_of (by decide +kernel)
def g_Re_readCondition_21 : List (Instr × Nat) := [(.ireturn, 1)]
theorem s_Re_readCondition_21 : Seg 199 21 g_Re_readCondition_21 := seg_of (by decide +kernel)
/-! Re readMoreTruths -/
theorem mk_Re_readMoreTruths : 200 < 256 ∧ mtB 200 = true := ⟨by decide, mk_200⟩
def g_Re_readMoreTruths_0 : List (Instr × Nat) := [(.iconst 1, 1), (.istore 2, 1), (.iconst 0, 1), (.istore 3, 1)]
theorem s_Re_readMoreTruths_0 : Seg 200 0 g_Re_readMoreTruths_0 := seg_of (by decide +kernel)
def g_Re_readMoreTruths_4 : List (Instr × Nat) := [(.iload 2, 1), (.ifCond .eq 53, 3), (.iload 3, 1), (.iconst 160, 3), (.if_icmp .ge 53, 3), (.aload 0, 1), (.invokevirtual 1940106, 3), (.iconst 124, 2), (.if_icmp .ne 53, 3), (.aload 0, 1), (.dup, 1), (.getfield 1541, 3), (.iconst 1, 1), (.iadd, 1), (.putfield 1541, 3), (.aload 0, 1), (.iload 1, 1), (.invokevirtual 2010206, 3), (.istore 2, 1), (.aload 0, 1), (.iconst 124, 2), (.iconst 0, 1), (.invokevirtual 1960306, 3), (.iinc 3 (1), 3), (.goto 4, 3)]
theorem s_Re_readMoreTruths_4 : Seg 200 4 g_Re_readMoreTruths_4 := seg_of (by decide +kernel)
def g_Re_readMoreTruths_53 : List (Instr × Nat) := [(.iload 2, 1), (.ireturn, 1)]
theorem s_Re_readMoreTruths_53 : Seg 200 53 g_Re_readMoreTruths_53 := seg_of (by decide +kernel)
/-! Re readTruth -/
theorem mk_Re_readTruth : 201 < 256 ∧ mtB 201 = true := ⟨by decide, mk_201⟩
def g_Re_readTruth_0 : List (Instr × Nat) := [(.aload 0, 1), (.iload 1, 1), (.invokevirtual 2030206, 3), (.ifCond .eq 20, 3), (.aload 0, 1), (.iload 1, 1), (.invokevirtual 2020206, 3), (.ifCond .eq 20, 3), (.iconst 1, 1), (.goto 21, 3)]
theorem s_Re_readTruth_0 : Seg 201 0 g_Re_readTruth_0 := seg_of (by decide +kernel)
def g_Re_readTruth_20 : List (Instr × Nat) := [(.iconst 0, 1)]
theorem s_Re_readTruth_20 : Seg 201 20 g_Re_readTruth_20 := seg_of (by decide +kernel)
def g_Re_readTruth_21 : List (Instr × Nat) := [(.ireturn, 1)]
theorem s_Re_readTruth_21 : Seg 201 21 g_Re_readTruth_21 := seg_of (by decide +kernel)
/-! Re readMoreUnits -/
theorem mk_Re_readMoreUnits : 202 < 256 ∧ mtB 202 = true := ⟨by decide, mk_202⟩
def g_Re_readMoreUnits_0 : List (Instr × Nat) := [(.iconst 1, 1), (.istore 2, 1), (.iconst 0, 1), (.istore 3, 1)]
theorem s_Re_readMoreUnits_0 : Seg 202 0 g_Re_readMoreUnits_0 := seg_of (by decide +kernel)
def g_Re_readMoreUnits_4 : List (Instr × Nat) := [(.iload 2, 1), (.ifCond .eq 53, 3), (.iload 3, 1), (.iconst 160, 3), (.if_icmp .ge 53, 3), (.aload 0, 1), (.invokevirtual 1940106, 3), (.iconst 38, 2), (.if_icmp .ne 53, 3), (.aload 0, 1), (.dup, 1), (.getfield 1541, 3), (.iconst 1, 1), (.iadd, 1), (.putfield 1541, 3), (.aload 0, 1), (.iload 1, 1), (.invokevirtual 2030206, 3), (.istore 2, 1), (.aload 0, 1), (.iconst 38, 2), (.iconst 0, 1), (.invokevirtual 1960306, 3), (.iinc 3 (1), 3), (.goto 4, 3)]
theorem s_Re_readMoreUnits_4 : Seg 202 4 g_Re_readMoreUnits_4 := seg_of (by decide +kernel)
def g_Re_readMoreUnits_53 : List (Instr × Nat) := [(.iload 2, 1), (.ireturn, 1)]
theorem s_Re_readMoreUnits_53 : Seg 202 53 g_Re_readMoreUnits_53 := seg_of (by decide +kernel)
/-! Re readUnit -/
theorem mk_Re_readUnit : 203 < 256 ∧ mtB 203 = true := ⟨by decide, mk_203⟩
def g_Re_readUnit_0 : List (Instr × Nat) := [(.aload 0, 1), (.invokevirtual 1940106, 3), (.istore 2, 1), (.ldc 10, 2), (.iload 2, 1), (.invokeinterface 195 2, 3), (.ifCond .ne 36, 3), (.aload 0, 1), (.iload 1, 1), (.invokevirtual 2050206, 3), (.ifCond .eq 34, 3), (.aload 0, 1), (.iload 1, 1), (.invokevirtual 2040206, 3), (.ifCond .eq 34, 3), (.iconst 1, 1), (.goto 35, 3)]
theorem s_Re_readUnit_0 : Seg 203 0 g_Re_readUnit_0 := seg_of (by decide +kernel)
def g_Re_readUnit_34 : List (Instr × Nat) := [(.iconst 0, 1)]
theorem s_Re_readUnit_34 : Seg 203 34 g_Re_readUnit_34 := seg_of (by decide +kernel)
def g_Re_readUnit_35 : List (Instr × Nat) := [(.ireturn, 1)]
theorem s_Re_readUnit_35 : Seg 203 35 g_Re_readUnit_35 := seg_of (by decide +kernel)
def g_Re_readUnit_36 : List (Instr × Nat) := [(.iload 1, 1), (.iconst 6, 2), (.if_icmp .lt 44, 3), (.iconst 0, 1), (.ireturn, 1)]
theorem s_Re_readUnit_36 : Seg 203 36 g_Re_readUnit_36 := seg_of (by decide +kernel)
def g_Re_readUnit_44 : List (Instr × Nat) := [(.aload 0, 1), (.dup, 1), (.getfield 1541, 3), (.iconst 1, 1), (.iadd, 1), (.putfield 1541, 3), (.iload 2, 1), (.iconst 33, 2), (.if_icmp .ne 77, 3), (.aload 0, 1), (.iload 1, 1), (.iconst 1, 1), (.iadd, 1), (.invokevirtual 2030206, 3), (.istore 3, 1), (.aload 0, 1), (.iconst 33, 2), (.iconst 0, 1), (.invokevirtual 1960306, 3), (.iload 3, 1), (.ireturn, 1)]
theorem s_Re_readUnit_44 : Seg 203 44 g_Re_readUnit_44 := seg_of (by decide +kernel)
def g_Re_readUnit_77 : List (Instr × Nat) := [(.aload 0, 1), (.iload 1, 1), (.iconst 1, 1), (.iadd, 1), (.invokevirtual 1990206, 3), (.ifCond .eq 96, 3), (.aload 0, 1), (.invokevirtual 1940106, 3), (.iconst 41, 2), (.if_icmp .eq 98, 3)]
theorem s_Re_readUnit_77 : Seg 203 77 g_Re_readUnit_77 := seg_of (by decide +kernel)
def g_Re_readUnit_96 : List (Instr × Nat) := [(.iconst 0, 1), (.ireturn, 1)]
theorem s_Re_readUnit_96 : Seg 203 96 g_Re_readUnit_96 := seg_of (by decide +kernel)
def g_Re_readUnit_98 : List (Instr × Nat) := [(.aload 0, 1), (.dup, 1), (.getfield 1541, 3), (.iconst 1, 1), (.iadd, 1), (.putfield 1541, 3), (.iconst 1, 1), (.ireturn, 1)]
theorem s_Re_readUnit_98 : Seg 203 98 g_Re_readUnit_98 := seg_of (by decide +kernel)
/-! Re readRelation -/
theorem mk_Re_readRelation : 204 < 256 ∧ mtB 204 = true := ⟨by decide, mk_204⟩
def g_Re_readRelation_0 : List (Instr × Nat) := [(.aload 0, 1), (.invokevirtual 1940106, 3), (.istore 2, 1), (.ldc 12, 2), (.iload 2, 1), (.invokeinterface 195 2, 3), (.ifCond .ne 16, 3), (.iconst 0, 1), (.ireturn, 1)]
theorem s_Re_readRelation_0 : Seg 204 0 g_Re_readRelation_0 := seg_of (by decide +kernel)
def g_Re_readRelation_16 : List (Instr × Nat) := [(.aload 0, 1), (.dup, 1), (.getfield 1541, 3), (.iconst 1, 1), (.iadd, 1), (.putfield 1541, 3), (.aload 0, 1), (.iload 1, 1), (.invokevirtual 2050206, 3), (.istore 3, 1), (.aload 0, 1), (.iload 2, 1), (.iconst 0, 1), (.invokevirtual 1960306, 3), (.iload 3, 1), (.ireturn, 1)]
theorem s_Re_readRelation_16 : Seg 204 16 g_Re_readRelation_16 := seg_of (by decide +kernel)
/-! Re readSum -/
theorem mk_Re_readSum : 205 < 256 ∧ mtB 205 = true := ⟨by decide, mk_205⟩
def g_Re_readSum_0 : List (Instr × Nat) := [(.aload 0, 1), (.iload 1, 1), (.invokevirtual 2060206, 3), (.istore 2, 1), (.iconst 0, 1), (.istore 3, 1)]
theorem s_Re_readSum_0 : Seg 205 0 g_Re_readSum_0 := seg_of (by decide +kernel)
def g_Re_readSum_8 : List (Instr × Nat) := [(.iload 2, 1), (.ifCond .eq 66, 3), (.iload 3, 1), (.iconst 160, 3), (.if_icmp .ge 66, 3), (.ldc 14, 2), (.aload 0, 1), (.invokevirtual 1940106, 3), (.invokeinterface 195 2, 3), (.ifCond .eq 66, 3), (.aload 0, 1), (.invokevirtual 1940106, 3), (.istore 4, 2), (.aload 0, 1), (.dup, 1), (.getfield 1541, 3), (.iconst 1, 1), (.iadd, 1), (.putfield 1541, 3), (.aload 0, 1), (.iload 1, 1), (.invokevirtual 2060206, 3), (.istore 2, 1), (.aload 0, 1), (.iload 4, 2), (.iconst 0, 1), (.invokevirtual 1960306, 3), (.iinc 3 (1), 3), (.goto 8, 3)]
theorem s_Re_readSum_8 : Seg 205 8 g_Re_readSum_8 := seg_of (by decide +kernel)
def g_Re_readSum_66 : List (Instr × Nat) := [(.iload 2, 1), (.ireturn, 1)]
theorem s_Re_readSum_66 : Seg 205 66 g_Re_readSum_66 := seg_of (by decide +kernel)
/-! Re readTerm -/
theorem mk_Re_readTerm : 206 < 256 ∧ mtB 206 = true := ⟨by decide, mk_206⟩
def g_Re_readTerm_0 : List (Instr × Nat) := [(.aload 0, 1), (.iload 1, 1), (.invokevirtual 2070206, 3), (.istore 2, 1), (.iconst 0, 1), (.istore 3, 1)]
theorem s_Re_readTerm_0 : Seg 206 0 g_Re_readTerm_0 := seg_of (by decide +kernel)
def g_Re_readTerm_8 : List (Instr × Nat) := [(.iload 2, 1), (.ifCond .eq 66, 3), (.iload 3, 1), (.iconst 160, 3), (.if_icmp .ge 66, 3), (.ldc 16, 2), (.aload 0, 1), (.invokevirtual 1940106, 3), (.invokeinterface 195 2, 3), (.ifCond .eq 66, 3), (.aload 0, 1), (.invokevirtual 1940106, 3), (.istore 4, 2), (.aload 0, 1), (.dup, 1), (.getfield 1541, 3), (.iconst 1, 1), (.iadd, 1), (.putfield 1541, 3), (.aload 0, 1), (.iload 1, 1), (.invokevirtual 2070206, 3), (.istore 2, 1), (.aload 0, 1), (.iload 4, 2), (.iconst 0, 1), (.invokevirtual 1960306, 3), (.iinc 3 (1), 3), (.goto 8, 3)]
theorem s_Re_readTerm_8 : Seg 206 8 g_Re_readTerm_8 := seg_of (by decide +kernel)
def g_Re_readTerm_66 : List (Instr × Nat) := [(.iload 2, 1), (.ireturn, 1)]
theorem s_Re_readTerm_66 : Seg 206 66 g_Re_readTerm_66 := seg_of (by decide +kernel)
/-! Re readAtom -/
theorem mk_Re_readAtom : 207 < 256 ∧ mtB 207 = true := ⟨by decide, mk_207⟩
def g_Re_readAtom_0 : List (Instr × Nat) := [(.aload 0, 1), (.invokevirtual 1940106, 3), (.istore 2, 1), (.iload 2, 1), (.iconst 48, 2), (.if_icmp .lt 30, 3), (.iload 2, 1), (.iconst 57, 2), (.if_icmp .gt 30, 3), (.aload 0, 1), (.iconst 48, 2), (.aload 0, 1), (.iload 2, 1), (.invokevirtual 2080206, 3), (.invokevirtual 1960306, 3), (.iconst 1, 1), (.ireturn, 1)]
theorem s_Re_readAtom_0 : Seg 207 0 g_Re_readAtom_0 := seg_of (by decide +kernel)
def g_Re_readAtom_30 : List (Instr × Nat) := [(.aload 0, 1), (.getstatic 1540, 3), (.iload 2, 1), (.invokeinterface 195 2, 3), (.ifCond .eq 63, 3), (.aload 0, 1), (.dup, 1), (.getfield 1541, 3), (.iconst 1, 1), (.iadd, 1), (.putfield 1541, 3), (.aload 0, 1), (.iconst 97, 2), (.iload 2, 1), (.iconst 97, 2), (.isub, 1), (.invokevirtual 1960306, 3), (.iconst 1, 1), (.ireturn, 1)]
theorem s_Re_readAtom_30 : Seg 207 30 g_Re_readAtom_30 := seg_of (by decide +kernel)
def g_Re_readAtom_63 : List (Instr × Nat) := [(.iload 2, 1), (.iconst 91, 2), (.if_icmp .ne 75, 3), (.iload 1, 1), (.iconst 6, 2), (.if_icmp .lt 77, 3)]
theorem s_Re_readAtom_63 : Seg 207 63 g_Re_readAtom_63 := seg_of (by decide +kernel)
def g_Re_readAtom_75 : List (Instr × Nat) := [(.iconst 0, 1), (.ireturn, 1)]
theorem s_Re_readAtom_75 : Seg 207 75 g_Re_readAtom_75 := seg_of (by decide +kernel)
def g_Re_readAtom_77 : List (Instr × Nat) := [(.aload 0, 1), (.dup, 1), (.getfield 1541, 3), (.iconst 1, 1), (.iadd, 1), (.putfield 1541, 3), (.aload 0, 1), (.iload 1, 1), (.iconst 1, 1), (.iadd, 1), (.invokevirtual 2050206, 3), (.ifCond .eq 106, 3), (.aload 0, 1), (.invokevirtual 1940106, 3), (.iconst 93, 2), (.if_icmp .eq 108, 3)]
theorem s_Re_readAtom_77 : Seg 207 77 g_Re_readAtom_77 := seg_of (by decide +kernel)
def g_Re_readAtom_106 : List (Instr × Nat) := [(.iconst 0, 1), (.ireturn, 1)]
theorem s_Re_readAtom_106 : Seg 207 106 g_Re_readAtom_106 := seg_of (by decide +kernel)
def g_Re_readAtom_108 : List (Instr × Nat) := [(.aload 0, 1), (.dup, 1), (.getfield 1541, 3), (.iconst 1, 1), (.iadd, 1), (.putfield 1541, 3), (.iconst 1, 1), (.ireturn, 1)]
theorem s_Re_readAtom_108 : Seg 207 108 g_Re_readAtom_108 := seg_of (by decide +kernel)
/-! Re readNumber -/
theorem mk_Re_readNumber : 208 < 256 ∧ mtB 208 = true := ⟨by decide, mk_208⟩
def g_Re_readNumber_0 : List (Instr × Nat) := [(.iconst 0, 1), (.istore 2, 1), (.iload 1, 1), (.istore 3, 1), (.iconst 0, 1), (.istore 4, 2)]
theorem s_Re_readNumber_0 : Seg 208 0 g_Re_readNumber_0 := seg_of (by decide +kernel)
def g_Re_readNumber_7 : List (Instr × Nat) := [(.iload 4, 2), (.iconst 4, 1), (.if_icmp .ge 82, 3), (.iload 3, 1), (.iconst 48, 2), (.if_icmp .lt 82, 3), (.iload 3, 1), (.iconst 57, 2), (.if_icmp .gt 82, 3), (.iload 2, 1), (.iconst 10, 2), (.imul, 1), (.iload 3, 1), (.iadd, 1), (.iconst 48, 2), (.isub, 1), (.istore 2, 1), (.aload 0, 1), (.dup, 1), (.getfield 1541, 3), (.iconst 1, 1), (.iadd, 1), (.putfield 1541, 3), (.aload 0, 1), (.getfield 1541, 3), (.aload 0, 1), (.getstatic 1536, 3), (.getfield 2305, 3), (.if_icmp .ge 74, 3), (.aload 0, 1), (.getstatic 1536, 3), (.getstatic 2304, 3), (.aload 0, 1), (.getfield 1541, 3), (.iaload, 1), (.goto 75, 3)]
theorem s_Re_readNumber_7 : Seg 208 7 g_Re_readNumber_7 := seg_of (by decide +kernel)
def g_Re_readNumber_74 : List (Instr × Nat) := [(.iconst 0, 1)]
theorem s_Re_readNumber_74 : Seg 208 74 g_Re_readNumber_74 := seg_of (by decide +kernel)
def g_Re_readNumber_75 : List (Instr × Nat) := [(.istore 3, 1), (.iinc 4 (1), 3), (.goto 7, 3)]
theorem s_Re_readNumber_75 : Seg 208 75 g_Re_readNumber_75 := seg_of (by decide +kernel)
def g_Re_readNumber_82 : List (Instr × Nat) := [(.iload 2, 1), (.ireturn, 1)]
theorem s_Re_readNumber_82 : Seg 208 82 g_Re_readNumber_82 := seg_of (by decide +kernel)
/-! Sc init -/
theorem mk_Sc_init : 209 < 256 ∧ mtB 209 = true := ⟨by decide, mk_209⟩
def g_Sc_init_0 : List (Instr × Nat) := [(.aload 0, 1), (.nop, 3), (.aload 0, 1), (.iconst 26, 2), (.newarray .int, 2), (.putstatic 1792, 3), (.aload 0, 1), (.iconst 160, 3), (.newarray .int, 2), (.putstatic 1793, 3), (.return_, 1)]
theorem s_Sc_init_0 : Seg 209 0 g_Sc_init_0 := seg_of (by decide +kernel)
/-! Sc clear -/
theorem mk_Sc_clear : 210 < 256 ∧ mtB 210 = true := ⟨by decide, mk_210⟩
def g_Sc_clear_0 : List (Instr × Nat) := [(.aload 0, 1), (.getstatic 1792, 3), (.iconst 0, 1), (.invokeinterface 252 2, 3), (.return_, 1)]
theorem s_Sc_clear_0 : Seg 210 0 g_Sc_clear_0 := seg_of (by decide +kernel)
/-! Sc tell -/
theorem mk_Sc_tell : 211 < 256 ∧ mtB 211 = true := ⟨by decide, mk_211⟩
def g_Sc_tell_0 : List (Instr × Nat) := [(.iload 1, 1), (.iconst 97, 2), (.if_icmp .lt 22, 3), (.iload 1, 1), (.iconst 122, 2), (.if_icmp .gt 22, 3), (.aload 0, 1), (.getstatic 1792, 3), (.iload 1, 1), (.iconst 97, 2), (.isub, 1), (.iload 2, 1), (.iastore, 1)]
theorem s_Sc_tell_0 : Seg 211 0 g_Sc_tell_0 := seg_of (by decide +kernel)
def g_Sc_tell_22 : List (Instr × Nat) := [(.return_, 1)]
theorem s_Sc_tell_22 : Seg 211 22 g_Sc_tell_22 := seg_of (by decide +kernel)
/-! Sc weigh -/
theorem mk_Sc_weigh : 212 < 256 ∧ mtB 212 = true := ⟨by decide, mk_212⟩
def g_Sc_weigh_0 : List (Instr × Nat) := [(.aload 1, 1), (.ifnonnull 8, 3), (.jsr_w (-9223372036854775808), 3), (.lreturn, 1)]
theorem s_Sc_weigh_0 : Seg 212 0 g_Sc_weigh_0 := seg_of (by decide +kernel)
def g_Sc_weigh_8 : List (Instr × Nat) := [(.aload 1, 1), (.getstatic 2561, 3), (.astore 3, 1), (.iconst 0, 1), (.istore 4, 2)]
theorem s_Sc_weigh_8 : Seg 212 8 g_Sc_weigh_8 := seg_of (by decide +kernel)
def g_Sc_weigh_16 : List (Instr × Nat) := [(.iload 4, 2), (.iconst 4, 1), (.iadd, 1), (.aload 3, 1), (.arraylength, 1), (.if_icmp .gt 142, 3), (.aload 3, 1), (.iload 4, 2), (.iaload, 1), (.iload 2, 1), (.if_icmp .ne 37, 3), (.iconst 1, 1), (.goto 38, 3)]
theorem s_Sc_weigh_16 : Seg 212 16 g_Sc_weigh_16 := seg_of (by decide +kernel)
def g_Sc_weigh_37 : List (Instr × Nat) := [(.iconst 0, 1)]
theorem s_Sc_weigh_37 : Seg 212 37 g_Sc_weigh_37 := seg_of (by decide +kernel)
def g_Sc_weigh_38 : List (Instr × Nat) := [(.istore 5, 2), (.iconst 0, 1), (.istore 6, 2), (.aload 3, 1), (.iload 4, 2), (.iconst 1, 1), (.iadd, 1), (.iaload, 1), (.istore 7, 2)]
theorem s_Sc_weigh_38 : Seg 212 38 g_Sc_weigh_38 := seg_of (by decide +kernel)
def g_Sc_weigh_51 : List (Instr × Nat) := [(.iload 5, 2), (.ifCond .eq 123, 3), (.iload 7, 2), (.aload 3, 1), (.iload 4, 2), (.iconst 3, 1), (.iadd, 1), (.iaload, 1), (.if_icmp .ge 123, 3), (.iload 7, 2), (.aload 3, 1), (.iload 4, 2), (.iconst 2, 1), (.iadd, 1), (.iaload, 1), (.if_icmp .ne 102, 3), (.iload 6, 2), (.ifCond .le 102, 3), (.aload 0, 1), (.getstatic 1793, 3), (.iconst 0, 1), (.iaload, 1), (.ifCond .eq 96, 3), (.iconst 1, 1), (.goto 97, 3)]
theorem s_Sc_weigh_51 : Seg 212 51 g_Sc_weigh_51 := seg_of (by decide +kernel)
def g_Sc_weigh_96 : List (Instr × Nat) := [(.iconst 0, 1)]
theorem s_Sc_weigh_96 : Seg 212 96 g_Sc_weigh_96 := seg_of (by decide +kernel)
def g_Sc_weigh_97 : List (Instr × Nat) := [(.istore 5, 2), (.iconst 0, 1), (.istore 6, 2)]
theorem s_Sc_weigh_97 : Seg 212 97 g_Sc_weigh_97 := seg_of (by decide +kernel)
def g_Sc_weigh_102 : List (Instr × Nat) := [(.aload 0, 1), (.aload 1, 1), (.getstatic 2560, 3), (.iload 7, 2), (.iaload, 1), (.iload 6, 2), (.invokevirtual 2130307, 3), (.istore 6, 2), (.iinc 7 (1), 3), (.goto 51, 3)]
theorem s_Sc_weigh_102 : Seg 212 102 g_Sc_weigh_102 := seg_of (by decide +kernel)
def g_Sc_weigh_123 : List (Instr × Nat) := [(.iload 5, 2), (.ifCond .eq 136, 3), (.aload 0, 1), (.getstatic 1793, 3), (.iconst 0, 1), (.iaload, 1), (.i2l, 1), (.lreturn, 1)]
theorem s_Sc_weigh_123 : Seg 212 123 g_Sc_weigh_123 := seg_of (by decide +kernel)
def g_Sc_weigh_136 : List (Instr × Nat) := [(.iinc 4 (4), 3), (.goto 16, 3)]
theorem s_Sc_weigh_136 : Seg 212 136 g_Sc_weigh_136 := seg_of (by decide +kernel)
def g_Sc_weigh_142 : List (Instr × Nat) := [(.jsr_w (-9223372036854775808), 3), (.lreturn, 1)]
theorem s_Sc_weigh_142 : Seg 212 142 g_Sc_weigh_142 := seg_of (by decide +kernel)
/-! Sc step -/
theorem mk_Sc_step : 213 < 256 ∧ mtB 213 = true := ⟨by decide, mk_213⟩
def g_Sc_step_0 : List (Instr × Nat) := [(.iload 1, 1), (.iconst 255, 3), (.iand, 1), (.istore 3, 1), (.iload 3, 1), (.iconst 48, 2), (.if_icmp .eq 18, 3), (.iload 3, 1), (.iconst 97, 2), (.if_icmp .ne 59, 3)]
theorem s_Sc_step_0 : Seg 213 0 g_Sc_step_0 := seg_of (by decide +kernel)
def g_Sc_step_18 : List (Instr × Nat) := [(.iload 2, 1), (.aload 0, 1), (.getstatic 1793, 3), (.arraylength, 1), (.if_icmp .ge 59, 3), (.aload 0, 1), (.getstatic 1793, 3), (.iload 2, 1), (.iload 3, 1), (.iconst 48, 2), (.if_icmp .ne 45, 3), (.iload 1, 1), (.iconst 8, 2), (.ishr, 1), (.goto 54, 3)]
theorem s_Sc_step_18 : Seg 213 18 g_Sc_step_18 := seg_of (by decide +kernel)
def g_Sc_step_45 : List (Instr × Nat) := [(.aload 0, 1), (.getstatic 1792, 3), (.iload 1, 1), (.iconst 8, 2), (.ishr, 1), (.iaload, 1)]
theorem s_Sc_step_45 : Seg 213 45 g_Sc_step_45 := seg_of (by decide +kernel)
def g_Sc_step_54 : List (Instr × Nat) := [(.iastore, 1), (.iload 2, 1), (.iconst 1, 1), (.iadd, 1), (.ireturn, 1)]
theorem s_Sc_step_54 : Seg 213 54 g_Sc_step_54 := seg_of (by decide +kernel)
def g_Sc_step_59 : List (Instr × Nat) := [(.iload 3, 1), (.iconst 33, 2), (.if_icmp .ne 90, 3), (.iload 2, 1), (.iconst 1, 1), (.if_icmp .lt 90, 3), (.aload 0, 1), (.getstatic 1793, 3), (.iload 2, 1), (.iconst 1, 1), (.isub, 1), (.iconst 1, 1), (.aload 0, 1), (.getstatic 1793, 3), (.iload 2, 1), (.iconst 1, 1), (.isub, 1), (.iaload, 1), (.isub, 1), (.iastore, 1), (.iload 2, 1), (.ireturn, 1)]
theorem s_Sc_step_59 : Seg 213 59 g_Sc_step_59 := seg_of (by decide +kernel)
def g_Sc_step_90 : List (Instr × Nat) := [(.iload 2, 1), (.iconst 2, 1), (.if_icmp .ge 97, 3), (.iload 2, 1), (.ireturn, 1)]
theorem s_Sc_step_90 : Seg 213 90 g_Sc_step_90 := seg_of (by decide +kernel)
def g_Sc_step_97 : List (Instr × Nat) := [(.aload 0, 1), (.getstatic 1793, 3), (.iload 2, 1), (.iconst 2, 1), (.isub, 1), (.iaload, 1), (.i2l, 1), (.lstore 4, 2), (.aload 0, 1), (.getstatic 1793, 3), (.iload 2, 1), (.iconst 1, 1), (.isub, 1), (.iaload, 1), (.i2l, 1), (.lstore 6, 2), (.iload 3, 1), (.tableswitch 351 38 62 #[341, 351, 351, 351, 256, 236, 351, 246, 351, 266, 351, 351, 351, 351, 351, 351, 351, 351, 351, 351, 351, 351, 305, 287, 323], 116)]
theorem s_Sc_step_97 : Seg 213 97 g_Sc_step_97 := seg_of (by decide +kernel)
def g_Sc_step_236 : List (Instr × Nat) := [(.lload 4, 2), (.lload 6, 2), (.ladd, 1), (.lstore 8, 2), (.goto 358, 3)]
theorem s_Sc_step_236 : Seg 213 236 g_Sc_step_236 := seg_of (by decide +kernel)
def g_Sc_step_246 : List (Instr × Nat) := [(.lload 4, 2), (.lload 6, 2), (.lsub, 1), (.lstore 8, 2), (.goto 358, 3)]
theorem s_Sc_step_246 : Seg 213 246 g_Sc_step_246 := seg_of (by decide +kernel)
def g_Sc_step_256 : List (Instr × Nat) := [(.lload 4, 2), (.lload 6, 2), (.lmul, 1), (.lstore 8, 2), (.goto 358, 3)]
theorem s_Sc_step_256 : Seg 213 256 g_Sc_step_256 := seg_of (by decide +kernel)
def g_Sc_step_266 : List (Instr × Nat) := [(.lload 6, 2), (.goto_w 0, 1), (.lcmp, 1), (.ifCond .ne 277, 3), (.goto_w 0, 1), (.goto 282, 3)]
theorem s_Sc_step_266 : Seg 213 266 g_Sc_step_266 := seg_of (by decide +kernel)
def g_Sc_step_277 : List (Instr × Nat) := [(.lload 4, 2), (.lload 6, 2), (.ldiv, 1)]
theorem s_Sc_step_277 : Seg 213 277 g_Sc_step_277 := seg_of (by decide +kernel)
def g_Sc_step_282 : List (Instr × Nat) := [(.lstore 8, 2), (.goto 358, 3)]
theorem s_Sc_step_282 : Seg 213 282 g_Sc_step_282 := seg_of (by decide +kernel)
def g_Sc_step_287 : List (Instr × Nat) := [(.lload 4, 2), (.lload 6, 2), (.lcmp, 1), (.ifCond .ne 299, 3), (.goto_w 1, 1), (.goto 300, 3)]
theorem s_Sc_step_287 : Seg 213 287 g_Sc_step_287 := seg_of (by decide +kernel)
def g_Sc_step_299 : List (Instr × Nat) := [(.goto_w 0, 1)]
theorem s_Sc_step_299 : Seg 213 299 g_Sc_step_299 := seg_of (by decide +kernel)
def g_Sc_step_300 : List (Instr × Nat) := [(.lstore 8, 2), (.goto 358, 3)]
theorem s_Sc_step_300 : Seg 213 300 g_Sc_step_300 := seg_of (by decide +kernel)
def g_Sc_step_305 : List (Instr × Nat) := [(.lload 4, 2), (.lload 6, 2), (.lcmp, 1), (.ifCond .ge 317, 3), (.goto_w 1, 1), (.goto 318, 3)]
theorem s_Sc_step_305 : Seg 213 305 g_Sc_step_305 := seg_of (by decide +kernel)
def g_Sc_step_317 : List (Instr × Nat) := [(.goto_w 0, 1)]
theorem s_Sc_step_317 : Seg 213 317 g_Sc_step_317 := seg_of (by decide +kernel)
def g_Sc_step_318 : List (Instr × Nat) := [(.lstore 8, 2), (.goto 358, 3)]
theorem s_Sc_step_318 : Seg 213 318 g_Sc_step_318 := seg_of (by decide +kernel)
def g_Sc_step_323 : List (Instr × Nat) := [(.lload 4, 2), (.lload 6, 2), (.lcmp, 1), (.ifCond .le 335, 3), (.goto_w 1, 1), (.goto 336, 3)]
theorem s_Sc_step_323 : Seg 213 323 g_Sc_step_323 := seg_of (by decide +kernel)
def g_Sc_step_335 : List (Instr × Nat) := [(.goto_w 0, 1)]
theorem s_Sc_step_335 : Seg 213 335 g_Sc_step_335 := seg_of (by decide +kernel)
def g_Sc_step_336 : List (Instr × Nat) := [(.lstore 8, 2), (.goto 358, 3)]
theorem s_Sc_step_336 : Seg 213 336 g_Sc_step_336 := seg_of (by decide +kernel)
def g_Sc_step_341 : List (Instr × Nat) := [(.lload 4, 2), (.lload 6, 2), (.land, 1), (.lstore 8, 2), (.goto 358, 3)]
theorem s_Sc_step_341 : Seg 213 341 g_Sc_step_341 := seg_of (by decide +kernel)
def g_Sc_step_351 : List (Instr × Nat) := [(.lload 4, 2), (.lload 6, 2), (.lor, 1), (.lstore 8, 2)]
theorem s_Sc_step_351 : Seg 213 351 g_Sc_step_351 := seg_of (by decide +kernel)
def g_Sc_step_358 : List (Instr × Nat) := [(.lload 8, 2), (.jsr_w (1000000), 3), (.lcmp, 1), (.ifCond .le 372, 3), (.jsr_w (1000000), 3), (.lstore 8, 2)]
theorem s_Sc_step_358 : Seg 213 358 g_Sc_step_358 := seg_of (by decide +kernel)
def g_Sc_step_372 : List (Instr × Nat) := [(.aload 0, 1), (.getstatic 1793, 3), (.iload 2, 1), (.iconst 2, 1), (.isub, 1), (.lload 8, 2), (.jsr_w (-1000000), 3), (.lcmp, 1), (.ifCond .ge 393, 3), (.bipush (-1000000), 2), (.goto 396, 3)]
theorem s_Sc_step_372 : Seg 213 372 g_Sc_step_372 := seg_of (by decide +kernel)
def g_Sc_step_393 : List (Instr × Nat) := [(.lload 8, 2), (.l2i, 1)]
theorem s_Sc_step_393 : Seg 213 393 g_Sc_step_393 := seg_of (by decide +kernel)
def g_Sc_step_396 : List (Instr × Nat) := [(.iastore, 1), (.iload 2, 1), (.iconst 1, 1), (.isub, 1), (.ireturn, 1)]
theorem s_Sc_step_396 : Seg 213 396 g_Sc_step_396 := seg_of (by decide +kernel)
/-! Ta init -/
theorem mk_Ta_init : 214 < 256 ∧ mtB 214 = true := ⟨by decide, mk_214⟩
def g_Ta_init_0 : List (Instr × Nat) := [(.aload 0, 1), (.nop, 3), (.aload 0, 1), (.iconst 8, 2), (.newarray .int, 2), (.putstatic 2052, 3), (.aload 0, 1), (.iconst 1200, 3), (.newarray .int, 2), (.putstatic 2053, 3), (.aload 0, 1), (.iconst 8, 2), (.newarray .int, 2), (.putstatic 2054, 3), (.aload 0, 1), (.iconst 8, 2), (.newarray .int, 2), (.putstatic 2055, 3), (.aload 0, 1), (.iconst 8, 2), (.newarray .int, 2), (.putstatic 2056, 3), (.aload 0, 1), (.iconst 31, 2), (.newarray .int, 2), (.putstatic 2057, 3), (.aload 0, 1), (.iconst 31, 2), (.newarray .int, 2), (.putstatic 2058, 3), (.aload 0, 1), (.iconst (-1), 1), (.putfield 2065, 3), (.aload 0, 1), (.aload 1, 1), (.putstatic 2048, 3), (.aload 0, 1), (.aload 2, 1), (.putstatic 2049, 3), (.aload 0, 1), (.aload 3, 1), (.putstatic 2050, 3), (.return_, 1)]
theorem s_Ta_init_0 : Seg 214 0 g_Ta_init_0 := seg_of (by decide +kernel)
/-! Ta run -/
theorem mk_Ta_run : 215 < 256 ∧ mtB 215 = true := ⟨by decide, mk_215⟩
def g_Ta_run_0 : List (Instr × Nat) := [(.aload 0, 1), (.aload 1, 1), (.putstatic 2051, 3), (.aload 0, 1), (.aload 1, 1), (.getfield 1033, 3), (.putfield 2061, 3), (.aload 0, 1), (.iconst 0, 1), (.putfield 2062, 3), (.aload 0, 1), (.iconst 0, 1), (.putfield 2064, 3), (.aload 0, 1), (.getstatic 2054, 3), (.iconst 0, 1), (.invokeinterface 252 2, 3), (.aload 0, 1), (.getstatic 2055, 3), (.iconst 0, 1), (.invokeinterface 252 2, 3), (.aload 0, 1), (.getstatic 2056, 3), (.iconst 0, 1), (.invokeinterface 252 2, 3), (.aload 0, 1), (.invokevirtual 2160108, 3), (.istore 2, 1), (.aload 0, 1), (.iconst (-1), 1), (.putfield 2059, 3), (.iconst 1, 1), (.istore 3, 1)]
theorem s_Ta_run_0 : Seg 215 0 g_Ta_run_0 := seg_of (by decide +kernel)
def g_Ta_run_59 : List (Instr × Nat) := [(.iload 3, 1), (.iconst 30, 2), (.if_icmp .gt 135, 3), (.aload 0, 1), (.getfield 2059, 3), (.iconst (-1), 1), (.if_icmp .ne 135, 3), (.aload 0, 1), (.iload 3, 1), (.putfield 2060, 3), (.aload 0, 1), (.iconst 0, 1), (.putfield 2063, 3), (.iconst 0, 1), (.istore 4, 2)]
theorem s_Ta_run_59 : Seg 215 59 g_Ta_run_59 := seg_of (by decide +kernel)
def g_Ta_run_86 : List (Instr × Nat) := [(.iload 4, 2), (.aload 0, 1), (.getstatic 2048, 3), (.getfield 261, 3), (.if_icmp .ge 120, 3), (.aload 0, 1), (.aload 0, 1), (.getstatic 2048, 3), (.getstatic 259, 3), (.iload 4, 2), (.iaload, 1), (.iload 4, 2), (.invokevirtual 2200308, 3), (.iinc 4 (1), 3), (.goto 86, 3)]
theorem s_Ta_run_86 : Seg 215 86 g_Ta_run_86 := seg_of (by decide +kernel)
def g_Ta_run_120 : List (Instr × Nat) := [(.aload 0, 1), (.aload 0, 1), (.iload 2, 1), (.invokevirtual 2170208, 3), (.putfield 2059, 3), (.iinc 3 (1), 3), (.goto 59, 3)]
theorem s_Ta_run_120 : Seg 215 120 g_Ta_run_120 := seg_of (by decide +kernel)
def g_Ta_run_135 : List (Instr × Nat) := [(.return_, 1)]
theorem s_Ta_run_135 : Seg 215 135 g_Ta_run_135 := seg_of (by decide +kernel)
/-! Ta lastDay -/
theorem mk_Ta_lastDay : 216 < 256 ∧ mtB 216 = true := ⟨by decide, mk_216⟩
def g_Ta_lastDay_0 : List (Instr × Nat) := [(.aload 0, 1), (.getstatic 2050, 3), (.invokevirtual 2100107, 3), (.aload 0, 1), (.getstatic 2050, 3), (.iconst 109, 2), (.aload 0, 1), (.getstatic 2048, 3), (.getfield 261, 3), (.invokevirtual 2110307, 3), (.aload 0, 1), (.getstatic 2050, 3), (.aload 0, 1), (.getstatic 2051, 3), (.getstatic 1034, 3), (.iconst 100, 2), (.invokevirtual 2120307, 3), (.lstore 1, 1), (.lload 1, 1), (.jsr_w (-9223372036854775808), 3), (.lcmp, 1), (.ifCond .eq 56, 3), (.lload 1, 1), (.jsr_w (30), 3), (.lcmp, 1), (.ifCond .le 59, 3)]
theorem s_Ta_lastDay_0 : Seg 216 0 g_Ta_lastDay_0 := seg_of (by decide +kernel)
def g_Ta_lastDay_56 : List (Instr × Nat) := [(.iconst 30, 2), (.ireturn, 1)]
theorem s_Ta_lastDay_56 : Seg 216 56 g_Ta_lastDay_56 := seg_of (by decide +kernel)
def g_Ta_lastDay_59 : List (Instr × Nat) := [(.lload 1, 1), (.goto_w 1, 1), (.lcmp, 1), (.ifCond .ge 69, 3), (.iconst 1, 1), (.goto 71, 3)]
theorem s_Ta_lastDay_59 : Seg 216 59 g_Ta_lastDay_59 := seg_of (by decide +kernel)
def g_Ta_lastDay_69 : List (Instr × Nat) := [(.lload 1, 1), (.l2i, 1)]
theorem s_Ta_lastDay_69 : Seg 216 69 g_Ta_lastDay_69 := seg_of (by decide +kernel)
def g_Ta_lastDay_71 : List (Instr × Nat) := [(.ireturn, 1)]
theorem s_Ta_lastDay_71 : Seg 216 71 g_Ta_lastDay_71 := seg_of (by decide +kernel)
/-! Ta endOfDay -/
theorem mk_Ta_endOfDay : 217 < 256 ∧ mtB 217 = true := ⟨by decide, mk_217⟩
def g_Ta_endOfDay_0 : List (Instr × Nat) := [(.aload 0, 1), (.getfield 2063, 3), (.ifCond .ne 20, 3), (.aload 0, 1), (.invokevirtual 2180108, 3), (.ifCond .eq 18, 3), (.iconst 3, 1), (.goto 19, 3)]
theorem s_Ta_endOfDay_0 : Seg 217 0 g_Ta_endOfDay_0 := seg_of (by decide +kernel)
def g_Ta_endOfDay_18 : List (Instr × Nat) := [(.iconst 0, 1)]
theorem s_Ta_endOfDay_18 : Seg 217 18 g_Ta_endOfDay_18 := seg_of (by decide +kernel)
def g_Ta_endOfDay_19 : List (Instr × Nat) := [(.ireturn, 1)]
theorem s_Ta_endOfDay_19 : Seg 217 19 g_Ta_endOfDay_19 := seg_of (by decide +kernel)
def g_Ta_endOfDay_20 : List (Instr × Nat) := [(.aload 0, 1), (.getfield 2060, 3), (.iload 1, 1), (.if_icmp .lt 30, 3), (.iconst 1, 1), (.ireturn, 1)]
theorem s_Ta_endOfDay_20 : Seg 217 20 g_Ta_endOfDay_20 := seg_of (by decide +kernel)
def g_Ta_endOfDay_30 : List (Instr × Nat) := [(.aload 0, 1), (.invokevirtual 2190108, 3), (.ifCond .eq 39, 3), (.iconst 2, 1), (.ireturn, 1)]
theorem s_Ta_endOfDay_30 : Seg 217 30 g_Ta_endOfDay_30 := seg_of (by decide +kernel)
def g_Ta_endOfDay_39 : List (Instr × Nat) := [(.aload 0, 1), (.getstatic 2057, 3), (.aload 0, 1), (.getfield 2060, 3), (.aload 0, 1), (.getfield 2061, 3), (.iastore, 1), (.aload 0, 1), (.getstatic 2058, 3), (.aload 0, 1), (.getfield 2060, 3), (.aload 0, 1), (.getfield 2064, 3), (.iastore, 1), (.iconst (-1), 1), (.ireturn, 1)]
theorem s_Ta_endOfDay_39 : Seg 217 39 g_Ta_endOfDay_39 := seg_of (by decide +kernel)
/-! Ta failsBySilence -/
theorem mk_Ta_failsBySilence : 218 < 256 ∧ mtB 218 = true := ⟨by decide, mk_218⟩
def g_Ta_failsBySilence_0 : List (Instr × Nat) := [(.aload 0, 1), (.getstatic 2050, 3), (.invokevirtual 2100107, 3), (.aload 0, 1), (.getstatic 2050, 3), (.iconst 116, 2), (.aload 0, 1), (.getfield 2060, 3), (.invokevirtual 2110307, 3), (.aload 0, 1), (.getstatic 2050, 3), (.iconst 109, 2), (.aload 0, 1), (.getstatic 2048, 3), (.getfield 261, 3), (.invokevirtual 2110307, 3), (.aload 0, 1), (.getstatic 2050, 3), (.aload 0, 1), (.getstatic 2051, 3), (.getstatic 1034, 3), (.iconst 108, 2), (.invokevirtual 2120307, 3), (.goto_w 0, 1), (.lcmp, 1), (.ifCond .ne 91, 3), (.aload 0, 1), (.getstatic 2051, 3), (.aload 0, 1), (.getstatic 2051, 3), (.getstatic 1026, 3), (.aload 0, 1), (.getfield 2061, 3), (.iaload, 1), (.invokevirtual 1850204, 3), (.aload 0, 1), (.getstatic 2048, 3), (.getfield 262, 3), (.iand, 1), (.ifCond .eq 91, 3), (.iconst 1, 1), (.goto 92, 3)]
theorem s_Ta_failsBySilence_0 : Seg 218 0 g_Ta_failsBySilence_0 := seg_of (by decide +kernel)
def g_Ta_failsBySilence_91 : List (Instr × Nat) := [(.iconst 0, 1)]
theorem s_Ta_failsBySilence_91 : Seg 218 91 g_Ta_failsBySilence_91 := seg_of (by decide +kernel)
def g_Ta_failsBySilence_92 : List (Instr × Nat) := [(.ireturn, 1)]
theorem s_Ta_failsBySilence_92 : Seg 218 92 g_Ta_failsBySilence_92 := seg_of (by decide +kernel)
/-! Ta wasSoBefore -/
theorem mk_Ta_wasSoBefore : 219 < 256 ∧ mtB 219 = true := ⟨by decide, mk_219⟩
def g_Ta_wasSoBefore_0 : List (Instr × Nat) := [(.iconst 1, 1), (.istore 1, 1)]
theorem s_Ta_wasSoBefore_0 : Seg 219 0 g_Ta_wasSoBefore_0 := seg_of (by decide +kernel)
def g_Ta_wasSoBefore_2 : List (Instr × Nat) := [(.iload 1, 1), (.aload 0, 1), (.getfield 2060, 3), (.if_icmp .ge 44, 3), (.aload 0, 1), (.getstatic 2057, 3), (.iload 1, 1), (.iaload, 1), (.aload 0, 1), (.getfield 2061, 3), (.if_icmp .ne 38, 3), (.aload 0, 1), (.getstatic 2058, 3), (.iload 1, 1), (.iaload, 1), (.aload 0, 1), (.getfield 2064, 3), (.if_icmp .ne 38, 3), (.iconst 1, 1), (.ireturn, 1)]
theorem s_Ta_wasSoBefore_2 : Seg 219 2 g_Ta_wasSoBefore_2 := seg_of (by decide +kernel)
def g_Ta_wasSoBefore_38 : List (Instr × Nat) := [(.iinc 1 (1), 3), (.goto 2, 3)]
theorem s_Ta_wasSoBefore_38 : Seg 219 38 g_Ta_wasSoBefore_38 := seg_of (by decide +kernel)
def g_Ta_wasSoBefore_44 : List (Instr × Nat) := [(.iconst 0, 1), (.ireturn, 1)]
theorem s_Ta_wasSoBefore_44 : Seg 219 44 g_Ta_wasSoBefore_44 := seg_of (by decide +kernel)
/-! Ta takeTurn -/
theorem mk_Ta_takeTurn : 220 < 256 ∧ mtB 220 = true := ⟨by decide, mk_220⟩
def g_Ta_takeTurn_0 : List (Instr × Nat) := [(.aload 0, 1), (.iload 1, 1), (.iload 2, 1), (.invokevirtual 2210308, 3), (.ifCond .ne 10, 3), (.return_, 1)]
theorem s_Ta_takeTurn_0 : Seg 220 0 g_Ta_takeTurn_0 := seg_of (by decide +kernel)
def g_Ta_takeTurn_10 : List (Instr × Nat) := [(.iconst 0, 1), (.istore 3, 1)]
theorem s_Ta_takeTurn_10 : Seg 220 10 g_Ta_takeTurn_10 := seg_of (by decide +kernel)
def g_Ta_takeTurn_12 : List (Instr × Nat) := [(.iload 3, 1), (.aload 0, 1), (.getstatic 2051, 3), (.getfield 1024, 3), (.if_icmp .ge 96, 3), (.aload 0, 1), (.iload 1, 1), (.iload 2, 1), (.iload 3, 1), (.invokevirtual 2220408, 3), (.aload 0, 1), (.aload 0, 1), (.getstatic 2050, 3), (.aload 0, 1), (.getstatic 2048, 3), (.getstatic 258, 3), (.iload 1, 1), (.aaload, 1), (.iconst 110, 2), (.invokevirtual 2120307, 3), (.iload 1, 1), (.iload 3, 1), (.invokevirtual 2240408, 3), (.istore 4, 2), (.iload 1, 1), (.aload 0, 1), (.getfield 2065, 3), (.if_icmp .ne 72, 3), (.aload 0, 1), (.iload 1, 1), (.iload 3, 1), (.iload 4, 2), (.invokevirtual 2250408, 3)]
theorem s_Ta_takeTurn_12 : Seg 220 12 g_Ta_takeTurn_12 := seg_of (by decide +kernel)
def g_Ta_takeTurn_72 : List (Instr × Nat) := [(.iload 4, 2), (.ifCond .eq 90, 3), (.aload 0, 1), (.iload 1, 1), (.iload 3, 1), (.aload 0, 1), (.iload 1, 1), (.iload 3, 1), (.invokevirtual 2280308, 3), (.invokevirtual 2260408, 3), (.return_, 1)]
theorem s_Ta_takeTurn_72 : Seg 220 72 g_Ta_takeTurn_72 := seg_of (by decide +kernel)
def g_Ta_takeTurn_90 : List (Instr × Nat) := [(.iinc 3 (1), 3), (.goto 12, 3)]
theorem s_Ta_takeTurn_90 : Seg 220 90 g_Ta_takeTurn_90 := seg_of (by decide +kernel)
def g_Ta_takeTurn_96 : List (Instr × Nat) := [(.return_, 1)]
theorem s_Ta_takeTurn_96 : Seg 220 96 g_Ta_takeTurn_96 := seg_of (by decide +kernel)
/-! Ta maySpeak -/
theorem mk_Ta_maySpeak : 221 < 256 ∧ mtB 221 = true := ⟨by decide, mk_221⟩
def g_Ta_maySpeak_0 : List (Instr × Nat) := [(.aload 0, 1), (.getstatic 2050, 3), (.invokevirtual 2100107, 3), (.aload 0, 1), (.getstatic 2050, 3), (.iconst 97, 2), (.iload 2, 1), (.invokevirtual 2110307, 3), (.aload 0, 1), (.getstatic 2050, 3), (.iconst 107, 2), (.aload 0, 1), (.getstatic 2054, 3), (.iload 1, 1), (.iaload, 1), (.invokevirtual 2110307, 3), (.aload 0, 1), (.getstatic 2050, 3), (.iconst 116, 2), (.aload 0, 1), (.getfield 2060, 3), (.invokevirtual 2110307, 3), (.aload 0, 1), (.getstatic 2050, 3), (.iconst 102, 2), (.aload 0, 1), (.getfield 2063, 3), (.invokevirtual 2110307, 3), (.aload 0, 1), (.getstatic 2050, 3), (.iconst 109, 2), (.aload 0, 1), (.getstatic 2048, 3), (.getfield 261, 3), (.invokevirtual 2110307, 3), (.aload 0, 1), (.getstatic 2050, 3), (.aload 0, 1), (.getstatic 2051, 3), (.getstatic 1034, 3), (.iconst 115, 2), (.invokevirtual 2120307, 3), (.lstore 3, 1), (.lload 3, 1), (.jsr_w (-9223372036854775808), 3), (.lcmp, 1), (.ifCond .ne 117, 3), (.aload 0, 1), (.getstatic 2054, 3), (.iload 1, 1), (.iaload, 1), (.iconst 3, 1), (.if_icmp .ge 113, 3), (.iconst 1, 1), (.goto 128, 3)]
theorem s_Ta_maySpeak_0 : Seg 221 0 g_Ta_maySpeak_0 := seg_of (by decide +kernel)
def g_Ta_maySpeak_113 : List (Instr × Nat) := [(.iconst 0, 1), (.goto 128, 3)]
theorem s_Ta_maySpeak_113 : Seg 221 113 g_Ta_maySpeak_113 := seg_of (by decide +kernel)
def g_Ta_maySpeak_117 : List (Instr × Nat) := [(.lload 3, 1), (.goto_w 0, 1), (.lcmp, 1), (.ifCond .eq 127, 3), (.iconst 1, 1), (.goto 128, 3)]
theorem s_Ta_maySpeak_117 : Seg 221 117 g_Ta_maySpeak_117 := seg_of (by decide +kernel)
def g_Ta_maySpeak_127 : List (Instr × Nat) := [(.iconst 0, 1)]
theorem s_Ta_maySpeak_127 : Seg 221 127 g_Ta_maySpeak_127 := seg_of (by decide +kernel)
def g_Ta_maySpeak_128 : List (Instr × Nat) := [(.ireturn, 1)]
theorem s_Ta_maySpeak_128 : Seg 221 128 g_Ta_maySpeak_128 := seg_of (by decide +kernel)
/-! Ta tellLook -/
theorem mk_Ta_tellLook : 222 < 256 ∧ mtB 222 = true := ⟨by decide, mk_222⟩
def g_Ta_tellLook_0 : List (Instr × Nat) := [(.aload 0, 1), (.getstatic 2051, 3), (.aload 0, 1), (.getfield 2061, 3), (.iload 3, 1), (.invokevirtual 1780304, 3), (.istore 4, 2), (.iload 3, 1), (.iload 4, 2), (.invokeinterface 41 2, 3), (.istore 5, 2), (.aload 0, 1), (.getstatic 2050, 3), (.invokevirtual 2100107, 3), (.aload 0, 1), (.getstatic 2050, 3), (.iconst 104, 2), (.aload 0, 1), (.getstatic 2051, 3), (.iload 1, 1), (.iload 5, 2), (.invokevirtual 1800304, 3), (.invokevirtual 2110307, 3), (.aload 0, 1), (.getstatic 2050, 3), (.iconst 101, 2), (.aload 0, 1), (.iload 1, 1), (.aload 0, 1), (.getstatic 2055, 3), (.iload 5, 2), (.invokevirtual 2230408, 3), (.invokevirtual 2110307, 3), (.aload 0, 1), (.getstatic 2050, 3), (.iconst 111, 2), (.aload 0, 1), (.iload 1, 1), (.aload 0, 1), (.getstatic 2056, 3), (.iload 5, 2), (.invokevirtual 2230408, 3), (.invokevirtual 2110307, 3), (.aload 0, 1), (.getstatic 2050, 3), (.iconst 116, 2), (.aload 0, 1), (.getfield 2060, 3), (.invokevirtual 2110307, 3), (.aload 0, 1), (.getstatic 2050, 3), (.iconst 107, 2), (.aload 0, 1), (.getstatic 2054, 3), (.iload 1, 1), (.iaload, 1), (.invokevirtual 2110307, 3), (.aload 0, 1), (.getstatic 2050, 3), (.iconst 97, 2), (.iload 2, 1), (.invokevirtual 2110307, 3), (.aload 0, 1), (.getstatic 2050, 3), (.iconst 102, 2), (.aload 0, 1), (.getfield 2063, 3), (.invokevirtual 2110307, 3), (.aload 0, 1), (.getstatic 2050, 3), (.iconst 113, 2), (.iload 3, 1), (.invokevirtual 2110307, 3), (.aload 0, 1), (.getstatic 2050, 3), (.iconst 119, 2), (.iload 4, 2), (.invokevirtual 2110307, 3), (.aload 0, 1), (.getstatic 2050, 3), (.iconst 103, 2), (.aload 0, 1), (.getstatic 2052, 3), (.iload 1, 1), (.iaload, 1), (.invokevirtual 2110307, 3), (.return_, 1)]
theorem s_Ta_tellLook_0 : Seg 222 0 g_Ta_tellLook_0 := seg_of (by decide +kernel)
/-! Ta heedFor -/
theorem mk_Ta_heedFor : 223 < 256 ∧ mtB 223 = true := ⟨by decide, mk_223⟩
def g_Ta_heedFor_0 : List (Instr × Nat) := [(.iconst 0, 1), (.istore 4, 2), (.iconst 0, 1), (.istore 5, 2)]
theorem s_Ta_heedFor_0 : Seg 223 0 g_Ta_heedFor_0 := seg_of (by decide +kernel)
def g_Ta_heedFor_6 : List (Instr × Nat) := [(.iload 5, 2), (.iconst 8, 2), (.if_icmp .ge 47, 3), (.aload 2, 1), (.iload 5, 2), (.iaload, 1), (.iload 3, 1), (.ishr, 1), (.iconst 1, 1), (.iand, 1), (.ifCond .eq 41, 3), (.iload 4, 2), (.aload 0, 1), (.getstatic 2048, 3), (.getstatic 257, 3), (.iload 1, 1), (.aaload, 1), (.iload 5, 2), (.iaload, 1), (.iadd, 1), (.istore 4, 2)]
theorem s_Ta_heedFor_6 : Seg 223 6 g_Ta_heedFor_6 := seg_of (by decide +kernel)
def g_Ta_heedFor_41 : List (Instr × Nat) := [(.iinc 5 (1), 3), (.goto 6, 3)]
theorem s_Ta_heedFor_41 : Seg 223 41 g_Ta_heedFor_41 := seg_of (by decide +kernel)
def g_Ta_heedFor_47 : List (Instr × Nat) := [(.iload 4, 2), (.ireturn, 1)]
theorem s_Ta_heedFor_47 : Seg 223 47 g_Ta_heedFor_47 := seg_of (by decide +kernel)
/-! Ta isNo -/
theorem mk_Ta_isNo : 224 < 256 ∧ mtB 224 = true := ⟨by decide, mk_224⟩
def g_Ta_isNo_0 : List (Instr × Nat) := [(.lload 1, 1), (.jsr_w (-9223372036854775808), 3), (.lcmp, 1), (.ifCond .eq 20, 3), (.lload 1, 1), (.goto_w 0, 1), (.lcmp, 1), (.ifCond .eq 18, 3), (.iconst 1, 1), (.goto 19, 3)]
theorem s_Ta_isNo_0 : Seg 224 0 g_Ta_isNo_0 := seg_of (by decide +kernel)
def g_Ta_isNo_18 : List (Instr × Nat) := [(.iconst 0, 1)]
theorem s_Ta_isNo_18 : Seg 224 18 g_Ta_isNo_18 := seg_of (by decide +kernel)
def g_Ta_isNo_19 : List (Instr × Nat) := [(.ireturn, 1)]
theorem s_Ta_isNo_19 : Seg 224 19 g_Ta_isNo_19 := seg_of (by decide +kernel)
def g_Ta_isNo_20 : List (Instr × Nat) := [(.aload 0, 1), (.getstatic 2051, 3), (.iload 3, 1), (.iload 4, 2), (.aload 0, 1), (.getstatic 2051, 3), (.aload 0, 1), (.getfield 2061, 3), (.iload 4, 2), (.invokevirtual 1780304, 3), (.invokeinterface 41 2, 3), (.aload 0, 1), (.getstatic 2051, 3), (.getstatic 1026, 3), (.aload 0, 1), (.getfield 2061, 3), (.iaload, 1), (.invokevirtual 1830404, 3), (.ireturn, 1)]
theorem s_Ta_isNo_20 : Seg 224 20 g_Ta_isNo_20 := seg_of (by decide +kernel)
/-! Ta sift -/
theorem mk_Ta_sift : 225 < 256 ∧ mtB 225 = true := ⟨by decide, mk_225⟩
def g_Ta_sift_0 : List (Instr × Nat) := [(.iconst 0, 1), (.istore 4, 2)]
theorem s_Ta_sift_0 : Seg 225 0 g_Ta_sift_0 := seg_of (by decide +kernel)
def g_Ta_sift_3 : List (Instr × Nat) := [(.iload 4, 2), (.iconst 8, 2), (.if_icmp .ge 69, 3), (.aload 0, 1), (.getfield 2066, 3), (.iload 4, 2), (.ishr, 1), (.iconst 1, 1), (.iand, 1), (.ifCond .eq 63, 3), (.aload 0, 1), (.aload 0, 1), (.getstatic 2050, 3), (.aload 0, 1), (.getstatic 2049, 3), (.iload 4, 2), (.aaload, 1), (.iconst 110, 2), (.invokevirtual 2120307, 3), (.iload 1, 1), (.iload 2, 1), (.invokevirtual 2240408, 3), (.iload 3, 1), (.if_icmp .eq 63, 3), (.aload 0, 1), (.dup, 1), (.getfield 2066, 3), (.iconst 1, 1), (.iload 4, 2), (.ishl, 1), (.iconst (-1), 1), (.ixor, 1), (.iand, 1), (.putfield 2066, 3)]
theorem s_Ta_sift_3 : Seg 225 3 g_Ta_sift_3 := seg_of (by decide +kernel)
def g_Ta_sift_63 : List (Instr × Nat) := [(.iinc 4 (1), 3), (.goto 3, 3)]
theorem s_Ta_sift_63 : Seg 225 63 g_Ta_sift_63 := seg_of (by decide +kernel)
def g_Ta_sift_69 : List (Instr × Nat) := [(.return_, 1)]
theorem s_Ta_sift_69 : Seg 225 69 g_Ta_sift_69 := seg_of (by decide +kernel)
/-! Ta speak -/
theorem mk_Ta_speak : 226 < 256 ∧ mtB 226 = true := ⟨by decide, mk_226⟩
def g_Ta_speak_0 : List (Instr × Nat) := [(.aload 0, 1), (.getstatic 2051, 3), (.aload 0, 1), (.getfield 2061, 3), (.iload 2, 1), (.invokevirtual 1780304, 3), (.istore 4, 2), (.aload 0, 1), (.getfield 2062, 3), (.iconst 5, 1), (.imul, 1), (.istore 5, 2), (.iload 5, 2), (.iconst 5, 1), (.iadd, 1), (.aload 0, 1), (.getstatic 2053, 3), (.arraylength, 1), (.if_icmp .gt 96, 3), (.aload 0, 1), (.getstatic 2053, 3), (.iload 5, 2), (.iload 1, 1), (.iastore, 1), (.aload 0, 1), (.getstatic 2053, 3), (.iload 5, 2), (.iconst 1, 1), (.iadd, 1), (.aload 0, 1), (.getfield 2060, 3), (.iastore, 1), (.aload 0, 1), (.getstatic 2053, 3), (.iload 5, 2), (.iconst 2, 1), (.iadd, 1), (.iload 2, 1), (.iastore, 1), (.aload 0, 1), (.getstatic 2053, 3), (.iload 5, 2), (.iconst 3, 1), (.iadd, 1), (.iload 4, 2), (.iastore, 1), (.aload 0, 1), (.getstatic 2053, 3), (.iload 5, 2), (.iconst 4, 1), (.iadd, 1), (.iload 3, 1), (.iastore, 1), (.aload 0, 1), (.dup, 1), (.getfield 2062, 3), (.iconst 1, 1), (.iadd, 1), (.putfield 2062, 3)]
theorem s_Ta_speak_0 : Seg 226 0 g_Ta_speak_0 := seg_of (by decide +kernel)
def g_Ta_speak_96 : List (Instr × Nat) := [(.aload 0, 1), (.aload 0, 1), (.getstatic 2056, 3), (.iload 1, 1), (.iload 2, 1), (.iload 4, 2), (.invokeinterface 41 2, 3), (.invokevirtual 2270408, 3), (.aload 0, 1), (.aload 0, 1), (.getstatic 2055, 3), (.iload 1, 1), (.iload 2, 1), (.iload 3, 1), (.invokeinterface 41 2, 3), (.invokevirtual 2270408, 3), (.aload 0, 1), (.aload 0, 1), (.getstatic 2051, 3), (.aload 0, 1), (.getfield 2061, 3), (.iload 2, 1), (.iload 3, 1), (.invokevirtual 1790404, 3), (.putfield 2061, 3), (.aload 0, 1), (.getstatic 2054, 3), (.iload 1, 1), (.dup2, 1), (.iaload, 1), (.iconst 1, 1), (.iadd, 1), (.iastore, 1), (.aload 0, 1), (.dup, 1), (.getfield 2063, 3), (.iconst 1, 1), (.iadd, 1), (.putfield 2063, 3), (.return_, 1)]
theorem s_Ta_speak_96 : Seg 226 96 g_Ta_speak_96 := seg_of (by decide +kernel)
/-! Ta noteSaid -/
theorem mk_Ta_noteSaid : 227 < 256 ∧ mtB 227 = true := ⟨by decide, mk_227⟩
def g_Ta_noteSaid_0 : List (Instr × Nat) := [(.aload 1, 1), (.iload 2, 1), (.iaload, 1), (.iload 3, 1), (.ishr, 1), (.iconst 1, 1), (.iand, 1), (.ifCond .ne 27, 3), (.aload 1, 1), (.iload 2, 1), (.dup2, 1), (.iaload, 1), (.iconst 1, 1), (.iload 3, 1), (.ishl, 1), (.ior, 1), (.iastore, 1), (.aload 0, 1), (.aload 0, 1), (.getfield 2062, 3), (.putfield 2064, 3)]
theorem s_Ta_noteSaid_0 : Seg 227 0 g_Ta_noteSaid_0 := seg_of (by decide +kernel)
def g_Ta_noteSaid_27 : List (Instr × Nat) := [(.return_, 1)]
theorem s_Ta_noteSaid_27 : Seg 227 27 g_Ta_noteSaid_27 := seg_of (by decide +kernel)
/-! Ta wayInstead -/
theorem mk_Ta_wayInstead : 228 < 256 ∧ mtB 228 = true := ⟨by decide, mk_228⟩
def g_Ta_wayInstead_0 : List (Instr × Nat) := [(.aload 0, 1), (.getstatic 2051, 3), (.aload 0, 1), (.getfield 2061, 3), (.iload 2, 1), (.invokevirtual 1780304, 3), (.istore 3, 1), (.aload 0, 1), (.getstatic 2050, 3), (.aload 0, 1), (.getstatic 2048, 3), (.getstatic 258, 3), (.iload 1, 1), (.aaload, 1), (.iconst 99, 2), (.invokevirtual 2120307, 3), (.lstore 4, 2), (.lload 4, 2), (.goto_w 0, 1), (.lcmp, 1), (.ifCond .lt 66, 3), (.lload 4, 2), (.aload 0, 1), (.getstatic 2051, 3), (.getfield 1025, 3), (.i2l, 1), (.lcmp, 1), (.ifCond .ge 66, 3), (.lload 4, 2), (.iload 3, 1), (.i2l, 1), (.lcmp, 1), (.ifCond .eq 66, 3), (.lload 4, 2), (.l2i, 1), (.ireturn, 1)]
theorem s_Ta_wayInstead_0 : Seg 228 0 g_Ta_wayInstead_0 := seg_of (by decide +kernel)
def g_Ta_wayInstead_66 : List (Instr × Nat) := [(.iconst (-1), 1), (.istore 6, 2), (.iconst (-1), 1), (.istore 7, 2), (.iconst 0, 1), (.istore 8, 2)]
theorem s_Ta_wayInstead_66 : Seg 228 66 g_Ta_wayInstead_66 := seg_of (by decide +kernel)
def g_Ta_wayInstead_75 : List (Instr × Nat) := [(.iload 8, 2), (.aload 0, 1), (.getstatic 2051, 3), (.getfield 1025, 3), (.if_icmp .ge 130, 3), (.aload 0, 1), (.getstatic 2051, 3), (.iload 1, 1), (.iload 2, 1), (.iload 8, 2), (.invokeinterface 41 2, 3), (.invokevirtual 1800304, 3), (.istore 9, 2), (.iload 8, 2), (.iload 3, 1), (.if_icmp .eq 124, 3), (.iload 9, 2), (.iload 7, 2), (.if_icmp .le 124, 3), (.iload 9, 2), (.istore 7, 2), (.iload 8, 2), (.istore 6, 2)]
theorem s_Ta_wayInstead_75 : Seg 228 75 g_Ta_wayInstead_75 := seg_of (by decide +kernel)
def g_Ta_wayInstead_124 : List (Instr × Nat) := [(.iinc 8 (1), 3), (.goto 75, 3)]
theorem s_Ta_wayInstead_124 : Seg 228 124 g_Ta_wayInstead_124 := seg_of (by decide +kernel)
def g_Ta_wayInstead_130 : List (Instr × Nat) := [(.iload 6, 2), (.ireturn, 1)]
theorem s_Ta_wayInstead_130 : Seg 228 130 g_Ta_wayInstead_130 := seg_of (by decide +kernel)
/-! Ta restsWith -/
theorem mk_Ta_restsWith : 229 < 256 ∧ mtB 229 = true := ⟨by decide, mk_229⟩
def g_Ta_restsWith_0 : List (Instr × Nat) := [(.aload 0, 1), (.getfield 2059, 3), (.ifCond .ne 37, 3), (.aload 0, 1), (.getstatic 2051, 3), (.ifnull 37, 3), (.aload 0, 1), (.getstatic 2051, 3), (.getstatic 1026, 3), (.aload 0, 1), (.getfield 2061, 3), (.iaload, 1), (.iload 1, 1), (.ishr, 1), (.iconst 1, 1), (.iand, 1), (.ifCond .eq 37, 3), (.iconst 1, 1), (.goto 38, 3)]
theorem s_Ta_restsWith_0 : Seg 229 0 g_Ta_restsWith_0 := seg_of (by decide +kernel)
def g_Ta_restsWith_37 : List (Instr × Nat) := [(.iconst 0, 1)]
theorem s_Ta_restsWith_37 : Seg 229 37 g_Ta_restsWith_37 := seg_of (by decide +kernel)
def g_Ta_restsWith_38 : List (Instr × Nat) := [(.ireturn, 1)]
theorem s_Ta_restsWith_38 : Seg 229 38 g_Ta_restsWith_38 := seg_of (by decide +kernel)
/-! Ta lastSaid -/
theorem mk_Ta_lastSaid : 230 < 256 ∧ mtB 230 = true := ⟨by decide, mk_230⟩
def g_Ta_lastSaid_0 : List (Instr × Nat) := [(.iload 4, 2), (.istore 5, 2), (.iconst 0, 1), (.istore 6, 2)]
theorem s_Ta_lastSaid_0 : Seg 230 0 g_Ta_lastSaid_0 := seg_of (by decide +kernel)
def g_Ta_lastSaid_7 : List (Instr × Nat) := [(.iload 6, 2), (.aload 0, 1), (.getfield 2062, 3), (.if_icmp .ge 87, 3), (.iload 6, 2), (.iconst 5, 1), (.imul, 1), (.istore 7, 2), (.aload 0, 1), (.getstatic 2053, 3), (.iload 7, 2), (.iaload, 1), (.iload 1, 1), (.if_icmp .ne 81, 3), (.aload 0, 1), (.getstatic 2053, 3), (.iload 7, 2), (.iconst 2, 1), (.iadd, 1), (.iaload, 1), (.iload 2, 1), (.if_icmp .ne 81, 3), (.aload 0, 1), (.getstatic 2053, 3), (.iload 7, 2), (.iconst 3, 1), (.iadd, 1), (.iaload, 1), (.iload 3, 1), (.if_icmp .ne 65, 3), (.iconst 0, 1), (.istore 5, 2), (.goto 81, 3)]
theorem s_Ta_lastSaid_7 : Seg 230 7 g_Ta_lastSaid_7 := seg_of (by decide +kernel)
def g_Ta_lastSaid_65 : List (Instr × Nat) := [(.aload 0, 1), (.getstatic 2053, 3), (.iload 7, 2), (.iconst 4, 1), (.iadd, 1), (.iaload, 1), (.iload 3, 1), (.if_icmp .ne 81, 3), (.iconst 2, 1), (.istore 5, 2)]
theorem s_Ta_lastSaid_65 : Seg 230 65 g_Ta_lastSaid_65 := seg_of (by decide +kernel)
def g_Ta_lastSaid_81 : List (Instr × Nat) := [(.iinc 6 (1), 3), (.goto 7, 3)]
theorem s_Ta_lastSaid_81 : Seg 230 81 g_Ta_lastSaid_81 := seg_of (by decide +kernel)
def g_Ta_lastSaid_87 : List (Instr × Nat) := [(.iload 5, 2), (.ireturn, 1)]
theorem s_Ta_lastSaid_87 : Seg 230 87 g_Ta_lastSaid_87 := seg_of (by decide +kernel)
/-! Ta nosWithoutNeed -/
theorem mk_Ta_nosWithoutNeed : 231 < 256 ∧ mtB 231 = true := ⟨by decide, mk_231⟩
def g_Ta_nosWithoutNeed_0 : List (Instr × Nat) := [(.iconst 0, 1), (.istore 2, 1), (.aload 0, 1), (.getstatic 2051, 3), (.ifnonnull 13, 3), (.iconst 0, 1), (.goto 20, 3)]
theorem s_Ta_nosWithoutNeed_0 : Seg 231 0 g_Ta_nosWithoutNeed_0 := seg_of (by decide +kernel)
def g_Ta_nosWithoutNeed_13 : List (Instr × Nat) := [(.aload 0, 1), (.getstatic 2051, 3), (.getfield 1033, 3)]
theorem s_Ta_nosWithoutNeed_13 : Seg 231 13 g_Ta_nosWithoutNeed_13 := seg_of (by decide +kernel)
def g_Ta_nosWithoutNeed_20 : List (Instr × Nat) := [(.istore 3, 1), (.iconst 0, 1), (.istore 4, 2)]
theorem s_Ta_nosWithoutNeed_20 : Seg 231 20 g_Ta_nosWithoutNeed_20 := seg_of (by decide +kernel)
def g_Ta_nosWithoutNeed_24 : List (Instr × Nat) := [(.aload 0, 1), (.getstatic 2051, 3), (.ifnull 138, 3), (.iload 4, 2), (.aload 0, 1), (.getfield 2062, 3), (.if_icmp .ge 138, 3), (.iload 4, 2), (.iconst 5, 1), (.imul, 1), (.istore 5, 2), (.aload 0, 1), (.getstatic 2053, 3), (.iload 5, 2), (.iconst 2, 1), (.iadd, 1), (.iaload, 1), (.aload 0, 1), (.getstatic 2053, 3), (.iload 5, 2), (.iconst 3, 1), (.iadd, 1), (.iaload, 1), (.invokeinterface 41 2, 3), (.istore 6, 2), (.aload 0, 1), (.getstatic 2053, 3), (.iload 5, 2), (.iaload, 1), (.iload 1, 1), (.if_icmp .ne 105, 3), (.aload 0, 1), (.getstatic 2051, 3), (.iload 1, 1), (.iload 6, 2), (.aload 0, 1), (.getstatic 2051, 3), (.getstatic 1026, 3), (.iload 3, 1), (.iaload, 1), (.invokevirtual 1830404, 3), (.ifCond .ne 105, 3), (.iinc 2 (1), 3)]
theorem s_Ta_nosWithoutNeed_24 : Seg 231 24 g_Ta_nosWithoutNeed_24 := seg_of (by decide +kernel)
def g_Ta_nosWithoutNeed_105 : List (Instr × Nat) := [(.aload 0, 1), (.getstatic 2051, 3), (.iload 3, 1), (.aload 0, 1), (.getstatic 2053, 3), (.iload 5, 2), (.iconst 2, 1), (.iadd, 1), (.iaload, 1), (.aload 0, 1), (.getstatic 2053, 3), (.iload 5, 2), (.iconst 4, 1), (.iadd, 1), (.iaload, 1), (.invokevirtual 1790404, 3), (.istore 3, 1), (.iinc 4 (1), 3), (.goto 24, 3)]
theorem s_Ta_nosWithoutNeed_105 : Seg 231 105 g_Ta_nosWithoutNeed_105 := seg_of (by decide +kernel)
def g_Ta_nosWithoutNeed_138 : List (Instr × Nat) := [(.iload 2, 1), (.ireturn, 1)]
theorem s_Ta_nosWithoutNeed_138 : Seg 231 138 g_Ta_nosWithoutNeed_138 := seg_of (by decide +kernel)
/-! Ta leansIn -/
theorem mk_Ta_leansIn : 232 < 256 ∧ mtB 232 = true := ⟨by decide, mk_232⟩
def g_Ta_leansIn_0 : List (Instr × Nat) := [(.iconst 0, 1), (.istore 3, 1), (.iconst 0, 1), (.istore 4, 2)]
theorem s_Ta_leansIn_0 : Seg 232 0 g_Ta_leansIn_0 := seg_of (by decide +kernel)
def g_Ta_leansIn_5 : List (Instr × Nat) := [(.iload 4, 2), (.iconst 4, 1), (.if_icmp .ge 32, 3), (.iload 3, 1), (.aload 0, 1), (.iload 1, 1), (.iload 4, 2), (.invokeinterface 41 2, 3), (.invokevirtual 2330208, 3), (.fadd, 3), (.istore 3, 1), (.iinc 4 (1), 3), (.goto 5, 3)]
theorem s_Ta_leansIn_5 : Seg 232 5 g_Ta_leansIn_5 := seg_of (by decide +kernel)
def g_Ta_leansIn_32 : List (Instr × Nat) := [(.aload 0, 1), (.iload 1, 1), (.iload 2, 1), (.invokeinterface 41 2, 3), (.invokevirtual 2330208, 3), (.iload 3, 1), (.if_icmp .ge 49, 3), (.iconst 1, 1), (.goto 50, 3)]
theorem s_Ta_leansIn_32 : Seg 232 32 g_Ta_leansIn_32 := seg_of (by decide +kernel)
def g_Ta_leansIn_49 : List (Instr × Nat) := [(.iconst 0, 1)]
theorem s_Ta_leansIn_49 : Seg 232 49 g_Ta_leansIn_49 := seg_of (by decide +kernel)
def g_Ta_leansIn_50 : List (Instr × Nat) := [(.ireturn, 1)]
theorem s_Ta_leansIn_50 : Seg 232 50 g_Ta_leansIn_50 := seg_of (by decide +kernel)
/-! Ta voicesFor -/
theorem mk_Ta_voicesFor : 233 < 256 ∧ mtB 233 = true := ⟨by decide, mk_233⟩
def g_Ta_voicesFor_0 : List (Instr × Nat) := [(.iconst 0, 1), (.istore 2, 1), (.iconst 0, 1), (.istore 3, 1)]
theorem s_Ta_voicesFor_0 : Seg 233 0 g_Ta_voicesFor_0 := seg_of (by decide +kernel)
def g_Ta_voicesFor_4 : List (Instr × Nat) := [(.iload 3, 1), (.iconst 8, 2), (.if_icmp .ge 29, 3), (.iload 2, 1), (.aload 0, 1), (.getstatic 2055, 3), (.iload 3, 1), (.iaload, 1), (.iload 1, 1), (.ishr, 1), (.iconst 1, 1), (.iand, 1), (.iadd, 1), (.istore 2, 1), (.iinc 3 (1), 3), (.goto 4, 3)]
theorem s_Ta_voicesFor_4 : Seg 233 4 g_Ta_voicesFor_4 := seg_of (by decide +kernel)
def g_Ta_voicesFor_29 : List (Instr × Nat) := [(.iload 2, 1), (.ireturn, 1)]
theorem s_Ta_voicesFor_29 : Seg 233 29 g_Ta_voicesFor_29 := seg_of (by decide +kernel)
/-! Tp init -/
theorem mk_Tp_init : 234 < 256 ∧ mtB 234 = true := ⟨by decide, mk_234⟩
def g_Tp_init_0 : List (Instr × Nat) := [(.aload 0, 1), (.nop, 3), (.aload 0, 1), (.iconst 180, 3), (.newarray .int, 2), (.putstatic 2304, 3), (.return_, 1)]
theorem s_Tp_init_0 : Seg 234 0 g_Tp_init_0 := seg_of (by decide +kernel)
/-! Tp add -/
theorem mk_Tp_add : 235 < 256 ∧ mtB 235 = true := ⟨by decide, mk_235⟩
def g_Tp_add_0 : List (Instr × Nat) := [(.aload 0, 1), (.getfield 2305, 3), (.istore 6, 2), (.aload 0, 1), (.iload 1, 1), (.invokevirtual 2360209, 3), (.aload 0, 1), (.iload 2, 1), (.invokevirtual 2360209, 3), (.aload 0, 1), (.iload 3, 1), (.invokevirtual 2360209, 3), (.aload 0, 1), (.iload 4, 2), (.invokevirtual 2360209, 3), (.aload 0, 1), (.iload 5, 2), (.invokevirtual 2360209, 3), (.aload 0, 1), (.getfield 2305, 3), (.iconst 160, 3), (.if_icmp .le 51, 3), (.aload 0, 1), (.iload 6, 2), (.putfield 2305, 3), (.iconst (-1), 1), (.ireturn, 1)]
theorem s_Tp_add_0 : Seg 235 0 g_Tp_add_0 := seg_of (by decide +kernel)
def g_Tp_add_51 : List (Instr × Nat) := [(.aload 0, 1), (.getfield 2305, 3), (.ireturn, 1)]
theorem s_Tp_add_51 : Seg 235 51 g_Tp_add_51 := seg_of (by decide +kernel)
/-! Tp put -/
theorem mk_Tp_put : 236 < 256 ∧ mtB 236 = true := ⟨by decide, mk_236⟩
def g_Tp_put_0 : List (Instr × Nat) := [(.iconst 24, 2), (.istore 2, 1)]
theorem s_Tp_put_0 : Seg 236 0 g_Tp_put_0 := seg_of (by decide +kernel)
def g_Tp_put_3 : List (Instr × Nat) := [(.iload 2, 1), (.ifCond .lt 57, 3), (.iload 1, 1), (.iload 2, 1), (.ishr, 1), (.iconst 255, 3), (.iand, 1), (.istore 3, 1), (.iload 3, 1), (.ifCond .eq 51, 3), (.aload 0, 1), (.getfield 2305, 3), (.aload 0, 1), (.getstatic 2304, 3), (.arraylength, 1), (.if_icmp .ge 51, 3), (.aload 0, 1), (.getstatic 2304, 3), (.aload 0, 1), (.getfield 2305, 3), (.iload 3, 1), (.iastore, 1), (.aload 0, 1), (.dup, 1), (.getfield 2305, 3), (.iconst 1, 1), (.iadd, 1), (.putfield 2305, 3)]
theorem s_Tp_put_3 : Seg 236 3 g_Tp_put_3 := seg_of (by decide +kernel)
def g_Tp_put_51 : List (Instr × Nat) := [(.iinc 2 (-8), 3), (.goto 3, 3)]
theorem s_Tp_put_51 : Seg 236 51 g_Tp_put_51 := seg_of (by decide +kernel)
def g_Tp_put_57 : List (Instr × Nat) := [(.return_, 1)]
theorem s_Tp_put_57 : Seg 236 57 g_Tp_put_57 := seg_of (by decide +kernel)
/-! Te init -/
theorem mk_Te_init : 237 < 256 ∧ mtB 237 = true := ⟨by decide, mk_237⟩
def g_Te_init_0 : List (Instr × Nat) := [(.aload 0, 1), (.nop, 3), (.aload 0, 1), (.aload 1, 1), (.putstatic 2560, 3), (.aload 0, 1), (.aload 2, 1), (.putstatic 2561, 3), (.return_, 1)]
theorem s_Te_init_0 : Seg 237 0 g_Te_init_0 := seg_of (by decide +kernel)
/-! L worth -/
theorem mk_L_worth : 238 < 256 ∧ mtB 238 = true := ⟨by decide, mk_238⟩
def g_L_worth_0 : List (Instr × Nat) := [(.aload 8, 2), (.iconst 0, 1), (.aload 0, 1), (.iload 1, 1), (.iload 2, 1), (.iload 3, 1), (.iload 4, 2), (.iload 5, 2), (.iload 6, 2), (.iload 7, 2), (.invokedynamic 19008023, 3), (.i2l, 1), (.lastore, 1), (.goto 27, 3)]
theorem s_L_worth_0 : Seg 238 0 g_L_worth_0 := seg_of (by decide +kernel)
def g_L_worth_25 : List (Instr × Nat) := [(.iconst 1, 1), (.ireturn, 1)]
theorem s_L_worth_25 : Seg 238 25 g_L_worth_25 := seg_of (by decide +kernel)
def g_L_worth_27 : List (Instr × Nat) := [(.iconst 0, 1), (.ireturn, 1)]
theorem s_L_worth_27 : Seg 238 27 g_L_worth_27 := seg_of (by decide +kernel)
/-! L said -/
theorem mk_L_said : 239 < 256 ∧ mtB 239 = true := ⟨by decide, mk_239⟩
def g_L_said_0 : List (Instr × Nat) := [(.aload 4, 2), (.iconst 0, 1), (.aload 0, 1), (.iload 1, 1), (.iload 2, 1), (.iload 3, 1), (.invokedynamic 22004015, 3), (.i2l, 1), (.lastore, 1), (.goto 19, 3)]
theorem s_L_said_0 : Seg 239 0 g_L_said_0 := seg_of (by decide +kernel)
def g_L_said_17 : List (Instr × Nat) := [(.iconst 1, 1), (.ireturn, 1)]
theorem s_L_said_17 : Seg 239 17 g_L_said_17 := seg_of (by decide +kernel)
def g_L_said_19 : List (Instr × Nat) := [(.iconst 0, 1), (.ireturn, 1)]
theorem s_L_said_19 : Seg 239 19 g_L_said_19 := seg_of (by decide +kernel)
/-! L law -/
def g_L_law_0 : List (Instr × Nat) := [(.new 11, 3), (.dup, 1), (.invokevirtual 111, 3), (.astore 1, 1), (.new 12, 3), (.dup, 1), (.invokevirtual 480112, 3), (.astore 2, 1), (.iconst 1, 1), (.newarray .long, 2), (.astore 3, 1), (.iconst 0, 1), (.istore 4, 2)]
theorem s_L_law_0 : Seg 240 0 g_L_law_0 := seg_of (by decide +kernel)
def g_L_law_23 : List (Instr × Nat) := [(.iload 4, 2), (.aload 0, 1), (.arraylength, 1), (.iconst 8, 2), (.isub, 1), (.if_icmp .gt 2210, 3), (.aload 0, 1), (.iload 4, 2), (.iaload, 1), (.iconst 63, 2), (.iand, 1), (.tableswitch 2204 0 39 #[216, 241, 294, 319, 368, 405, 478, 539, 600, 687, 736, 785, 858, 883, 908, 921, 934, 971, 1008, 1140, 1177, 1214, 1294, 1367, 1420, 1457, 1482, 1507, 1532, 1633, 1670, 1707, 1810, 1883, 1970, 2019, 2056, 2105, 2142, 2179], 176)]
theorem s_L_law_23 : Seg 240 23 g_L_law_23 := seg_of (by decide +kernel)
def g_L_law_216 : List (Instr × Nat) := [(.aload 1, 1), (.aload 0, 1), (.iload 4, 2), (.iconst 1, 1), (.iadd, 1), (.iaload, 1), (.invokevirtual 10211, 3), (.aload 2, 1), (.aload 0, 1), (.iload 4, 2), (.iconst 1, 1), (.iadd, 1), (.iaload, 1), (.invokevirtual 550212, 3), (.if_icmp .eq 2204, 3), (.iconst 0, 1), (.ireturn, 1)]
theorem s_L_law_216 : Seg 240 216 g_L_law_216 := seg_of (by decide +kernel)
def g_L_law_241 : List (Instr × Nat) := [(.aload 1, 1), (.aload 0, 1), (.iload 4, 2), (.iconst 1, 1), (.iadd, 1), (.iaload, 1), (.aload 0, 1), (.iload 4, 2), (.iconst 2, 1), (.iadd, 1), (.iaload, 1), (.ifCond .eq 261, 3), (.iconst 1, 1), (.goto 262, 3)]
theorem s_L_law_241 : Seg 240 241 g_L_law_241 := seg_of (by decide +kernel)
def g_L_law_261 : List (Instr × Nat) := [(.iconst 0, 1)]
theorem s_L_law_261 : Seg 240 261 g_L_law_261 := seg_of (by decide +kernel)
def g_L_law_262 : List (Instr × Nat) := [(.invokevirtual 20311, 3), (.aload 2, 1), (.aload 0, 1), (.iload 4, 2), (.iconst 1, 1), (.iadd, 1), (.iaload, 1), (.aload 0, 1), (.iload 4, 2), (.iconst 2, 1), (.iadd, 1), (.iaload, 1), (.ifCond .eq 285, 3), (.iconst 1, 1), (.goto 286, 3)]
theorem s_L_law_262 : Seg 240 262 g_L_law_262 := seg_of (by decide +kernel)
def g_L_law_285 : List (Instr × Nat) := [(.iconst 0, 1)]
theorem s_L_law_285 : Seg 240 285 g_L_law_285 := seg_of (by decide +kernel)
def g_L_law_286 : List (Instr × Nat) := [(.invokevirtual 560312, 3), (.if_icmp .eq 2204, 3), (.iconst 0, 1), (.ireturn, 1)]
theorem s_L_law_286 : Seg 240 286 g_L_law_286 := seg_of (by decide +kernel)
def g_L_law_294 : List (Instr × Nat) := [(.aload 1, 1), (.aload 0, 1), (.iload 4, 2), (.iconst 1, 1), (.iadd, 1), (.iaload, 1), (.invokevirtual 30211, 3), (.aload 2, 1), (.aload 0, 1), (.iload 4, 2), (.iconst 1, 1), (.iadd, 1), (.iaload, 1), (.invokevirtual 580212, 3), (.if_icmp .eq 2204, 3), (.iconst 0, 1), (.ireturn, 1)]
theorem s_L_law_294 : Seg 240 294 g_L_law_294 := seg_of (by decide +kernel)
def g_L_law_319 : List (Instr × Nat) := [(.aload 1, 1), (.aload 0, 1), (.iload 4, 2), (.iconst 1, 1), (.iadd, 1), (.iaload, 1), (.aload 0, 1), (.iload 4, 2), (.iconst 2, 1), (.iadd, 1), (.iaload, 1), (.aload 0, 1), (.iload 4, 2), (.iconst 3, 1), (.iadd, 1), (.iaload, 1), (.invokevirtual 40411, 3), (.aload 2, 1), (.aload 0, 1), (.iload 4, 2), (.iconst 1, 1), (.iadd, 1), (.iaload, 1), (.aload 0, 1), (.iload 4, 2), (.iconst 2, 1), (.iadd, 1), (.iaload, 1), (.aload 0, 1), (.iload 4, 2), (.iconst 3, 1), (.iadd, 1), (.iaload, 1), (.invokevirtual 590412, 3), (.if_icmp .eq 2204, 3), (.iconst 0, 1), (.ireturn, 1)]
theorem s_L_law_319 : Seg 240 319 g_L_law_319 := seg_of (by decide +kernel)
def g_L_law_368 : List (Instr × Nat) := [(.aload 1, 1), (.aload 0, 1), (.iload 4, 2), (.iconst 1, 1), (.iadd, 1), (.iaload, 1), (.aload 0, 1), (.iload 4, 2), (.iconst 2, 1), (.iadd, 1), (.iaload, 1), (.invokevirtual 50311, 3), (.aload 2, 1), (.aload 0, 1), (.iload 4, 2), (.iconst 1, 1), (.iadd, 1), (.iaload, 1), (.aload 0, 1), (.iload 4, 2), (.iconst 2, 1), (.iadd, 1), (.iaload, 1), (.invokevirtual 600312, 3), (.if_icmp .eq 2204, 3), (.iconst 0, 1), (.ireturn, 1)]
theorem s_L_law_368 : Seg 240 368 g_L_law_368 := seg_of (by decide +kernel)
def g_L_law_405 : List (Instr × Nat) := [(.aload 1, 1), (.aload 0, 1), (.iload 4, 2), (.iconst 1, 1), (.iadd, 1), (.iaload, 1), (.aload 0, 1), (.iload 4, 2), (.iconst 2, 1), (.iadd, 1), (.iaload, 1), (.aload 0, 1), (.iload 4, 2), (.iconst 3, 1), (.iadd, 1), (.iaload, 1), (.aload 0, 1), (.iload 4, 2), (.iconst 4, 1), (.iadd, 1), (.iaload, 1), (.aload 0, 1), (.iload 4, 2), (.iconst 5, 1), (.iadd, 1), (.iaload, 1), (.invokevirtual 60611, 3), (.aload 2, 1), (.aload 0, 1), (.iload 4, 2), (.iconst 1, 1), (.iadd, 1), (.iaload, 1), (.aload 0, 1), (.iload 4, 2), (.iconst 2, 1), (.iadd, 1), (.iaload, 1), (.aload 0, 1), (.iload 4, 2), (.iconst 3, 1), (.iadd, 1), (.iaload, 1), (.aload 0, 1), (.iload 4, 2), (.iconst 4, 1), (.iadd, 1), (.iaload, 1), (.aload 0, 1), (.iload 4, 2), (.iconst 5, 1), (.iadd, 1), (.iaload, 1), (.invokevirtual 620612, 3), (.if_icmp .eq 2204, 3), (.iconst 0, 1), (.ireturn, 1)]
theorem s_L_law_405 : Seg 240 405 g_L_law_405 := seg_of (by decide +kernel)
def g_L_law_478 : List (Instr × Nat) := [(.aload 1, 1), (.aload 0, 1), (.iload 4, 2), (.iconst 1, 1), (.iadd, 1), (.iaload, 1), (.aload 0, 1), (.iload 4, 2), (.iconst 2, 1), (.iadd, 1), (.iaload, 1), (.aload 0, 1), (.iload 4, 2), (.iconst 3, 1), (.iadd, 1), (.iaload, 1), (.aload 0, 1), (.iload 4, 2), (.iconst 4, 1), (.iadd, 1), (.iaload, 1), (.invokevirtual 70511, 3), (.aload 2, 1), (.aload 0, 1), (.iload 4, 2), (.iconst 1, 1), (.iadd, 1), (.iaload, 1), (.aload 0, 1), (.iload 4, 2), (.iconst 2, 1), (.iadd, 1), (.iaload, 1), (.aload 0, 1), (.iload 4, 2), (.iconst 3, 1), (.iadd, 1), (.iaload, 1), (.aload 0, 1), (.iload 4, 2), (.iconst 4, 1), (.iadd, 1), (.iaload, 1), (.invokevirtual 630512, 3), (.if_icmp .eq 2204, 3), (.iconst 0, 1), (.ireturn, 1)]
theorem s_L_law_478 : Seg 240 478 g_L_law_478 := seg_of (by decide +kernel)
def g_L_law_539 : List (Instr × Nat) := [(.aload 1, 1), (.aload 0, 1), (.iload 4, 2), (.iconst 1, 1), (.iadd, 1), (.iaload, 1), (.aload 0, 1), (.iload 4, 2), (.iconst 2, 1), (.iadd, 1), (.iaload, 1), (.aload 0, 1), (.iload 4, 2), (.iconst 3, 1), (.iadd, 1), (.iaload, 1), (.aload 0, 1), (.iload 4, 2), (.iconst 4, 1), (.iadd, 1), (.iaload, 1), (.invokevirtual 80511, 3), (.aload 2, 1), (.aload 0, 1), (.iload 4, 2), (.iconst 1, 1), (.iadd, 1), (.iaload, 1), (.aload 0, 1), (.iload 4, 2), (.iconst 2, 1), (.iadd, 1), (.iaload, 1), (.aload 0, 1), (.iload 4, 2), (.iconst 3, 1), (.iadd, 1), (.iaload, 1), (.aload 0, 1), (.iload 4, 2), (.iconst 4, 1), (.iadd, 1), (.iaload, 1), (.invokevirtual 640512, 3), (.if_icmp .eq 2204, 3), (.iconst 0, 1), (.ireturn, 1)]
theorem s_L_law_539 : Seg 240 539 g_L_law_539 := seg_of (by decide +kernel)
def g_L_law_600 : List (Instr × Nat) := [(.aload 1, 1), (.aload 0, 1), (.iload 4, 2), (.iconst 1, 1), (.iadd, 1), (.iaload, 1), (.aload 0, 1), (.iload 4, 2), (.iconst 2, 1), (.iadd, 1), (.iaload, 1), (.aload 0, 1), (.iload 4, 2), (.iconst 3, 1), (.iadd, 1), (.iaload, 1), (.aload 0, 1), (.iload 4, 2), (.iconst 4, 1), (.iadd, 1), (.iaload, 1), (.aload 0, 1), (.iload 4, 2), (.iconst 5, 1), (.iadd, 1), (.iaload, 1), (.aload 0, 1), (.iload 4, 2), (.iconst 6, 2), (.iadd, 1), (.iaload, 1), (.invokevirtual 90711, 3), (.aload 2, 1), (.aload 0, 1), (.iload 4, 2), (.iconst 1, 1), (.iadd, 1), (.iaload, 1), (.aload 0, 1), (.iload 4, 2), (.iconst 2, 1), (.iadd, 1), (.iaload, 1), (.aload 0, 1), (.iload 4, 2), (.iconst 3, 1), (.iadd, 1), (.iaload, 1), (.aload 0, 1), (.iload 4, 2), (.iconst 4, 1), (.iadd, 1), (.iaload, 1), (.aload 0, 1), (.iload 4, 2), (.iconst 5, 1), (.iadd, 1), (.iaload, 1), (.aload 0, 1), (.iload 4, 2), (.iconst 6, 2), (.iadd, 1), (.iaload, 1), (.invokevirtual 650712, 3), (.if_icmp .eq 2204, 3), (.iconst 0, 1), (.ireturn, 1)]
theorem s_L_law_600 : Seg 240 600 g_L_law_600 := seg_of (by decide +kernel)
def g_L_law_687 : List (Instr × Nat) := [(.aload 1, 1), (.aload 0, 1), (.iload 4, 2), (.iconst 1, 1), (.iadd, 1), (.iaload, 1), (.aload 0, 1), (.iload 4, 2), (.iconst 2, 1), (.iadd, 1), (.iaload, 1), (.aload 0, 1), (.iload 4, 2), (.iconst 3, 1), (.iadd, 1), (.iaload, 1), (.invokevirtual 100411, 3), (.aload 2, 1), (.aload 0, 1), (.iload 4, 2), (.iconst 1, 1), (.iadd, 1), (.iaload, 1), (.aload 0, 1), (.iload 4, 2), (.iconst 2, 1), (.iadd, 1), (.iaload, 1), (.aload 0, 1), (.iload 4, 2), (.iconst 3, 1), (.iadd, 1), (.iaload, 1), (.invokevirtual 730412, 3), (.if_icmp .eq 2204, 3), (.iconst 0, 1), (.ireturn, 1)]
theorem s_L_law_687 : Seg 240 687 g_L_law_687 := seg_of (by decide +kernel)
def g_L_law_736 : List (Instr × Nat) := [(.aload 1, 1), (.aload 0, 1), (.iload 4, 2), (.iconst 1, 1), (.iadd, 1), (.iaload, 1), (.aload 0, 1), (.iload 4, 2), (.iconst 2, 1), (.iadd, 1), (.iaload, 1), (.aload 0, 1), (.iload 4, 2), (.iconst 3, 1), (.iadd, 1), (.iaload, 1), (.invokevirtual 110411, 3), (.aload 2, 1), (.aload 0, 1), (.iload 4, 2), (.iconst 1, 1), (.iadd, 1), (.iaload, 1), (.aload 0, 1), (.iload 4, 2), (.iconst 2, 1), (.iadd, 1), (.iaload, 1), (.aload 0, 1), (.iload 4, 2), (.iconst 3, 1), (.iadd, 1), (.iaload, 1), (.invokevirtual 750412, 3), (.if_icmp .eq 2204, 3), (.iconst 0, 1), (.ireturn, 1)]
theorem s_L_law_736 : Seg 240 736 g_L_law_736 := seg_of (by decide +kernel)
def g_L_law_785 : List (Instr × Nat) := [(.aload 1, 1), (.aload 0, 1), (.iload 4, 2), (.iconst 1, 1), (.iadd, 1), (.iaload, 1), (.aload 0, 1), (.iload 4, 2), (.iconst 2, 1), (.iadd, 1), (.iaload, 1), (.aload 0, 1), (.iload 4, 2), (.iconst 3, 1), (.iadd, 1), (.iaload, 1), (.aload 0, 1), (.iload 4, 2), (.iconst 4, 1), (.iadd, 1), (.iaload, 1), (.aload 0, 1), (.iload 4, 2), (.iconst 5, 1), (.iadd, 1), (.iaload, 1), (.invokevirtual 120611, 3), (.aload 2, 1), (.aload 0, 1), (.iload 4, 2), (.iconst 1, 1), (.iadd, 1), (.iaload, 1), (.aload 0, 1), (.iload 4, 2), (.iconst 2, 1), (.iadd, 1), (.iaload, 1), (.aload 0, 1), (.iload 4, 2), (.iconst 3, 1), (.iadd, 1), (.iaload, 1), (.aload 0, 1), (.iload 4, 2), (.iconst 4, 1), (.iadd, 1), (.iaload, 1), (.aload 0, 1), (.iload 4, 2), (.iconst 5, 1), (.iadd, 1), (.iaload, 1), (.invokevirtual 780612, 3), (.if_icmp .eq 2204, 3), (.iconst 0, 1), (.ireturn, 1)]
theorem s_L_law_785 : Seg 240 785 g_L_law_785 := seg_of (by decide +kernel)
def g_L_law_858 : List (Instr × Nat) := [(.aload 1, 1), (.aload 0, 1), (.iload 4, 2), (.iconst 1, 1), (.iadd, 1), (.iaload, 1), (.invokevirtual 130211, 3), (.aload 2, 1), (.aload 0, 1), (.iload 4, 2), (.iconst 1, 1), (.iadd, 1), (.iaload, 1), (.invokevirtual 790212, 3), (.if_icmp .eq 2204, 3), (.iconst 0, 1), (.ireturn, 1)]
theorem s_L_law_858 : Seg 240 858 g_L_law_858 := seg_of (by decide +kernel)
def g_L_law_883 : List (Instr × Nat) := [(.aload 1, 1), (.aload 0, 1), (.iload 4, 2), (.iconst 1, 1), (.iadd, 1), (.iaload, 1), (.invokevirtual 140211, 3), (.aload 2, 1), (.aload 0, 1), (.iload 4, 2), (.iconst 1, 1), (.iadd, 1), (.iaload, 1), (.invokevirtual 960212, 3), (.if_icmp .eq 2204, 3), (.iconst 0, 1), (.ireturn, 1)]
theorem s_L_law_883 : Seg 240 883 g_L_law_883 := seg_of (by decide +kernel)
def g_L_law_908 : List (Instr × Nat) := [(.aload 1, 1), (.invokevirtual 150111, 3), (.aload 2, 1), (.invokevirtual 980112, 3), (.if_icmp .eq 2204, 3), (.iconst 0, 1), (.ireturn, 1)]
theorem s_L_law_908 : Seg 240 908 g_L_law_908 := seg_of (by decide +kernel)
def g_L_law_921 : List (Instr × Nat) := [(.aload 1, 1), (.invokevirtual 160111, 3), (.aload 2, 1), (.invokevirtual 990112, 3), (.if_icmp .eq 2204, 3), (.iconst 0, 1), (.ireturn, 1)]
theorem s_L_law_921 : Seg 240 921 g_L_law_921 := seg_of (by decide +kernel)
def g_L_law_934 : List (Instr × Nat) := [(.aload 1, 1), (.aload 0, 1), (.iload 4, 2), (.iconst 1, 1), (.iadd, 1), (.iaload, 1), (.aload 0, 1), (.iload 4, 2), (.iconst 2, 1), (.iadd, 1), (.iaload, 1), (.invokevirtual 170311, 3), (.aload 2, 1), (.aload 0, 1), (.iload 4, 2), (.iconst 1, 1), (.iadd, 1), (.iaload, 1), (.aload 0, 1), (.iload 4, 2), (.iconst 2, 1), (.iadd, 1), (.iaload, 1), (.invokevirtual 1010312, 3), (.if_icmp .eq 2204, 3), (.iconst 0, 1), (.ireturn, 1)]
theorem s_L_law_934 : Seg 240 934 g_L_law_934 := seg_of (by decide +kernel)
def g_L_law_971 : List (Instr × Nat) := [(.aload 1, 1), (.aload 0, 1), (.iload 4, 2), (.iconst 1, 1), (.iadd, 1), (.iaload, 1), (.aload 0, 1), (.iload 4, 2), (.iconst 2, 1), (.iadd, 1), (.iaload, 1), (.invokevirtual 180311, 3), (.aload 2, 1), (.aload 0, 1), (.iload 4, 2), (.iconst 1, 1), (.iadd, 1), (.iaload, 1), (.aload 0, 1), (.iload 4, 2), (.iconst 2, 1), (.iadd, 1), (.iaload, 1), (.invokevirtual 1020312, 3), (.if_icmp .eq 2204, 3), (.iconst 0, 1), (.ireturn, 1)]
theorem s_L_law_971 : Seg 240 971 g_L_law_971 := seg_of (by decide +kernel)
def g_L_law_1008 : List (Instr × Nat) := [(.aload 1, 1), (.aload 0, 1), (.iload 4, 2), (.iconst 1, 1), (.iadd, 1), (.iaload, 1), (.aload 0, 1), (.iload 4, 2), (.iconst 2, 1), (.iadd, 1), (.iaload, 1), (.aload 0, 1), (.iload 4, 2), (.iconst 3, 1), (.iadd, 1), (.iaload, 1), (.aload 0, 1), (.iload 4, 2), (.iconst 4, 1), (.iadd, 1), (.iaload, 1), (.aload 0, 1), (.iload 4, 2), (.iconst 5, 1), (.iadd, 1), (.iaload, 1), (.aload 0, 1), (.iload 4, 2), (.iconst 6, 2), (.iadd, 1), (.iaload, 1), (.aload 0, 1), (.iload 4, 2), (.iconst 7, 2), (.iadd, 1), (.iaload, 1), (.aload 3, 1), (.invokeinterface 238 9, 3), (.istore 5, 2), (.aload 2, 1), (.aload 0, 1), (.iload 4, 2), (.iconst 1, 1), (.iadd, 1), (.iaload, 1), (.aload 0, 1), (.iload 4, 2), (.iconst 2, 1), (.iadd, 1), (.iaload, 1), (.aload 0, 1), (.iload 4, 2), (.iconst 3, 1), (.iadd, 1), (.iaload, 1), (.aload 0, 1), (.iload 4, 2), (.iconst 4, 1), (.iadd, 1), (.iaload, 1), (.aload 0, 1), (.iload 4, 2), (.iconst 5, 1), (.iadd, 1), (.iaload, 1), (.aload 0, 1), (.iload 4, 2), (.iconst 6, 2), (.iadd, 1), (.iaload, 1), (.aload 0, 1), (.iload 4, 2), (.iconst 7, 2), (.iadd, 1), (.iaload, 1), (.invokevirtual 1050812, 3), (.istore 6, 2), (.aload 2, 1), (.invokevirtual 490112, 3), (.iload 5, 2), (.if_icmp .eq 1120, 3), (.iconst 0, 1), (.ireturn, 1)]
theorem s_L_law_1008 : Seg 240 1008 g_L_law_1008 := seg_of (by decide +kernel)
def g_L_law_1120 : List (Instr × Nat) := [(.iload 5, 2), (.ifCond .ne 1137, 3), (.aload 3, 1), (.iconst 0, 1), (.laload, 1), (.iload 6, 2), (.i2l, 1), (.lcmp, 1), (.ifCond .eq 1137, 3), (.iconst 0, 1), (.ireturn, 1)]
theorem s_L_law_1120 : Seg 240 1120 g_L_law_1120 := seg_of (by decide +kernel)
def g_L_law_1137 : List (Instr × Nat) := [(.goto 2204, 3)]
theorem s_L_law_1137 : Seg 240 1137 g_L_law_1137 := seg_of (by decide +kernel)
def g_L_law_1140 : List (Instr × Nat) := [(.aload 1, 1), (.aload 0, 1), (.iload 4, 2), (.iconst 1, 1), (.iadd, 1), (.iaload, 1), (.aload 0, 1), (.iload 4, 2), (.iconst 2, 1), (.iadd, 1), (.iaload, 1), (.invokevirtual 200311, 3), (.aload 2, 1), (.aload 0, 1), (.iload 4, 2), (.iconst 1, 1), (.iadd, 1), (.iaload, 1), (.aload 0, 1), (.iload 4, 2), (.iconst 2, 1), (.iadd, 1), (.iaload, 1), (.invokevirtual 1060312, 3), (.if_icmp .eq 2204, 3), (.iconst 0, 1), (.ireturn, 1)]
theorem s_L_law_1140 : Seg 240 1140 g_L_law_1140 := seg_of (by decide +kernel)
def g_L_law_1177 : List (Instr × Nat) := [(.aload 1, 1), (.aload 0, 1), (.iload 4, 2), (.iconst 1, 1), (.iadd, 1), (.iaload, 1), (.aload 0, 1), (.iload 4, 2), (.iconst 2, 1), (.iadd, 1), (.iaload, 1), (.invokevirtual 210311, 3), (.aload 2, 1), (.aload 0, 1), (.iload 4, 2), (.iconst 1, 1), (.iadd, 1), (.iaload, 1), (.aload 0, 1), (.iload 4, 2), (.iconst 2, 1), (.iadd, 1), (.iaload, 1), (.invokevirtual 1210312, 3), (.if_icmp .eq 2204, 3), (.iconst 0, 1), (.ireturn, 1)]
theorem s_L_law_1177 : Seg 240 1177 g_L_law_1177 := seg_of (by decide +kernel)
def g_L_law_1214 : List (Instr × Nat) := [(.aload 1, 1), (.aload 0, 1), (.iload 4, 2), (.iconst 1, 1), (.iadd, 1), (.iaload, 1), (.aload 0, 1), (.iload 4, 2), (.iconst 2, 1), (.iadd, 1), (.iaload, 1), (.aload 0, 1), (.iload 4, 2), (.iconst 3, 1), (.iadd, 1), (.iaload, 1), (.aload 3, 1), (.invokeinterface 239 5, 3), (.istore 5, 2), (.aload 2, 1), (.aload 0, 1), (.iload 4, 2), (.iconst 1, 1), (.iadd, 1), (.iaload, 1), (.aload 0, 1), (.iload 4, 2), (.iconst 2, 1), (.iadd, 1), (.iaload, 1), (.aload 0, 1), (.iload 4, 2), (.iconst 3, 1), (.iadd, 1), (.iaload, 1), (.invokevirtual 1220412, 3), (.istore 6, 2), (.aload 2, 1), (.invokevirtual 490112, 3), (.iload 5, 2), (.if_icmp .eq 1274, 3), (.iconst 0, 1), (.ireturn, 1)]
theorem s_L_law_1214 : Seg 240 1214 g_L_law_1214 := seg_of (by decide +kernel)
def g_L_law_1274 : List (Instr × Nat) := [(.iload 5, 2), (.ifCond .ne 1291, 3), (.aload 3, 1), (.iconst 0, 1), (.laload, 1), (.iload 6, 2), (.i2l, 1), (.lcmp, 1), (.ifCond .eq 1291, 3), (.iconst 0, 1), (.ireturn, 1)]
theorem s_L_law_1274 : Seg 240 1274 g_L_law_1274 := seg_of (by decide +kernel)
def g_L_law_1291 : List (Instr × Nat) := [(.goto 2204, 3)]
theorem s_L_law_1291 : Seg 240 1291 g_L_law_1291 := seg_of (by decide +kernel)
def g_L_law_1294 : List (Instr × Nat) := [(.aload 1, 1), (.aload 0, 1), (.iload 4, 2), (.iconst 1, 1), (.iadd, 1), (.iaload, 1), (.aload 0, 1), (.iload 4, 2), (.iconst 2, 1), (.iadd, 1), (.iaload, 1), (.aload 0, 1), (.iload 4, 2), (.iconst 3, 1), (.iadd, 1), (.iaload, 1), (.aload 0, 1), (.iload 4, 2), (.iconst 4, 1), (.iadd, 1), (.iaload, 1), (.aload 0, 1), (.iload 4, 2), (.iconst 5, 1), (.iadd, 1), (.iaload, 1), (.invokevirtual 230611, 3), (.aload 2, 1), (.aload 0, 1), (.iload 4, 2), (.iconst 1, 1), (.iadd, 1), (.iaload, 1), (.aload 0, 1), (.iload 4, 2), (.iconst 2, 1), (.iadd, 1), (.iaload, 1), (.aload 0, 1), (.iload 4, 2), (.iconst 3, 1), (.iadd, 1), (.iaload, 1), (.aload 0, 1), (.iload 4, 2), (.iconst 4, 1), (.iadd, 1), (.iaload, 1), (.aload 0, 1), (.iload 4, 2), (.iconst 5, 1), (.iadd, 1), (.iaload, 1), (.invokevirtual 1230612, 3), (.if_icmp .eq 2204, 3), (.iconst 0, 1), (.ireturn, 1)]
theorem s_L_law_1294 : Seg 240 1294 g_L_law_1294 := seg_of (by decide +kernel)
def g_L_law_1367 : List (Instr × Nat) := [(.aload 1, 1), (.aload 0, 1), (.iload 4, 2), (.iconst 1, 1), (.iadd, 1), (.iaload, 1), (.aload 0, 1), (.iload 4, 2), (.iconst 2, 1), (.iadd, 1), (.iaload, 1), (.ifCond .eq 1387, 3), (.iconst 1, 1), (.goto 1388, 3)]
theorem s_L_law_1367 : Seg 240 1367 g_L_law_1367 := seg_of (by decide +kernel)
def g_L_law_1387 : List (Instr × Nat) := [(.iconst 0, 1)]
theorem s_L_law_1387 : Seg 240 1387 g_L_law_1387 := seg_of (by decide +kernel)
def g_L_law_1388 : List (Instr × Nat) := [(.invokevirtual 240311, 3), (.aload 2, 1), (.aload 0, 1), (.iload 4, 2), (.iconst 1, 1), (.iadd, 1), (.iaload, 1), (.aload 0, 1), (.iload 4, 2), (.iconst 2, 1), (.iadd, 1), (.iaload, 1), (.ifCond .eq 1411, 3), (.iconst 1, 1), (.goto 1412, 3)]
theorem s_L_law_1388 : Seg 240 1388 g_L_law_1388 := seg_of (by decide +kernel)
def g_L_law_1411 : List (Instr × Nat) := [(.iconst 0, 1)]
theorem s_L_law_1411 : Seg 240 1411 g_L_law_1411 := seg_of (by decide +kernel)
def g_L_law_1412 : List (Instr × Nat) := [(.invokevirtual 1240312, 3), (.if_icmp .eq 2204, 3), (.iconst 0, 1), (.ireturn, 1)]
theorem s_L_law_1412 : Seg 240 1412 g_L_law_1412 := seg_of (by decide +kernel)
def g_L_law_1420 : List (Instr × Nat) := [(.aload 1, 1), (.aload 0, 1), (.iload 4, 2), (.iconst 1, 1), (.iadd, 1), (.iaload, 1), (.aload 0, 1), (.iload 4, 2), (.iconst 2, 1), (.iadd, 1), (.iaload, 1), (.invokevirtual 250311, 3), (.aload 2, 1), (.aload 0, 1), (.iload 4, 2), (.iconst 1, 1), (.iadd, 1), (.iaload, 1), (.aload 0, 1), (.iload 4, 2), (.iconst 2, 1), (.iadd, 1), (.iaload, 1), (.invokevirtual 1250312, 3), (.if_icmp .eq 2204, 3), (.iconst 0, 1), (.ireturn, 1)]
theorem s_L_law_1420 : Seg 240 1420 g_L_law_1420 := seg_of (by decide +kernel)
def g_L_law_1457 : List (Instr × Nat) := [(.aload 1, 1), (.aload 0, 1), (.iload 4, 2), (.iconst 1, 1), (.iadd, 1), (.iaload, 1), (.invokevirtual 260211, 3), (.aload 2, 1), (.aload 0, 1), (.iload 4, 2), (.iconst 1, 1), (.iadd, 1), (.iaload, 1), (.invokevirtual 1270212, 3), (.if_icmp .eq 2204, 3), (.iconst 0, 1), (.ireturn, 1)]
theorem s_L_law_1457 : Seg 240 1457 g_L_law_1457 := seg_of (by decide +kernel)
def g_L_law_1482 : List (Instr × Nat) := [(.aload 1, 1), (.aload 0, 1), (.iload 4, 2), (.iconst 1, 1), (.iadd, 1), (.iaload, 1), (.invokevirtual 270211, 3), (.aload 2, 1), (.aload 0, 1), (.iload 4, 2), (.iconst 1, 1), (.iadd, 1), (.iaload, 1), (.invokevirtual 1300212, 3), (.if_icmp .eq 2204, 3), (.iconst 0, 1), (.ireturn, 1)]
theorem s_L_law_1482 : Seg 240 1482 g_L_law_1482 := seg_of (by decide +kernel)
def g_L_law_1507 : List (Instr × Nat) := [(.aload 1, 1), (.aload 0, 1), (.iload 4, 2), (.iconst 1, 1), (.iadd, 1), (.iaload, 1), (.invokevirtual 280211, 3), (.aload 2, 1), (.aload 0, 1), (.iload 4, 2), (.iconst 1, 1), (.iadd, 1), (.iaload, 1), (.invokevirtual 1310212, 3), (.if_icmp .eq 2204, 3), (.iconst 0, 1), (.ireturn, 1)]
theorem s_L_law_1507 : Seg 240 1507 g_L_law_1507 := seg_of (by decide +kernel)
def g_L_law_1532 : List (Instr × Nat) := [(.aload 1, 1), (.aload 0, 1), (.iload 4, 2), (.iconst 1, 1), (.iadd, 1), (.iaload, 1), (.aload 0, 1), (.iload 4, 2), (.iconst 2, 1), (.iadd, 1), (.iaload, 1), (.aload 0, 1), (.iload 4, 2), (.iconst 3, 1), (.iadd, 1), (.iaload, 1), (.aload 0, 1), (.iload 4, 2), (.iconst 4, 1), (.iadd, 1), (.iaload, 1), (.aload 0, 1), (.iload 4, 2), (.iconst 5, 1), (.iadd, 1), (.iaload, 1), (.aload 0, 1), (.iload 4, 2), (.iconst 6, 2), (.iadd, 1), (.iaload, 1), (.aload 0, 1), (.iload 4, 2), (.iconst 7, 2), (.iadd, 1), (.iaload, 1), (.invokevirtual 290811, 3), (.aload 2, 1), (.aload 0, 1), (.iload 4, 2), (.iconst 1, 1), (.iadd, 1), (.iaload, 1), (.aload 0, 1), (.iload 4, 2), (.iconst 2, 1), (.iadd, 1), (.iaload, 1), (.aload 0, 1), (.iload 4, 2), (.iconst 3, 1), (.iadd, 1), (.iaload, 1), (.aload 0, 1), (.iload 4, 2), (.iconst 4, 1), (.iadd, 1), (.iaload, 1), (.aload 0, 1), (.iload 4, 2), (.iconst 5, 1), (.iadd, 1), (.iaload, 1), (.aload 0, 1), (.iload 4, 2), (.iconst 6, 2), (.iadd, 1), (.iaload, 1), (.aload 0, 1), (.iload 4, 2), (.iconst 7, 2), (.iadd, 1), (.iaload, 1), (.invokevirtual 1320812, 3), (.if_icmp .eq 2204, 3), (.iconst 0, 1), (.ireturn, 1)]
theorem s_L_law_1532 : Seg 240 1532 g_L_law_1532 := seg_of (by decide +kernel)
def g_L_law_1633 : List (Instr × Nat) := [(.aload 1, 1), (.aload 0, 1), (.iload 4, 2), (.iconst 1, 1), (.iadd, 1), (.iaload, 1), (.aload 0, 1), (.iload 4, 2), (.iconst 2, 1), (.iadd, 1), (.iaload, 1), (.invokevirtual 300311, 3), (.aload 2, 1), (.aload 0, 1), (.iload 4, 2), (.iconst 1, 1), (.iadd, 1), (.iaload, 1), (.aload 0, 1), (.iload 4, 2), (.iconst 2, 1), (.iadd, 1), (.iaload, 1), (.invokevirtual 1340312, 3), (.if_icmp .eq 2204, 3), (.iconst 0, 1), (.ireturn, 1)]
theorem s_L_law_1633 : Seg 240 1633 g_L_law_1633 := seg_of (by decide +kernel)
def g_L_law_1670 : List (Instr × Nat) := [(.aload 1, 1), (.aload 0, 1), (.iload 4, 2), (.iconst 1, 1), (.iadd, 1), (.iaload, 1), (.aload 0, 1), (.iload 4, 2), (.iconst 2, 1), (.iadd, 1), (.iaload, 1), (.invokevirtual 310311, 3), (.aload 2, 1), (.aload 0, 1), (.iload 4, 2), (.iconst 1, 1), (.iadd, 1), (.iaload, 1), (.aload 0, 1), (.iload 4, 2), (.iconst 2, 1), (.iadd, 1), (.iaload, 1), (.invokevirtual 1350312, 3), (.if_icmp .eq 2204, 3), (.iconst 0, 1), (.ireturn, 1)]
theorem s_L_law_1670 : Seg 240 1670 g_L_law_1670 := seg_of (by decide +kernel)
def g_L_law_1707 : List (Instr × Nat) := [(.aload 1, 1), (.aload 0, 1), (.iload 4, 2), (.iconst 1, 1), (.iadd, 1), (.iaload, 1), (.aload 0, 1), (.iload 4, 2), (.iconst 2, 1), (.iadd, 1), (.iaload, 1), (.aload 0, 1), (.iload 4, 2), (.iconst 3, 1), (.iadd, 1), (.iaload, 1), (.aload 0, 1), (.iload 4, 2), (.iconst 4, 1), (.iadd, 1), (.iaload, 1), (.aload 0, 1), (.iload 4, 2), (.iconst 5, 1), (.iadd, 1), (.iaload, 1), (.aload 0, 1), (.iload 4, 2), (.iconst 6, 2), (.iadd, 1), (.iaload, 1), (.ifCond .eq 1752, 3), (.iconst 1, 1), (.goto 1753, 3)]
theorem s_L_law_1707 : Seg 240 1707 g_L_law_1707 := seg_of (by decide +kernel)
def g_L_law_1752 : List (Instr × Nat) := [(.iconst 0, 1)]
theorem s_L_law_1752 : Seg 240 1752 g_L_law_1752 := seg_of (by decide +kernel)
def g_L_law_1753 : List (Instr × Nat) := [(.invokevirtual 320711, 3), (.aload 2, 1), (.aload 0, 1), (.iload 4, 2), (.iconst 1, 1), (.iadd, 1), (.iaload, 1), (.aload 0, 1), (.iload 4, 2), (.iconst 2, 1), (.iadd, 1), (.iaload, 1), (.aload 0, 1), (.iload 4, 2), (.iconst 3, 1), (.iadd, 1), (.iaload, 1), (.aload 0, 1), (.iload 4, 2), (.iconst 4, 1), (.iadd, 1), (.iaload, 1), (.aload 0, 1), (.iload 4, 2), (.iconst 5, 1), (.iadd, 1), (.iaload, 1), (.aload 0, 1), (.iload 4, 2), (.iconst 6, 2), (.iadd, 1), (.iaload, 1), (.ifCond .eq 1801, 3), (.iconst 1, 1), (.goto 1802, 3)]
theorem s_L_law_1753 : Seg 240 1753 g_L_law_1753 := seg_of (by decide +kernel)
def g_L_law_1801 : List (Instr × Nat) := [(.iconst 0, 1)]
theorem s_L_law_1801 : Seg 240 1801 g_L_law_1801 := seg_of (by decide +kernel)
def g_L_law_1802 : List (Instr × Nat) := [(.invokevirtual 1360712, 3), (.if_icmp .eq 2204, 3), (.iconst 0, 1), (.ireturn, 1)]
theorem s_L_law_1802 : Seg 240 1802 g_L_law_1802 := seg_of (by decide +kernel)
def g_L_law_1810 : List (Instr × Nat) := [(.aload 1, 1), (.aload 0, 1), (.iload 4, 2), (.iconst 1, 1), (.iadd, 1), (.iaload, 1), (.aload 0, 1), (.iload 4, 2), (.iconst 2, 1), (.iadd, 1), (.iaload, 1), (.aload 0, 1), (.iload 4, 2), (.iconst 3, 1), (.iadd, 1), (.iaload, 1), (.aload 0, 1), (.iload 4, 2), (.iconst 4, 1), (.iadd, 1), (.iaload, 1), (.aload 0, 1), (.iload 4, 2), (.iconst 5, 1), (.iadd, 1), (.iaload, 1), (.invokevirtual 330611, 3), (.aload 2, 1), (.aload 0, 1), (.iload 4, 2), (.iconst 1, 1), (.iadd, 1), (.iaload, 1), (.aload 0, 1), (.iload 4, 2), (.iconst 2, 1), (.iadd, 1), (.iaload, 1), (.aload 0, 1), (.iload 4, 2), (.iconst 3, 1), (.iadd, 1), (.iaload, 1), (.aload 0, 1), (.iload 4, 2), (.iconst 4, 1), (.iadd, 1), (.iaload, 1), (.aload 0, 1), (.iload 4, 2), (.iconst 5, 1), (.iadd, 1), (.iaload, 1), (.invokevirtual 1380612, 3), (.if_icmp .eq 2204, 3), (.iconst 0, 1), (.ireturn, 1)]
theorem s_L_law_1810 : Seg 240 1810 g_L_law_1810 := seg_of (by decide +kernel)
def g_L_law_1883 : List (Instr × Nat) := [(.aload 1, 1), (.aload 0, 1), (.iload 4, 2), (.iconst 1, 1), (.iadd, 1), (.iaload, 1), (.aload 0, 1), (.iload 4, 2), (.iconst 2, 1), (.iadd, 1), (.iaload, 1), (.aload 0, 1), (.iload 4, 2), (.iconst 3, 1), (.iadd, 1), (.iaload, 1), (.aload 0, 1), (.iload 4, 2), (.iconst 4, 1), (.iadd, 1), (.iaload, 1), (.aload 0, 1), (.iload 4, 2), (.iconst 5, 1), (.iadd, 1), (.iaload, 1), (.aload 0, 1), (.iload 4, 2), (.iconst 6, 2), (.iadd, 1), (.iaload, 1), (.invokevirtual 340711, 3), (.aload 2, 1), (.aload 0, 1), (.iload 4, 2), (.iconst 1, 1), (.iadd, 1), (.iaload, 1), (.aload 0, 1), (.iload 4, 2), (.iconst 2, 1), (.iadd, 1), (.iaload, 1), (.aload 0, 1), (.iload 4, 2), (.iconst 3, 1), (.iadd, 1), (.iaload, 1), (.aload 0, 1), (.iload 4, 2), (.iconst 4, 1), (.iadd, 1), (.iaload, 1), (.aload 0, 1), (.iload 4, 2), (.iconst 5, 1), (.iadd, 1), (.iaload, 1), (.aload 0, 1), (.iload 4, 2), (.iconst 6, 2), (.iadd, 1), (.iaload, 1), (.invokevirtual 1390712, 3), (.if_icmp .eq 2204, 3), (.iconst 0, 1), (.ireturn, 1)]
theorem s_L_law_1883 : Seg 240 1883 g_L_law_1883 := seg_of (by decide +kernel)
def g_L_law_1970 : List (Instr × Nat) := [(.aload 1, 1), (.aload 0, 1), (.iload 4, 2), (.iconst 1, 1), (.iadd, 1), (.iaload, 1), (.aload 0, 1), (.iload 4, 2), (.iconst 2, 1), (.iadd, 1), (.iaload, 1), (.aload 0, 1), (.iload 4, 2), (.iconst 3, 1), (.iadd, 1), (.iaload, 1), (.invokevirtual 350411, 3), (.aload 2, 1), (.aload 0, 1), (.iload 4, 2), (.iconst 1, 1), (.iadd, 1), (.iaload, 1), (.aload 0, 1), (.iload 4, 2), (.iconst 2, 1), (.iadd, 1), (.iaload, 1), (.aload 0, 1), (.iload 4, 2), (.iconst 3, 1), (.iadd, 1), (.iaload, 1), (.invokevirtual 1400412, 3), (.if_icmp .eq 2204, 3), (.iconst 0, 1), (.ireturn, 1)]
theorem s_L_law_1970 : Seg 240 1970 g_L_law_1970 := seg_of (by decide +kernel)
def g_L_law_2019 : List (Instr × Nat) := [(.aload 1, 1), (.aload 0, 1), (.iload 4, 2), (.iconst 1, 1), (.iadd, 1), (.iaload, 1), (.aload 0, 1), (.iload 4, 2), (.iconst 2, 1), (.iadd, 1), (.iaload, 1), (.invokevirtual 360311, 3), (.aload 2, 1), (.aload 0, 1), (.iload 4, 2), (.iconst 1, 1), (.iadd, 1), (.iaload, 1), (.aload 0, 1), (.iload 4, 2), (.iconst 2, 1), (.iadd, 1), (.iaload, 1), (.invokevirtual 1410312, 3), (.if_icmp .eq 2204, 3), (.iconst 0, 1), (.ireturn, 1)]
theorem s_L_law_2019 : Seg 240 2019 g_L_law_2019 := seg_of (by decide +kernel)
def g_L_law_2056 : List (Instr × Nat) := [(.aload 1, 1), (.aload 0, 1), (.iload 4, 2), (.iconst 1, 1), (.iadd, 1), (.iaload, 1), (.aload 0, 1), (.iload 4, 2), (.iconst 2, 1), (.iadd, 1), (.iaload, 1), (.aload 0, 1), (.iload 4, 2), (.iconst 3, 1), (.iadd, 1), (.iaload, 1), (.invokevirtual 370411, 3), (.aload 2, 1), (.aload 0, 1), (.iload 4, 2), (.iconst 1, 1), (.iadd, 1), (.iaload, 1), (.aload 0, 1), (.iload 4, 2), (.iconst 2, 1), (.iadd, 1), (.iaload, 1), (.aload 0, 1), (.iload 4, 2), (.iconst 3, 1), (.iadd, 1), (.iaload, 1), (.invokevirtual 1420412, 3), (.if_icmp .eq 2204, 3), (.iconst 0, 1), (.ireturn, 1)]
theorem s_L_law_2056 : Seg 240 2056 g_L_law_2056 := seg_of (by decide +kernel)
def g_L_law_2105 : List (Instr × Nat) := [(.aload 1, 1), (.aload 0, 1), (.iload 4, 2), (.iconst 1, 1), (.iadd, 1), (.iaload, 1), (.aload 0, 1), (.iload 4, 2), (.iconst 2, 1), (.iadd, 1), (.iaload, 1), (.invokevirtual 380311, 3), (.aload 2, 1), (.aload 0, 1), (.iload 4, 2), (.iconst 1, 1), (.iadd, 1), (.iaload, 1), (.aload 0, 1), (.iload 4, 2), (.iconst 2, 1), (.iadd, 1), (.iaload, 1), (.invokevirtual 1430312, 3), (.if_icmp .eq 2204, 3), (.iconst 0, 1), (.ireturn, 1)]
theorem s_L_law_2105 : Seg 240 2105 g_L_law_2105 := seg_of (by decide +kernel)
def g_L_law_2142 : List (Instr × Nat) := [(.aload 1, 1), (.aload 0, 1), (.iload 4, 2), (.iconst 1, 1), (.iadd, 1), (.iaload, 1), (.aload 0, 1), (.iload 4, 2), (.iconst 2, 1), (.iadd, 1), (.iaload, 1), (.invokevirtual 390311, 3), (.aload 2, 1), (.aload 0, 1), (.iload 4, 2), (.iconst 1, 1), (.iadd, 1), (.iaload, 1), (.aload 0, 1), (.iload 4, 2), (.iconst 2, 1), (.iadd, 1), (.iaload, 1), (.invokevirtual 1440312, 3), (.if_icmp .eq 2204, 3), (.iconst 0, 1), (.ireturn, 1)]
theorem s_L_law_2142 : Seg 240 2142 g_L_law_2142 := seg_of (by decide +kernel)
def g_L_law_2179 : List (Instr × Nat) := [(.aload 1, 1), (.aload 0, 1), (.iload 4, 2), (.iconst 1, 1), (.iadd, 1), (.iaload, 1), (.invokevirtual 400211, 3), (.aload 2, 1), (.aload 0, 1), (.iload 4, 2), (.iconst 1, 1), (.iadd, 1), (.iaload, 1), (.invokevirtual 1450212, 3), (.if_icmp .eq 2204, 3), (.iconst 0, 1), (.ireturn, 1)]
theorem s_L_law_2179 : Seg 240 2179 g_L_law_2179 := seg_of (by decide +kernel)
def g_L_law_2204 : List (Instr × Nat) := [(.iinc 4 (8), 3), (.goto 23, 3)]
theorem s_L_law_2204 : Seg 240 2204 g_L_law_2204 := seg_of (by decide +kernel)
def g_L_law_2210 : List (Instr × Nat) := [(.iconst 1, 1), (.ireturn, 1)]
theorem s_L_law_2210 : Seg 240 2210 g_L_law_2210 := seg_of (by decide +kernel)
/-! S indexOf -/
theorem mk_S_indexOf : 241 < 256 ∧ mtB 241 = true := ⟨by decide, mk_241⟩
def g_S_indexOf_0 : List (Instr × Nat) := [(.aload 0, 1), (.iload 1, 1), (.iconst 0, 1), (.invokevirtual 2420313, 3), (.ireturn, 1)]
theorem s_S_indexOf_0 : Seg 241 0 g_S_indexOf_0 := seg_of (by decide +kernel)
/-! S indexOf2 -/
theorem mk_S_indexOf2 : 242 < 256 ∧ mtB 242 = true := ⟨by decide, mk_242⟩
def g_S_indexOf2_0 : List (Instr × Nat) := [(.aload 0, 1), (.invokevirtual 2430113, 3), (.ifCond .eq 23, 3), (.aload 0, 1), (.getstatic 3328, 3), (.iload 1, 1), (.iload 2, 1), (.aload 0, 1), (.invokevirtual 2440113, 3), (.invokeinterface 249 4, 3), (.goto 36, 3)]
theorem s_S_indexOf2_0 : Seg 242 0 g_S_indexOf2_0 := seg_of (by decide +kernel)
def g_S_indexOf2_23 : List (Instr × Nat) := [(.aload 0, 1), (.getstatic 3328, 3), (.iload 1, 1), (.iload 2, 1), (.aload 0, 1), (.invokevirtual 2440113, 3), (.jsr 0, 3)]
theorem s_S_indexOf2_23 : Seg 242 23 g_S_indexOf2_23 := seg_of (by decide +kernel)
def g_S_indexOf2_36 : List (Instr × Nat) := [(.ireturn, 1)]
theorem s_S_indexOf2_36 : Seg 242 36 g_S_indexOf2_36 := seg_of (by decide +kernel)
/-! S isLatin1 -/
theorem mk_S_isLatin1 : 243 < 256 ∧ mtB 243 = true := ⟨by decide, mk_243⟩
def g_S_isLatin1_0 : List (Instr × Nat) := [(.dload 0, 3), (.ifCond .eq 17, 3), (.aload 0, 1), (.getfield 3329, 3), (.ifCond .ne 17, 3), (.iconst 1, 1), (.goto 18, 3)]
theorem s_S_isLatin1_0 : Seg 243 0 g_S_isLatin1_0 := seg_of (by decide +kernel)
def g_S_isLatin1_17 : List (Instr × Nat) := [(.iconst 0, 1)]
theorem s_S_isLatin1_17 : Seg 243 17 g_S_isLatin1_17 := seg_of (by decide +kernel)
def g_S_isLatin1_18 : List (Instr × Nat) := [(.ireturn, 1)]
theorem s_S_isLatin1_18 : Seg 243 18 g_S_isLatin1_18 := seg_of (by decide +kernel)
/-! S length -/
theorem mk_S_length : 244 < 256 ∧ mtB 244 = true := ⟨by decide, mk_244⟩
def g_S_length_0 : List (Instr × Nat) := [(.aload 0, 1), (.getstatic 3328, 3), (.arraylength, 1), (.aload 0, 1), (.invokevirtual 2450113, 3), (.ishr, 1), (.ireturn, 1)]
theorem s_S_length_0 : Seg 244 0 g_S_length_0 := seg_of (by decide +kernel)
/-! S coder -/
theorem mk_S_coder : 245 < 256 ∧ mtB 245 = true := ⟨by decide, mk_245⟩
def g_S_coder_0 : List (Instr × Nat) := [(.dload 0, 3), (.ifCond .eq 13, 3), (.aload 0, 1), (.getfield 3329, 3), (.goto 14, 3)]
theorem s_S_coder_0 : Seg 245 0 g_S_coder_0 := seg_of (by decide +kernel)
def g_S_coder_13 : List (Instr × Nat) := [(.iconst 1, 1)]
theorem s_S_coder_13 : Seg 245 13 g_S_coder_13 := seg_of (by decide +kernel)
def g_S_coder_14 : List (Instr × Nat) := [(.ireturn, 1)]
theorem s_S_coder_14 : Seg 245 14 g_S_coder_14 := seg_of (by decide +kernel)
/-! S charAt -/
theorem mk_S_charAt : 246 < 256 ∧ mtB 246 = true := ⟨by decide, mk_246⟩
def g_S_charAt_0 : List (Instr × Nat) := [(.aload 0, 1), (.invokevirtual 2430113, 3), (.ifCond .eq 16, 3), (.aload 0, 1), (.getstatic 3328, 3), (.iload 1, 1), (.invokeinterface 248 2, 3), (.ireturn, 1)]
theorem s_S_charAt_0 : Seg 246 0 g_S_charAt_0 := seg_of (by decide +kernel)
def g_S_charAt_16 : List (Instr × Nat) := [(.aload 0, 1), (.getstatic 3328, 3), (.iload 1, 1), (.jsr 0, 3)]
theorem s_S_charAt_16 : Seg 246 16 g_S_charAt_16 := seg_of (by decide +kernel)
/-! S checkIndex -/
theorem mk_S_checkIndex : 247 < 256 ∧ mtB 247 = true := ⟨by decide, mk_247⟩
def g_S_checkIndex_0 : List (Instr × Nat) := [(.iload 0, 1), (.iload 1, 1), (.fload 0, 3), (.invokeinterface 255 3, 3), (.pop, 1), (.return_, 1)]
theorem s_S_checkIndex_0 : Seg 247 0 g_S_checkIndex_0 := seg_of (by decide +kernel)
/-! S1 charAt -/
theorem mk_S1_charAt : 248 < 256 ∧ mtB 248 = true := ⟨by decide, mk_248⟩
def g_S1_charAt_0 : List (Instr × Nat) := [(.iload 1, 1), (.aload 0, 1), (.arraylength, 1), (.invokeinterface 247 2, 3), (.aload 0, 1), (.iload 1, 1), (.baload, 1), (.iconst 255, 3), (.iand, 1), (.i2c, 1), (.ireturn, 1)]
theorem s_S1_charAt_0 : Seg 248 0 g_S1_charAt_0 := seg_of (by decide +kernel)
/-! S1 indexOf -/
theorem mk_S1_indexOf : 249 < 256 ∧ mtB 249 = true := ⟨by decide, mk_249⟩
def g_S1_indexOf_0 : List (Instr × Nat) := [(.iload 1, 1), (.invokeinterface 251 1, 3), (.ifCond .ne 9, 3), (.iconst (-1), 1), (.ireturn, 1)]
theorem s_S1_indexOf_0 : Seg 249 0 g_S1_indexOf_0 := seg_of (by decide +kernel)
def g_S1_indexOf_9 : List (Instr × Nat) := [(.iload 2, 1), (.iconst 0, 1), (.fadd, 3), (.istore 2, 1), (.iload 3, 1), (.aload 0, 1), (.arraylength, 1), (.fsub, 3), (.istore 3, 1), (.iload 2, 1), (.iload 3, 1), (.if_icmp .lt 29, 3), (.iconst (-1), 1), (.ireturn, 1)]
theorem s_S1_indexOf_9 : Seg 249 9 g_S1_indexOf_9 := seg_of (by decide +kernel)
def g_S1_indexOf_29 : List (Instr × Nat) := [(.aload 0, 1), (.iload 1, 1), (.iload 2, 1), (.iload 3, 1), (.invokeinterface 250 4, 3), (.ireturn, 1)]
theorem s_S1_indexOf_29 : Seg 249 29 g_S1_indexOf_29 := seg_of (by decide +kernel)
/-! S1 indexOfChar -/
theorem mk_S1_indexOfChar : 250 < 256 ∧ mtB 250 = true := ⟨by decide, mk_250⟩
def g_S1_indexOfChar_0 : List (Instr × Nat) := [(.iload 1, 1), (.i2b, 1), (.istore 4, 2), (.iload 2, 1), (.istore 5, 2)]
theorem s_S1_indexOfChar_0 : Seg 250 0 g_S1_indexOfChar_0 := seg_of (by decide +kernel)
def g_S1_indexOfChar_7 : List (Instr × Nat) := [(.iload 5, 2), (.iload 3, 1), (.if_icmp .ge 31, 3), (.aload 0, 1), (.iload 5, 2), (.baload, 1), (.iload 4, 2), (.if_icmp .ne 25, 3), (.iload 5, 2), (.ireturn, 1)]
theorem s_S1_indexOfChar_7 : Seg 250 7 g_S1_indexOfChar_7 := seg_of (by decide +kernel)
def g_S1_indexOfChar_25 : List (Instr × Nat) := [(.iinc 5 (1), 3), (.goto 7, 3)]
theorem s_S1_indexOfChar_25 : Seg 250 25 g_S1_indexOfChar_25 := seg_of (by decide +kernel)
def g_S1_indexOfChar_31 : List (Instr × Nat) := [(.iconst (-1), 1), (.ireturn, 1)]
theorem s_S1_indexOfChar_31 : Seg 250 31 g_S1_indexOfChar_31 := seg_of (by decide +kernel)
/-! S1 canEncode -/
theorem mk_S1_canEncode : 251 < 256 ∧ mtB 251 = true := ⟨by decide, mk_251⟩
def g_S1_canEncode_0 : List (Instr × Nat) := [(.iload 0, 1), (.ifCond .lt 15, 3), (.iload 0, 1), (.iconst 255, 3), (.if_icmp .gt 15, 3), (.iconst 1, 1), (.goto 16, 3)]
theorem s_S1_canEncode_0 : Seg 251 0 g_S1_canEncode_0 := seg_of (by decide +kernel)
def g_S1_canEncode_15 : List (Instr × Nat) := [(.iconst 0, 1)]
theorem s_S1_canEncode_15 : Seg 251 15 g_S1_canEncode_15 := seg_of (by decide +kernel)
def g_S1_canEncode_16 : List (Instr × Nat) := [(.ireturn, 1)]
theorem s_S1_canEncode_16 : Seg 251 16 g_S1_canEncode_16 := seg_of (by decide +kernel)
/-! Ar fill -/
theorem mk_Ar_fill : 252 < 256 ∧ mtB 252 = true := ⟨by decide, mk_252⟩
def g_Ar_fill_0 : List (Instr × Nat) := [(.iconst 0, 1), (.istore 2, 1), (.aload 0, 1), (.arraylength, 1), (.istore 3, 1)]
theorem s_Ar_fill_0 : Seg 252 0 g_Ar_fill_0 := seg_of (by decide +kernel)
def g_Ar_fill_5 : List (Instr × Nat) := [(.iload 2, 1), (.iload 3, 1), (.if_icmp .ge 20, 3), (.aload 0, 1), (.iload 2, 1), (.iload 1, 1), (.iastore, 1), (.iinc 2 (1), 3), (.goto 5, 3)]
theorem s_Ar_fill_5 : Seg 252 5 g_Ar_fill_5 := seg_of (by decide +kernel)
def g_Ar_fill_20 : List (Instr × Nat) := [(.return_, 1)]
theorem s_Ar_fill_20 : Seg 252 20 g_Ar_fill_20 := seg_of (by decide +kernel)
/-! Ar copyOf -/
theorem mk_Ar_copyOf : 253 < 256 ∧ mtB 253 = true := ⟨by decide, mk_253⟩
def g_Ar_copyOf_0 : List (Instr × Nat) := [(.iload 1, 1), (.aload 0, 1), (.arraylength, 1), (.if_icmp .ne 14, 3), (.aload 0, 1), (.jsr 0, 3)]
theorem s_Ar_copyOf_0 : Seg 253 0 g_Ar_copyOf_0 := seg_of (by decide +kernel)
def g_Ar_copyOf_14 : List (Instr × Nat) := [(.iload 1, 1), (.newarray .int, 2), (.astore 2, 1), (.aload 0, 1), (.iconst 0, 1), (.aload 2, 1), (.iconst 0, 1), (.aload 0, 1), (.arraylength, 1), (.iload 1, 1), (.fsub, 3), (.monitorenter, 3), (.aload 2, 1), (.areturn, 1)]
theorem s_Ar_copyOf_14 : Seg 253 14 g_Ar_copyOf_14 := seg_of (by decide +kernel)
/-! In bitCount -/
theorem mk_In_bitCount : 254 < 256 ∧ mtB 254 = true := ⟨by decide, mk_254⟩
def g_In_bitCount_0 : List (Instr × Nat) := [(.iload 0, 1), (.iload 0, 1), (.iconst 1, 1), (.iushr, 1), (.bipush (1431655765), 3), (.iand, 1), (.isub, 1), (.istore 0, 1), (.iload 0, 1), (.bipush (858993459), 3), (.iand, 1), (.iload 0, 1), (.iconst 2, 1), (.iushr, 1), (.bipush (858993459), 3), (.iand, 1), (.iadd, 1), (.istore 0, 1), (.iload 0, 1), (.iload 0, 1), (.iconst 4, 1), (.iushr, 1), (.iadd, 1), (.bipush (252645135), 3), (.iand, 1), (.istore 0, 1), (.iload 0, 1), (.iload 0, 1), (.iconst 8, 2), (.iushr, 1), (.iadd, 1), (.istore 0, 1), (.iload 0, 1), (.iload 0, 1), (.iconst 16, 2), (.iushr, 1), (.iadd, 1), (.istore 0, 1), (.iload 0, 1), (.iconst 63, 2), (.iand, 1), (.ireturn, 1)]
theorem s_In_bitCount_0 : Seg 254 0 g_In_bitCount_0 := seg_of (by decide +kernel)
/-! Pr checkIndex -/
theorem mk_Pr_checkIndex : 255 < 256 ∧ mtB 255 = true := ⟨by decide, mk_255⟩
def g_Pr_checkIndex_0 : List (Instr × Nat) := [(.iload 0, 1), (.ifCond .lt 9, 3), (.iload 0, 1), (.iload 1, 1), (.if_icmp .lt 16, 3)]
theorem s_Pr_checkIndex_0 : Seg 255 0 g_Pr_checkIndex_0 := seg_of (by decide +kernel)
def g_Pr_checkIndex_9 : List (Instr × Nat) := [(.aload 2, 1), (.iload 0, 1), (.iload 1, 1), (.jsr 0, 3)]
theorem s_Pr_checkIndex_9 : Seg 255 9 g_Pr_checkIndex_9 := seg_of (by decide +kernel)
def g_Pr_checkIndex_16 : List (Instr × Nat) := [(.iload 0, 1), (.ireturn, 1)]
theorem s_Pr_checkIndex_16 : Seg 255 16 g_Pr_checkIndex_16 := seg_of (by decide +kernel)
