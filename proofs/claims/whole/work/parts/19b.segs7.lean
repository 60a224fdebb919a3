/-! ===== the segments of the methods ===== -/
/-! Ta isNo -/
theorem mk_Ta_isNo : 224 < 256 ∧ mtB 224 = true := ⟨by decide, mk_224⟩
def g_Ta_isNo_0 : List (Instr × Nat) := [(.lload 1, 1), (.jsr_w (-9223372036854775808), 3), (.lcmp, 1), (.ifCond .eq 20, 3)]
theorem s_Ta_isNo_0 : Seg 224 0 g_Ta_isNo_0 := seg_of (by decide +kernel)
def g_Ta_isNo_8 : List (Instr × Nat) := [(.lload 1, 1), (.goto_w 0, 1), (.lcmp, 1), (.ifCond .eq 18, 3)]
theorem s_Ta_isNo_8 : Seg 224 8 g_Ta_isNo_8 := seg_of (by decide +kernel)
def g_Ta_isNo_14 : List (Instr × Nat) := [(.iconst 1, 1), (.goto 19, 3)]
theorem s_Ta_isNo_14 : Seg 224 14 g_Ta_isNo_14 := seg_of (by decide +kernel)
def g_Ta_isNo_18 : List (Instr × Nat) := [(.iconst 0, 1)]
theorem s_Ta_isNo_18 : Seg 224 18 g_Ta_isNo_18 := seg_of (by decide +kernel)
def g_Ta_isNo_19 : List (Instr × Nat) := [(.ireturn, 1)]
theorem s_Ta_isNo_19 : Seg 224 19 g_Ta_isNo_19 := seg_of (by decide +kernel)
def g_Ta_isNo_20 : List (Instr × Nat) := [(.aload 0, 1), (.getstatic 2051, 3), (.iload 3, 1), (.iload 4, 2), (.aload 0, 1), (.getstatic 2051, 3), (.aload 0, 1), (.getfield 2061, 3), (.iload 4, 2), (.invokevirtual 1780304, 3), (.invokeinterface 41 2, 3), (.aload 0, 1), (.getstatic 2051, 3), (.getstatic 1026, 3), (.aload 0, 1), (.getfield 2061, 3), (.iaload, 1), (.invokevirtual 1830404, 3), (.ireturn, 1)]
theorem s_Ta_isNo_20 : Seg 224 20 g_Ta_isNo_20 := seg_of (by decide +kernel)
/-! Ta sift -/
theorem mk_Ta_sift : 225 < 256 ∧ mtB 225 = true := ⟨by decide, mk_225⟩
def g_Ta_sift_0 : List (Instr × Nat) := [(.iconst 0, 1), (.istore 4, 2)]
theorem s_Ta_sift_0 : Seg 225 0 g_Ta_sift_0 := seg_of (by decide +kernel)
def g_Ta_sift_3 : List (Instr × Nat) := [(.iload 4, 2), (.iconst 8, 2), (.if_icmp .ge 69, 3)]
theorem s_Ta_sift_3 : Seg 225 3 g_Ta_sift_3 := seg_of (by decide +kernel)
def g_Ta_sift_10 : List (Instr × Nat) := [(.aload 0, 1), (.getfield 2066, 3), (.iload 4, 2), (.ishr, 1), (.iconst 1, 1), (.iand, 1), (.ifCond .eq 63, 3)]
theorem s_Ta_sift_10 : Seg 225 10 g_Ta_sift_10 := seg_of (by decide +kernel)
def g_Ta_sift_22 : List (Instr × Nat) := [(.aload 0, 1), (.aload 0, 1), (.getstatic 2050, 3), (.aload 0, 1), (.getstatic 2049, 3), (.iload 4, 2), (.aaload, 1), (.iconst 110, 2), (.invokevirtual 2120307, 3), (.iload 1, 1), (.iload 2, 1), (.invokevirtual 2240408, 3), (.iload 3, 1), (.if_icmp .eq 63, 3)]
theorem s_Ta_sift_22 : Seg 225 22 g_Ta_sift_22 := seg_of (by decide +kernel)
def g_Ta_sift_48 : List (Instr × Nat) := [(.aload 0, 1), (.dup, 1), (.getfield 2066, 3), (.iconst 1, 1), (.iload 4, 2), (.ishl, 1), (.iconst (-1), 1), (.ixor, 1), (.iand, 1), (.putfield 2066, 3)]
theorem s_Ta_sift_48 : Seg 225 48 g_Ta_sift_48 := seg_of (by decide +kernel)
def g_Ta_sift_63 : List (Instr × Nat) := [(.iinc 4 (1), 3), (.goto 3, 3)]
theorem s_Ta_sift_63 : Seg 225 63 g_Ta_sift_63 := seg_of (by decide +kernel)
def g_Ta_sift_69 : List (Instr × Nat) := [(.return_, 1)]
theorem s_Ta_sift_69 : Seg 225 69 g_Ta_sift_69 := seg_of (by decide +kernel)
/-! Ta speak -/
theorem mk_Ta_speak : 226 < 256 ∧ mtB 226 = true := ⟨by decide, mk_226⟩
def g_Ta_speak_0 : List (Instr × Nat) := [(.aload 0, 1), (.getstatic 2051, 3), (.aload 0, 1), (.getfield 2061, 3), (.iload 2, 1), (.invokevirtual 1780304, 3), (.istore 4, 2), (.aload 0, 1), (.getfield 2062, 3), (.iconst 5, 1), (.imul, 1), (.istore 5, 2), (.iload 5, 2), (.iconst 5, 1), (.iadd, 1), (.aload 0, 1), (.getstatic 2053, 3), (.arraylength, 1), (.if_icmp .gt 96, 3)]
theorem s_Ta_speak_0 : Seg 226 0 g_Ta_speak_0 := seg_of (by decide +kernel)
def g_Ta_speak_34 : List (Instr × Nat) := [(.aload 0, 1), (.getstatic 2053, 3), (.iload 5, 2), (.iload 1, 1), (.iastore, 1), (.aload 0, 1), (.getstatic 2053, 3), (.iload 5, 2), (.iconst 1, 1), (.iadd, 1), (.aload 0, 1), (.getfield 2060, 3), (.iastore, 1), (.aload 0, 1), (.getstatic 2053, 3), (.iload 5, 2), (.iconst 2, 1), (.iadd, 1), (.iload 2, 1), (.iastore, 1), (.aload 0, 1), (.getstatic 2053, 3), (.iload 5, 2), (.iconst 3, 1), (.iadd, 1), (.iload 4, 2), (.iastore, 1), (.aload 0, 1), (.getstatic 2053, 3), (.iload 5, 2), (.iconst 4, 1), (.iadd, 1), (.iload 3, 1), (.iastore, 1), (.aload 0, 1), (.dup, 1), (.getfield 2062, 3), (.iconst 1, 1), (.iadd, 1), (.putfield 2062, 3)]
theorem s_Ta_speak_34 : Seg 226 34 g_Ta_speak_34 := seg_of (by decide +kernel)
def g_Ta_speak_96 : List (Instr × Nat) := [(.aload 0, 1), (.aload 0, 1), (.getstatic 2056, 3), (.iload 1, 1), (.iload 2, 1), (.iload 4, 2), (.invokeinterface 41 2, 3), (.invokevirtual 2270408, 3), (.aload 0, 1), (.aload 0, 1), (.getstatic 2055, 3), (.iload 1, 1), (.iload 2, 1), (.iload 3, 1), (.invokeinterface 41 2, 3), (.invokevirtual 2270408, 3), (.aload 0, 1), (.aload 0, 1), (.getstatic 2051, 3), (.aload 0, 1), (.getfield 2061, 3), (.iload 2, 1), (.iload 3, 1), (.invokevirtual 1790404, 3), (.putfield 2061, 3), (.aload 0, 1), (.getstatic 2054, 3), (.iload 1, 1), (.dup2, 1), (.iaload, 1), (.iconst 1, 1), (.iadd, 1), (.iastore, 1), (.aload 0, 1), (.dup, 1), (.getfield 2063, 3), (.iconst 1, 1), (.iadd, 1), (.putfield 2063, 3), (.return_, 1)]
theorem s_Ta_speak_96 : Seg 226 96 g_Ta_speak_96 := seg_of (by decide +kernel)
/-! Ta noteSaid -/
theorem mk_Ta_noteSaid : 227 < 256 ∧ mtB 227 = true := ⟨by decide, mk_227⟩
def g_Ta_noteSaid_0 : List (Instr × Nat) := [(.aload 1, 1), (.iload 2, 1), (.iaload, 1), (.iload 3, 1), (.ishr, 1), (.iconst 1, 1), (.iand, 1), (.ifCond .ne 27, 3)]
theorem s_Ta_noteSaid_0 : Seg 227 0 g_Ta_noteSaid_0 := seg_of (by decide +kernel)
def g_Ta_noteSaid_10 : List (Instr × Nat) := [(.aload 1, 1), (.iload 2, 1), (.dup2, 1), (.iaload, 1), (.iconst 1, 1), (.iload 3, 1), (.ishl, 1), (.ior, 1), (.iastore, 1), (.aload 0, 1), (.aload 0, 1), (.getfield 2062, 3), (.putfield 2064, 3)]
theorem s_Ta_noteSaid_10 : Seg 227 10 g_Ta_noteSaid_10 := seg_of (by decide +kernel)
def g_Ta_noteSaid_27 : List (Instr × Nat) := [(.return_, 1)]
theorem s_Ta_noteSaid_27 : Seg 227 27 g_Ta_noteSaid_27 := seg_of (by decide +kernel)
/-! Ta wayInstead -/
theorem mk_Ta_wayInstead : 228 < 256 ∧ mtB 228 = true := ⟨by decide, mk_228⟩
def g_Ta_wayInstead_0 : List (Instr × Nat) := [(.aload 0, 1), (.getstatic 2051, 3), (.aload 0, 1), (.getfield 2061, 3), (.iload 2, 1), (.invokevirtual 1780304, 3), (.istore 3, 1), (.aload 0, 1), (.getstatic 2050, 3), (.aload 0, 1), (.getstatic 2048, 3), (.getstatic 258, 3), (.iload 1, 1), (.aaload, 1), (.iconst 99, 2), (.invokevirtual 2120307, 3), (.lstore 4, 2), (.lload 4, 2), (.goto_w 0, 1), (.lcmp, 1), (.ifCond .lt 66, 3)]
theorem s_Ta_wayInstead_0 : Seg 228 0 g_Ta_wayInstead_0 := seg_of (by decide +kernel)
def g_Ta_wayInstead_40 : List (Instr × Nat) := [(.lload 4, 2), (.aload 0, 1), (.getstatic 2051, 3), (.getfield 1025, 3), (.i2l, 1), (.lcmp, 1), (.ifCond .ge 66, 3)]
theorem s_Ta_wayInstead_40 : Seg 228 40 g_Ta_wayInstead_40 := seg_of (by decide +kernel)
def g_Ta_wayInstead_54 : List (Instr × Nat) := [(.lload 4, 2), (.iload 3, 1), (.i2l, 1), (.lcmp, 1), (.ifCond .eq 66, 3)]
theorem s_Ta_wayInstead_54 : Seg 228 54 g_Ta_wayInstead_54 := seg_of (by decide +kernel)
def g_Ta_wayInstead_62 : List (Instr × Nat) := [(.lload 4, 2), (.l2i, 1), (.ireturn, 1)]
theorem s_Ta_wayInstead_62 : Seg 228 62 g_Ta_wayInstead_62 := seg_of (by decide +kernel)
def g_Ta_wayInstead_66 : List (Instr × Nat) := [(.iconst (-1), 1), (.istore 6, 2), (.iconst (-1), 1), (.istore 7, 2), (.iconst 0, 1), (.istore 8, 2)]
theorem s_Ta_wayInstead_66 : Seg 228 66 g_Ta_wayInstead_66 := seg_of (by decide +kernel)
def g_Ta_wayInstead_75 : List (Instr × Nat) := [(.iload 8, 2), (.aload 0, 1), (.getstatic 2051, 3), (.getfield 1025, 3), (.if_icmp .ge 130, 3)]
theorem s_Ta_wayInstead_75 : Seg 228 75 g_Ta_wayInstead_75 := seg_of (by decide +kernel)
def g_Ta_wayInstead_87 : List (Instr × Nat) := [(.aload 0, 1), (.getstatic 2051, 3), (.iload 1, 1), (.iload 2, 1), (.iload 8, 2), (.invokeinterface 41 2, 3), (.invokevirtual 1800304, 3), (.istore 9, 2), (.iload 8, 2), (.iload 3, 1), (.if_icmp .eq 124, 3)]
theorem s_Ta_wayInstead_87 : Seg 228 87 g_Ta_wayInstead_87 := seg_of (by decide +kernel)
def g_Ta_wayInstead_109 : List (Instr × Nat) := [(.iload 9, 2), (.iload 7, 2), (.if_icmp .le 124, 3)]
theorem s_Ta_wayInstead_109 : Seg 228 109 g_Ta_wayInstead_109 := seg_of (by decide +kernel)
def g_Ta_wayInstead_116 : List (Instr × Nat) := [(.iload 9, 2), (.istore 7, 2), (.iload 8, 2), (.istore 6, 2)]
theorem s_Ta_wayInstead_116 : Seg 228 116 g_Ta_wayInstead_116 := seg_of (by decide +kernel)
def g_Ta_wayInstead_124 : List (Instr × Nat) := [(.iinc 8 (1), 3), (.goto 75, 3)]
theorem s_Ta_wayInstead_124 : Seg 228 124 g_Ta_wayInstead_124 := seg_of (by decide +kernel)
def g_Ta_wayInstead_130 : List (Instr × Nat) := [(.iload 6, 2), (.ireturn, 1)]
theorem s_Ta_wayInstead_130 : Seg 228 130 g_Ta_wayInstead_130 := seg_of (by decide +kernel)
/-! Ta restsWith -/
theorem mk_Ta_restsWith : 229 < 256 ∧ mtB 229 = true := ⟨by decide, mk_229⟩
def g_Ta_restsWith_0 : List (Instr × Nat) := [(.aload 0, 1), (.getfield 2059, 3), (.ifCond .ne 37, 3)]
theorem s_Ta_restsWith_0 : Seg 229 0 g_Ta_restsWith_0 := seg_of (by decide +kernel)
def g_Ta_restsWith_7 : List (Instr × Nat) := [(.aload 0, 1), (.getstatic 2051, 3), (.ifnull 37, 3)]
theorem s_Ta_restsWith_7 : Seg 229 7 g_Ta_restsWith_7 := seg_of (by decide +kernel)
def g_Ta_restsWith_14 : List (Instr × Nat) := [(.aload 0, 1), (.getstatic 2051, 3), (.getstatic 1026, 3), (.aload 0, 1), (.getfield 2061, 3), (.iaload, 1), (.iload 1, 1), (.ishr, 1), (.iconst 1, 1), (.iand, 1), (.ifCond .eq 37, 3)]
theorem s_Ta_restsWith_14 : Seg 229 14 g_Ta_restsWith_14 := seg_of (by decide +kernel)
def g_Ta_restsWith_33 : List (Instr × Nat) := [(.iconst 1, 1), (.goto 38, 3)]
theorem s_Ta_restsWith_33 : Seg 229 33 g_Ta_restsWith_33 := seg_of (by decide +kernel)
def g_Ta_restsWith_37 : List (Instr × Nat) := [(.iconst 0, 1)]
theorem s_Ta_restsWith_37 : Seg 229 37 g_Ta_restsWith_37 := seg_of (by decide +kernel)
def g_Ta_restsWith_38 : List (Instr × Nat) := [(.ireturn, 1)]
theorem s_Ta_restsWith_38 : Seg 229 38 g_Ta_restsWith_38 := seg_of (by decide +kernel)
/-! Ta lastSaid -/
theorem mk_Ta_lastSaid : 230 < 256 ∧ mtB 230 = true := ⟨by decide, mk_230⟩
def g_Ta_lastSaid_0 : List (Instr × Nat) := [(.iload 4, 2), (.istore 5, 2), (.iconst 0, 1), (.istore 6, 2)]
theorem s_Ta_lastSaid_0 : Seg 230 0 g_Ta_lastSaid_0 := seg_of (by decide +kernel)
def g_Ta_lastSaid_7 : List (Instr × Nat) := [(.iload 6, 2), (.aload 0, 1), (.getfield 2062, 3), (.if_icmp .ge 87, 3)]
theorem s_Ta_lastSaid_7 : Seg 230 7 g_Ta_lastSaid_7 := seg_of (by decide +kernel)
def g_Ta_lastSaid_16 : List (Instr × Nat) := [(.iload 6, 2), (.iconst 5, 1), (.imul, 1), (.istore 7, 2), (.aload 0, 1), (.getstatic 2053, 3), (.iload 7, 2), (.iaload, 1), (.iload 1, 1), (.if_icmp .ne 81, 3)]
theorem s_Ta_lastSaid_16 : Seg 230 16 g_Ta_lastSaid_16 := seg_of (by decide +kernel)
def g_Ta_lastSaid_33 : List (Instr × Nat) := [(.aload 0, 1), (.getstatic 2053, 3), (.iload 7, 2), (.iconst 2, 1), (.iadd, 1), (.iaload, 1), (.iload 2, 1), (.if_icmp .ne 81, 3)]
theorem s_Ta_lastSaid_33 : Seg 230 33 g_Ta_lastSaid_33 := seg_of (by decide +kernel)
def g_Ta_lastSaid_46 : List (Instr × Nat) := [(.aload 0, 1), (.getstatic 2053, 3), (.iload 7, 2), (.iconst 3, 1), (.iadd, 1), (.iaload, 1), (.iload 3, 1), (.if_icmp .ne 65, 3)]
theorem s_Ta_lastSaid_46 : Seg 230 46 g_Ta_lastSaid_46 := seg_of (by decide +kernel)
def g_Ta_lastSaid_59 : List (Instr × Nat) := [(.iconst 0, 1), (.istore 5, 2), (.goto 81, 3)]
theorem s_Ta_lastSaid_59 : Seg 230 59 g_Ta_lastSaid_59 := seg_of (by decide +kernel)
def g_Ta_lastSaid_65 : List (Instr × Nat) := [(.aload 0, 1), (.getstatic 2053, 3), (.iload 7, 2), (.iconst 4, 1), (.iadd, 1), (.iaload, 1), (.iload 3, 1), (.if_icmp .ne 81, 3)]
theorem s_Ta_lastSaid_65 : Seg 230 65 g_Ta_lastSaid_65 := seg_of (by decide +kernel)
def g_Ta_lastSaid_78 : List (Instr × Nat) := [(.iconst 2, 1), (.istore 5, 2)]
theorem s_Ta_lastSaid_78 : Seg 230 78 g_Ta_lastSaid_78 := seg_of (by decide +kernel)
def g_Ta_lastSaid_81 : List (Instr × Nat) := [(.iinc 6 (1), 3), (.goto 7, 3)]
theorem s_Ta_lastSaid_81 : Seg 230 81 g_Ta_lastSaid_81 := seg_of (by decide +kernel)
def g_Ta_lastSaid_87 : List (Instr × Nat) := [(.iload 5, 2), (.ireturn, 1)]
theorem s_Ta_lastSaid_87 : Seg 230 87 g_Ta_lastSaid_87 := seg_of (by decide +kernel)
/-! Ta nosWithoutNeed -/
theorem mk_Ta_nosWithoutNeed : 231 < 256 ∧ mtB 231 = true := ⟨by decide, mk_231⟩
def g_Ta_nosWithoutNeed_0 : List (Instr × Nat) := [(.iconst 0, 1), (.istore 2, 1), (.aload 0, 1), (.getstatic 2051, 3), (.ifnonnull 13, 3)]
theorem s_Ta_nosWithoutNeed_0 : Seg 231 0 g_Ta_nosWithoutNeed_0 := seg_of (by decide +kernel)
def g_Ta_nosWithoutNeed_9 : List (Instr × Nat) := [(.iconst 0, 1), (.goto 20, 3)]
theorem s_Ta_nosWithoutNeed_9 : Seg 231 9 g_Ta_nosWithoutNeed_9 := seg_of (by decide +kernel)
def g_Ta_nosWithoutNeed_13 : List (Instr × Nat) := [(.aload 0, 1), (.getstatic 2051, 3), (.getfield 1033, 3)]
theorem s_Ta_nosWithoutNeed_13 : Seg 231 13 g_Ta_nosWithoutNeed_13 := seg_of (by decide +kernel)
def g_Ta_nosWithoutNeed_20 : List (Instr × Nat) := [(.istore 3, 1), (.iconst 0, 1), (.istore 4, 2)]
theorem s_Ta_nosWithoutNeed_20 : Seg 231 20 g_Ta_nosWithoutNeed_20 := seg_of (by decide +kernel)
def g_Ta_nosWithoutNeed_24 : List (Instr × Nat) := [(.aload 0, 1), (.getstatic 2051, 3), (.ifnull 138, 3)]
theorem s_Ta_nosWithoutNeed_24 : Seg 231 24 g_Ta_nosWithoutNeed_24 := seg_of (by decide +kernel)
def g_Ta_nosWithoutNeed_31 : List (Instr × Nat) := [(.iload 4, 2), (.aload 0, 1), (.getfield 2062, 3), (.if_icmp .ge 138, 3)]
theorem s_Ta_nosWithoutNeed_31 : Seg 231 31 g_Ta_nosWithoutNeed_31 := seg_of (by decide +kernel)
def g_Ta_nosWithoutNeed_40 : List (Instr × Nat) := [(.iload 4, 2), (.iconst 5, 1), (.imul, 1), (.istore 5, 2), (.aload 0, 1), (.getstatic 2053, 3), (.iload 5, 2), (.iconst 2, 1), (.iadd, 1), (.iaload, 1), (.aload 0, 1), (.getstatic 2053, 3), (.iload 5, 2), (.iconst 3, 1), (.iadd, 1), (.iaload, 1), (.invokeinterface 41 2, 3), (.istore 6, 2), (.aload 0, 1), (.getstatic 2053, 3), (.iload 5, 2), (.iaload, 1), (.iload 1, 1), (.if_icmp .ne 105, 3)]
theorem s_Ta_nosWithoutNeed_40 : Seg 231 40 g_Ta_nosWithoutNeed_40 := seg_of (by decide +kernel)
def g_Ta_nosWithoutNeed_80 : List (Instr × Nat) := [(.aload 0, 1), (.getstatic 2051, 3), (.iload 1, 1), (.iload 6, 2), (.aload 0, 1), (.getstatic 2051, 3), (.getstatic 1026, 3), (.iload 3, 1), (.iaload, 1), (.invokevirtual 1830404, 3), (.ifCond .ne 105, 3)]
theorem s_Ta_nosWithoutNeed_80 : Seg 231 80 g_Ta_nosWithoutNeed_80 := seg_of (by decide +kernel)
def g_Ta_nosWithoutNeed_102 : List (Instr × Nat) := [(.iinc 2 (1), 3)]
theorem s_Ta_nosWithoutNeed_102 : Seg 231 102 g_Ta_nosWithoutNeed_102 := seg_of (by decide +kernel)
def g_Ta_nosWithoutNeed_105 : List (Instr × Nat) := [(.aload 0, 1), (.getstatic 2051, 3), (.iload 3, 1), (.aload 0, 1), (.getstatic 2053, 3), (.iload 5, 2), (.iconst 2, 1), (.iadd, 1), (.iaload, 1), (.aload 0, 1), (.getstatic 2053, 3), (.iload 5, 2), (.iconst 4, 1), (.iadd, 1), (.iaload, 1), (.invokevirtual 1790404, 3), (.istore 3, 1), (.iinc 4 (1), 3), (.goto 24, 3)]
theorem s_Ta_nosWithoutNeed_105 : Seg 231 105 g_Ta_nosWithoutNeed_105 := seg_of (by decide +kernel)
def g_Ta_nosWithoutNeed_138 : List (Instr × Nat) := [(.iload 2, 1), (.ireturn, 1)]
theorem s_Ta_nosWithoutNeed_138 : Seg 231 138 g_Ta_nosWithoutNeed_138 := seg_of (by decide +kernel)
/-! Ta leansIn -/
theorem mk_Ta_leansIn : 232 < 256 ∧ mtB 232 = true := ⟨by decide, mk_232⟩
def g_Ta_leansIn_0 : List (Instr × Nat) := [(.iconst 0, 1), (.istore 3, 1), (.iconst 0, 1), (.istore 4, 2)]
theorem s_Ta_leansIn_0 : Seg 232 0 g_Ta_leansIn_0 := seg_of (by decide +kernel)
def g_Ta_leansIn_5 : List (Instr × Nat) := [(.iload 4, 2), (.iconst 4, 1), (.if_icmp .ge 32, 3)]
theorem s_Ta_leansIn_5 : Seg 232 5 g_Ta_leansIn_5 := seg_of (by decide +kernel)
def g_Ta_leansIn_11 : List (Instr × Nat) := [(.iload 3, 1), (.aload 0, 1), (.iload 1, 1), (.iload 4, 2), (.invokeinterface 41 2, 3), (.invokevirtual 2330208, 3), (.fadd, 3), (.istore 3, 1), (.iinc 4 (1), 3), (.goto 5, 3)]
theorem s_Ta_leansIn_11 : Seg 232 11 g_Ta_leansIn_11 := seg_of (by decide +kernel)
def g_Ta_leansIn_32 : List (Instr × Nat) := [(.aload 0, 1), (.iload 1, 1), (.iload 2, 1), (.invokeinterface 41 2, 3), (.invokevirtual 2330208, 3), (.iload 3, 1), (.if_icmp .ge 49, 3)]
theorem s_Ta_leansIn_32 : Seg 232 32 g_Ta_leansIn_32 := seg_of (by decide +kernel)
def g_Ta_leansIn_45 : List (Instr × Nat) := [(.iconst 1, 1), (.goto 50, 3)]
theorem s_Ta_leansIn_45 : Seg 232 45 g_Ta_leansIn_45 := seg_of (by decide +kernel)
def g_Ta_leansIn_49 : List (Instr × Nat) := [(.iconst 0, 1)]
theorem s_Ta_leansIn_49 : Seg 232 49 g_Ta_leansIn_49 := seg_of (by decide +kernel)
def g_Ta_leansIn_50 : List (Instr × Nat) := [(.ireturn, 1)]
theorem s_Ta_leansIn_50 : Seg 232 50 g_Ta_leansIn_50 := seg_of (by decide +kernel)
/-! Ta voicesFor -/
theorem mk_Ta_voicesFor : 233 < 256 ∧ mtB 233 = true := ⟨by decide, mk_233⟩
def g_Ta_voicesFor_0 : List (Instr × Nat) := [(.iconst 0, 1), (.istore 2, 1), (.iconst 0, 1), (.istore 3, 1)]
theorem s_Ta_voicesFor_0 : Seg 233 0 g_Ta_voicesFor_0 := seg_of (by decide +kernel)
def g_Ta_voicesFor_4 : List (Instr × Nat) := [(.iload 3, 1), (.iconst 8, 2), (.if_icmp .ge 29, 3)]
theorem s_Ta_voicesFor_4 : Seg 233 4 g_Ta_voicesFor_4 := seg_of (by decide +kernel)
def g_Ta_voicesFor_10 : List (Instr × Nat) := [(.iload 2, 1), (.aload 0, 1), (.getstatic 2055, 3), (.iload 3, 1), (.iaload, 1), (.iload 1, 1), (.ishr, 1), (.iconst 1, 1), (.iand, 1), (.iadd, 1), (.istore 2, 1), (.iinc 3 (1), 3), (.goto 4, 3)]
theorem s_Ta_voicesFor_10 : Seg 233 10 g_Ta_voicesFor_10 := seg_of (by decide +kernel)
def g_Ta_voicesFor_29 : List (Instr × Nat) := [(.iload 2, 1), (.ireturn, 1)]
theorem s_Ta_voicesFor_29 : Seg 233 29 g_Ta_voicesFor_29 := seg_of (by decide +kernel)
/-! Tp init -/
theorem mk_Tp_init : 234 < 256 ∧ mtB 234 = true := ⟨by decide, mk_234⟩
def g_Tp_init_0 : List (Instr × Nat) := [(.aload 0, 1), (.nop, 3), (.aload 0, 1), (.iconst 180, 3), (.newarray .int, 2), (.putstatic 2304, 3), (.return_, 1)]
theorem s_Tp_init_0 : Seg 234 0 g_Tp_init_0 := seg_of (by decide +kernel)
/-! Tp add -/
theorem mk_Tp_add : 235 < 256 ∧ mtB 235 = true := ⟨by decide, mk_235⟩
def g_Tp_add_0 : List (Instr × Nat) := [(.aload 0, 1), (.getfield 2305, 3), (.istore 6, 2), (.aload 0, 1), (.iload 1, 1), (.invokevirtual 2360209, 3), (.aload 0, 1), (.iload 2, 1), (.invokevirtual 2360209, 3), (.aload 0, 1), (.iload 3, 1), (.invokevirtual 2360209, 3), (.aload 0, 1), (.iload 4, 2), (.invokevirtual 2360209, 3), (.aload 0, 1), (.iload 5, 2), (.invokevirtual 2360209, 3), (.aload 0, 1), (.getfield 2305, 3), (.iconst 160, 3), (.if_icmp .le 51, 3)]
theorem s_Tp_add_0 : Seg 235 0 g_Tp_add_0 := seg_of (by decide +kernel)
def g_Tp_add_43 : List (Instr × Nat) := [(.aload 0, 1), (.iload 6, 2), (.putfield 2305, 3), (.iconst (-1), 1), (.ireturn, 1)]
theorem s_Tp_add_43 : Seg 235 43 g_Tp_add_43 := seg_of (by decide +kernel)
def g_Tp_add_51 : List (Instr × Nat) := [(.aload 0, 1), (.getfield 2305, 3), (.ireturn, 1)]
theorem s_Tp_add_51 : Seg 235 51 g_Tp_add_51 := seg_of (by decide +kernel)
/-! Tp put -/
theorem mk_Tp_put : 236 < 256 ∧ mtB 236 = true := ⟨by decide, mk_236⟩
def g_Tp_put_0 : List (Instr × Nat) := [(.iconst 24, 2), (.istore 2, 1)]
theorem s_Tp_put_0 : Seg 236 0 g_Tp_put_0 := seg_of (by decide +kernel)
def g_Tp_put_3 : List (Instr × Nat) := [(.iload 2, 1), (.ifCond .lt 57, 3)]
theorem s_Tp_put_3 : Seg 236 3 g_Tp_put_3 := seg_of (by decide +kernel)
def g_Tp_put_7 : List (Instr × Nat) := [(.iload 1, 1), (.iload 2, 1), (.ishr, 1), (.iconst 255, 3), (.iand, 1), (.istore 3, 1), (.iload 3, 1), (.ifCond .eq 51, 3)]
theorem s_Tp_put_7 : Seg 236 7 g_Tp_put_7 := seg_of (by decide +kernel)
def g_Tp_put_19 : List (Instr × Nat) := [(.aload 0, 1), (.getfield 2305, 3), (.aload 0, 1), (.getstatic 2304, 3), (.arraylength, 1), (.if_icmp .ge 51, 3)]
theorem s_Tp_put_19 : Seg 236 19 g_Tp_put_19 := seg_of (by decide +kernel)
def g_Tp_put_31 : List (Instr × Nat) := [(.aload 0, 1), (.getstatic 2304, 3), (.aload 0, 1), (.getfield 2305, 3), (.iload 3, 1), (.iastore, 1), (.aload 0, 1), (.dup, 1), (.getfield 2305, 3), (.iconst 1, 1), (.iadd, 1), (.putfield 2305, 3)]
theorem s_Tp_put_31 : Seg 236 31 g_Tp_put_31 := seg_of (by decide +kernel)
def g_Tp_put_51 : List (Instr × Nat) := [(.iinc 2 (-8), 3), (.goto 3, 3)]
theorem s_Tp_put_51 : Seg 236 51 g_Tp_put_51 := seg_of (by decide +kernel)
def g_Tp_put_57 : List (Instr × Nat) := [(.return_, 1)]
theorem s_Tp_put_57 : Seg 236 57 g_Tp_put_57 := seg_of (by decide +kernel)
/-! Te init -/
theorem mk_Te_init : 237 < 256 ∧ mtB 237 = true := ⟨by decide, mk_237⟩
def g_Te_init_0 : List (Instr × Nat) := [(.aload 0, 1), (.nop, 3), (.aload 0, 1), (.aload 1, 1), (.putstatic 2560, 3), (.aload 0, 1), (.aload 2, 1), (.putstatic 2561, 3), (.return_, 1)]
theorem s_Te_init_0 : Seg 237 0 g_Te_init_0 := seg_of (by decide +kernel)
/-! L worth -/
theorem mk_L_worth : 238 < 256 ∧ mtB 238 = true := ⟨by decide, mk_238⟩
def g_L_worth_0 : List (Instr × Nat) := [(.aload 8, 2), (.iconst 0, 1), (.aload 0, 1), (.iload 1, 1), (.iload 2, 1), (.iload 3, 1), (.iload 4, 2), (.iload 5, 2), (.iload 6, 2), (.iload 7, 2), (.invokedynamic 19008023, 3), (.i2l, 1), (.lastore, 1), (.goto 27, 3)]
theorem s_L_worth_0 : Seg 238 0 g_L_worth_0 := seg_of (by decide +kernel)
def g_L_worth_25 : List (Instr × Nat) := [(.iconst 1, 1), (.ireturn, 1)]
theorem s_L_worth_25 : Seg 238 25 g_L_worth_25 := seg_of (by decide +kernel)
def g_L_worth_27 : List (Instr × Nat) := [(.iconst 0, 1), (.ireturn, 1)]
theorem s_L_worth_27 : Seg 238 27 g_L_worth_27 := seg_of (by decide +kernel)
/-! L said -/
theorem mk_L_said : 239 < 256 ∧ mtB 239 = true := ⟨by decide, mk_239⟩
def g_L_said_0 : List (Instr × Nat) := [(.aload 4, 2), (.iconst 0, 1), (.aload 0, 1), (.iload 1, 1), (.iload 2, 1), (.iload 3, 1), (.invokedynamic 22004015, 3), (.i2l, 1), (.lastore, 1), (.goto 19, 3)]
theorem s_L_said_0 : Seg 239 0 g_L_said_0 := seg_of (by decide +kernel)
def g_L_said_17 : List (Instr × Nat) := [(.iconst 1, 1), (.ireturn, 1)]
theorem s_L_said_17 : Seg 239 17 g_L_said_17 := seg_of (by decide +kernel)
def g_L_said_19 : List (Instr × Nat) := [(.iconst 0, 1), (.ireturn, 1)]
theorem s_L_said_19 : Seg 239 19 g_L_said_19 := seg_of (by decide +kernel)
/-! L law -/
def g_L_law_0 : List (Instr × Nat) := [(.new 11, 3), (.dup, 1), (.invokevirtual 111, 3), (.astore 1, 1), (.new 12, 3), (.dup, 1), (.invokevirtual 480112, 3), (.astore 2, 1), (.iconst 1, 1), (.newarray .long, 2), (.astore 3, 1), (.iconst 0, 1), (.istore 4, 2)]
theorem s_L_law_0 : Seg 240 0 g_L_law_0 := seg_of (by decide +kernel)
def g_L_law_23 : List (Instr × Nat) := [(.iload 4, 2), (.aload 0, 1), (.arraylength, 1), (.iconst 8, 2), (.isub, 1), (.if_icmp .gt 2210, 3)]
theorem s_L_law_23 : Seg 240 23 g_L_law_23 := seg_of (by decide +kernel)
def g_L_law_33 : List (Instr × Nat) := [(.aload 0, 1), (.iload 4, 2), (.iaload, 1), (.iconst 63, 2), (.iand, 1), (.tableswitch 2204 0 39 #[216, 241, 294, 319, 368, 405, 478, 539, 600, 687, 736, 785, 858, 883, 908, 921, 934, 971, 1008, 1140, 1177, 1214, 1294, 1367, 1420, 1457, 1482, 1507, 1532, 1633, 1670, 1707, 1810, 1883, 1970, 2019, 2056, 2105, 2142, 2179], 176)]
theorem s_L_law_33 : Seg 240 33 g_L_law_33 := seg_of (by decide +kernel)
def g_L_law_216 : List (Instr × Nat) := [(.aload 1, 1), (.aload 0, 1), (.iload 4, 2), (.iconst 1, 1), (.iadd, 1), (.iaload, 1), (.invokevirtual 10211, 3), (.aload 2, 1), (.aload 0, 1), (.iload 4, 2), (.iconst 1, 1), (.iadd, 1), (.iaload, 1), (.invokevirtual 550212, 3), (.if_icmp .eq 2204, 3)]
theorem s_L_law_216 : Seg 240 216 g_L_law_216 := seg_of (by decide +kernel)
def g_L_law_239 : List (Instr × Nat) := [(.iconst 0, 1), (.ireturn, 1)]
theorem s_L_law_239 : Seg 240 239 g_L_law_239 := seg_of (by decide +kernel)
def g_L_law_241 : List (Instr × Nat) := [(.aload 1, 1), (.aload 0, 1), (.iload 4, 2), (.iconst 1, 1), (.iadd, 1), (.iaload, 1), (.aload 0, 1), (.iload 4, 2), (.iconst 2, 1), (.iadd, 1), (.iaload, 1), (.ifCond .eq 261, 3)]
theorem s_L_law_241 : Seg 240 241 g_L_law_241 := seg_of (by decide +kernel)
def g_L_law_257 : List (Instr × Nat) := [(.iconst 1, 1), (.goto 262, 3)]
theorem s_L_law_257 : Seg 240 257 g_L_law_257 := seg_of (by decide +kernel)
def g_L_law_261 : List (Instr × Nat) := [(.iconst 0, 1)]
theorem s_L_law_261 : Seg 240 261 g_L_law_261 := seg_of (by decide +kernel)
def g_L_law_262 : List (Instr × Nat) := [(.invokevirtual 20311, 3), (.aload 2, 1), (.aload 0, 1), (.iload 4, 2), (.iconst 1, 1), (.iadd, 1), (.iaload, 1), (.aload 0, 1), (.iload 4, 2), (.iconst 2, 1), (.iadd, 1), (.iaload, 1), (.ifCond .eq 285, 3)]
theorem s_L_law_262 : Seg 240 262 g_L_law_262 := seg_of (by decide +kernel)
def g_L_law_281 : List (Instr × Nat) := [(.iconst 1, 1), (.goto 286, 3)]
theorem s_L_law_281 : Seg 240 281 g_L_law_281 := seg_of (by decide +kernel)
def g_L_law_285 : List (Instr × Nat) := [(.iconst 0, 1)]
theorem s_L_law_285 : Seg 240 285 g_L_law_285 := seg_of (by decide +kernel)
def g_L_law_286 : List (Instr × Nat) := [(.invokevirtual 560312, 3), (.if_icmp .eq 2204, 3)]
theorem s_L_law_286 : Seg 240 286 g_L_law_286 := seg_of (by decide +kernel)
def g_L_law_292 : List (Instr × Nat) := [(.iconst 0, 1), (.ireturn, 1)]
theorem s_L_law_292 : Seg 240 292 g_L_law_292 := seg_of (by decide +kernel)
def g_L_law_294 : List (Instr × Nat) := [(.aload 1, 1), (.aload 0, 1), (.iload 4, 2), (.iconst 1, 1), (.iadd, 1), (.iaload, 1), (.invokevirtual 30211, 3), (.aload 2, 1), (.aload 0, 1), (.iload 4, 2), (.iconst 1, 1), (.iadd, 1), (.iaload, 1), (.invokevirtual 580212, 3), (.if_icmp .eq 2204, 3)]
theorem s_L_law_294 : Seg 240 294 g_L_law_294 := seg_of (by decide +kernel)
def g_L_law_317 : List (Instr × Nat) := [(.iconst 0, 1), (.ireturn, 1)]
theorem s_L_law_317 : Seg 240 317 g_L_law_317 := seg_of (by decide +kernel)
def g_L_law_319 : List (Instr × Nat) := [(.aload 1, 1), (.aload 0, 1), (.iload 4, 2), (.iconst 1, 1), (.iadd, 1), (.iaload, 1), (.aload 0, 1), (.iload 4, 2), (.iconst 2, 1), (.iadd, 1), (.iaload, 1), (.aload 0, 1), (.iload 4, 2), (.iconst 3, 1), (.iadd, 1), (.iaload, 1), (.invokevirtual 40411, 3), (.aload 2, 1), (.aload 0, 1), (.iload 4, 2), (.iconst 1, 1), (.iadd, 1), (.iaload, 1), (.aload 0, 1), (.iload 4, 2), (.iconst 2, 1), (.iadd, 1), (.iaload, 1), (.aload 0, 1), (.iload 4, 2), (.iconst 3, 1), (.iadd, 1), (.iaload, 1), (.invokevirtual 590412, 3), (.if_icmp .eq 2204, 3)]
theorem s_L_law_319 : Seg 240 319 g_L_law_319 := seg_of (by decide +kernel)
def g_L_law_366 : List (Instr × Nat) := [(.iconst 0, 1), (.ireturn, 1)]
theorem s_L_law_366 : Seg 240 366 g_L_law_366 := seg_of (by decide +kernel)
def g_L_law_368 : List (Instr × Nat) := [(.aload 1, 1), (.aload 0, 1), (.iload 4, 2), (.iconst 1, 1), (.iadd, 1), (.iaload, 1), (.aload 0, 1), (.iload 4, 2), (.iconst 2, 1), (.iadd, 1), (.iaload, 1), (.invokevirtual 50311, 3), (.aload 2, 1), (.aload 0, 1), (.iload 4, 2), (.iconst 1, 1), (.iadd, 1), (.iaload, 1), (.aload 0, 1), (.iload 4, 2), (.iconst 2, 1), (.iadd, 1), (.iaload, 1), (.invokevirtual 600312, 3), (.if_icmp .eq 2204, 3)]
theorem s_L_law_368 : Seg 240 368 g_L_law_368 := seg_of (by decide +kernel)
def g_L_law_403 : List (Instr × Nat) := [(.iconst 0, 1), (.ireturn, 1)]
theorem s_L_law_403 : Seg 240 403 g_L_law_403 := seg_of (by decide +kernel)
def g_L_law_405 : List (Instr × Nat) := [(.aload 1, 1), (.aload 0, 1), (.iload 4, 2), (.iconst 1, 1), (.iadd, 1), (.iaload, 1), (.aload 0, 1), (.iload 4, 2), (.iconst 2, 1), (.iadd, 1), (.iaload, 1), (.aload 0, 1), (.iload 4, 2), (.iconst 3, 1), (.iadd, 1), (.iaload, 1), (.aload 0, 1), (.iload 4, 2), (.iconst 4, 1), (.iadd, 1), (.iaload, 1), (.aload 0, 1), (.iload 4, 2), (.iconst 5, 1), (.iadd, 1), (.iaload, 1), (.invokevirtual 60611, 3), (.aload 2, 1), (.aload 0, 1), (.iload 4, 2), (.iconst 1, 1), (.iadd, 1), (.iaload, 1), (.aload 0, 1), (.iload 4, 2), (.iconst 2, 1), (.iadd, 1), (.iaload, 1), (.aload 0, 1), (.iload 4, 2), (.iconst 3, 1), (.iadd, 1), (.iaload, 1), (.aload 0, 1), (.iload 4, 2), (.iconst 4, 1), (.iadd, 1), (.iaload, 1), (.aload 0, 1), (.iload 4, 2), (.iconst 5, 1), (.iadd, 1), (.iaload, 1), (.invokevirtual 620612, 3), (.if_icmp .eq 2204, 3)]
theorem s_L_law_405 : Seg 240 405 g_L_law_405 := seg_of (by decide +kernel)
def g_L_law_476 : List (Instr × Nat) := [(.iconst 0, 1), (.ireturn, 1)]
theorem s_L_law_476 : Seg 240 476 g_L_law_476 := seg_of (by decide +kernel)
def g_L_law_478 : List (Instr × Nat) := [(.aload 1, 1), (.aload 0, 1), (.iload 4, 2), (.iconst 1, 1), (.iadd, 1), (.iaload, 1), (.aload 0, 1), (.iload 4, 2), (.iconst 2, 1), (.iadd, 1), (.iaload, 1), (.aload 0, 1), (.iload 4, 2), (.iconst 3, 1), (.iadd, 1), (.iaload, 1), (.aload 0, 1), (.iload 4, 2), (.iconst 4, 1), (.iadd, 1), (.iaload, 1), (.invokevirtual 70511, 3), (.aload 2, 1), (.aload 0, 1), (.iload 4, 2), (.iconst 1, 1), (.iadd, 1), (.iaload, 1), (.aload 0, 1), (.iload 4, 2), (.iconst 2, 1), (.iadd, 1), (.iaload, 1), (.aload 0, 1), (.iload 4, 2), (.iconst 3, 1), (.iadd, 1), (.iaload, 1), (.aload 0, 1), (.iload 4, 2), (.iconst 4, 1), (.iadd, 1), (.iaload, 1), (.invokevirtual 630512, 3), (.if_icmp .eq 2204, 3)]
theorem s_L_law_478 : Seg 240 478 g_L_law_478 := seg_of (by decide +kernel)
def g_L_law_537 : List (Instr × Nat) := [(.iconst 0, 1), (.ireturn, 1)]
theorem s_L_law_537 : Seg 240 537 g_L_law_537 := seg_of (by decide +kernel)
def g_L_law_539 : List (Instr × Nat) := [(.aload 1, 1), (.aload 0, 1), (.iload 4, 2), (.iconst 1, 1), (.iadd, 1), (.iaload, 1), (.aload 0, 1), (.iload 4, 2), (.iconst 2, 1), (.iadd, 1), (.iaload, 1), (.aload 0, 1), (.iload 4, 2), (.iconst 3, 1), (.iadd, 1), (.iaload, 1), (.aload 0, 1), (.iload 4, 2), (.iconst 4, 1), (.iadd, 1), (.iaload, 1), (.invokevirtual 80511, 3), (.aload 2, 1), (.aload 0, 1), (.iload 4, 2), (.iconst 1, 1), (.iadd, 1), (.iaload, 1), (.aload 0, 1), (.iload 4, 2), (.iconst 2, 1), (.iadd, 1), (.iaload, 1), (.aload 0, 1), (.iload 4, 2), (.iconst 3, 1), (.iadd, 1), (.iaload, 1), (.aload 0, 1), (.iload 4, 2), (.iconst 4, 1), (.iadd, 1), (.iaload, 1), (.invokevirtual 640512, 3), (.if_icmp .eq 2204, 3)]
theorem s_L_law_539 : Seg 240 539 g_L_law_539 := seg_of (by decide +kernel)
def g_L_law_598 : List (Instr × Nat) := [(.iconst 0, 1), (.ireturn, 1)]
theorem s_L_law_598 : Seg 240 598 g_L_law_598 := seg_of (by decide +kernel)
def g_L_law_600 : List (Instr × Nat) := [(.aload 1, 1), (.aload 0, 1), (.iload 4, 2), (.iconst 1, 1), (.iadd, 1), (.iaload, 1), (.aload 0, 1), (.iload 4, 2), (.iconst 2, 1), (.iadd, 1), (.iaload, 1), (.aload 0, 1), (.iload 4, 2), (.iconst 3, 1), (.iadd, 1), (.iaload, 1), (.aload 0, 1), (.iload 4, 2), (.iconst 4, 1), (.iadd, 1), (.iaload, 1), (.aload 0, 1), (.iload 4, 2), (.iconst 5, 1), (.iadd, 1), (.iaload, 1), (.aload 0, 1), (.iload 4, 2), (.iconst 6, 2), (.iadd, 1), (.iaload, 1), (.invokevirtual 90711, 3), (.aload 2, 1), (.aload 0, 1), (.iload 4, 2), (.iconst 1, 1), (.iadd, 1), (.iaload, 1), (.aload 0, 1), (.iload 4, 2), (.iconst 2, 1), (.iadd, 1), (.iaload, 1), (.aload 0, 1), (.iload 4, 2), (.iconst 3, 1), (.iadd, 1), (.iaload, 1), (.aload 0, 1), (.iload 4, 2), (.iconst 4, 1), (.iadd, 1), (.iaload, 1), (.aload 0, 1), (.iload 4, 2), (.iconst 5, 1), (.iadd, 1), (.iaload, 1), (.aload 0, 1), (.iload 4, 2), (.iconst 6, 2), (.iadd, 1), (.iaload, 1), (.invokevirtual 650712, 3), (.if_icmp .eq 2204, 3)]
theorem s_L_law_600 : Seg 240 600 g_L_law_600 := seg_of (by decide +kernel)
def g_L_law_685 : List (Instr × Nat) := [(.iconst 0, 1), (.ireturn, 1)]
theorem s_L_law_685 : Seg 240 685 g_L_law_685 := seg_of (by decide +kernel)
def g_L_law_687 : List (Instr × Nat) := [(.aload 1, 1), (.aload 0, 1), (.iload 4, 2), (.iconst 1, 1), (.iadd, 1), (.iaload, 1), (.aload 0, 1), (.iload 4, 2), (.iconst 2, 1), (.iadd, 1), (.iaload, 1), (.aload 0, 1), (.iload 4, 2), (.iconst 3, 1), (.iadd, 1), (.iaload, 1), (.invokevirtual 100411, 3), (.aload 2, 1), (.aload 0, 1), (.iload 4, 2), (.iconst 1, 1), (.iadd, 1), (.iaload, 1), (.aload 0, 1), (.iload 4, 2), (.iconst 2, 1), (.iadd, 1), (.iaload, 1), (.aload 0, 1), (.iload 4, 2), (.iconst 3, 1), (.iadd, 1), (.iaload, 1), (.invokevirtual 730412, 3), (.if_icmp .eq 2204, 3)]
theorem s_L_law_687 : Seg 240 687 g_L_law_687 := seg_of (by decide +kernel)
def g_L_law_734 : List (Instr × Nat) := [(.iconst 0, 1), (.ireturn, 1)]
theorem s_L_law_734 : Seg 240 734 g_L_law_734 := seg_of (by decide +kernel)
def g_L_law_736 : List (Instr × Nat) := [(.aload 1, 1), (.aload 0, 1), (.iload 4, 2), (.iconst 1, 1), (.iadd, 1), (.iaload, 1), (.aload 0, 1), (.iload 4, 2), (.iconst 2, 1), (.iadd, 1), (.iaload, 1), (.aload 0, 1), (.iload 4, 2), (.iconst 3, 1), (.iadd, 1), (.iaload, 1), (.invokevirtual 110411, 3), (.aload 2, 1), (.aload 0, 1), (.iload 4, 2), (.iconst 1, 1), (.iadd, 1), (.iaload, 1), (.aload 0, 1), (.iload 4, 2), (.iconst 2, 1), (.iadd, 1), (.iaload, 1), (.aload 0, 1), (.iload 4, 2), (.iconst 3, 1), (.iadd, 1), (.iaload, 1), (.invokevirtual 750412, 3), (.if_icmp .eq 2204, 3)]
theorem s_L_law_736 : Seg 240 736 g_L_law_736 := seg_of (by decide +kernel)
def g_L_law_783 : List (Instr × Nat) := [(.iconst 0, 1), (.ireturn, 1)]
theorem s_L_law_783 : Seg 240 783 g_L_law_783 := seg_of (by decide +kernel)
def g_L_law_785 : List (Instr × Nat) := [(.aload 1, 1), (.aload 0, 1), (.iload 4, 2), (.iconst 1, 1), (.iadd, 1), (.iaload, 1), (.aload 0, 1), (.iload 4, 2), (.iconst 2, 1), (.iadd, 1), (.iaload, 1), (.aload 0, 1), (.iload 4, 2), (.iconst 3, 1), (.iadd, 1), (.iaload, 1), (.aload 0, 1), (.iload 4, 2), (.iconst 4, 1), (.iadd, 1), (.iaload, 1), (.aload 0, 1), (.iload 4, 2), (.iconst 5, 1), (.iadd, 1), (.iaload, 1), (.invokevirtual 120611, 3), (.aload 2, 1), (.aload 0, 1), (.iload 4, 2), (.iconst 1, 1), (.iadd, 1), (.iaload, 1), (.aload 0, 1), (.iload 4, 2), (.iconst 2, 1), (.iadd, 1), (.iaload, 1), (.aload 0, 1), (.iload 4, 2), (.iconst 3, 1), (.iadd, 1), (.iaload, 1), (.aload 0, 1), (.iload 4, 2), (.iconst 4, 1), (.iadd, 1), (.iaload, 1), (.aload 0, 1), (.iload 4, 2), (.iconst 5, 1), (.iadd, 1), (.iaload, 1), (.invokevirtual 780612, 3), (.if_icmp .eq 2204, 3)]
theorem s_L_law_785 : Seg 240 785 g_L_law_785 := seg_of (by decide +kernel)
def g_L_law_856 : List (Instr × Nat) := [(.iconst 0, 1), (.ireturn, 1)]
theorem s_L_law_856 : Seg 240 856 g_L_law_856 := seg_of (by decide +kernel)
def g_L_law_858 : List (Instr × Nat) := [(.aload 1, 1), (.aload 0, 1), (.iload 4, 2), (.iconst 1, 1), (.iadd, 1), (.iaload, 1), (.invokevirtual 130211, 3), (.aload 2, 1), (.aload 0, 1), (.iload 4, 2), (.iconst 1, 1), (.iadd, 1), (.iaload, 1), (.invokevirtual 790212, 3), (.if_icmp .eq 2204, 3)]
theorem s_L_law_858 : Seg 240 858 g_L_law_858 := seg_of (by decide +kernel)
def g_L_law_881 : List (Instr × Nat) := [(.iconst 0, 1), (.ireturn, 1)]
theorem s_L_law_881 : Seg 240 881 g_L_law_881 := seg_of (by decide +kernel)
def g_L_law_883 : List (Instr × Nat) := [(.aload 1, 1), (.aload 0, 1), (.iload 4, 2), (.iconst 1, 1), (.iadd, 1), (.iaload, 1), (.invokevirtual 140211, 3), (.aload 2, 1), (.aload 0, 1), (.iload 4, 2), (.iconst 1, 1), (.iadd, 1), (.iaload, 1), (.invokevirtual 960212, 3), (.if_icmp .eq 2204, 3)]
theorem s_L_law_883 : Seg 240 883 g_L_law_883 := seg_of (by decide +kernel)
def g_L_law_906 : List (Instr × Nat) := [(.iconst 0, 1), (.ireturn, 1)]
theorem s_L_law_906 : Seg 240 906 g_L_law_906 := seg_of (by decide +kernel)
def g_L_law_908 : List (Instr × Nat) := [(.aload 1, 1), (.invokevirtual 150111, 3), (.aload 2, 1), (.invokevirtual 980112, 3), (.if_icmp .eq 2204, 3)]
theorem s_L_law_908 : Seg 240 908 g_L_law_908 := seg_of (by decide +kernel)
def g_L_law_919 : List (Instr × Nat) := [(.iconst 0, 1), (.ireturn, 1)]
theorem s_L_law_919 : Seg 240 919 g_L_law_919 := seg_of (by decide +kernel)
def g_L_law_921 : List (Instr × Nat) := [(.aload 1, 1), (.invokevirtual 160111, 3), (.aload 2, 1), (.invokevirtual 990112, 3), (.if_icmp .eq 2204, 3)]
theorem s_L_law_921 : Seg 240 921 g_L_law_921 := seg_of (by decide +kernel)
def g_L_law_932 : List (Instr × Nat) := [(.iconst 0, 1), (.ireturn, 1)]
theorem s_L_law_932 : Seg 240 932 g_L_law_932 := seg_of (by decide +kernel)
def g_L_law_934 : List (Instr × Nat) := [(.aload 1, 1), (.aload 0, 1), (.iload 4, 2), (.iconst 1, 1), (.iadd, 1), (.iaload, 1), (.aload 0, 1), (.iload 4, 2), (.iconst 2, 1), (.iadd, 1), (.iaload, 1), (.invokevirtual 170311, 3), (.aload 2, 1), (.aload 0, 1), (.iload 4, 2), (.iconst 1, 1), (.iadd, 1), (.iaload, 1), (.aload 0, 1), (.iload 4, 2), (.iconst 2, 1), (.iadd, 1), (.iaload, 1), (.invokevirtual 1010312, 3), (.if_icmp .eq 2204, 3)]
theorem s_L_law_934 : Seg 240 934 g_L_law_934 := seg_of (by decide +kernel)
def g_L_law_969 : List (Instr × Nat) := [(.iconst 0, 1), (.ireturn, 1)]
theorem s_L_law_969 : Seg 240 969 g_L_law_969 := seg_of (by decide +kernel)
def g_L_law_971 : List (Instr × Nat) := [(.aload 1, 1), (.aload 0, 1), (.iload 4, 2), (.iconst 1, 1), (.iadd, 1), (.iaload, 1), (.aload 0, 1), (.iload 4, 2), (.iconst 2, 1), (.iadd, 1), (.iaload, 1), (.invokevirtual 180311, 3), (.aload 2, 1), (.aload 0, 1), (.iload 4, 2), (.iconst 1, 1), (.iadd, 1), (.iaload, 1), (.aload 0, 1), (.iload 4, 2), (.iconst 2, 1), (.iadd, 1), (.iaload, 1), (.invokevirtual 1020312, 3), (.if_icmp .eq 2204, 3)]
theorem s_L_law_971 : Seg 240 971 g_L_law_971 := seg_of (by decide +kernel)
def g_L_law_1006 : List (Instr × Nat) := [(.iconst 0, 1), (.ireturn, 1)]
theorem s_L_law_1006 : Seg 240 1006 g_L_law_1006 := seg_of (by decide +kernel)
def g_L_law_1008 : List (Instr × Nat) := [(.aload 1, 1), (.aload 0, 1), (.iload 4, 2), (.iconst 1, 1), (.iadd, 1), (.iaload, 1), (.aload 0, 1), (.iload 4, 2), (.iconst 2, 1), (.iadd, 1), (.iaload, 1), (.aload 0, 1), (.iload 4, 2), (.iconst 3, 1), (.iadd, 1), (.iaload, 1), (.aload 0, 1), (.iload 4, 2), (.iconst 4, 1), (.iadd, 1), (.iaload, 1), (.aload 0, 1), (.iload 4, 2), (.iconst 5, 1), (.iadd, 1), (.iaload, 1), (.aload 0, 1), (.iload 4, 2), (.iconst 6, 2), (.iadd, 1), (.iaload, 1), (.aload 0, 1), (.iload 4, 2), (.iconst 7, 2), (.iadd, 1), (.iaload, 1), (.aload 3, 1), (.invokeinterface 238 9, 3), (.istore 5, 2), (.aload 2, 1), (.aload 0, 1), (.iload 4, 2), (.iconst 1, 1), (.iadd, 1), (.iaload, 1), (.aload 0, 1), (.iload 4, 2), (.iconst 2, 1), (.iadd, 1), (.iaload, 1), (.aload 0, 1), (.iload 4, 2), (.iconst 3, 1), (.iadd, 1), (.iaload, 1), (.aload 0, 1), (.iload 4, 2), (.iconst 4, 1), (.iadd, 1), (.iaload, 1), (.aload 0, 1), (.iload 4, 2), (.iconst 5, 1), (.iadd, 1), (.iaload, 1), (.aload 0, 1), (.iload 4, 2), (.iconst 6, 2), (.iadd, 1), (.iaload, 1), (.aload 0, 1), (.iload 4, 2), (.iconst 7, 2), (.iadd, 1), (.iaload, 1), (.invokevirtual 1050812, 3), (.istore 6, 2), (.aload 2, 1), (.invokevirtual 490112, 3), (.iload 5, 2), (.if_icmp .eq 1120, 3)]
theorem s_L_law_1008 : Seg 240 1008 g_L_law_1008 := seg_of (by decide +kernel)
def g_L_law_1118 : List (Instr × Nat) := [(.iconst 0, 1), (.ireturn, 1)]
theorem s_L_law_1118 : Seg 240 1118 g_L_law_1118 := seg_of (by decide +kernel)
def g_L_law_1120 : List (Instr × Nat) := [(.iload 5, 2), (.ifCond .ne 1137, 3)]
theorem s_L_law_1120 : Seg 240 1120 g_L_law_1120 := seg_of (by decide +kernel)
def g_L_law_1125 : List (Instr × Nat) := [(.aload 3, 1), (.iconst 0, 1), (.laload, 1), (.iload 6, 2), (.i2l, 1), (.lcmp, 1), (.ifCond .eq 1137, 3)]
theorem s_L_law_1125 : Seg 240 1125 g_L_law_1125 := seg_of (by decide +kernel)
def g_L_law_1135 : List (Instr × Nat) := [(.iconst 0, 1), (.ireturn, 1)]
theorem s_L_law_1135 : Seg 240 1135 g_L_law_1135 := seg_of (by decide +kernel)
def g_L_law_1137 : List (Instr × Nat) := [(.goto 2204, 3)]
theorem s_L_law_1137 : Seg 240 1137 g_L_law_1137 := seg_of (by decide +kernel)
def g_L_law_1140 : List (Instr × Nat) := [(.aload 1, 1), (.aload 0, 1), (.iload 4, 2), (.iconst 1, 1), (.iadd, 1), (.iaload, 1), (.aload 0, 1), (.iload 4, 2), (.iconst 2, 1), (.iadd, 1), (.iaload, 1), (.invokevirtual 200311, 3), (.aload 2, 1), (.aload 0, 1), (.iload 4, 2), (.iconst 1, 1), (.iadd, 1), (.iaload, 1), (.aload 0, 1), (.iload 4, 2), (.iconst 2, 1), (.iadd, 1), (.iaload, 1), (.invokevirtual 1060312, 3), (.if_icmp .eq 2204, 3)]
theorem s_L_law_1140 : Seg 240 1140 g_L_law_1140 := seg_of (by decide +kernel)
def g_L_law_1175 : List (Instr × Nat) := [(.iconst 0, 1), (.ireturn, 1)]
theorem s_L_law_1175 : Seg 240 1175 g_L_law_1175 := seg_of (by decide +kernel)
def g_L_law_1177 : List (Instr × Nat) := [(.aload 1, 1), (.aload 0, 1), (.iload 4, 2), (.iconst 1, 1), (.iadd, 1), (.iaload, 1), (.aload 0, 1), (.iload 4, 2), (.iconst 2, 1), (.iadd, 1), (.iaload, 1), (.invokevirtual 210311, 3), (.aload 2, 1), (.aload 0, 1), (.iload 4, 2), (.iconst 1, 1), (.iadd, 1), (.iaload, 1), (.aload 0, 1), (.iload 4, 2), (.iconst 2, 1), (.iadd, 1), (.iaload, 1), (.invokevirtual 1210312, 3), (.if_icmp .eq 2204, 3)]
theorem s_L_law_1177 : Seg 240 1177 g_L_law_1177 := seg_of (by decide +kernel)
def g_L_law_1212 : List (Instr × Nat) := [(.iconst 0, 1), (.ireturn, 1)]
theorem s_L_law_1212 : Seg 240 1212 g_L_law_1212 := seg_of (by decide +kernel)
def g_L_law_1214 : List (Instr × Nat) := [(.aload 1, 1), (.aload 0, 1), (.iload 4, 2), (.iconst 1, 1), (.iadd, 1), (.iaload, 1), (.aload 0, 1), (.iload 4, 2), (.iconst 2, 1), (.iadd, 1), (.iaload, 1), (.aload 0, 1), (.iload 4, 2), (.iconst 3, 1), (.iadd, 1), (.iaload, 1), (.aload 3, 1), (.invokeinterface 239 5, 3), (.istore 5, 2), (.aload 2, 1), (.aload 0, 1), (.iload 4, 2), (.iconst 1, 1), (.iadd, 1), (.iaload, 1), (.aload 0, 1), (.iload 4, 2), (.iconst 2, 1), (.iadd, 1), (.iaload, 1), (.aload 0, 1), (.iload 4, 2), (.iconst 3, 1), (.iadd, 1), (.iaload, 1), (.invokevirtual 1220412, 3), (.istore 6, 2), (.aload 2, 1), (.invokevirtual 490112, 3), (.iload 5, 2), (.if_icmp .eq 1274, 3)]
theorem s_L_law_1214 : Seg 240 1214 g_L_law_1214 := seg_of (by decide +kernel)
def g_L_law_1272 : List (Instr × Nat) := [(.iconst 0, 1), (.ireturn, 1)]
theorem s_L_law_1272 : Seg 240 1272 g_L_law_1272 := seg_of (by decide +kernel)
def g_L_law_1274 : List (Instr × Nat) := [(.iload 5, 2), (.ifCond .ne 1291, 3)]
theorem s_L_law_1274 : Seg 240 1274 g_L_law_1274 := seg_of (by decide +kernel)
def g_L_law_1279 : List (Instr × Nat) := [(.aload 3, 1), (.iconst 0, 1), (.laload, 1), (.iload 6, 2), (.i2l, 1), (.lcmp, 1), (.ifCond .eq 1291, 3)]
theorem s_L_law_1279 : Seg 240 1279 g_L_law_1279 := seg_of (by decide +kernel)
def g_L_law_1289 : List (Instr × Nat) := [(.iconst 0, 1), (.ireturn, 1)]
theorem s_L_law_1289 : Seg 240 1289 g_L_law_1289 := seg_of (by decide +kernel)
def g_L_law_1291 : List (Instr × Nat) := [(.goto 2204, 3)]
theorem s_L_law_1291 : Seg 240 1291 g_L_law_1291 := seg_of (by decide +kernel)
def g_L_law_1294 : List (Instr × Nat) := [(.aload 1, 1), (.aload 0, 1), (.iload 4, 2), (.iconst 1, 1), (.iadd, 1), (.iaload, 1), (.aload 0, 1), (.iload 4, 2), (.iconst 2, 1), (.iadd, 1), (.iaload, 1), (.aload 0, 1), (.iload 4, 2), (.iconst 3, 1), (.iadd, 1), (.iaload, 1), (.aload 0, 1), (.iload 4, 2), (.iconst 4, 1), (.iadd, 1), (.iaload, 1), (.aload 0, 1), (.iload 4, 2), (.iconst 5, 1), (.iadd, 1), (.iaload, 1), (.invokevirtual 230611, 3), (.aload 2, 1), (.aload 0, 1), (.iload 4, 2), (.iconst 1, 1), (.iadd, 1), (.iaload, 1), (.aload 0, 1), (.iload 4, 2), (.iconst 2, 1), (.iadd, 1), (.iaload, 1), (.aload 0, 1), (.iload 4, 2), (.iconst 3, 1), (.iadd, 1), (.iaload, 1), (.aload 0, 1), (.iload 4, 2), (.iconst 4, 1), (.iadd, 1), (.iaload, 1), (.aload 0, 1), (.iload 4, 2), (.iconst 5, 1), (.iadd, 1), (.iaload, 1), (.invokevirtual 1230612, 3), (.if_icmp .eq 2204, 3)]
theorem s_L_law_1294 : Seg 240 1294 g_L_law_1294 := seg_of (by decide +kernel)
def g_L_law_1365 : List (Instr × Nat) := [(.iconst 0, 1), (.ireturn, 1)]
theorem s_L_law_1365 : Seg 240 1365 g_L_law_1365 := seg_of (by decide +kernel)
def g_L_law_1367 : List (Instr × Nat) := [(.aload 1, 1), (.aload 0, 1), (.iload 4, 2), (.iconst 1, 1), (.iadd, 1), (.iaload, 1), (.aload 0, 1), (.iload 4, 2), (.iconst 2, 1), (.iadd, 1), (.iaload, 1), (.ifCond .eq 1387, 3)]
theorem s_L_law_1367 : Seg 240 1367 g_L_law_1367 := seg_of (by decide +kernel)
def g_L_law_1383 : List (Instr × Nat) := [(.iconst 1, 1), (.goto 1388, 3)]
theorem s_L_law_1383 : Seg 240 1383 g_L_law_1383 := seg_of (by decide +kernel)
def g_L_law_1387 : List (Instr × Nat) := [(.iconst 0, 1)]
theorem s_L_law_1387 : Seg 240 1387 g_L_law_1387 := seg_of (by decide +kernel)
def g_L_law_1388 : List (Instr × Nat) := [(.invokevirtual 240311, 3), (.aload 2, 1), (.aload 0, 1), (.iload 4, 2), (.iconst 1, 1), (.iadd, 1), (.iaload, 1), (.aload 0, 1), (.iload 4, 2), (.iconst 2, 1), (.iadd, 1), (.iaload, 1), (.ifCond .eq 1411, 3)]
theorem s_L_law_1388 : Seg 240 1388 g_L_law_1388 := seg_of (by decide +kernel)
def g_L_law_1407 : List (Instr × Nat) := [(.iconst 1, 1), (.goto 1412, 3)]
theorem s_L_law_1407 : Seg 240 1407 g_L_law_1407 := seg_of (by decide +kernel)
def g_L_law_1411 : List (Instr × Nat) := [(.iconst 0, 1)]
theorem s_L_law_1411 : Seg 240 1411 g_L_law_1411 := seg_of (by decide +kernel)
def g_L_law_1412 : List (Instr × Nat) := [(.invokevirtual 1240312, 3), (.if_icmp .eq 2204, 3)]
theorem s_L_law_1412 : Seg 240 1412 g_L_law_1412 := seg_of (by decide +kernel)
def g_L_law_1418 : List (Instr × Nat) := [(.iconst 0, 1), (.ireturn, 1)]
theorem s_L_law_1418 : Seg 240 1418 g_L_law_1418 := seg_of (by decide +kernel)
def g_L_law_1420 : List (Instr × Nat) := [(.aload 1, 1), (.aload 0, 1), (.iload 4, 2), (.iconst 1, 1), (.iadd, 1), (.iaload, 1), (.aload 0, 1), (.iload 4, 2), (.iconst 2, 1), (.iadd, 1), (.iaload, 1), (.invokevirtual 250311, 3), (.aload 2, 1), (.aload 0, 1), (.iload 4, 2), (.iconst 1, 1), (.iadd, 1), (.iaload, 1), (.aload 0, 1), (.iload 4, 2), (.iconst 2, 1), (.iadd, 1), (.iaload, 1), (.invokevirtual 1250312, 3), (.if_icmp .eq 2204, 3)]
theorem s_L_law_1420 : Seg 240 1420 g_L_law_1420 := seg_of (by decide +kernel)
def g_L_law_1455 : List (Instr × Nat) := [(.iconst 0, 1), (.ireturn, 1)]
theorem s_L_law_1455 : Seg 240 1455 g_L_law_1455 := seg_of (by decide +kernel)
def g_L_law_1457 : List (Instr × Nat) := [(.aload 1, 1), (.aload 0, 1), (.iload 4, 2), (.iconst 1, 1), (.iadd, 1), (.iaload, 1), (.invokevirtual 260211, 3), (.aload 2, 1), (.aload 0, 1), (.iload 4, 2), (.iconst 1, 1), (.iadd, 1), (.iaload, 1), (.invokevirtual 1270212, 3), (.if_icmp .eq 2204, 3)]
theorem s_L_law_1457 : Seg 240 1457 g_L_law_1457 := seg_of (by decide +kernel)
def g_L_law_1480 : List (Instr × Nat) := [(.iconst 0, 1), (.ireturn, 1)]
theorem s_L_law_1480 : Seg 240 1480 g_L_law_1480 := seg_of (by decide +kernel)
def g_L_law_1482 : List (Instr × Nat) := [(.aload 1, 1), (.aload 0, 1), (.iload 4, 2), (.iconst 1, 1), (.iadd, 1), (.iaload, 1), (.invokevirtual 270211, 3), (.aload 2, 1), (.aload 0, 1), (.iload 4, 2), (.iconst 1, 1), (.iadd, 1), (.iaload, 1), (.invokevirtual 1300212, 3), (.if_icmp .eq 2204, 3)]
theorem s_L_law_1482 : Seg 240 1482 g_L_law_1482 := seg_of (by decide +kernel)
def g_L_law_1505 : List (Instr × Nat) := [(.iconst 0, 1), (.ireturn, 1)]
theorem s_L_law_1505 : Seg 240 1505 g_L_law_1505 := seg_of (by decide +kernel)
def g_L_law_1507 : List (Instr × Nat) := [(.aload 1, 1), (.aload 0, 1), (.iload 4, 2), (.iconst 1, 1), (.iadd, 1), (.iaload, 1), (.invokevirtual 280211, 3), (.aload 2, 1), (.aload 0, 1), (.iload 4, 2), (.iconst 1, 1), (.iadd, 1), (.iaload, 1), (.invokevirtual 1310212, 3), (.if_icmp .eq 2204, 3)]
theorem s_L_law_1507 : Seg 240 1507 g_L_law_1507 := seg_of (by decide +kernel)
def g_L_law_1530 : List (Instr × Nat) := [(.iconst 0, 1), (.ireturn, 1)]
theorem s_L_law_1530 : Seg 240 1530 g_L_law_1530 := seg_of (by decide +kernel)
def g_L_law_1532 : List (Instr × Nat) := [(.aload 1, 1), (.aload 0, 1), (.iload 4, 2), (.iconst 1, 1), (.iadd, 1), (.iaload, 1), (.aload 0, 1), (.iload 4, 2), (.iconst 2, 1), (.iadd, 1), (.iaload, 1), (.aload 0, 1), (.iload 4, 2), (.iconst 3, 1), (.iadd, 1), (.iaload, 1), (.aload 0, 1), (.iload 4, 2), (.iconst 4, 1), (.iadd, 1), (.iaload, 1), (.aload 0, 1), (.iload 4, 2), (.iconst 5, 1), (.iadd, 1), (.iaload, 1), (.aload 0, 1), (.iload 4, 2), (.iconst 6, 2), (.iadd, 1), (.iaload, 1), (.aload 0, 1), (.iload 4, 2), (.iconst 7, 2), (.iadd, 1), (.iaload, 1), (.invokevirtual 290811, 3), (.aload 2, 1), (.aload 0, 1), (.iload 4, 2), (.iconst 1, 1), (.iadd, 1), (.iaload, 1), (.aload 0, 1), (.iload 4, 2), (.iconst 2, 1), (.iadd, 1), (.iaload, 1), (.aload 0, 1), (.iload 4, 2), (.iconst 3, 1), (.iadd, 1), (.iaload, 1), (.aload 0, 1), (.iload 4, 2), (.iconst 4, 1), (.iadd, 1), (.iaload, 1), (.aload 0, 1), (.iload 4, 2), (.iconst 5, 1), (.iadd, 1), (.iaload, 1), (.aload 0, 1), (.iload 4, 2), (.iconst 6, 2), (.iadd, 1), (.iaload, 1), (.aload 0, 1), (.iload 4, 2), (.iconst 7, 2), (.iadd, 1), (.iaload, 1), (.invokevirtual 1320812, 3), (.if_icmp .eq 2204, 3)]
theorem s_L_law_1532 : Seg 240 1532 g_L_law_1532 := seg_of (by decide +kernel)
def g_L_law_1631 : List (Instr × Nat) := [(.iconst 0, 1), (.ireturn, 1)]
theorem s_L_law_1631 : Seg 240 1631 g_L_law_1631 := seg_of (by decide +kernel)
def g_L_law_1633 : List (Instr × Nat) := [(.aload 1, 1), (.aload 0, 1), (.iload 4, 2), (.iconst 1, 1), (.iadd, 1), (.iaload, 1), (.aload 0, 1), (.iload 4, 2), (.iconst 2, 1), (.iadd, 1), (.iaload, 1), (.invokevirtual 300311, 3), (.aload 2, 1), (.aload 0, 1), (.iload 4, 2), (.iconst 1, 1), (.iadd, 1), (.iaload, 1), (.aload 0, 1), (.iload 4, 2), (.iconst 2, 1), (.iadd, 1), (.iaload, 1), (.invokevirtual 1340312, 3), (.if_icmp .eq 2204, 3)]
theorem s_L_law_1633 : Seg 240 1633 g_L_law_1633 := seg_of (by decide +kernel)
def g_L_law_1668 : List (Instr × Nat) := [(.iconst 0, 1), (.ireturn, 1)]
theorem s_L_law_1668 : Seg 240 1668 g_L_law_1668 := seg_of (by decide +kernel)
def g_L_law_1670 : List (Instr × Nat) := [(.aload 1, 1), (.aload 0, 1), (.iload 4, 2), (.iconst 1, 1), (.iadd, 1), (.iaload, 1), (.aload 0, 1), (.iload 4, 2), (.iconst 2, 1), (.iadd, 1), (.iaload, 1), (.invokevirtual 310311, 3), (.aload 2, 1), (.aload 0, 1), (.iload 4, 2), (.iconst 1, 1), (.iadd, 1), (.iaload, 1), (.aload 0, 1), (.iload 4, 2), (.iconst 2, 1), (.iadd, 1), (.iaload, 1), (.invokevirtual 1350312, 3), (.if_icmp .eq 2204, 3)]
theorem s_L_law_1670 : Seg 240 1670 g_L_law_1670 := seg_of (by decide +kernel)
def g_L_law_1705 : List (Instr × Nat) := [(.iconst 0, 1), (.ireturn, 1)]
theorem s_L_law_1705 : Seg 240 1705 g_L_law_1705 := seg_of (by decide +kernel)
def g_L_law_1707 : List (Instr × Nat) := [(.aload 1, 1), (.aload 0, 1), (.iload 4, 2), (.iconst 1, 1), (.iadd, 1), (.iaload, 1), (.aload 0, 1), (.iload 4, 2), (.iconst 2, 1), (.iadd, 1), (.iaload, 1), (.aload 0, 1), (.iload 4, 2), (.iconst 3, 1), (.iadd, 1), (.iaload, 1), (.aload 0, 1), (.iload 4, 2), (.iconst 4, 1), (.iadd, 1), (.iaload, 1), (.aload 0, 1), (.iload 4, 2), (.iconst 5, 1), (.iadd, 1), (.iaload, 1), (.aload 0, 1), (.iload 4, 2), (.iconst 6, 2), (.iadd, 1), (.iaload, 1), (.ifCond .eq 1752, 3)]
theorem s_L_law_1707 : Seg 240 1707 g_L_law_1707 := seg_of (by decide +kernel)
def g_L_law_1748 : List (Instr × Nat) := [(.iconst 1, 1), (.goto 1753, 3)]
theorem s_L_law_1748 : Seg 240 1748 g_L_law_1748 := seg_of (by decide +kernel)
def g_L_law_1752 : List (Instr × Nat) := [(.iconst 0, 1)]
theorem s_L_law_1752 : Seg 240 1752 g_L_law_1752 := seg_of (by decide +kernel)
def g_L_law_1753 : List (Instr × Nat) := [(.invokevirtual 320711, 3), (.aload 2, 1), (.aload 0, 1), (.iload 4, 2), (.iconst 1, 1), (.iadd, 1), (.iaload, 1), (.aload 0, 1), (.iload 4, 2), (.iconst 2, 1), (.iadd, 1), (.iaload, 1), (.aload 0, 1), (.iload 4, 2), (.iconst 3, 1), (.iadd, 1), (.iaload, 1), (.aload 0, 1), (.iload 4, 2), (.iconst 4, 1), (.iadd, 1), (.iaload, 1), (.aload 0, 1), (.iload 4, 2), (.iconst 5, 1), (.iadd, 1), (.iaload, 1), (.aload 0, 1), (.iload 4, 2), (.iconst 6, 2), (.iadd, 1), (.iaload, 1), (.ifCond .eq 1801, 3)]
theorem s_L_law_1753 : Seg 240 1753 g_L_law_1753 := seg_of (by decide +kernel)
def g_L_law_1797 : List (Instr × Nat) := [(.iconst 1, 1), (.goto 1802, 3)]
theorem s_L_law_1797 : Seg 240 1797 g_L_law_1797 := seg_of (by decide +kernel)
def g_L_law_1801 : List (Instr × Nat) := [(.iconst 0, 1)]
theorem s_L_law_1801 : Seg 240 1801 g_L_law_1801 := seg_of (by decide +kernel)
def g_L_law_1802 : List (Instr × Nat) := [(.invokevirtual 1360712, 3), (.if_icmp .eq 2204, 3)]
theorem s_L_law_1802 : Seg 240 1802 g_L_law_1802 := seg_of (by decide +kernel)
def g_L_law_1808 : List (Instr × Nat) := [(.iconst 0, 1), (.ireturn, 1)]
theorem s_L_law_1808 : Seg 240 1808 g_L_law_1808 := seg_of (by decide +kernel)
def g_L_law_1810 : List (Instr × Nat) := [(.aload 1, 1), (.aload 0, 1), (.iload 4, 2), (.iconst 1, 1), (.iadd, 1), (.iaload, 1), (.aload 0, 1), (.iload 4, 2), (.iconst 2, 1), (.iadd, 1), (.iaload, 1), (.aload 0, 1), (.iload 4, 2), (.iconst 3, 1), (.iadd, 1), (.iaload, 1), (.aload 0, 1), (.iload 4, 2), (.iconst 4, 1), (.iadd, 1), (.iaload, 1), (.aload 0, 1), (.iload 4, 2), (.iconst 5, 1), (.iadd, 1), (.iaload, 1), (.invokevirtual 330611, 3), (.aload 2, 1), (.aload 0, 1), (.iload 4, 2), (.iconst 1, 1), (.iadd, 1), (.iaload, 1), (.aload 0, 1), (.iload 4, 2), (.iconst 2, 1), (.iadd, 1), (.iaload, 1), (.aload 0, 1), (.iload 4, 2), (.iconst 3, 1), (.iadd, 1), (.iaload, 1), (.aload 0, 1), (.iload 4, 2), (.iconst 4, 1), (.iadd, 1), (.iaload, 1), (.aload 0, 1), (.iload 4, 2), (.iconst 5, 1), (.iadd, 1), (.iaload, 1), (.invokevirtual 1380612, 3), (.if_icmp .eq 2204, 3)]
theorem s_L_law_1810 : Seg 240 1810 g_L_law_1810 := seg_of (by decide +kernel)
def g_L_law_1881 : List (Instr × Nat) := [(.iconst 0, 1), (.ireturn, 1)]
theorem s_L_law_1881 : Seg 240 1881 g_L_law_1881 := seg_of (by decide +kernel)
def g_L_law_1883 : List (Instr × Nat) := [(.aload 1, 1), (.aload 0, 1), (.iload 4, 2), (.iconst 1, 1), (.iadd, 1), (.iaload, 1), (.aload 0, 1), (.iload 4, 2), (.iconst 2, 1), (.iadd, 1), (.iaload, 1), (.aload 0, 1), (.iload 4, 2), (.iconst 3, 1), (.iadd, 1), (.iaload, 1), (.aload 0, 1), (.iload 4, 2), (.iconst 4, 1), (.iadd, 1), (.iaload, 1), (.aload 0, 1), (.iload 4, 2), (.iconst 5, 1), (.iadd, 1), (.iaload, 1), (.aload 0, 1), (.iload 4, 2), (.iconst 6, 2), (.iadd, 1), (.iaload, 1), (.invokevirtual 340711, 3), (.aload 2, 1), (.aload 0, 1), (.iload 4, 2), (.iconst 1, 1), (.iadd, 1), (.iaload, 1), (.aload 0, 1), (.iload 4, 2), (.iconst 2, 1), (.iadd, 1), (.iaload, 1), (.aload 0, 1), (.iload 4, 2), (.iconst 3, 1), (.iadd, 1), (.iaload, 1), (.aload 0, 1), (.iload 4, 2), (.iconst 4, 1), (.iadd, 1), (.iaload, 1), (.aload 0, 1), (.iload 4, 2), (.iconst 5, 1), (.iadd, 1), (.iaload, 1), (.aload 0, 1), (.iload 4, 2), (.iconst 6, 2), (.iadd, 1), (.iaload, 1), (.invokevirtual 1390712, 3), (.if_icmp .eq 2204, 3)]
theorem s_L_law_1883 : Seg 240 1883 g_L_law_1883 := seg_of (by decide +kernel)
def g_L_law_1968 : List (Instr × Nat) := [(.iconst 0, 1), (.ireturn, 1)]
theorem s_L_law_1968 : Seg 240 1968 g_L_law_1968 := seg_of (by decide +kernel)
def g_L_law_1970 : List (Instr × Nat) := [(.aload 1, 1), (.aload 0, 1), (.iload 4, 2), (.iconst 1, 1), (.iadd, 1), (.iaload, 1), (.aload 0, 1), (.iload 4, 2), (.iconst 2, 1), (.iadd, 1), (.iaload, 1), (.aload 0, 1), (.iload 4, 2), (.iconst 3, 1), (.iadd, 1), (.iaload, 1), (.invokevirtual 350411, 3), (.aload 2, 1), (.aload 0, 1), (.iload 4, 2), (.iconst 1, 1), (.iadd, 1), (.iaload, 1), (.aload 0, 1), (.iload 4, 2), (.iconst 2, 1), (.iadd, 1), (.iaload, 1), (.aload 0, 1), (.iload 4, 2), (.iconst 3, 1), (.iadd, 1), (.iaload, 1), (.invokevirtual 1400412, 3), (.if_icmp .eq 2204, 3)]
theorem s_L_law_1970 : Seg 240 1970 g_L_law_1970 := seg_of (by decide +kernel)
def g_L_law_2017 : List (Instr × Nat) := [(.iconst 0, 1), (.ireturn, 1)]
theorem s_L_law_2017 : Seg 240 2017 g_L_law_2017 := seg_of (by decide +kernel)
def g_L_law_2019 : List (Instr × Nat) := [(.aload 1, 1), (.aload 0, 1), (.iload 4, 2), (.iconst 1, 1), (.iadd, 1), (.iaload, 1), (.aload 0, 1), (.iload 4, 2), (.iconst 2, 1), (.iadd, 1), (.iaload, 1), (.invokevirtual 360311, 3), (.aload 2, 1), (.aload 0, 1), (.iload 4, 2), (.iconst 1, 1), (.iadd, 1), (.iaload, 1), (.aload 0, 1), (.iload 4, 2), (.iconst 2, 1), (.iadd, 1), (.iaload, 1), (.invokevirtual 1410312, 3), (.if_icmp .eq 2204, 3)]
theorem s_L_law_2019 : Seg 240 2019 g_L_law_2019 := seg_of (by decide +kernel)
def g_L_law_2054 : List (Instr × Nat) := [(.iconst 0, 1), (.ireturn, 1)]
theorem s_L_law_2054 : Seg 240 2054 g_L_law_2054 := seg_of (by decide +kernel)
def g_L_law_2056 : List (Instr × Nat) := [(.aload 1, 1), (.aload 0, 1), (.iload 4, 2), (.iconst 1, 1), (.iadd, 1), (.iaload, 1), (.aload 0, 1), (.iload 4, 2), (.iconst 2, 1), (.iadd, 1), (.iaload, 1), (.aload 0, 1), (.iload 4, 2), (.iconst 3, 1), (.iadd, 1), (.iaload, 1), (.invokevirtual 370411, 3), (.aload 2, 1), (.aload 0, 1), (.iload 4, 2), (.iconst 1, 1), (.iadd, 1), (.iaload, 1), (.aload 0, 1), (.iload 4, 2), (.iconst 2, 1), (.iadd, 1), (.iaload, 1), (.aload 0, 1), (.iload 4, 2), (.iconst 3, 1), (.iadd, 1), (.iaload, 1), (.invokevirtual 1420412, 3), (.if_icmp .eq 2204, 3)]
theorem s_L_law_2056 : Seg 240 2056 g_L_law_2056 := seg_of (by decide +kernel)
def g_L_law_2103 : List (Instr × Nat) := [(.iconst 0, 1), (.ireturn, 1)]
theorem s_L_law_2103 : Seg 240 2103 g_L_law_2103 := seg_of (by decide +kernel)
def g_L_law_2105 : List (Instr × Nat) := [(.aload 1, 1), (.aload 0, 1), (.iload 4, 2), (.iconst 1, 1), (.iadd, 1), (.iaload, 1), (.aload 0, 1), (.iload 4, 2), (.iconst 2, 1), (.iadd, 1), (.iaload, 1), (.invokevirtual 380311, 3), (.aload 2, 1), (.aload 0, 1), (.iload 4, 2), (.iconst 1, 1), (.iadd, 1), (.iaload, 1), (.aload 0, 1), (.iload 4, 2), (.iconst 2, 1), (.iadd, 1), (.iaload, 1), (.invokevirtual 1430312, 3), (.if_icmp .eq 2204, 3)]
theorem s_L_law_2105 : Seg 240 2105 g_L_law_2105 := seg_of (by decide +kernel)
def g_L_law_2140 : List (Instr × Nat) := [(.iconst 0, 1), (.ireturn, 1)]
theorem s_L_law_2140 : Seg 240 2140 g_L_law_2140 := seg_of (by decide +kernel)
def g_L_law_2142 : List (Instr × Nat) := [(.aload 1, 1), (.aload 0, 1), (.iload 4, 2), (.iconst 1, 1), (.iadd, 1), (.iaload, 1), (.aload 0, 1), (.iload 4, 2), (.iconst 2, 1), (.iadd, 1), (.iaload, 1), (.invokevirtual 390311, 3), (.aload 2, 1), (.aload 0, 1), (.iload 4, 2), (.iconst 1, 1), (.iadd, 1), (.iaload, 1), (.aload 0, 1), (.iload 4, 2), (.iconst 2, 1), (.iadd, 1), (.iaload, 1), (.invokevirtual 1440312, 3), (.if_icmp .eq 2204, 3)]
theorem s_L_law_2142 : Seg 240 2142 g_L_law_2142 := seg_of (by decide +kernel)
def g_L_law_2177 : List (Instr × Nat) := [(.iconst 0, 1), (.ireturn, 1)]
theorem s_L_law_2177 : Seg 240 2177 g_L_law_2177 := seg_of (by decide +kernel)
def g_L_law_2179 : List (Instr × Nat) := [(.aload 1, 1), (.aload 0, 1), (.iload 4, 2), (.iconst 1, 1), (.iadd, 1), (.iaload, 1), (.invokevirtual 400211, 3), (.aload 2, 1), (.aload 0, 1), (.iload 4, 2), (.iconst 1, 1), (.iadd, 1), (.iaload, 1), (.invokevirtual 1450212, 3), (.if_icmp .eq 2204, 3)]
theorem s_L_law_2179 : Seg 240 2179 g_L_law_2179 := seg_of (by decide +kernel)
def g_L_law_2202 : List (Instr × Nat) := [(.iconst 0, 1), (.ireturn, 1)]
theorem s_L_law_2202 : Seg 240 2202 g_L_law_2202 := seg_of (by decide +kernel)
def g_L_law_2204 : List (Instr × Nat) := [(.iinc 4 (8), 3), (.goto 23, 3)]
theorem s_L_law_2204 : Seg 240 2204 g_L_law_2204 := seg_of (by decide +kernel)
def g_L_law_2210 : List (Instr × Nat) := [(.iconst 1, 1), (.ireturn, 1)]
theorem s_L_law_2210 : Seg 240 2210 g_L_law_2210 := seg_of (by decide +kernel)
/-! S indexOf -/
theorem mk_S_indexOf : 241 < 256 ∧ mtB 241 = true := ⟨by decide, mk_241⟩
def g_S_indexOf_0 : List (Instr × Nat) := [(.aload 0, 1), (.iload 1, 1), (.iconst 0, 1), (.invokevirtual 2420313, 3), (.ireturn, 1)]
theorem s_S_indexOf_0 : Seg 241 0 g_S_indexOf_0 := seg_of (by decide +kernel)
/-! S indexOf2 -/
theorem mk_S_indexOf2 : 242 < 256 ∧ mtB 242 = true := ⟨by decide, mk_242⟩
def g_S_indexOf2_0 : List (Instr × Nat) := [(.aload 0, 1), (.invokevirtual 2430113, 3), (.ifCond .eq 23, 3)]
theorem s_S_indexOf2_0 : Seg 242 0 g_S_indexOf2_0 := seg_of (by decide +kernel)
def g_S_indexOf2_7 : List (Instr × Nat) := [(.aload 0, 1), (.getstatic 3328, 3), (.iload 1, 1), (.iload 2, 1), (.aload 0, 1), (.invokevirtual 2440113, 3), (.invokeinterface 249 4, 3), (.goto 36, 3)]
theorem s_S_indexOf2_7 : Seg 242 7 g_S_indexOf2_7 := seg_of (by decide +kernel)
def g_S_indexOf2_23 : List (Instr × Nat) := [(.aload 0, 1), (.getstatic 3328, 3), (.iload 1, 1), (.iload 2, 1), (.aload 0, 1), (.invokevirtual 2440113, 3), (.jsr 0, 3)]
theorem s_S_indexOf2_23 : Seg 242 23 g_S_indexOf2_23 := seg_of (by decide +kernel)
def g_S_indexOf2_36 : List (Instr × Nat) := [(.ireturn, 1)]
theorem s_S_indexOf2_36 : Seg 242 36 g_S_indexOf2_36 := seg_of (by decide +kernel)
/-! S isLatin1 -/
theorem mk_S_isLatin1 : 243 < 256 ∧ mtB 243 = true := ⟨by decide, mk_243⟩
def g_S_isLatin1_0 : List (Instr × Nat) := [(.dload 0, 3), (.ifCond .eq 17, 3)]
theorem s_S_isLatin1_0 : Seg 243 0 g_S_isLatin1_0 := seg_of (by decide +kernel)
def g_S_isLatin1_6 : List (Instr × Nat) := [(.aload 0, 1), (.getfield 3329, 3), (.ifCond .ne 17, 3)]
theorem s_S_isLatin1_6 : Seg 243 6 g_S_isLatin1_6 := seg_of (by decide +kernel)
def g_S_isLatin1_13 : List (Instr × Nat) := [(.iconst 1, 1), (.goto 18, 3)]
theorem s_S_isLatin1_13 : Seg 243 13 g_S_isLatin1_13 := seg_of (by decide +kernel)
def g_S_isLatin1_17 : List (Instr × Nat) := [(.iconst 0, 1)]
theorem s_S_isLatin1_17 : Seg 243 17 g_S_isLatin1_17 := seg_of (by decide +kernel)
def g_S_isLatin1_18 : List (Instr × Nat) := [(.ireturn, 1)]
theorem s_S_isLatin1_18 : Seg 243 18 g_S_isLatin1_18 := seg_of (by decide +kernel)
/-! S length -/
theorem mk_S_length : 244 < 256 ∧ mtB 244 = true := ⟨by decide, mk_244⟩
def g_S_length_0 : List (Instr × Nat) := [(.aload 0, 1), (.getstatic 3328, 3), (.arraylength, 1), (.aload 0, 1), (.invokevirtual 2450113, 3), (.ishr, 1), (.ireturn, 1)]
theorem s_S_length_0 : Seg 244 0 g_S_length_0 := seg_of (by decide +kernel)
/-! S coder -/
theorem mk_S_coder : 245 < 256 ∧ mtB 245 = true := ⟨by decide, mk_245⟩
def g_S_coder_0 : List (Instr × Nat) := [(.dload 0, 3), (.ifCond .eq 13, 3)]
theorem s_S_coder_0 : Seg 245 0 g_S_coder_0 := seg_of (by decide +kernel)
def g_S_coder_6 : List (Instr × Nat) := [(.aload 0, 1), (.getfield 3329, 3), (.goto 14, 3)]
theorem s_S_coder_6 : Seg 245 6 g_S_coder_6 := seg_of (by decide +kernel)
def g_S_coder_13 : List (Instr × Nat) := [(.iconst 1, 1)]
theorem s_S_coder_13 : Seg 245 13 g_S_coder_13 := seg_of (by decide +kernel)
def g_S_coder_14 : List (Instr × Nat) := [(.ireturn, 1)]
theorem s_S_coder_14 : Seg 245 14 g_S_coder_14 := seg_of (by decide +kernel)
/-! S charAt -/
theorem mk_S_charAt : 246 < 256 ∧ mtB 246 = true := ⟨by decide, mk_246⟩
def g_S_charAt_0 : List (Instr × Nat) := [(.aload 0, 1), (.invokevirtual 2430113, 3), (.ifCond .eq 16, 3)]
theorem s_S_charAt_0 : Seg 246 0 g_S_charAt_0 := seg_of (by decide +kernel)
def g_S_charAt_7 : List (Instr × Nat) := [(.aload 0, 1), (.getstatic 3328, 3), (.iload 1, 1), (.invokeinterface 248 2, 3), (.ireturn, 1)]
theorem s_S_charAt_7 : Seg 246 7 g_S_charAt_7 := seg_of (by decide +kernel)
def g_S_charAt_16 : List (Instr × Nat) := [(.aload 0, 1), (.getstatic 3328, 3), (.iload 1, 1), (.jsr 0, 3)]
theorem s_S_charAt_16 : Seg 246 16 g_S_charAt_16 := seg_of (by decide +kernel)
/-! S checkIndex -/
theorem mk_S_checkIndex : 247 < 256 ∧ mtB 247 = true := ⟨by decide, mk_247⟩
def g_S_checkIndex_0 : List (Instr × Nat) := [(.iload 0, 1), (.iload 1, 1), (.fload 0, 3), (.invokeinterface 255 3, 3), (.pop, 1), (.return_, 1)]
theorem s_S_checkIndex_0 : Seg 247 0 g_S_checkIndex_0 := seg_of (by decide +kernel)
/-! S1 charAt -/
theorem mk_S1_charAt : 248 < 256 ∧ mtB 248 = true := ⟨by decide, mk_248⟩
def g_S1_charAt_0 : List (Instr × Nat) := [(.iload 1, 1), (.aload 0, 1), (.arraylength, 1), (.invokeinterface 247 2, 3), (.aload 0, 1), (.iload 1, 1), (.baload, 1), (.iconst 255, 3), (.iand, 1), (.i2c, 1), (.ireturn, 1)]
theorem s_S1_charAt_0 : Seg 248 0 g_S1_charAt_0 := seg_of (by decide +kernel)
/-! S1 indexOf -/
theorem mk_S1_indexOf : 249 < 256 ∧ mtB 249 = true := ⟨by decide, mk_249⟩
def g_S1_indexOf_0 : List (Instr × Nat) := [(.iload 1, 1), (.invokeinterface 251 1, 3), (.ifCond .ne 9, 3)]
theorem s_S1_indexOf_0 : Seg 249 0 g_S1_indexOf_0 := seg_of (by decide +kernel)
def g_S1_indexOf_7 : List (Instr × Nat) := [(.iconst (-1), 1), (.ireturn, 1)]
theorem s_S1_indexOf_7 : Seg 249 7 g_S1_indexOf_7 := seg_of (by decide +kernel)
def g_S1_indexOf_9 : List (Instr × Nat) := [(.iload 2, 1), (.iconst 0, 1), (.fadd, 3), (.istore 2, 1), (.iload 3, 1), (.aload 0, 1), (.arraylength, 1), (.fsub, 3), (.istore 3, 1), (.iload 2, 1), (.iload 3, 1), (.if_icmp .lt 29, 3)]
theorem s_S1_indexOf_9 : Seg 249 9 g_S1_indexOf_9 := seg_of (by decide +kernel)
def g_S1_indexOf_27 : List (Instr × Nat) := [(.iconst (-1), 1), (.ireturn, 1)]
theorem s_S1_indexOf_27 : Seg 249 27 g_S1_indexOf_27 := seg_of (by decide +kernel)
def g_S1_indexOf_29 : List (Instr × Nat) := [(.aload 0, 1), (.iload 1, 1), (.iload 2, 1), (.iload 3, 1), (.invokeinterface 250 4, 3), (.ireturn, 1)]
theorem s_S1_indexOf_29 : Seg 249 29 g_S1_indexOf_29 := seg_of (by decide +kernel)
/-! S1 indexOfChar -/
theorem mk_S1_indexOfChar : 250 < 256 ∧ mtB 250 = true := ⟨by decide, mk_250⟩
def g_S1_indexOfChar_0 : List (Instr × Nat) := [(.iload 1, 1), (.i2b, 1), (.istore 4, 2), (.iload 2, 1), (.istore 5, 2)]
theorem s_S1_indexOfChar_0 : Seg 250 0 g_S1_indexOfChar_0 := seg_of (by decide +kernel)
def g_S1_indexOfChar_7 : List (Instr × Nat) := [(.iload 5, 2), (.iload 3, 1), (.if_icmp .ge 31, 3)]
theorem s_S1_indexOfChar_7 : Seg 250 7 g_S1_indexOfChar_7 := seg_of (by decide +kernel)
def g_S1_indexOfChar_13 : List (Instr × Nat) := [(.aload 0, 1), (.iload 5, 2), (.baload, 1), (.iload 4, 2), (.if_icmp .ne 25, 3)]
theorem s_S1_indexOfChar_13 : Seg 250 13 g_S1_indexOfChar_13 := seg_of (by decide +kernel)
def g_S1_indexOfChar_22 : List (Instr × Nat) := [(.iload 5, 2), (.ireturn, 1)]
theorem s_S1_indexOfChar_22 : Seg 250 22 g_S1_indexOfChar_22 := seg_of (by decide +kernel)
def g_S1_indexOfChar_25 : List (Instr × Nat) := [(.iinc 5 (1), 3), (.goto 7, 3)]
theorem s_S1_indexOfChar_25 : Seg 250 25 g_S1_indexOfChar_25 := seg_of (by decide +kernel)
def g_S1_indexOfChar_31 : List (Instr × Nat) := [(.iconst (-1), 1), (.ireturn, 1)]
theorem s_S1_indexOfChar_31 : Seg 250 31 g_S1_indexOfChar_31 := seg_of (by decide +kernel)
/-! S1 canEncode -/
theorem mk_S1_canEncode : 251 < 256 ∧ mtB 251 = true := ⟨by decide, mk_251⟩
def g_S1_canEncode_0 : List (Instr × Nat) := [(.iload 0, 1), (.ifCond .lt 15, 3)]
theorem s_S1_canEncode_0 : Seg 251 0 g_S1_canEncode_0 := seg_of (by decide +kernel)
def g_S1_canEncode_4 : List (Instr × Nat) := [(.iload 0, 1), (.iconst 255, 3), (.if_icmp .gt 15, 3)]
theorem s_S1_canEncode_4 : Seg 251 4 g_S1_canEncode_4 := seg_of (by decide +kernel)
def g_S1_canEncode_11 : List (Instr × Nat) := [(.iconst 1, 1), (.goto 16, 3)]
theorem s_S1_canEncode_11 : Seg 251 11 g_S1_canEncode_11 := seg_of (by decide +kernel)
def g_S1_canEncode_15 : List (Instr × Nat) := [(.iconst 0, 1)]
theorem s_S1_canEncode_15 : Seg 251 15 g_S1_canEncode_15 := seg_of (by decide +kernel)
def g_S1_canEncode_16 : List (Instr × Nat) := [(.ireturn, 1)]
theorem s_S1_canEncode_16 : Seg 251 16 g_S1_canEncode_16 := seg_of (by decide +kernel)
/-! Ar fill -/
theorem mk_Ar_fill : 252 < 256 ∧ mtB 252 = true := ⟨by decide, mk_252⟩
def g_Ar_fill_0 : List (Instr × Nat) := [(.iconst 0, 1), (.istore 2, 1), (.aload 0, 1), (.arraylength, 1), (.istore 3, 1)]
theorem s_Ar_fill_0 : Seg 252 0 g_Ar_fill_0 := seg_of (by decide +kernel)
def g_Ar_fill_5 : List (Instr × Nat) := [(.iload 2, 1), (.iload 3, 1), (.if_icmp .ge 20, 3)]
theorem s_Ar_fill_5 : Seg 252 5 g_Ar_fill_5 := seg_of (by decide +kernel)
def g_Ar_fill_10 : List (Instr × Nat) := [(.aload 0, 1), (.iload 2, 1), (.iload 1, 1), (.iastore, 1), (.iinc 2 (1), 3), (.goto 5, 3)]
theorem s_Ar_fill_10 : Seg 252 10 g_Ar_fill_10 := seg_of (by decide +kernel)
def g_Ar_fill_20 : List (Instr × Nat) := [(.return_, 1)]
theorem s_Ar_fill_20 : Seg 252 20 g_Ar_fill_20 := seg_of (by decide +kernel)
/-! Ar copyOf -/
theorem mk_Ar_copyOf : 253 < 256 ∧ mtB 253 = true := ⟨by decide, mk_253⟩
def g_Ar_copyOf_0 : List (Instr × Nat) := [(.iload 1, 1), (.aload 0, 1), (.arraylength, 1), (.if_icmp .ne 14, 3)]
theorem s_Ar_copyOf_0 : Seg 253 0 g_Ar_copyOf_0 := seg_of (by decide +kernel)
def g_Ar_copyOf_6 : List (Instr × Nat) := [(.aload 0, 1), (.jsr 0, 3)]
theorem s_Ar_copyOf_6 : Seg 253 6 g_Ar_copyOf_6 := seg_of (by decide +kernel)
def g_Ar_copyOf_14 : List (Instr × Nat) := [(.iload 1, 1), (.newarray .int, 2), (.astore 2, 1), (.aload 0, 1), (.iconst 0, 1), (.aload 2, 1), (.iconst 0, 1), (.aload 0, 1), (.arraylength, 1), (.iload 1, 1), (.fsub, 3), (.monitorenter, 3), (.aload 2, 1), (.areturn, 1)]
theorem s_Ar_copyOf_14 : Seg 253 14 g_Ar_copyOf_14 := seg_of (by decide +kernel)
/-! In bitCount -/
theorem mk_In_bitCount : 254 < 256 ∧ mtB 254 = true := ⟨by decide, mk_254⟩
def g_In_bitCount_0 : List (Instr × Nat) := [(.iload 0, 1), (.iload 0, 1), (.iconst 1, 1), (.iushr, 1), (.bipush (1431655765), 3), (.iand, 1), (.isub, 1), (.istore 0, 1), (.iload 0, 1), (.bipush (858993459), 3), (.iand, 1), (.iload 0, 1), (.iconst 2, 1), (.iushr, 1), (.bipush (858993459), 3), (.iand, 1), (.iadd, 1), (.istore 0, 1), (.iload 0, 1), (.iload 0, 1), (.iconst 4, 1), (.iushr, 1), (.iadd, 1), (.bipush (252645135), 3), (.iand, 1), (.istore 0, 1), (.iload 0, 1), (.iload 0, 1), (.iconst 8, 2), (.iushr, 1), (.iadd, 1), (.istore 0, 1), (.iload 0, 1), (.iload 0, 1), (.iconst 16, 2), (.iushr, 1), (.iadd, 1), (.istore 0, 1), (.iload 0, 1), (.iconst 63, 2), (.iand, 1), (.ireturn, 1)]
theorem s_In_bitCount_0 : Seg 254 0 g_In_bitCount_0 := seg_of (by decide +kernel)
/-! Pr checkIndex -/
theorem mk_Pr_checkIndex : 255 < 256 ∧ mtB 255 = true := ⟨by decide, mk_255⟩
def g_Pr_checkIndex_0 : List (Instr × Nat) := [(.iload 0, 1), (.ifCond .lt 9, 3)]
theorem s_Pr_checkIndex_0 : Seg 255 0 g_Pr_checkIndex_0 := seg_of (by decide +kernel)
def g_Pr_checkIndex_4 : List (Instr × Nat) := [(.iload 0, 1), (.iload 1, 1), (.if_icmp .lt 16, 3)]
theorem s_Pr_checkIndex_4 : Seg 255 4 g_Pr_checkIndex_4 := seg_of (by decide +kernel)
def g_Pr_checkIndex_9 : List (Instr × Nat) := [(.aload 2, 1), (.iload 0, 1), (.iload 1, 1), (.jsr 0, 3)]
theorem s_Pr_checkIndex_9 : Seg 255 9 g_Pr_checkIndex_9 := seg_of (by decide +kernel)
def g_Pr_checkIndex_16 : List (Instr × Nat) := [(.iload 0, 1), (.ireturn, 1)]
theorem s_Pr_checkIndex_16 : Seg 255 16 g_Pr_checkIndex_16 := seg_of (by decide +kernel)
