/-! ===== the segments of the methods ===== -/
/-! Ta init -/
theorem mk_Ta_init : 214 < 256 ∧ mtB 214 = true := ⟨by decide, mk_214⟩
def g_Ta_init_0 : List (Instr × Nat) := [(.aload 0, 1), (.nop, 3), (.aload 0, 1), (.iconst 8, 2), (.newarray .int, 2), (.putstatic 2052, 3), (.aload 0, 1), (.iconst 1200, 3), (.newarray .int, 2), (.putstatic 2053, 3), (.aload 0, 1), (.iconst 8, 2), (.newarray .int, 2), (.putstatic 2054, 3), (.aload 0, 1), (.iconst 8, 2), (.newarray .int, 2), (.putstatic 2055, 3), (.aload 0, 1), (.iconst 8, 2), (.newarray .int, 2), (.putstatic 2056, 3), (.aload 0, 1), (.iconst 31, 2), (.newarray .int, 2), (.putstatic 2057, 3), (.aload 0, 1), (.iconst 31, 2), (.newarray .int, 2), (.putstatic 2058, 3), (.aload 0, 1), (.iconst (-1), 1), (.putfield 2065, 3), (.aload 0, 1), (.aload 1, 1), (.putstatic 2048, 3), (.aload 0, 1), (.aload 2, 1), (.putstatic 2049, 3), (.aload 0, 1), (.aload 3, 1), (.putstatic 2050, 3), (.return_, 1)]
theorem s_Ta_init_0 : Seg 214 0 g_Ta_init_0 := seg_of (by decide +kernel)
/-! Ta run -/
theorem mk_Ta_run : 215 < 256 ∧ mtB 215 = true := ⟨by decide, mk_215⟩
def g_Ta_run_0 : List (Instr × Nat) := [(.aload 0, 1), (.aload 1, 1), (.putstatic 2051, 3), (.aload 0, 1), (.aload 1, 1), (.getfield 1033, 3), (.putfield 2061, 3), (.aload 0, 1), (.iconst 0, 1), (.putfield 2062, 3), (.aload 0, 1), (.iconst 0, 1), (.putfield 2064, 3), (.aload 0, 1), (.getstatic 2054, 3), (.iconst 0, 1), (.invokeinterface 252 2, 3), (.aload 0, 1), (.getstatic 2055, 3), (.iconst 0, 1), (.invokeinterface 252 2, 3), (.aload 0, 1), (.getstatic 2056, 3), (.iconst 0, 1), (.invokeinterface 252 2, 3), (.aload 0, 1), (.invokevirtual 2160108, 3), (.istore 2, 1), (.aload 0, 1), (.iconst (-1), 1), (.putfield 2059, 3), (.iconst 1, 1), (.istore 3, 1)]
theorem s_Ta_run_0 : Seg 215 0 g_Ta_run_0 := seg_of (by decide +kernel)
def g_Ta_run_59 : List (Instr × Nat) := [(.iload 3, 1), (.iconst 30, 2), (.if_icmp .gt 135, 3)]
theorem s_Ta_run_59 : Seg 215 59 g_Ta_run_59 := seg_of (by decide +kernel)
def g_Ta_run_65 : List (Instr × Nat) := [(.aload 0, 1), (.getfield 2059, 3), (.iconst (-1), 1), (.if_icmp .ne 135, 3)]
theorem s_Ta_run_65 : Seg 215 65 g_Ta_run_65 := seg_of (by decide +kernel)
def g_Ta_run_73 : List (Instr × Nat) := [(.aload 0, 1), (.iload 3, 1), (.putfield 2060, 3), (.aload 0, 1), (.iconst 0, 1), (.putfield 2063, 3), (.iconst 0, 1), (.istore 4, 2)]
theorem s_Ta_run_73 : Seg 215 73 g_Ta_run_73 := seg_of (by decide +kernel)
def g_Ta_run_86 : List (Instr × Nat) := [(.iload 4, 2), (.aload 0, 1), (.getstatic 2048, 3), (.getfield 261, 3), (.if_icmp .ge 120, 3)]
theorem s_Ta_run_86 : Seg 215 86 g_Ta_run_86 := seg_of (by decide +kernel)
def g_Ta_run_98 : List (Instr × Nat) := [(.aload 0, 1), (.aload 0, 1), (.getstatic 2048, 3), (.getstatic 259, 3), (.iload 4, 2), (.iaload, 1), (.iload 4, 2), (.invokevirtual 2200308, 3), (.iinc 4 (1), 3), (.goto 86, 3)]
theorem s_Ta_run_98 : Seg 215 98 g_Ta_run_98 := seg_of (by decide +kernel)
def g_Ta_run_120 : List (Instr × Nat) := [(.aload 0, 1), (.aload 0, 1), (.iload 2, 1), (.invokevirtual 2170208, 3), (.putfield 2059, 3), (.iinc 3 (1), 3), (.goto 59, 3)]
theorem s_Ta_run_120 : Seg 215 120 g_Ta_run_120 := seg_of (by decide +kernel)
def g_Ta_run_135 : List (Instr × Nat) := [(.return_, 1)]
theorem s_Ta_run_135 : Seg 215 135 g_Ta_run_135 := seg_of (by decide +kernel)
/-! Ta lastDay -/
theorem mk_Ta_lastDay : 216 < 256 ∧ mtB 216 = true := ⟨by decide, mk_216⟩
def g_Ta_lastDay_0 : List (Instr × Nat) := [(.aload 0, 1), (.getstatic 2050, 3), (.invokevirtual 2100107, 3), (.aload 0, 1), (.getstatic 2050, 3), (.iconst 109, 2), (.aload 0, 1), (.getstatic 2048, 3), (.getfield 261, 3), (.invokevirtual 2110307, 3), (.aload 0, 1), (.getstatic 2050, 3), (.aload 0, 1), (.getstatic 2051, 3), (.getstatic 1034, 3), (.iconst 100, 2), (.invokevirtual 2120307, 3), (.lstore 1, 1), (.lload 1, 1), (.jsr_w (1099511627776), 3), (.lcmp, 1), (.ifCond .eq 56, 3)]
theorem s_Ta_lastDay_0 : Seg 216 0 g_Ta_lastDay_0 := seg_of (by decide +kernel)
def g_Ta_lastDay_48 : List (Instr × Nat) := [(.lload 1, 1), (.jsr_w (30), 3), (.lcmp, 1), (.ifCond .le 59, 3)]
theorem s_Ta_lastDay_48 : Seg 216 48 g_Ta_lastDay_48 := seg_of (by decide +kernel)
def g_Ta_lastDay_56 : List (Instr × Nat) := [(.iconst 30, 2), (.ireturn, 1)]
theorem s_Ta_lastDay_56 : Seg 216 56 g_Ta_lastDay_56 := seg_of (by decide +kernel)
def g_Ta_lastDay_59 : List (Instr × Nat) := [(.lload 1, 1), (.goto_w 1, 1), (.lcmp, 1), (.ifCond .ge 69, 3)]
theorem s_Ta_lastDay_59 : Seg 216 59 g_Ta_lastDay_59 := seg_of (by decide +kernel)
def g_Ta_lastDay_65 : List (Instr × Nat) := [(.iconst 1, 1), (.goto 71, 3)]
theorem s_Ta_lastDay_65 : Seg 216 65 g_Ta_lastDay_65 := seg_of (by decide +kernel)
def g_Ta_lastDay_69 : List (Instr × Nat) := [(.lload 1, 1), (.l2i, 1)]
theorem s_Ta_lastDay_69 : Seg 216 69 g_Ta_lastDay_69 := seg_of (by decide +kernel)
def g_Ta_lastDay_71 : List (Instr × Nat) := [(.ireturn, 1)]
theorem s_Ta_lastDay_71 : Seg 216 71 g_Ta_lastDay_71 := seg_of (by decide +kernel)
/-! Ta endOfDay -/
theorem mk_Ta_endOfDay : 217 < 256 ∧ mtB 217 = true := ⟨by decide, mk_217⟩
def g_Ta_endOfDay_0 : List (Instr × Nat) := [(.aload 0, 1), (.getfield 2063, 3), (.ifCond .ne 20, 3)]
theorem s_Ta_endOfDay_0 : Seg 217 0 g_Ta_endOfDay_0 := seg_of (by decide +kernel)
def g_Ta_endOfDay_7 : List (Instr × Nat) := [(.aload 0, 1), (.invokevirtual 2180108, 3), (.ifCond .eq 18, 3)]
theorem s_Ta_endOfDay_7 : Seg 217 7 g_Ta_endOfDay_7 := seg_of (by decide +kernel)
def g_Ta_endOfDay_14 : List (Instr × Nat) := [(.iconst 3, 1), (.goto 19, 3)]
theorem s_Ta_endOfDay_14 : Seg 217 14 g_Ta_endOfDay_14 := seg_of (by decide +kernel)
def g_Ta_endOfDay_18 : List (Instr × Nat) := [(.iconst 0, 1)]
theorem s_Ta_endOfDay_18 : Seg 217 18 g_Ta_endOfDay_18 := seg_of (by decide +kernel)
def g_Ta_endOfDay_19 : List (Instr × Nat) := [(.ireturn, 1)]
theorem s_Ta_endOfDay_19 : Seg 217 19 g_Ta_endOfDay_19 := seg_of (by decide +kernel)
def g_Ta_endOfDay_20 : List (Instr × Nat) := [(.aload 0, 1), (.getfield 2060, 3), (.iload 1, 1), (.if_icmp .lt 30, 3)]
theorem s_Ta_endOfDay_20 : Seg 217 20 g_Ta_endOfDay_20 := seg_of (by decide +kernel)
def g_Ta_endOfDay_28 : List (Instr × Nat) := [(.iconst 1, 1), (.ireturn, 1)]
theorem s_Ta_endOfDay_28 : Seg 217 28 g_Ta_endOfDay_28 := seg_of (by decide +kernel)
def g_Ta_endOfDay_30 : List (Instr × Nat) := [(.aload 0, 1), (.invokevirtual 2190108, 3), (.ifCond .eq 39, 3)]
theorem s_Ta_endOfDay_30 : Seg 217 30 g_Ta_endOfDay_30 := seg_of (by decide +kernel)
def g_Ta_endOfDay_37 : List (Instr × Nat) := [(.iconst 2, 1), (.ireturn, 1)]
theorem s_Ta_endOfDay_37 : Seg 217 37 g_Ta_endOfDay_37 := seg_of (by decide +kernel)
def g_Ta_endOfDay_39 : List (Instr × Nat) := [(.aload 0, 1), (.getstatic 2057, 3), (.aload 0, 1), (.getfield 2060, 3), (.aload 0, 1), (.getfield 2061, 3), (.iastore, 1), (.aload 0, 1), (.getstatic 2058, 3), (.aload 0, 1), (.getfield 2060, 3), (.aload 0, 1), (.getfield 2064, 3), (.iastore, 1), (.iconst (-1), 1), (.ireturn, 1)]
theorem s_Ta_endOfDay_39 : Seg 217 39 g_Ta_endOfDay_39 := seg_of (by decide +kernel)
/-! Ta failsBySilence -/
theorem mk_Ta_failsBySilence : 218 < 256 ∧ mtB 218 = true := ⟨by decide, mk_218⟩
def g_Ta_failsBySilence_0 : List (Instr × Nat) := [(.aload 0, 1), (.getstatic 2050, 3), (.invokevirtual 2100107, 3), (.aload 0, 1), (.getstatic 2050, 3), (.iconst 116, 2), (.aload 0, 1), (.getfield 2060, 3), (.invokevirtual 2110307, 3), (.aload 0, 1), (.getstatic 2050, 3), (.iconst 109, 2), (.aload 0, 1), (.getstatic 2048, 3), (.getfield 261, 3), (.invokevirtual 2110307, 3), (.aload 0, 1), (.getstatic 2050, 3), (.aload 0, 1), (.getstatic 2051, 3), (.getstatic 1034, 3), (.iconst 108, 2), (.invokevirtual 2120307, 3), (.goto_w 0, 1), (.lcmp, 1), (.ifCond .ne 91, 3)]
theorem s_Ta_failsBySilence_0 : Seg 218 0 g_Ta_failsBySilence_0 := seg_of (by decide +kernel)
def g_Ta_failsBySilence_57 : List (Instr × Nat) := [(.aload 0, 1), (.getstatic 2051, 3), (.aload 0, 1), (.getstatic 2051, 3), (.getstatic 1026, 3), (.aload 0, 1), (.getfield 2061, 3), (.iaload, 1), (.invokevirtual 1850204, 3), (.aload 0, 1), (.getstatic 2048, 3), (.getfield 262, 3), (.iand, 1), (.ifCond .eq 91, 3)]
theorem s_Ta_failsBySilence_57 : Seg 218 57 g_Ta_failsBySilence_57 := seg_of (by decide +kernel)
def g_Ta_failsBySilence_87 : List (Instr × Nat) := [(.iconst 1, 1), (.goto 92, 3)]
theorem s_Ta_failsBySilence_87 : Seg 218 87 g_Ta_failsBySilence_87 := seg_of (by decide +kernel)
def g_Ta_failsBySilence_91 : List (Instr × Nat) := [(.iconst 0, 1)]
theorem s_Ta_failsBySilence_91 : Seg 218 91 g_Ta_failsBySilence_91 := seg_of (by decide +kernel)
def g_Ta_failsBySilence_92 : List (Instr × Nat) := [(.ireturn, 1)]
theorem s_Ta_failsBySilence_92 : Seg 218 92 g_Ta_failsBySilence_92 := seg_of (by decide +kernel)
/-! Ta wasSoBefore -/
theorem mk_Ta_wasSoBefore : 219 < 256 ∧ mtB 219 = true := ⟨by decide, mk_219⟩
def g_Ta_wasSoBefore_0 : List (Instr × Nat) := [(.iconst 1, 1), (.istore 1, 1)]
theorem s_Ta_wasSoBefore_0 : Seg 219 0 g_Ta_wasSoBefore_0 := seg_of (by decide +kernel)
def g_Ta_wasSoBefore_2 : List (Instr × Nat) := [(.iload 1, 1), (.aload 0, 1), (.getfield 2060, 3), (.if_icmp .ge 44, 3)]
theorem s_Ta_wasSoBefore_2 : Seg 219 2 g_Ta_wasSoBefore_2 := seg_of (by decide +kernel)
def g_Ta_wasSoBefore_10 : List (Instr × Nat) := [(.aload 0, 1), (.getstatic 2057, 3), (.iload 1, 1), (.iaload, 1), (.aload 0, 1), (.getfield 2061, 3), (.if_icmp .ne 38, 3)]
theorem s_Ta_wasSoBefore_10 : Seg 219 10 g_Ta_wasSoBefore_10 := seg_of (by decide +kernel)
def g_Ta_wasSoBefore_23 : List (Instr × Nat) := [(.aload 0, 1), (.getstatic 2058, 3), (.iload 1, 1), (.iaload, 1), (.aload 0, 1), (.getfield 2064, 3), (.if_icmp .ne 38, 3)]
theorem s_Ta_wasSoBefore_23 : Seg 219 23 g_Ta_wasSoBefore_23 := seg_of (by decide +kernel)
def g_Ta_wasSoBefore_36 : List (Instr × Nat) := [(.iconst 1, 1), (.ireturn, 1)]
theorem s_Ta_wasSoBefore_36 : Seg 219 36 g_Ta_wasSoBefore_36 := seg_of (by decide +kernel)
def g_Ta_wasSoBefore_38 : List (Instr × Nat) := [(.iinc 1 (1), 3), (.goto 2, 3)]
theorem s_Ta_wasSoBefore_38 : Seg 219 38 g_Ta_wasSoBefore_38 := seg_of (by decide +kernel)
def g_Ta_wasSoBefore_44 : List (Instr × Nat) := [(.iconst 0, 1), (.ireturn, 1)]
theorem s_Ta_wasSoBefore_44 : Seg 219 44 g_Ta_wasSoBefore_44 := seg_of (by decide +kernel)
/-! Ta takeTurn -/
theorem mk_Ta_takeTurn : 220 < 256 ∧ mtB 220 = true := ⟨by decide, mk_220⟩
def g_Ta_takeTurn_0 : List (Instr × Nat) := [(.aload 0, 1), (.iload 1, 1), (.iload 2, 1), (.invokevirtual 2210308, 3), (.ifCond .ne 10, 3)]
theorem s_Ta_takeTurn_0 : Seg 220 0 g_Ta_takeTurn_0 := seg_of (by decide +kernel)
def g_Ta_takeTurn_9 : List (Instr × Nat) := [(.return_, 1)]
theorem s_Ta_takeTurn_9 : Seg 220 9 g_Ta_takeTurn_9 := seg_of (by decide +kernel)
def g_Ta_takeTurn_10 : List (Instr × Nat) := [(.iconst 0, 1), (.istore 3, 1)]
theorem s_Ta_takeTurn_10 : Seg 220 10 g_Ta_takeTurn_10 := seg_of (by decide +kernel)
def g_Ta_takeTurn_12 : List (Instr × Nat) := [(.iload 3, 1), (.aload 0, 1), (.getstatic 2051, 3), (.getfield 1024, 3), (.if_icmp .ge 96, 3)]
theorem s_Ta_takeTurn_12 : Seg 220 12 g_Ta_takeTurn_12 := seg_of (by decide +kernel)
def g_Ta_takeTurn_23 : List (Instr × Nat) := [(.aload 0, 1), (.iload 1, 1), (.iload 2, 1), (.iload 3, 1), (.invokevirtual 2220408, 3), (.aload 0, 1), (.aload 0, 1), (.getstatic 2050, 3), (.aload 0, 1), (.getstatic 2048, 3), (.getstatic 258, 3), (.iload 1, 1), (.aaload, 1), (.iconst 110, 2), (.invokevirtual 2120307, 3), (.iload 1, 1), (.iload 3, 1), (.invokevirtual 2240408, 3), (.istore 4, 2), (.iload 1, 1), (.aload 0, 1), (.getfield 2065, 3), (.if_icmp .ne 72, 3)]
theorem s_Ta_takeTurn_23 : Seg 220 23 g_Ta_takeTurn_23 := seg_of (by decide +kernel)
def g_Ta_takeTurn_64 : List (Instr × Nat) := [(.aload 0, 1), (.iload 1, 1), (.iload 3, 1), (.iload 4, 2), (.invokevirtual 2250408, 3)]
theorem s_Ta_takeTurn_64 : Seg 220 64 g_Ta_takeTurn_64 := seg_of (by decide +kernel)
def g_Ta_takeTurn_72 : List (Instr × Nat) := [(.iload 4, 2), (.ifCond .eq 90, 3)]
theorem s_Ta_takeTurn_72 : Seg 220 72 g_Ta_takeTurn_72 := seg_of (by decide +kernel)
def g_Ta_takeTurn_77 : List (Instr × Nat) := [(.aload 0, 1), (.iload 1, 1), (.iload 3, 1), (.aload 0, 1), (.iload 1, 1), (.iload 3, 1), (.invokevirtual 2280308, 3), (.invokevirtual 2260408, 3), (.return_, 1)]
theorem s_Ta_takeTurn_77 : Seg 220 77 g_Ta_takeTurn_77 := seg_of (by decide +kernel)
def g_Ta_takeTurn_90 : List (Instr × Nat) := [(.iinc 3 (1), 3), (.goto 12, 3)]
theorem s_Ta_takeTurn_90 : Seg 220 90 g_Ta_takeTurn_90 := seg_of (by decide +kernel)
def g_Ta_takeTurn_96 : List (Instr × Nat) := [(.return_, 1)]
theorem s_Ta_takeTurn_96 : Seg 220 96 g_Ta_takeTurn_96 := seg_of (by decide +kernel)
/-! Ta maySpeak -/
theorem mk_Ta_maySpeak : 221 < 256 ∧ mtB 221 = true := ⟨by decide, mk_221⟩
def g_Ta_maySpeak_0 : List (Instr × Nat) := [(.aload 0, 1), (.getstatic 2050, 3), (.invokevirtual 2100107, 3), (.aload 0, 1), (.getstatic 2050, 3), (.iconst 97, 2), (.iload 2, 1), (.invokevirtual 2110307, 3), (.aload 0, 1), (.getstatic 2050, 3), (.iconst 107, 2), (.aload 0, 1), (.getstatic 2054, 3), (.iload 1, 1), (.iaload, 1), (.invokevirtual 2110307, 3), (.aload 0, 1), (.getstatic 2050, 3), (.iconst 116, 2), (.aload 0, 1), (.getfield 2060, 3), (.invokevirtual 2110307, 3), (.aload 0, 1), (.getstatic 2050, 3), (.iconst 102, 2), (.aload 0, 1), (.getfield 2063, 3), (.invokevirtual 2110307, 3), (.aload 0, 1), (.getstatic 2050, 3), (.iconst 109, 2), (.aload 0, 1), (.getstatic 2048, 3), (.getfield 261, 3), (.invokevirtual 2110307, 3), (.aload 0, 1), (.getstatic 2050, 3), (.aload 0, 1), (.getstatic 2051, 3), (.getstatic 1034, 3), (.iconst 115, 2), (.invokevirtual 2120307, 3), (.lstore 3, 1), (.lload 3, 1), (.jsr_w (1099511627776), 3), (.lcmp, 1), (.ifCond .ne 117, 3)]
theorem s_Ta_maySpeak_0 : Seg 221 0 g_Ta_maySpeak_0 := seg_of (by decide +kernel)
def g_Ta_maySpeak_99 : List (Instr × Nat) := [(.aload 0, 1), (.getstatic 2054, 3), (.iload 1, 1), (.iaload, 1), (.iconst 3, 1), (.if_icmp .ge 113, 3)]
theorem s_Ta_maySpeak_99 : Seg 221 99 g_Ta_maySpeak_99 := seg_of (by decide +kernel)
def g_Ta_maySpeak_109 : List (Instr × Nat) := [(.iconst 1, 1), (.goto 128, 3)]
theorem s_Ta_maySpeak_109 : Seg 221 109 g_Ta_maySpeak_109 := seg_of (by decide +kernel)
def g_Ta_maySpeak_113 : List (Instr × Nat) := [(.iconst 0, 1), (.goto 128, 3)]
theorem s_Ta_maySpeak_113 : Seg 221 113 g_Ta_maySpeak_113 := seg_of (by decide +kernel)
def g_Ta_maySpeak_117 : List (Instr × Nat) := [(.lload 3, 1), (.goto_w 0, 1), (.lcmp, 1), (.ifCond .eq 127, 3)]
theorem s_Ta_maySpeak_117 : Seg 221 117 g_Ta_maySpeak_117 := seg_of (by decide +kernel)
def g_Ta_maySpeak_123 : List (Instr × Nat) := [(.iconst 1, 1), (.goto 128, 3)]
theorem s_Ta_maySpeak_123 : Seg 221 123 g_Ta_maySpeak_123 := seg_of (by decide +kernel)
def g_Ta_maySpeak_127 : List (Instr × Nat) := [(.iconst 0, 1)]
theorem s_Ta_maySpeak_127 : Seg 221 127 g_Ta_maySpeak_127 := seg_of (by decide +kernel)
def g_Ta_maySpeak_128 : List (Instr × Nat) := [(.ireturn, 1)]
theorem s_Ta_maySpeak_128 : Seg 221 128 g_Ta_maySpeak_128 := seg_of (by decide +kernel)
/-! Ta tellLook -/
theorem mk_Ta_tellLook : 222 < 256 ∧ mtB 222 = true := ⟨by decide, mk_222⟩
def g_Ta_tellLook_0 : List (Instr × Nat) := [(.aload 0, 1), (.getstatic 2051, 3), (.aload 0, 1), (.getfield 2061, 3), (.iload 3, 1), (.invokevirtual 1780304, 3), (.istore 4, 2), (.iload 3, 1), (.iload 4, 2), (.invokeinterface 41 2, 3), (.istore 5, 2), (.aload 0, 1), (.getstatic 2050, 3), (.invokevirtual 2100107, 3), (.aload 0, 1), (.getstatic 2050, 3), (.iconst 104, 2), (.aload 0, 1), (.getstatic 2051, 3), (.iload 1, 1), (.iload 5, 2), (.invokevirtual 1800304, 3), (.invokevirtual 2110307, 3), (.aload 0, 1), (.getstatic 2050, 3), (.iconst 101, 2), (.aload 0, 1), (.iload 1, 1), (.aload 0, 1), (.getstatic 2055, 3), (.iload 5, 2), (.invokevirtual 2230408, 3), (.invokevirtual 2110307, 3), (.aload 0, 1), (.getstatic 2050, 3), (.iconst 111, 2), (.aload 0, 1), (.iload 1, 1), (.aload 0, 1), (.getstatic 2056, 3), (.iload 5, 2), (.invokevirtual 2230408, 3), (.invokevirtual 2110307, 3), (.aload 0, 1), (.getstatic 2050, 3), (.iconst 116, 2), (.aload 0, 1), (.getfield 2060, 3), (.invokevirtual 2110307, 3), (.aload 0, 1), (.getstatic 2050, 3), (.iconst 107, 2), (.aload 0, 1), (.getstatic 2054, 3), (.iload 1, 1), (.iaload, 1), (.invokevirtual 2110307, 3), (.aload 0, 1), (.getstatic 2050, 3), (.iconst 97, 2), (.iload 2, 1), (.invokevirtual 2110307, 3), (.aload 0, 1), (.getstatic 2050, 3), (.iconst 102, 2), (.aload 0, 1), (.getfield 2063, 3), (.invokevirtual 2110307, 3), (.aload 0, 1), (.getstatic 2050, 3), (.iconst 113, 2), (.iload 3, 1), (.invokevirtual 2110307, 3), (.aload 0, 1), (.getstatic 2050, 3), (.iconst 119, 2), (.iload 4, 2), (.invokevirtual 2110307, 3), (.aload 0, 1), (.getstatic 2050, 3), (.iconst 103, 2), (.aload 0, 1), (.getstatic 2052, 3), (.iload 1, 1), (.iaload, 1), (.invokevirtual 2110307, 3), (.return_, 1)]
theorem s_Ta_tellLook_0 : Seg 222 0 g_Ta_tellLook_0 := seg_of (by decide +kernel)
/-! Ta heedFor -/
theorem mk_Ta_heedFor : 223 < 256 ∧ mtB 223 = true := ⟨by decide, mk_223⟩
def g_Ta_heedFor_0 : List (Instr × Nat) := [(.iconst 0, 1), (.istore 4, 2), (.iconst 0, 1), (.istore 5, 2)]
theorem s_Ta_heedFor_0 : Seg 223 0 g_Ta_heedFor_0 := seg_of (by decide +kernel)
def g_Ta_heedFor_6 : List (Instr × Nat) := [(.iload 5, 2), (.iconst 8, 2), (.if_icmp .ge 47, 3)]
theorem s_Ta_heedFor_6 : Seg 223 6 g_Ta_heedFor_6 := seg_of (by decide +kernel)
def g_Ta_heedFor_13 : List (Instr × Nat) := [(.aload 2, 1), (.iload 5, 2), (.iaload, 1), (.iload 3, 1), (.ishr, 1), (.iconst 1, 1), (.iand, 1), (.ifCond .eq 41, 3)]
theorem s_Ta_heedFor_13 : Seg 223 13 g_Ta_heedFor_13 := seg_of (by decide +kernel)
def g_Ta_heedFor_24 : List (Instr × Nat) := [(.iload 4, 2), (.aload 0, 1), (.getstatic 2048, 3), (.getstatic 257, 3), (.iload 1, 1), (.aaload, 1), (.iload 5, 2), (.iaload, 1), (.iadd, 1), (.istore 4, 2)]
theorem s_Ta_heedFor_24 : Seg 223 24 g_Ta_heedFor_24 := seg_of (by decide +kernel)
def g_Ta_heedFor_41 : List (Instr × Nat) := [(.iinc 5 (1), 3), (.goto 6, 3)]
theorem s_Ta_heedFor_41 : Seg 223 41 g_Ta_heedFor_41 := seg_of (by decide +kernel)
def g_Ta_heedFor_47 : List (Instr × Nat) := [(.iload 4, 2), (.ireturn, 1)]
theorem s_Ta_heedFor_47 : Seg 223 47 g_Ta_heedFor_47 := seg_of (by decide +kernel)
/-! Ta isNo -/
theorem mk_Ta_isNo : 224 < 256 ∧ mtB 224 = true := ⟨by decide, mk_224⟩
def g_Ta_isNo_0 : List (Instr × Nat) := [(.lload 1, 1), (.jsr_w (1099511627776), 3), (.lcmp, 1), (.ifCond .eq 20, 3)]
theorem s_Ta_isNo_0 : Seg 224 0 g_Ta_isNo_0 := seg_of (by decide +kernel)
def g_Ta_isNo_8 : List (Instr × Nat) := [(.lload 1, 1), (.goto_w 0, 1), (.lcmp, 1), (.ifCond .eq 18, 3)]
theorem s_Ta_isNo_8 : Seg 224 8 g_Ta_isNo_8 := seg_of (by decide +kernel)
def g_Ta_isNo_14 : List (Instr × Nat) := [(.iconst 1, 1), (.goto 19, 3)]
theorem s_Ta_isNo_14 : Seg 224 14 g_Ta_isNo_14 := seg_of (by decide +kernel)
def g_Ta_isNo_18 : List (Instr × Nat) := [(.iconst 0, 1)]
theorem s_Ta_isNo_18 : Seg 224 18 g_Ta_isNo_18 := seg_of (by decide +kernel)
def g_Ta_isNo_19 : List (Instr × Nat) := [(.ireturn, 1)]
theorem s_Ta_isNo_19 : Seg 224 19 g_Ta_isNo_19 := seg_of (by decide +kernel)
def g_Ta_isNo_20 : List (Instr × Nat) := [(.aload 0, 1), (.getstatic 2051, 3), (.iload 3, 1), (.iload 4, 2), (.aload 0, 1), (.getstatic 2051, 3), (.aload 0, 1), (.getfield 2061, 3), (.iload 4, 2), (.invokevirtual 1780304, 3), (.invokeinterface 41 2, 3), (.aload 0, 1), (.getstatic 2051, 3), (.getstatic 1026, 3), (.aload 0, 1), (.getfield 2061, 3), (.iaload, 1), (.invokevirtual 1830404, 3), (.ireturn, 1)]
theorem s_Ta_isNo_20 : Seg 224 20 g_Ta_isNo_20 := seg_of (by decide +kernel)
/-! Ta sift -/
theorem mk_Ta_sift : 225 < 256 ∧ mtB 225 = true := ⟨by decide, mk_225⟩
def g_Ta_sift_0 : List (Instr × Nat) := [(.iconst 0, 1), (.istore 4, 2)]
theorem s_Ta_sift_0 : Seg 225 0 g_Ta_sift_0 := seg_of (by decide +kernel)
def g_Ta_sift_3 : List (Instr × Nat) := [(.iload 4, 2), (.iconst 8, 2), (.if_icmp .ge 69, 3)]
theorem s_Ta_sift_3 : Seg 225 3 g_Ta_sift_3 := seg_of (by decide +kernel)
def g_Ta_sift_10 : List (Instr × Nat) := [(.aload 0, 1), (.getfield 2066, 3), (.iload 4, 2), (.ishr, 1), (.iconst 1, 1), (.iand, 1), (.ifCond .eq 63, 3)]
theorem s_Ta_sift_10 : Seg 225 10 g_Ta_sift_10 := seg_of (by decide +kernel)
def g_Ta_sift_22 : List (Instr × Nat) := [(.aload 0, 1), (.aload 0, 1), (.getstatic 2050, 3), (.aload 0, 1), (.getstatic 2049, 3), (.iload 4, 2), (.aaload, 1), (.iconst 110, 2), (.invokevirtual 2120307, 3), (.iload 1, 1), (.iload 2, 1), (.invokevirtual 2240408, 3), (.iload 3, 1), (.if_icmp .eq 63, 3)]
theorem s_Ta_sift_22 : Seg 225 22 g_Ta_sift_22 := seg_of (by decide +kernel)
def g_Ta_sift_48 : List (Instr × Nat) := [(.aload 0, 1), (.dup, 1), (.getfield 2066, 3), (.iconst 1, 1), (.iload 4, 2), (.ishl, 1), (.iconst (-1), 1), (.ixor, 1), (.iand, 1), (.putfield 2066, 3)]
theorem s_Ta_sift_48 : Seg 225 48 g_Ta_sift_48 := seg_of (by decide +kernel)
def g_Ta_sift_63 : List (Instr × Nat) := [(.iinc 4 (1), 3), (.goto 3, 3)]
theorem s_Ta_sift_63 : Seg 225 63 g_Ta_sift_63 := seg_of (by decide +kernel)
def g_Ta_sift_69 : List (Instr × Nat) := [(.return_, 1)]
theorem s_Ta_sift_69 : Seg 225 69 g_Ta_sift_69 := seg_of (by decide +kernel)
/-! Ta speak -/
theorem mk_Ta_speak : 226 < 256 ∧ mtB 226 = true := ⟨by decide, mk_226⟩
def g_Ta_speak_0 : List (Instr × Nat) := [(.aload 0, 1), (.getstatic 2051, 3), (.aload 0, 1), (.getfield 2061, 3), (.iload 2, 1), (.invokevirtual 1780304, 3), (.istore 4, 2), (.aload 0, 1), (.getfield 2062, 3), (.iconst 5, 1), (.imul, 1), (.istore 5, 2), (.iload 5, 2), (.iconst 5, 1), (.iadd, 1), (.aload 0, 1), (.getstatic 2053, 3), (.arraylength, 1), (.if_icmp .gt 96, 3)]
theorem s_Ta_speak_0 : Seg 226 0 g_Ta_speak_0 := seg_of (by decide +kernel)
def g_Ta_speak_34 : List (Instr × Nat) := [(.aload 0, 1), (.getstatic 2053, 3), (.iload 5, 2), (.iload 1, 1), (.iastore, 1), (.aload 0, 1), (.getstatic 2053, 3), (.iload 5, 2), (.iconst 1, 1), (.iadd, 1), (.aload 0, 1), (.getfield 2060, 3), (.iastore, 1), (.aload 0, 1), (.getstatic 2053, 3), (.iload 5, 2), (.iconst 2, 1), (.iadd, 1), (.iload 2, 1), (.iastore, 1), (.aload 0, 1), (.getstatic 2053, 3), (.iload 5, 2), (.iconst 3, 1), (.iadd, 1), (.iload 4, 2), (.iastore, 1), (.aload 0, 1), (.getstatic 2053, 3), (.iload 5, 2), (.iconst 4, 1), (.iadd, 1), (.iload 3, 1), (.iastore, 1), (.aload 0, 1), (.dup, 1), (.getfield 2062, 3), (.iconst 1, 1), (.iadd, 1), (.putfield 2062, 3)]
theorem s_Ta_speak_34 : Seg 226 34 g_Ta_speak_34 := seg_of (by decide +kernel)
def g_Ta_speak_96 : List (Instr × Nat) := [(.aload 0, 1), (.aload 0, 1), (.getstatic 2056, 3), (.iload 1, 1), (.iload 2, 1), (.iload 4, 2), (.invokeinterface 41 2, 3), (.invokevirtual 2270408, 3), (.aload 0, 1), (.aload 0, 1), (.getstatic 2055, 3), (.iload 1, 1), (.iload 2, 1), (.iload 3, 1), (.invokeinterface 41 2, 3), (.invokevirtual 2270408, 3), (.aload 0, 1), (.aload 0, 1), (.getstatic 2051, 3), (.aload 0, 1), (.getfield 2061, 3), (.iload 2, 1), (.iload 3, 1), (.invokevirtual 1790404, 3), (.putfield 2061, 3), (.aload 0, 1), (.getstatic 2054, 3), (.iload 1, 1), (.dup2, 1), (.iaload, 1), (.iconst 1, 1), (.iadd, 1), (.iastore, 1), (.aload 0, 1), (.dup, 1), (.getfield 2063, 3), (.iconst 1, 1), (.iadd, 1), (.putfield 2063, 3), (.return_, 1)]
theorem s_Ta_speak_96 : Seg 226 96 g_Ta_speak_96 := seg_of (by decide +kernel)
/-! Ta noteSaid -/
theorem mk_Ta_noteSaid : 227 < 256 ∧ mtB 227 = true := ⟨by decide, mk_227⟩
def g_Ta_noteSaid_0 : List (Instr × Nat) := [(.aload 1, 1), (.iload 2, 1), (.iaload, 1), (.iload 3, 1), (.ishr, 1), (.iconst 1, 1), (.iand, 1), (.ifCond .ne 27, 3)]
theorem s_Ta_noteSaid_0 : Seg 227 0 g_Ta_noteSaid_0 := seg_of (by decide +kernel)
def g_Ta_noteSaid_10 : List (Instr × Nat) := [(.aload 1, 1), (.iload 2, 1), (.dup2, 1), (.iaload, 1), (.iconst 1, 1), (.iload 3, 1), (.ishl, 1), (.ior, 1), (.iastore, 1), (.aload 0, 1), (.aload 0, 1), (.getfield 2062, 3), (.putfield 2064, 3)]
theorem s_Ta_noteSaid_10 : Seg 227 10 g_Ta_noteSaid_10 := seg_of (by decide +kernel)
def g_Ta_noteSaid_27 : List (Instr × Nat) := [(.return_, 1)]
theorem s_Ta_noteSaid_27 : Seg 227 27 g_Ta_noteSaid_27 := seg_of (by decide +kernel)
/-! Ta wayInstead -/
theorem mk_Ta_wayInstead : 228 < 256 ∧ mtB 228 = true := ⟨by decide, mk_228⟩
def g_Ta_wayInstead_0 : List (Instr × Nat) := [(.aload 0, 1), (.getstatic 2051, 3), (.aload 0, 1), (.getfield 2061, 3), (.iload 2, 1), (.invokevirtual 1780304, 3), (.istore 3, 1), (.aload 0, 1), (.getstatic 2050, 3), (.aload 0, 1), (.getstatic 2048, 3), (.getstatic 258, 3), (.iload 1, 1), (.aaload, 1), (.iconst 99, 2), (.invokevirtual 2120307, 3), (.lstore 4, 2), (.lload 4, 2), (.goto_w 0, 1), (.lcmp, 1), (.ifCond .lt 66, 3)]
theorem s_Ta_wayInstead_0 : Seg 228 0 g_Ta_wayInstead_0 := seg_of (by decide +kernel)
def g_Ta_wayInstead_40 : List (Instr × Nat) := [(.lload 4, 2), (.aload 0, 1), (.getstatic 2051, 3), (.getfield 1025, 3), (.i2l, 1), (.lcmp, 1), (.ifCond .ge 66, 3)]
theorem s_Ta_wayInstead_40 : Seg 228 40 g_Ta_wayInstead_40 := seg_of (by decide +kernel)
def g_Ta_wayInstead_54 : List (Instr × Nat) := [(.lload 4, 2), (.iload 3, 1), (.i2l, 1), (.lcmp, 1), (.ifCond .eq 66, 3)]
theorem s_Ta_wayInstead_54 : Seg 228 54 g_Ta_wayInstead_54 := seg_of (by decide +kernel)
def g_Ta_wayInstead_62 : List (Instr × Nat) := [(.lload 4, 2), (.l2i, 1), (.ireturn, 1)]
theorem s_Ta_wayInstead_62 : Seg 228 62 g_Ta_wayInstead_62 := seg_of (by decide +kernel)
def g_Ta_wayInstead_66 : List (Instr × Nat) := [(.iconst (-1), 1), (.istore 6, 2), (.iconst (-1), 1), (.istore 7, 2), (.iconst 0, 1), (.istore 8, 2)]
theorem s_Ta_wayInstead_66 : Seg 228 66 g_Ta_wayInstead_66 := seg_of (by decide +kernel)
def g_Ta_wayInstead_75 : List (Instr × Nat) := [(.iload 8, 2), (.aload 0, 1), (.getstatic 2051, 3), (.getfield 1025, 3), (.if_icmp .ge 130, 3)]
theorem s_Ta_wayInstead_75 : Seg 228 75 g_Ta_wayInstead_75 := seg_of (by decide +kernel)
def g_Ta_wayInstead_87 : List (Instr × Nat) := [(.aload 0, 1), (.getstatic 2051, 3), (.iload 1, 1), (.iload 2, 1), (.iload 8, 2), (.invokeinterface 41 2, 3), (.invokevirtual 1800304, 3), (.istore 9, 2), (.iload 8, 2), (.iload 3, 1), (.if_icmp .eq 124, 3)]
theorem s_Ta_wayInstead_87 : Seg 228 87 g_Ta_wayInstead_87 := seg_of (by decide +kernel)
def g_Ta_wayInstead_109 : List (Instr × Nat) := [(.iload 9, 2), (.iload 7, 2), (.if_icmp .le 124, 3)]
theorem s_Ta_wayInstead_109 : Seg 228 109 g_Ta_wayInstead_109 := seg_of (by decide +kernel)
def g_Ta_wayInstead_116 : List (Instr × Nat) := [(.iload 9, 2), (.istore 7, 2), (.iload 8, 2), (.istore 6, 2)]
theorem s_Ta_wayInstead_116 : Seg 228 116 g_Ta_wayInstead_116 := seg_of (by decide +kernel)
def g_Ta_wayInstead_124 : List (Instr × Nat) := [(.iinc 8 (1), 3), (.goto 75, 3)]
theorem s_Ta_wayInstead_124 : Seg 228 124 g_Ta_wayInstead_124 := seg_of (by decide +kernel)
def g_Ta_wayInstead_130 : List (Instr × Nat) := [(.iload 6, 2), (.ireturn, 1)]
theorem s_Ta_wayInstead_130 : Seg 228 130 g_Ta_wayInstead_130 := seg_of (by decide +kernel)
/-! Ta restsWith -/
theorem mk_Ta_restsWith : 229 < 256 ∧ mtB 229 = true := ⟨by decide, mk_229⟩
def g_Ta_restsWith_0 : List (Instr × Nat) := [(.aload 0, 1), (.getfield 2059, 3), (.ifCond .ne 37, 3)]
theorem s_Ta_restsWith_0 : Seg 229 0 g_Ta_restsWith_0 := seg_of (by decide +kernel)
def g_Ta_restsWith_7 : List (Instr × Nat) := [(.aload 0, 1), (.getstatic 2051, 3), (.ifnull 37, 3)]
theorem s_Ta_restsWith_7 : Seg 229 7 g_Ta_restsWith_7 := seg_of (by decide +kernel)
def g_Ta_restsWith_14 : List (Instr × Nat) := [(.aload 0, 1), (.getstatic 2051, 3), (.getstatic 1026, 3), (.aload 0, 1), (.getfield 2061, 3), (.iaload, 1), (.iload 1, 1), (.ishr, 1), (.iconst 1, 1), (.iand, 1), (.ifCond .eq 37, 3)]
theorem s_Ta_restsWith_14 : Seg 229 14 g_Ta_restsWith_14 := seg_of (by decide +kernel)
def g_Ta_restsWith_33 : List (Instr × Nat) := [(.iconst 1, 1), (.goto 38, 3)]
theorem s_Ta_restsWith_33 : Seg 229 33 g_Ta_restsWith_33 := seg_of (by decide +kernel)
def g_Ta_restsWith_37 : List (Instr × Nat) := [(.iconst 0, 1)]
theorem s_Ta_restsWith_37 : Seg 229 37 g_Ta_restsWith_37 := seg_of (by decide +kernel)
def g_Ta_restsWith_38 : List (Instr × Nat) := [(.ireturn, 1)]
theorem s_Ta_restsWith_38 : Seg 229 38 g_Ta_restsWith_38 := seg_of (by decide +kernel)
/-! Ta lastSaid -/
theorem mk_Ta_lastSaid : 230 < 256 ∧ mtB 230 = true := ⟨by decide, mk_230⟩
def g_Ta_lastSaid_0 : List (Instr × Nat) := [(.iload 4, 2), (.istore 5, 2), (.iconst 0, 1), (.istore 6, 2)]
theorem s_Ta_lastSaid_0 : Seg 230 0 g_Ta_lastSaid_0 := seg_of (by decide +kernel)
def g_Ta_lastSaid_7 : List (Instr × Nat) := [(.iload 6, 2), (.aload 0, 1), (.getfield 2062, 3), (.if_icmp .ge 87, 3)]
theorem s_Ta_lastSaid_7 : Seg 230 7 g_Ta_lastSaid_7 := seg_of (by decide +kernel)
def g_Ta_lastSaid_16 : List (Instr × Nat) := [(.iload 6, 2), (.iconst 5, 1), (.imul, 1), (.istore 7, 2), (.aload 0, 1), (.getstatic 2053, 3), (.iload 7, 2), (.iaload, 1), (.iload 1, 1), (.if_icmp .ne 81, 3)]
theorem s_Ta_lastSaid_16 : Seg 230 16 g_Ta_lastSaid_16 := seg_of (by decide +kernel)
def g_Ta_lastSaid_33 : List (Instr × Nat) := [(.aload 0, 1), (.getstatic 2053, 3), (.iload 7, 2), (.iconst 2, 1), (.iadd, 1), (.iaload, 1), (.iload 2, 1), (.if_icmp .ne 81, 3)]
theorem s_Ta_lastSaid_33 : Seg 230 33 g_Ta_lastSaid_33 := seg_of (by decide +kernel)
def g_Ta_lastSaid_46 : List (Instr × Nat) := [(.aload 0, 1), (.getstatic 2053, 3), (.iload 7, 2), (.iconst 3, 1), (.iadd, 1), (.iaload, 1), (.iload 3, 1), (.if_icmp .ne 65, 3)]
theorem s_Ta_lastSaid_46 : Seg 230 46 g_Ta_lastSaid_46 := seg_of (by decide +kernel)
def g_Ta_lastSaid_59 : List (Instr × Nat) := [(.iconst 0, 1), (.istore 5, 2), (.goto 81, 3)]
theorem s_Ta_lastSaid_59 : Seg 230 59 g_Ta_lastSaid_59 := seg_of (by decide +kernel)
def g_Ta_lastSaid_65 : List (Instr × Nat) := [(.aload 0, 1), (.getstatic 2053, 3), (.iload 7, 2), (.iconst 4, 1), (.iadd, 1), (.iaload, 1), (.iload 3, 1), (.if_icmp .ne 81, 3)]
theorem s_Ta_lastSaid_65 : Seg 230 65 g_Ta_lastSaid_65 := seg_of (by decide +kernel)
def g_Ta_lastSaid_78 : List (Instr × Nat) := [(.iconst 2, 1), (.istore 5, 2)]
theorem s_Ta_lastSaid_78 : Seg 230 78 g_Ta_lastSaid_78 := seg_of (by decide +kernel)
def g_Ta_lastSaid_81 : List (Instr × Nat) := [(.iinc 6 (1), 3), (.goto 7, 3)]
theorem s_Ta_lastSaid_81 : Seg 230 81 g_Ta_lastSaid_81 := seg_of (by decide +kernel)
def g_Ta_lastSaid_87 : List (Instr × Nat) := [(.iload 5, 2), (.ireturn, 1)]
theorem s_Ta_lastSaid_87 : Seg 230 87 g_Ta_lastSaid_87 := seg_of (by decide +kernel)
/-! Ta nosWithoutNeed -/
theorem mk_Ta_nosWithoutNeed : 231 < 256 ∧ mtB 231 = true := ⟨by decide, mk_231⟩
def g_Ta_nosWithoutNeed_0 : List (Instr × Nat) := [(.iconst 0, 1), (.istore 2, 1), (.aload 0, 1), (.getstatic 2051, 3), (.ifnonnull 13, 3)]
theorem s_Ta_nosWithoutNeed_0 : Seg 231 0 g_Ta_nosWithoutNeed_0 := seg_of (by decide +kernel)
def g_Ta_nosWithoutNeed_9 : List (Instr × Nat) := [(.iconst 0, 1), (.goto 20, 3)]
theorem s_Ta_nosWithoutNeed_9 : Seg 231 9 g_Ta_nosWithoutNeed_9 := seg_of (by decide +kernel)
def g_Ta_nosWithoutNeed_13 : List (Instr × Nat) := [(.aload 0, 1), (.getstatic 2051, 3), (.getfield 1033, 3)]
theorem s_Ta_nosWithoutNeed_13 : Seg 231 13 g_Ta_nosWithoutNeed_13 := seg_of (by decide +kernel)
def g_Ta_nosWithoutNeed_20 : List (Instr × Nat) := [(.istore 3, 1), (.iconst 0, 1), (.istore 4, 2)]
theorem s_Ta_nosWithoutNeed_20 : Seg 231 20 g_Ta_nosWithoutNeed_20 := seg_of (by decide +kernel)
def g_Ta_nosWithoutNeed_24 : List (Instr × Nat) := [(.aload 0, 1), (.getstatic 2051, 3), (.ifnull 138, 3)]
theorem s_Ta_nosWithoutNeed_24 : Seg 231 24 g_Ta_nosWithoutNeed_24 := seg_of (by decide +kernel)
def g_Ta_nosWithoutNeed_31 : List (Instr × Nat) := [(.iload 4, 2), (.aload 0, 1), (.getfield 2062, 3), (.if_icmp .ge 138, 3)]
theorem s_Ta_nosWithoutNeed_31 : Seg 231 31 g_Ta_nosWithoutNeed_31 := seg_of (by decide +kernel)
def g_Ta_nosWithoutNeed_40 : List (Instr × Nat) := [(.iload 4, 2), (.iconst 5, 1), (.imul, 1), (.istore 5, 2), (.aload 0, 1), (.getstatic 2053, 3), (.iload 5, 2), (.iconst 2, 1), (.iadd, 1), (.iaload, 1), (.aload 0, 1), (.getstatic 2053, 3), (.iload 5, 2), (.iconst 3, 1), (.iadd, 1), (.iaload, 1), (.invokeinterface 41 2, 3), (.istore 6, 2), (.aload 0, 1), (.getstatic 2053, 3), (.iload 5, 2), (.iaload, 1), (.iload 1, 1), (.if_icmp .ne 105, 3)]
theorem s_Ta_nosWithoutNeed_40 : Seg 231 40 g_Ta_nosWithoutNeed_40 := seg_of (by decide +kernel)
def g_Ta_nosWithoutNeed_80 : List (Instr × Nat) := [(.aload 0, 1), (.getstatic 2051, 3), (.iload 1, 1), (.iload 6, 2), (.aload 0, 1), (.getstatic 2051, 3), (.getstatic 1026, 3), (.iload 3, 1), (.iaload, 1), (.invokevirtual 1830404, 3), (.ifCond .ne 105, 3)]
theorem s_Ta_nosWithoutNeed_80 : Seg 231 80 g_Ta_nosWithoutNeed_80 := seg_of (by decide +kernel)
def g_Ta_nosWithoutNeed_102 : List (Instr × Nat) := [(.iinc 2 (1), 3)]
theorem s_Ta_nosWithoutNeed_102 : Seg 231 102 g_Ta_nosWithoutNeed_102 := seg_of (by decide +kernel)
def g_Ta_nosWithoutNeed_105 : List (Instr × Nat) := [(.aload 0, 1), (.getstatic 2051, 3), (.iload 3, 1), (.aload 0, 1), (.getstatic 2053, 3), (.iload 5, 2), (.iconst 2, 1), (.iadd, 1), (.iaload, 1), (.aload 0, 1), (.getstatic 2053, 3), (.iload 5, 2), (.iconst 4, 1), (.iadd, 1), (.iaload, 1), (.invokevirtual 1790404, 3), (.istore 3, 1), (.iinc 4 (1), 3), (.goto 24, 3)]
theorem s_Ta_nosWithoutNeed_105 : Seg 231 105 g_Ta_nosWithoutNeed_105 := seg_of (by decide +kernel)
def g_Ta_nosWithoutNeed_138 : List (Instr × Nat) := [(.iload 2, 1), (.ireturn, 1)]
theorem s_Ta_nosWithoutNeed_138 : Seg 231 138 g_Ta_nosWithoutNeed_138 := seg_of (by decide +kernel)
/-! Ta leansIn -/
theorem mk_Ta_leansIn : 232 < 256 ∧ mtB 232 = true := ⟨by decide, mk_232⟩
def g_Ta_leansIn_0 : List (Instr × Nat) := [(.iconst 0, 1), (.istore 3, 1), (.iconst 0, 1), (.istore 4, 2)]
theorem s_Ta_leansIn_0 : Seg 232 0 g_Ta_leansIn_0 := seg_of (by decide +kernel)
def g_Ta_leansIn_5 : List (Instr × Nat) := [(.iload 4, 2), (.iconst 4, 1), (.if_icmp .ge 32, 3)]
theorem s_Ta_leansIn_5 : Seg 232 5 g_Ta_leansIn_5 := seg_of (by decide +kernel)
def g_Ta_leansIn_11 : List (Instr × Nat) := [(.iload 3, 1), (.aload 0, 1), (.iload 1, 1), (.iload 4, 2), (.invokeinterface 41 2, 3), (.invokevirtual 2330208, 3), (.fadd, 3), (.istore 3, 1), (.iinc 4 (1), 3), (.goto 5, 3)]
theorem s_Ta_leansIn_11 : Seg 232 11 g_Ta_leansIn_11 := seg_of (by decide +kernel)
def g_Ta_leansIn_32 : List (Instr × Nat) := [(.aload 0, 1), (.iload 1, 1), (.iload 2, 1), (.invokeinterface 41 2, 3), (.invokevirtual 2330208, 3), (.iload 3, 1), (.if_icmp .ge 49, 3)]
theorem s_Ta_leansIn_32 : Seg 232 32 g_Ta_leansIn_32 := seg_of (by decide +kernel)
def g_Ta_leansIn_45 : List (Instr × Nat) := [(.iconst 1, 1), (.goto 50, 3)]
theorem s_Ta_leansIn_45 : Seg 232 45 g_Ta_leansIn_45 := seg_of (by decide +kernel)
def g_Ta_leansIn_49 : List (Instr × Nat) := [(.iconst 0, 1)]
theorem s_Ta_leansIn_49 : Seg 232 49 g_Ta_leansIn_49 := seg_of (by decide +kernel)
def g_Ta_leansIn_50 : List (Instr × Nat) := [(.ireturn, 1)]
theorem s_Ta_leansIn_50 : Seg 232 50 g_Ta_leansIn_50 := seg_of (by decide +kernel)
/-! Ta voicesFor -/
theorem mk_Ta_voicesFor : 233 < 256 ∧ mtB 233 = true := ⟨by decide, mk_233⟩
def g_Ta_voicesFor_0 : List (Instr × Nat) := [(.iconst 0, 1), (.istore 2, 1), (.iconst 0, 1), (.istore 3, 1)]
theorem s_Ta_voicesFor_0 : Seg 233 0 g_Ta_voicesFor_0 := seg_of (by decide +kernel)
def g_Ta_voicesFor_4 : List (Instr × Nat) := [(.iload 3, 1), (.iconst 8, 2), (.if_icmp .ge 29, 3)]
theorem s_Ta_voicesFor_4 : Seg 233 4 g_Ta_voicesFor_4 := seg_of (by decide +kernel)
def g_Ta_voicesFor_10 : List (Instr × Nat) := [(.iload 2, 1), (.aload 0, 1), (.getstatic 2055, 3), (.iload 3, 1), (.iaload, 1), (.iload 1, 1), (.ishr, 1), (.iconst 1, 1), (.iand, 1), (.iadd, 1), (.istore 2, 1), (.iinc 3 (1), 3), (.goto 4, 3)]
theorem s_Ta_voicesFor_10 : Seg 233 10 g_Ta_voicesFor_10 := seg_of (by decide +kernel)
def g_Ta_voicesFor_29 : List (Instr × Nat) := [(.iload 2, 1), (.ireturn, 1)]
theorem s_Ta_voicesFor_29 : Seg 233 29 g_Ta_voicesFor_29 := seg_of (by decide +kernel)
/-! Tp init -/
theorem mk_Tp_init : 234 < 256 ∧ mtB 234 = true := ⟨by decide, mk_234⟩
def g_Tp_init_0 : List (Instr × Nat) := [(.aload 0, 1), (.nop, 3), (.aload 0, 1), (.iconst 180, 3), (.newarray .int, 2), (.putstatic 2304, 3), (.return_, 1)]
theorem s_Tp_init_0 : Seg 234 0 g_Tp_init_0 := seg_of (by decide +kernel)
/-! Tp add -/
theorem mk_Tp_add : 235 < 256 ∧ mtB 235 = true := ⟨by decide, mk_235⟩
def g_Tp_add_0 : List (Instr × Nat) := [(.aload 0, 1), (.getfield 2305, 3), (.istore 6, 2), (.aload 0, 1), (.iload 1, 1), (.invokevirtual 2360209, 3), (.aload 0, 1), (.iload 2, 1), (.invokevirtual 2360209, 3), (.aload 0, 1), (.iload 3, 1), (.invokevirtual 2360209, 3), (.aload 0, 1), (.iload 4, 2), (.invokevirtual 2360209, 3), (.aload 0, 1), (.iload 5, 2), (.invokevirtual 2360209, 3), (.aload 0, 1), (.getfield 2305, 3), (.iconst 160, 3), (.if_icmp .le 51, 3)]
theorem s_Tp_add_0 : Seg 235 0 g_Tp_add_0 := seg_of (by decide +kernel)
def g_Tp_add_43 : List (Instr × Nat) := [(.aload 0, 1), (.iload 6, 2), (.putfield 2305, 3), (.iconst (-1), 1), (.ireturn, 1)]
theorem s_Tp_add_43 : Seg 235 43 g_Tp_add_43 := seg_of (by decide +kernel)
def g_Tp_add_51 : List (Instr × Nat) := [(.aload 0, 1), (.getfield 2305, 3), (.ireturn, 1)]
theorem s_Tp_add_51 : Seg 235 51 g_Tp_add_51 := seg_of (by decide +kernel)
/-! Tp put -/
theorem mk_Tp_put : 236 < 256 ∧ mtB 236 = true := ⟨by decide, mk_236⟩
def g_Tp_put_0 : List (Instr × Nat) := [(.iconst 24, 2), (.istore 2, 1)]
theorem s_Tp_put_0 : Seg 236 0 g_Tp_put_0 := seg_of (by decide +kernel)
def g_Tp_put_3 : List (Instr × Nat) := [(.iload 2, 1), (.ifCond .lt 57, 3)]
theorem s_Tp_put_3 : Seg 236 3 g_Tp_put_3 := seg_of (by decide +kernel)
def g_Tp_put_7 : List (Instr × Nat) := [(.iload 1, 1), (.iload 2, 1), (.ishr, 1), (.iconst 255, 3), (.iand, 1), (.istore 3, 1), (.iload 3, 1), (.ifCond .eq 51, 3)]
theorem s_Tp_put_7 : Seg 236 7 g_Tp_put_7 := seg_of (by decide +kernel)
def g_Tp_put_19 : List (Instr × Nat) := [(.aload 0, 1), (.getfield 2305, 3), (.aload 0, 1), (.getstatic 2304, 3), (.arraylength, 1), (.if_icmp .ge 51, 3)]
theorem s_Tp_put_19 : Seg 236 19 g_Tp_put_19 := seg_of (by decide +kernel)
def g_Tp_put_31 : List (Instr × Nat) := [(.aload 0, 1), (.getstatic 2304, 3), (.aload 0, 1), (.getfield 2305, 3), (.iload 3, 1), (.iastore, 1), (.aload 0, 1), (.dup, 1), (.getfield 2305, 3), (.iconst 1, 1), (.iadd, 1), (.putfield 2305, 3)]
theorem s_Tp_put_31 : Seg 236 31 g_Tp_put_31 := seg_of (by decide +kernel)
def g_Tp_put_51 : List (Instr × Nat) := [(.iinc 2 (-8), 3), (.goto 3, 3)]
theorem s_Tp_put_51 : Seg 236 51 g_Tp_put_51 := seg_of (by decide +kernel)
def g_Tp_put_57 : List (Instr × Nat) := [(.return_, 1)]
theorem s_Tp_put_57 : Seg 236 57 g_Tp_put_57 := seg_of (by decide +kernel)
/-! Te init -/
theorem mk_Te_init : 237 < 256 ∧ mtB 237 = true := ⟨by decide, mk_237⟩
def g_Te_init_0 : List (Instr × Nat) := [(.aload 0, 1), (.nop, 3), (.aload 0, 1), (.aload 1, 1), (.putstatic 2560, 3), (.aload 0, 1), (.aload 2, 1), (.putstatic 2561, 3), (.return_, 1)]
theorem s_Te_init_0 : Seg 237 0 g_Te_init_0 := seg_of (by decide +kernel)
/-! L worth -/
theorem mk_L_worth : 238 < 256 ∧ mtB 238 = true := ⟨by decide, mk_238⟩
def g_L_worth_0 : List (Instr × Nat) := [(.aload 8, 2), (.iconst 0, 1), (.aload 0, 1), (.iload 1, 1), (.iload 2, 1), (.iload 3, 1), (.iload 4, 2), (.iload 5, 2), (.iload 6, 2), (.iload 7, 2), (.invokedynamic 19008023, 3), (.i2l, 1), (.lastore, 1), (.goto 27, 3)]
theorem s_L_worth_0 : Seg 238 0 g_L_worth_0 := seg_of (by decide +kernel)
def g_L_worth_25 : List (Instr × Nat) := [(.iconst 1, 1), (.ireturn, 1)]
theorem s_L_worth_25 : Seg 238 25 g_L_worth_25 := seg_of (by decide +kernel)
def g_L_worth_27 : List (Instr × Nat) := [(.iconst 0, 1), (.ireturn, 1)]
theorem s_L_worth_27 : Seg 238 27 g_L_worth_27 := seg_of (by decide +kernel)
/-! L said -/
theorem mk_L_said : 239 < 256 ∧ mtB 239 = true := ⟨by decide, mk_239⟩
def g_L_said_0 : List (Instr × Nat) := [(.aload 4, 2), (.iconst 0, 1), (.aload 0, 1), (.iload 1, 1), (.iload 2, 1), (.iload 3, 1), (.invokedynamic 22004015, 3), (.i2l, 1), (.lastore, 1), (.goto 19, 3)]
theorem s_L_said_0 : Seg 239 0 g_L_said_0 := seg_of (by decide +kernel)
def g_L_said_17 : List (Instr × Nat) := [(.iconst 1, 1), (.ireturn, 1)]
theorem s_L_said_17 : Seg 239 17 g_L_said_17 := seg_of (by decide +kernel)
def g_L_said_19 : List (Instr × Nat) := [(.iconst 0, 1), (.ireturn, 1)]
theorem s_L_said_19 : Seg 239 19 g_L_said_19 := seg_of (by decide +kernel)
/-! S indexOf -/
theorem mk_S_indexOf : 241 < 256 ∧ mtB 241 = true := ⟨by decide, mk_241⟩
def g_S_indexOf_0 : List (Instr × Nat) := [(.aload 0, 1), (.iload 1, 1), (.iconst 0, 1), (.invokevirtual 2420313, 3), (.ireturn, 1)]
theorem s_S_indexOf_0 : Seg 241 0 g_S_indexOf_0 := seg_of (by decide +kernel)
/-! S indexOf2 -/
theorem mk_S_indexOf2 : 242 < 256 ∧ mtB 242 = true := ⟨by decide, mk_242⟩
def g_S_indexOf2_0 : List (Instr × Nat) := [(.aload 0, 1), (.invokevirtual 2430113, 3), (.ifCond .eq 23, 3)]
theorem s_S_indexOf2_0 : Seg 242 0 g_S_indexOf2_0 := seg_of (by decide +kernel)
def g_S_indexOf2_7 : List (Instr × Nat) := [(.aload 0, 1), (.getstatic 3328, 3), (.iload 1, 1), (.iload 2, 1), (.aload 0, 1), (.invokevirtual 2440113, 3), (.invokeinterface 249 4, 3), (.goto 36, 3)]
theorem s_S_indexOf2_7 : Seg 242 7 g_S_indexOf2_7 := seg_of (by decide +kernel)
def g_S_indexOf2_23 : List (Instr × Nat) := [(.aload 0, 1), (.getstatic 3328, 3), (.iload 1, 1), (.iload 2, 1), (.aload 0, 1), (.invokevirtual 2440113, 3), (.jsr 0, 3)]
theorem s_S_indexOf2_23 : Seg 242 23 g_S_indexOf2_23 := seg_of (by decide +kernel)
def g_S_indexOf2_36 : List (Instr × Nat) := [(.ireturn, 1)]
theorem s_S_indexOf2_36 : Seg 242 36 g_S_indexOf2_36 := seg_of (by decide +kernel)
/-! S isLatin1 -/
theorem mk_S_isLatin1 : 243 < 256 ∧ mtB 243 = true := ⟨by decide, mk_243⟩
def g_S_isLatin1_0 : List (Instr × Nat) := [(.dload 0, 3), (.ifCond .eq 17, 3)]
theorem s_S_isLatin1_0 : Seg 243 0 g_S_isLatin1_0 := seg_of (by decide +kernel)
def g_S_isLatin1_6 : List (Instr × Nat) := [(.aload 0, 1), (.getfield 3329, 3), (.ifCond .ne 17, 3)]
theorem s_S_isLatin1_6 : Seg 243 6 g_S_isLatin1_6 := seg_of (by decide +kernel)
def g_S_isLatin1_13 : List (Instr × Nat) := [(.iconst 1, 1), (.goto 18, 3)]
theorem s_S_isLatin1_13 : Seg 243 13 g_S_isLatin1_13 := seg_of (by decide +kernel)
def g_S_isLatin1_17 : List (Instr × Nat) := [(.iconst 0, 1)]
theorem s_S_isLatin1_17 : Seg 243 17 g_S_isLatin1_17 := seg_of (by decide +kernel)
def g_S_isLatin1_18 : List (Instr × Nat) := [(.ireturn, 1)]
theorem s_S_isLatin1_18 : Seg 243 18 g_S_isLatin1_18 := seg_of (by decide +kernel)
/-! S length -/
theorem mk_S_length : 244 < 256 ∧ mtB 244 = true := ⟨by decide, mk_244⟩
def g_S_length_0 : List (Instr × Nat) := [(.aload 0, 1), (.getstatic 3328, 3), (.arraylength, 1), (.aload 0, 1), (.invokevirtual 2450113, 3), (.ishr, 1), (.ireturn, 1)]
theorem s_S_length_0 : Seg 244 0 g_S_length_0 := seg_of (by decide +kernel)
/-! S coder -/
theorem mk_S_coder : 245 < 256 ∧ mtB 245 = true := ⟨by decide, mk_245⟩
def g_S_coder_0 : List (Instr × Nat) := [(.dload 0, 3), (.ifCond .eq 13, 3)]
theorem s_S_coder_0 : Seg 245 0 g_S_coder_0 := seg_of (by decide +kernel)
def g_S_coder_6 : List (Instr × Nat) := [(.aload 0, 1), (.getfield 3329, 3), (.goto 14, 3)]
theorem s_S_coder_6 : Seg 245 6 g_S_coder_6 := seg_of (by decide +kernel)
def g_S_coder_13 : List (Instr × Nat) := [(.iconst 1, 1)]
theorem s_S_coder_13 : Seg 245 13 g_S_coder_13 := seg_of (by decide +kernel)
def g_S_coder_14 : List (Instr × Nat) := [(.ireturn, 1)]
theorem s_S_coder_14 : Seg 245 14 g_S_coder_14 := seg_of (by decide +kernel)
/-! S charAt -/
theorem mk_S_charAt : 246 < 256 ∧ mtB 246 = true := ⟨by decide, mk_246⟩
def g_S_charAt_0 : List (Instr × Nat) := [(.aload 0, 1), (.invokevirtual 2430113, 3), (.ifCond .eq 16, 3)]
theorem s_S_charAt_0 : Seg 246 0 g_S_charAt_0 := seg_of (by decide +kernel)
def g_S_charAt_7 : List (Instr × Nat) := [(.aload 0, 1), (.getstatic 3328, 3), (.iload 1, 1), (.invokeinterface 248 2, 3), (.ireturn, 1)]
theorem s_S_charAt_7 : Seg 246 7 g_S_charAt_7 := seg_of (by decide +kernel)
def g_S_charAt_16 : List (Instr × Nat) := [(.aload 0, 1), (.getstatic 3328, 3), (.iload 1, 1), (.jsr 0, 3)]
theorem s_S_charAt_16 : Seg 246 16 g_S_charAt_16 := seg_of (by decide +kernel)
/-! S checkIndex -/
theorem mk_S_checkIndex : 247 < 256 ∧ mtB 247 = true := ⟨by decide, mk_247⟩
def g_S_checkIndex_0 : List (Instr × Nat) := [(.iload 0, 1), (.iload 1, 1), (.fload 0, 3), (.invokeinterface 255 3, 3), (.pop, 1), (.return_, 1)]
theorem s_S_checkIndex_0 : Seg 247 0 g_S_checkIndex_0 := seg_of (by decide +kernel)
/-! S1 charAt -/
theorem mk_S1_charAt : 248 < 256 ∧ mtB 248 = true := ⟨by decide, mk_248⟩
def g_S1_charAt_0 : List (Instr × Nat) := [(.iload 1, 1), (.aload 0, 1), (.arraylength, 1), (.invokeinterface 247 2, 3), (.aload 0, 1), (.iload 1, 1), (.baload, 1), (.iconst 255, 3), (.iand, 1), (.i2c, 1), (.ireturn, 1)]
theorem s_S1_charAt_0 : Seg 248 0 g_S1_charAt_0 := seg_of (by decide +kernel)
/-! S1 indexOf -/
theorem mk_S1_indexOf : 249 < 256 ∧ mtB 249 = true := ⟨by decide, mk_249⟩
def g_S1_indexOf_0 : List (Instr × Nat) := [(.iload 1, 1), (.invokeinterface 251 1, 3), (.ifCond .ne 9, 3)]
theorem s_S1_indexOf_0 : Seg 249 0 g_S1_indexOf_0 := seg_of (by decide +kernel)
def g_S1_indexOf_7 : List (Instr × Nat) := [(.iconst (-1), 1), (.ireturn, 1)]
theorem s_S1_indexOf_7 : Seg 249 7 g_S1_indexOf_7 := seg_of (by decide +kernel)
def g_S1_indexOf_9 : List (Instr × Nat) := [(.iload 2, 1), (.iconst 0, 1), (.fadd, 3), (.istore 2, 1), (.iload 3, 1), (.aload 0, 1), (.arraylength, 1), (.fsub, 3), (.istore 3, 1), (.iload 2, 1), (.iload 3, 1), (.if_icmp .lt 29, 3)]
theorem s_S1_indexOf_9 : Seg 249 9 g_S1_indexOf_9 := seg_of (by decide +kernel)
def g_S1_indexOf_27 : List (Instr × Nat) := [(.iconst (-1), 1), (.ireturn, 1)]
theorem s_S1_indexOf_27 : Seg 249 27 g_S1_indexOf_27 := seg_of (by decide +kernel)
def g_S1_indexOf_29 : List (Instr × Nat) := [(.aload 0, 1), (.iload 1, 1), (.iload 2, 1), (.iload 3, 1), (.invokeinterface 250 4, 3), (.ireturn, 1)]
theorem s_S1_indexOf_29 : Seg 249 29 g_S1_indexOf_29 := seg_of (by decide +kernel)
/-! S1 indexOfChar -/
theorem mk_S1_indexOfChar : 250 < 256 ∧ mtB 250 = true := ⟨by decide, mk_250⟩
def g_S1_indexOfChar_0 : List (Instr × Nat) := [(.iload 1, 1), (.i2b, 1), (.istore 4, 2), (.iload 2, 1), (.istore 5, 2)]
theorem s_S1_indexOfChar_0 : Seg 250 0 g_S1_indexOfChar_0 := seg_of (by decide +kernel)
def g_S1_indexOfChar_7 : List (Instr × Nat) := [(.iload 5, 2), (.iload 3, 1), (.if_icmp .ge 31, 3)]
theorem s_S1_indexOfChar_7 : Seg 250 7 g_S1_indexOfChar_7 := seg_of (by decide +kernel)
def g_S1_indexOfChar_13 : List (Instr × Nat) := [(.aload 0, 1), (.iload 5, 2), (.baload, 1), (.iload 4, 2), (.if_icmp .ne 25, 3)]
theorem s_S1_indexOfChar_13 : Seg 250 13 g_S1_indexOfChar_13 := seg_of (by decide +kernel)
def g_S1_indexOfChar_22 : List (Instr × Nat) := [(.iload 5, 2), (.ireturn, 1)]
theorem s_S1_indexOfChar_22 : Seg 250 22 g_S1_indexOfChar_22 := seg_of (by decide +kernel)
def g_S1_indexOfChar_25 : List (Instr × Nat) := [(.iinc 5 (1), 3), (.goto 7, 3)]
theorem s_S1_indexOfChar_25 : Seg 250 25 g_S1_indexOfChar_25 := seg_of (by decide +kernel)
def g_S1_indexOfChar_31 : List (Instr × Nat) := [(.iconst (-1), 1), (.ireturn, 1)]
theorem s_S1_indexOfChar_31 : Seg 250 31 g_S1_indexOfChar_31 := seg_of (by decide +kernel)
/-! S1 canEncode -/
theorem mk_S1_canEncode : 251 < 256 ∧ mtB 251 = true := ⟨by decide, mk_251⟩
def g_S1_canEncode_0 : List (Instr × Nat) := [(.iload 0, 1), (.ifCond .lt 15, 3)]
theorem s_S1_canEncode_0 : Seg 251 0 g_S1_canEncode_0 := seg_of (by decide +kernel)
def g_S1_canEncode_4 : List (Instr × Nat) := [(.iload 0, 1), (.iconst 255, 3), (.if_icmp .gt 15, 3)]
theorem s_S1_canEncode_4 : Seg 251 4 g_S1_canEncode_4 := seg_of (by decide +kernel)
def g_S1_canEncode_11 : List (Instr × Nat) := [(.iconst 1, 1), (.goto 16, 3)]
theorem s_S1_canEncode_11 : Seg 251 11 g_S1_canEncode_11 := seg_of (by decide +kernel)
def g_S1_canEncode_15 : List (Instr × Nat) := [(.iconst 0, 1)]
theorem s_S1_canEncode_15 : Seg 251 15 g_S1_canEncode_15 := seg_of (by decide +kernel)
def g_S1_canEncode_16 : List (Instr × Nat) := [(.ireturn, 1)]
theorem s_S1_canEncode_16 : Seg 251 16 g_S1_canEncode_16 := seg_of (by decide +kernel)
/-! Ar fill -/
theorem mk_Ar_fill : 252 < 256 ∧ mtB 252 = true := ⟨by decide, mk_252⟩
def g_Ar_fill_0 : List (Instr × Nat) := [(.iconst 0, 1), (.istore 2, 1), (.aload 0, 1), (.arraylength, 1), (.istore 3, 1)]
theorem s_Ar_fill_0 : Seg 252 0 g_Ar_fill_0 := seg_of (by decide +kernel)
def g_Ar_fill_5 : List (Instr × Nat) := [(.iload 2, 1), (.iload 3, 1), (.if_icmp .ge 20, 3)]
theorem s_Ar_fill_5 : Seg 252 5 g_Ar_fill_5 := seg_of (by decide +kernel)
def g_Ar_fill_10 : List (Instr × Nat) := [(.aload 0, 1), (.iload 2, 1), (.iload 1, 1), (.iastore, 1), (.iinc 2 (1), 3), (.goto 5, 3)]
theorem s_Ar_fill_10 : Seg 252 10 g_Ar_fill_10 := seg_of (by decide +kernel)
def g_Ar_fill_20 : List (Instr × Nat) := [(.return_, 1)]
theorem s_Ar_fill_20 : Seg 252 20 g_Ar_fill_20 := seg_of (by decide +kernel)
/-! Ar copyOf -/
theorem mk_Ar_copyOf : 253 < 256 ∧ mtB 253 = true := ⟨by decide, mk_253⟩
def g_Ar_copyOf_0 : List (Instr × Nat) := [(.iload 1, 1), (.aload 0, 1), (.arraylength, 1), (.if_icmp .ne 14, 3)]
theorem s_Ar_copyOf_0 : Seg 253 0 g_Ar_copyOf_0 := seg_of (by decide +kernel)
def g_Ar_copyOf_6 : List (Instr × Nat) := [(.aload 0, 1), (.jsr 0, 3)]
theorem s_Ar_copyOf_6 : Seg 253 6 g_Ar_copyOf_6 := seg_of (by decide +kernel)
def g_Ar_copyOf_14 : List (Instr × Nat) := [(.iload 1, 1), (.newarray .int, 2), (.astore 2, 1), (.aload 0, 1), (.iconst 0, 1), (.aload 2, 1), (.iconst 0, 1), (.aload 0, 1), (.arraylength, 1), (.iload 1, 1), (.fsub, 3), (.monitorenter, 3), (.aload 2, 1), (.areturn, 1)]
theorem s_Ar_copyOf_14 : Seg 253 14 g_Ar_copyOf_14 := seg_of (by decide +kernel)
/-! In bitCount -/
theorem mk_In_bitCount : 254 < 256 ∧ mtB 254 = true := ⟨by decide, mk_254⟩
def g_In_bitCount_0 : List (Instr × Nat) := [(.iload 0, 1), (.iload 0, 1), (.iconst 1, 1), (.iushr, 1), (.bipush (1431655765), 3), (.iand, 1), (.isub, 1), (.istore 0, 1), (.iload 0, 1), (.bipush (858993459), 3), (.iand, 1), (.iload 0, 1), (.iconst 2, 1), (.iushr, 1), (.bipush (858993459), 3), (.iand, 1), (.iadd, 1), (.istore 0, 1), (.iload 0, 1), (.iload 0, 1), (.iconst 4, 1), (.iushr, 1), (.iadd, 1), (.bipush (252645135), 3), (.iand, 1), (.istore 0, 1), (.iload 0, 1), (.iload 0, 1), (.iconst 8, 2), (.iushr, 1), (.iadd, 1), (.istore 0, 1), (.iload 0, 1), (.iload 0, 1), (.iconst 16, 2), (.iushr, 1), (.iadd, 1), (.istore 0, 1), (.iload 0, 1), (.iconst 63, 2), (.iand, 1), (.ireturn, 1)]
theorem s_In_bitCount_0 : Seg 254 0 g_In_bitCount_0 := seg_of (by decide +kernel)
/-! Pr checkIndex -/
theorem mk_Pr_checkIndex : 255 < 256 ∧ mtB 255 = true := ⟨by decide, mk_255⟩
def g_Pr_checkIndex_0 : List (Instr × Nat) := [(.iload 0, 1), (.ifCond .lt 9, 3)]
theorem s_Pr_checkIndex_0 : Seg 255 0 g_Pr_checkIndex_0 := seg_of (by decide +kernel)
def g_Pr_checkIndex_4 : List (Instr × Nat) := [(.iload 0, 1), (.iload 1, 1), (.if_icmp .lt 16, 3)]
theorem s_Pr_checkIndex_4 : Seg 255 4 g_Pr_checkIndex_4 := seg_of (by decide +kernel)
def g_Pr_checkIndex_9 : List (Instr × Nat) := [(.aload 2, 1), (.iload 0, 1), (.iload 1, 1), (.jsr 0, 3)]
theorem s_Pr_checkIndex_9 : Seg 255 9 g_Pr_checkIndex_9 := seg_of (by decide +kernel)
def g_Pr_checkIndex_16 : List (Instr × Nat) := [(.iload 0, 1), (.ireturn, 1)]
theorem s_Pr_checkIndex_16 : Seg 255 16 g_Pr_checkIndex_16 := seg_of (by decide +kernel)
