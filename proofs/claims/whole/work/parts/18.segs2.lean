/-! ===== the segments of the methods ===== -/
/-! R gift -/
theorem mk_R_gift : 132 < 256 ∧ mtB 132 = true := ⟨by decide, mk_132⟩
def g_R_gift_0 : List (Instr × Nat) := [(.aload 0, 1), (.iconst 0, 1), (.putfield 3072, 3), (.aload 0, 1), (.getfield 3149, 3), (.iconst 8, 2), (.if_icmp .eq 52, 3), (.aload 0, 1), (.iload 1, 1), (.invokevirtual 510212, 3), (.ifCond .eq 52, 3), (.aload 0, 1), (.iload 2, 1), (.iload 3, 1), (.iload 4, 2), (.invokevirtual 540412, 3), (.ifCond .eq 52, 3), (.aload 0, 1), (.iload 5, 2), (.iload 6, 2), (.iload 7, 2), (.invokevirtual 540412, 3), (.ifCond .eq 52, 3), (.iload 2, 1), (.iload 5, 2), (.if_icmp .ne 54, 3)]
theorem s_R_gift_0 : Seg 132 0 g_R_gift_0 := seg_of (by decide +kernel)
def g_R_gift_52 : List (Instr × Nat) := [(.iconst (-1), 1), (.ireturn, 1)]
theorem s_R_gift_52 : Seg 132 52 g_R_gift_52 := seg_of (by decide +kernel)
def g_R_gift_54 : List (Instr × Nat) := [(.aload 0, 1), (.getstatic 3142, 3), (.aload 0, 1), (.getfield 3149, 3), (.iload 1, 1), (.iastore, 1), (.aload 0, 1), (.getstatic 3143, 3), (.aload 0, 1), (.getfield 3149, 3), (.iload 2, 1), (.iastore, 1), (.aload 0, 1), (.getstatic 3144, 3), (.aload 0, 1), (.getfield 3149, 3), (.iload 3, 1), (.iastore, 1), (.aload 0, 1), (.getstatic 3145, 3), (.aload 0, 1), (.getfield 3149, 3), (.iload 4, 2), (.iastore, 1), (.aload 0, 1), (.getstatic 3146, 3), (.aload 0, 1), (.getfield 3149, 3), (.iload 5, 2), (.iastore, 1), (.aload 0, 1), (.getstatic 3147, 3), (.aload 0, 1), (.getfield 3149, 3), (.iload 6, 2), (.iastore, 1), (.aload 0, 1), (.getstatic 3148, 3), (.aload 0, 1), (.getfield 3149, 3), (.iload 7, 2), (.iastore, 1), (.aload 0, 1), (.dup, 1), (.getfield 3149, 3), (.iconst 1, 1), (.iadd, 1), (.putfield 3149, 3), (.aload 0, 1), (.getfield 3149, 3), (.iconst 1, 1), (.isub, 1), (.ireturn, 1)]
theorem s_R_gift_54 : Seg 132 54 g_R_gift_54 := seg_of (by decide +kernel)
/-! R trades -/
theorem mk_R_trades : 133 < 256 ∧ mtB 133 = true := ⟨by decide, mk_133⟩
def g_R_trades_0 : List (Instr × Nat) := [(.iconst 0, 1), (.istore 4, 2)]
theorem s_R_trades_0 : Seg 133 0 g_R_trades_0 := seg_of (by decide +kernel)
def g_R_trades_3 : List (Instr × Nat) := [(.iload 4, 2), (.aload 0, 1), (.getfield 3149, 3), (.if_icmp .ge 67, 3), (.iload 3, 1), (.iload 4, 2), (.ishr, 1), (.iconst 1, 1), (.iand, 1), (.iconst 1, 1), (.if_icmp .ne 61, 3), (.aload 0, 1), (.getstatic 3143, 3), (.iload 4, 2), (.iaload, 1), (.iload 1, 1), (.if_icmp .ne 59, 3), (.aload 0, 1), (.getstatic 3146, 3), (.iload 4, 2), (.iaload, 1), (.iload 2, 1), (.if_icmp .ne 59, 3), (.aload 0, 1), (.getstatic 3076, 3), (.aload 0, 1), (.getstatic 3142, 3), (.iload 4, 2), (.iaload, 1), (.caload, 1), (.ifCond .eq 61, 3)]
theorem s_R_trades_3 : Seg 133 3 g_R_trades_3 := seg_of (by decide +kernel)
def g_R_trades_59 : List (Instr × Nat) := [(.iconst 0, 1), (.ireturn, 1)]
theorem s_R_trades_59 : Seg 133 59 g_R_trades_59 := seg_of (by decide +kernel)
def g_R_trades_61 : List (Instr × Nat) := [(.iinc 4 (1), 3), (.goto 3, 3)]
theorem s_R_trades_61 : Seg 133 61 g_R_trades_61 := seg_of (by decide +kernel)
def g_R_trades_67 : List (Instr × Nat) := [(.aload 0, 1), (.iload 3, 1), (.putfield 3094, 3), (.aload 0, 1), (.iload 1, 1), (.iconst 0, 1), (.aload 0, 1), (.iload 1, 1), (.invokevirtual 720212, 3), (.invokevirtual 1280412, 3), (.istore 4, 2), (.aload 0, 1), (.iconst 0, 1), (.putfield 3094, 3), (.iload 4, 2), (.ifCond .ne 97, 3), (.iconst 0, 1), (.ireturn, 1)]
theorem s_R_trades_67 : Seg 133 67 g_R_trades_67 := seg_of (by decide +kernel)
def g_R_trades_97 : List (Instr × Nat) := [(.iconst 0, 1), (.istore 5, 2)]
theorem s_R_trades_97 : Seg 133 97 g_R_trades_97 := seg_of (by decide +kernel)
def g_R_trades_100 : List (Instr × Nat) := [(.iload 5, 2), (.iconst 1, 1), (.iconst 2, 1), (.aload 0, 1), (.getstatic 3077, 3), (.iload 2, 1), (.iaload, 1), (.imul, 1), (.ishl, 1), (.if_icmp .ge 217, 3), (.aload 0, 1), (.iload 2, 1), (.iload 5, 2), (.invokevirtual 670312, 3), (.ifCond .eq 211, 3), (.aload 0, 1), (.iload 2, 1), (.iload 5, 2), (.invokevirtual 1150312, 3), (.ifCond .ne 138, 3), (.goto 211, 3)]
theorem s_R_trades_100 : Seg 133 100 g_R_trades_100 := seg_of (by decide +kernel)
def g_R_trades_138 : List (Instr × Nat) := [(.iconst 1, 1), (.istore 6, 2), (.iconst 0, 1), (.istore 7, 2)]
theorem s_R_trades_138 : Seg 133 138 g_R_trades_138 := seg_of (by decide +kernel)
def g_R_trades_144 : List (Instr × Nat) := [(.iload 7, 2), (.aload 0, 1), (.getfield 3149, 3), (.if_icmp .ge 204, 3), (.iload 6, 2), (.ifCond .eq 195, 3), (.iload 3, 1), (.iload 7, 2), (.ishr, 1), (.iconst 1, 1), (.iand, 1), (.ifCond .eq 191, 3), (.aload 0, 1), (.iload 2, 1), (.iload 5, 2), (.aload 0, 1), (.getstatic 3147, 3), (.iload 7, 2), (.iaload, 1), (.invokevirtual 680412, 3), (.aload 0, 1), (.getstatic 3148, 3), (.iload 7, 2), (.iaload, 1), (.if_icmp .ne 195, 3)]
theorem s_R_trades_144 : Seg 133 144 g_R_trades_144 := seg_of (by decide +kernel)
def g_R_trades_191 : List (Instr × Nat) := [(.iconst 1, 1), (.goto 196, 3)]
theorem s_R_trades_191 : Seg 133 191 g_R_trades_191 := seg_of (by decide +kernel)
def g_R_trades_195 : List (Instr × Nat) := [(.iconst 0, 1)]
theorem s_R_trades_195 : Seg 133 195 g_R_trades_195 := seg_of (by decide +kernel)
def g_R_trades_196 : List (Instr × Nat) := [(.istore 6, 2), (.iinc 7 (1), 3), (.goto 144, 3)]
theorem s_R_trades_196 : Seg 133 196 g_R_trades_196 := seg_of (by decide +kernel)
def g_R_trades_204 : List (Instr × Nat) := [(.iload 6, 2), (.ifCond .eq 211, 3), (.iconst 1, 1), (.ireturn, 1)]
theorem s_R_trades_204 : Seg 133 204 g_R_trades_204 := seg_of (by decide +kernel)
def g_R_trades_211 : List (Instr × Nat) := [(.iinc 5 (1), 3), (.goto 100, 3)]
theorem s_R_trades_211 : Seg 133 211 g_R_trades_211 := seg_of (by decide +kernel)
def g_R_trades_217 : List (Instr × Nat) := [(.iconst 0, 1), (.ireturn, 1)]
theorem s_R_trades_217 : Seg 133 217 g_R_trades_217 := seg_of (by decide +kernel)
/-! R trade -/
theorem mk_R_trade : 134 < 256 ∧ mtB 134 = true := ⟨by decide, mk_134⟩
def g_R_trade_0 : List (Instr × Nat) := [(.aload 0, 1), (.iconst 0, 1), (.putfield 3072, 3), (.aload 0, 1), (.iload 1, 1), (.invokevirtual 520212, 3), (.ifCond .eq 26, 3), (.aload 0, 1), (.iload 2, 1), (.invokevirtual 520212, 3), (.ifCond .eq 26, 3), (.iload 1, 1), (.iload 2, 1), (.if_icmp .ne 28, 3)]
theorem s_R_trade_0 : Seg 134 0 g_R_trade_0 := seg_of (by decide +kernel)
def g_R_trade_26 : List (Instr × Nat) := [(.iconst (-1), 1), (.ireturn, 1)]
theorem s_R_trade_26 : Seg 134 26 g_R_trade_26 := seg_of (by decide +kernel)
def g_R_trade_28 : List (Instr × Nat) := [(.aload 0, 1), (.invokevirtual 570112, 3), (.iconst (-1), 1), (.istore 3, 1), (.iconst 0, 1), (.istore 4, 2)]
theorem s_R_trade_28 : Seg 134 28 g_R_trade_28 := seg_of (by decide +kernel)
def g_R_trade_37 : List (Instr × Nat) := [(.iload 4, 2), (.iconst 1, 1), (.aload 0, 1), (.getfield 3149, 3), (.ishl, 1), (.if_icmp .ge 77, 3), (.iload 4, 2), (.iload 3, 1), (.invokeinterface 129 2, 3), (.ifCond .eq 71, 3), (.aload 0, 1), (.iload 1, 1), (.iload 2, 1), (.iload 4, 2), (.invokevirtual 1330412, 3), (.ifCond .eq 71, 3), (.iload 4, 2), (.istore 3, 1)]
theorem s_R_trade_37 : Seg 134 37 g_R_trade_37 := seg_of (by decide +kernel)
def g_R_trade_71 : List (Instr × Nat) := [(.iinc 4 (1), 3), (.goto 37, 3)]
theorem s_R_trade_71 : Seg 134 71 g_R_trade_71 := seg_of (by decide +kernel)
def g_R_trade_77 : List (Instr × Nat) := [(.iload 3, 1), (.ireturn, 1)]
theorem s_R_trade_77 : Seg 134 77 g_R_trade_77 := seg_of (by decide +kernel)
/-! R hands -/
theorem mk_R_hands : 135 < 256 ∧ mtB 135 = true := ⟨by decide, mk_135⟩
def g_R_hands_0 : List (Instr × Nat) := [(.aload 0, 1), (.iconst 0, 1), (.putfield 3072, 3), (.aload 0, 1), (.iload 1, 1), (.invokevirtual 520212, 3), (.ifCond .eq 22, 3), (.iload 2, 1), (.iconst 0, 1), (.iconst 2, 1), (.invokeinterface 50 3, 3), (.ifCond .ne 24, 3)]
theorem s_R_hands_0 : Seg 135 0 g_R_hands_0 := seg_of (by decide +kernel)
def g_R_hands_22 : List (Instr × Nat) := [(.iconst (-1), 1), (.ireturn, 1)]
theorem s_R_hands_22 : Seg 135 22 g_R_hands_22 := seg_of (by decide +kernel)
def g_R_hands_24 : List (Instr × Nat) := [(.aload 0, 1), (.invokevirtual 570112, 3), (.aload 0, 1), (.iconst 0, 1), (.putfield 3094, 3), (.iconst (-1), 1), (.istore 3, 1), (.iconst 0, 1), (.istore 4, 2), (.iconst 0, 1), (.istore 5, 2), (.iconst 0, 1), (.istore 6, 2)]
theorem s_R_hands_24 : Seg 135 24 g_R_hands_24 := seg_of (by decide +kernel)
def g_R_hands_44 : List (Instr × Nat) := [(.iload 6, 2), (.iconst 1, 1), (.iconst 2, 1), (.aload 0, 1), (.getstatic 3077, 3), (.iload 1, 1), (.iaload, 1), (.imul, 1), (.ishl, 1), (.if_icmp .ge 193, 3), (.aload 0, 1), (.iload 1, 1), (.iload 6, 2), (.invokevirtual 670312, 3), (.ifCond .ne 72, 3), (.goto 187, 3)]
theorem s_R_hands_44 : Seg 135 44 g_R_hands_44 := seg_of (by decide +kernel)
def g_R_hands_72 : List (Instr × Nat) := [(.iconst 0, 1), (.istore 7, 2), (.iconst 0, 1), (.istore 8, 2), (.iconst 0, 1), (.istore 9, 2)]
theorem s_R_hands_72 : Seg 135 72 g_R_hands_72 := seg_of (by decide +kernel)
def g_R_hands_81 : List (Instr × Nat) := [(.iload 9, 2), (.aload 0, 1), (.getfield 3093, 3), (.if_icmp .ge 147, 3), (.iload 7, 2), (.aload 0, 1), (.aload 0, 1), (.getstatic 3075, 3), (.iload 9, 2), (.iaload, 1), (.iload 1, 1), (.iload 6, 2), (.aload 0, 1), (.iload 1, 1), (.invokevirtual 720212, 3), (.invokevirtual 710512, 3), (.ifCond .eq 118, 3), (.iconst 1, 1), (.goto 119, 3)]
theorem s_R_hands_81 : Seg 135 81 g_R_hands_81 := seg_of (by decide +kernel)
def g_R_hands_118 : List (Instr × Nat) := [(.iconst 0, 1)]
theorem s_R_hands_118 : Seg 135 118 g_R_hands_118 := seg_of (by decide +kernel)
def g_R_hands_119 : List (Instr × Nat) := [(.iadd, 1), (.istore 7, 2), (.iload 8, 2), (.aload 0, 1), (.aload 0, 1), (.getstatic 3075, 3), (.iload 9, 2), (.iaload, 1), (.iload 1, 1), (.iload 6, 2), (.invokevirtual 740412, 3), (.iadd, 1), (.istore 8, 2), (.iinc 9 (1), 3), (.goto 81, 3)]
theorem s_R_hands_119 : Seg 135 119 g_R_hands_119 := seg_of (by decide +kernel)
def g_R_hands_147 : List (Instr × Nat) := [(.iload 3, 1), (.iconst (-1), 1), (.if_icmp .eq 176, 3), (.iload 7, 2), (.iload 4, 2), (.if_icmp .lt 187, 3), (.iload 7, 2), (.iload 4, 2), (.if_icmp .ne 176, 3), (.iload 8, 2), (.iload 5, 2), (.if_icmp .lt 176, 3), (.goto 187, 3)]
theorem s_R_hands_147 : Seg 135 147 g_R_hands_147 := seg_of (by decide +kernel)
def g_R_hands_176 : List (Instr × Nat) := [(.iload 6, 2), (.istore 3, 1), (.iload 7, 2), (.istore 4, 2), (.iload 8, 2), (.istore 5, 2)]
theorem s_R_hands_176 : Seg 135 176 g_R_hands_176 := seg_of (by decide +kernel)
def g_R_hands_187 : List (Instr × Nat) := [(.iinc 6 (1), 3), (.goto 44, 3)]
theorem s_R_hands_187 : Seg 135 187 g_R_hands_187 := seg_of (by decide +kernel)
def g_R_hands_193 : List (Instr × Nat) := [(.iconst 0, 1), (.istore 6, 2), (.iconst 0, 1), (.istore 7, 2)]
theorem s_R_hands_193 : Seg 135 193 g_R_hands_193 := seg_of (by decide +kernel)
def g_R_hands_199 : List (Instr × Nat) := [(.iload 7, 2), (.aload 0, 1), (.getfield 3093, 3), (.if_icmp .ge 253, 3), (.iload 6, 2), (.aload 0, 1), (.aload 0, 1), (.getstatic 3075, 3), (.iload 7, 2), (.iaload, 1), (.iload 1, 1), (.iload 3, 1), (.aload 0, 1), (.iload 1, 1), (.invokevirtual 720212, 3), (.invokevirtual 710512, 3), (.ifCond .eq 235, 3), (.iconst 0, 1), (.goto 244, 3)]
theorem s_R_hands_199 : Seg 135 199 g_R_hands_199 := seg_of (by decide +kernel)
def g_R_hands_235 : List (Instr × Nat) := [(.iconst 1, 1), (.aload 0, 1), (.getstatic 3075, 3), (.iload 7, 2), (.iaload, 1), (.ishl, 1)]
theorem s_R_hands_235 : Seg 135 235 g_R_hands_235 := seg_of (by decide +kernel)
def g_R_hands_244 : List (Instr × Nat) := [(.ior, 1), (.istore 6, 2), (.iinc 7 (1), 3), (.goto 199, 3)]
theorem s_R_hands_244 : Seg 135 244 g_R_hands_244 := seg_of (by decide +kernel)
def g_R_hands_253 : List (Instr × Nat) := [(.iload 2, 1), (.ifCond .ne 261, 3), (.iload 3, 1), (.goto 273, 3)]
theorem s_R_hands_253 : Seg 135 253 g_R_hands_253 := seg_of (by decide +kernel)
def g_R_hands_261 : List (Instr × Nat) := [(.iload 2, 1), (.iconst 1, 1), (.if_icmp .ne 271, 3), (.iload 6, 2), (.goto 273, 3)]
theorem s_R_hands_261 : Seg 135 261 g_R_hands_261 := seg_of (by decide +kernel)
def g_R_hands_271 : List (Instr × Nat) := [(.iload 4, 2)]
theorem s_R_hands_271 : Seg 135 271 g_R_hands_271 := seg_of (by decide +kernel)
def g_R_hands_273 : List (Instr × Nat) := [(.ireturn, 1)]
theorem s_R_hands_273 : Seg 135 273 g_R_hands_273 := seg_of (by decide +kernel)
/-! R aside -/
theorem mk_R_aside : 136 < 256 ∧ mtB 136 = true := ⟨by decide, mk_136⟩
def g_R_aside_0 : List (Instr × Nat) := [(.aload 0, 1), (.iconst 0, 1), (.putfield 3072, 3), (.aload 0, 1), (.getfield 3156, 3), (.iconst 60, 2), (.if_icmp .eq 49, 3), (.aload 0, 1), (.iload 1, 1), (.invokevirtual 510212, 3), (.ifCond .eq 49, 3), (.iload 2, 1), (.iconst 1, 1), (.if_icmp .lt 49, 3), (.iload 2, 1), (.iconst 1, 1), (.aload 0, 1), (.getfield 3090, 3), (.ishl, 1), (.if_icmp .ge 49, 3), (.aload 0, 1), (.iload 3, 1), (.iload 4, 2), (.iload 5, 2), (.invokevirtual 540412, 3), (.ifCond .ne 51, 3)]
theorem s_R_aside_0 : Seg 136 0 g_R_aside_0 := seg_of (by decide +kernel)
def g_R_aside_49 : List (Instr × Nat) := [(.iconst 0, 1), (.ireturn, 1)]
theorem s_R_aside_49 : Seg 136 49 g_R_aside_49 := seg_of (by decide +kernel)
def g_R_aside_51 : List (Instr × Nat) := [(.aload 0, 1), (.getstatic 3150, 3), (.aload 0, 1), (.getfield 3156, 3), (.iload 1, 1), (.iastore, 1), (.aload 0, 1), (.getstatic 3151, 3), (.aload 0, 1), (.getfield 3156, 3), (.iload 2, 1), (.iastore, 1), (.aload 0, 1), (.getstatic 3152, 3), (.aload 0, 1), (.getfield 3156, 3), (.iload 3, 1), (.iastore, 1), (.aload 0, 1), (.getstatic 3153, 3), (.aload 0, 1), (.getfield 3156, 3), (.iload 4, 2), (.iastore, 1), (.aload 0, 1), (.getstatic 3154, 3), (.aload 0, 1), (.getfield 3156, 3), (.iload 5, 2), (.iastore, 1), (.aload 0, 1), (.getstatic 3155, 3), (.aload 0, 1), (.getfield 3156, 3), (.iload 6, 2), (.castore, 1), (.aload 0, 1), (.dup, 1), (.getfield 3156, 3), (.iconst 1, 1), (.iadd, 1), (.putfield 3156, 3), (.iconst 1, 1), (.ireturn, 1)]
theorem s_R_aside_51 : Seg 136 51 g_R_aside_51 := seg_of (by decide +kernel)
/-! R takenBy -/
theorem mk_R_takenBy : 137 < 256 ∧ mtB 137 = true := ⟨by decide, mk_137⟩
def g_R_takenBy_0 : List (Instr × Nat) := [(.iconst 1, 1), (.istore 6, 2), (.iconst 0, 1), (.istore 7, 2)]
theorem s_R_takenBy_0 : Seg 137 0 g_R_takenBy_0 := seg_of (by decide +kernel)
def g_R_takenBy_6 : List (Instr × Nat) := [(.iload 7, 2), (.aload 0, 1), (.getfield 3156, 3), (.if_icmp .ge 98, 3), (.aload 0, 1), (.getstatic 3150, 3), (.iload 7, 2), (.iaload, 1), (.iload 2, 1), (.if_icmp .ne 92, 3), (.iload 1, 1), (.aload 0, 1), (.getstatic 3151, 3), (.iload 7, 2), (.iaload, 1), (.iconst (-1), 1), (.ixor, 1), (.iand, 1), (.ifCond .ne 92, 3), (.aload 0, 1), (.getstatic 3152, 3), (.iload 7, 2), (.iaload, 1), (.iload 3, 1), (.if_icmp .ne 92, 3), (.aload 0, 1), (.getstatic 3153, 3), (.iload 7, 2), (.iaload, 1), (.iload 4, 2), (.if_icmp .ne 92, 3), (.aload 0, 1), (.getstatic 3154, 3), (.iload 7, 2), (.iaload, 1), (.iload 5, 2), (.if_icmp .ne 92, 3), (.aload 0, 1), (.getstatic 3155, 3), (.iload 7, 2), (.caload, 1), (.ifCond .eq 89, 3), (.iconst 1, 1), (.goto 90, 3)]
theorem s_R_takenBy_6 : Seg 137 6 g_R_takenBy_6 := seg_of (by decide +kernel)
def g_R_takenBy_89 : List (Instr × Nat) := [(.iconst 0, 1)]
theorem s_R_takenBy_89 : Seg 137 89 g_R_takenBy_89 := seg_of (by decide +kernel)
def g_R_takenBy_90 : List (Instr × Nat) := [(.istore 6, 2)]
theorem s_R_takenBy_90 : Seg 137 90 g_R_takenBy_90 := seg_of (by decide +kernel)
def g_R_takenBy_92 : List (Instr × Nat) := [(.iinc 7 (1), 3), (.goto 6, 3)]
theorem s_R_takenBy_92 : Seg 137 92 g_R_takenBy_92 := seg_of (by decide +kernel)
def g_R_takenBy_98 : List (Instr × Nat) := [(.iconst 0, 1), (.istore 7, 2)]
theorem s_R_takenBy_98 : Seg 137 98 g_R_takenBy_98 := seg_of (by decide +kernel)
def g_R_takenBy_101 : List (Instr × Nat) := [(.iload 7, 2), (.aload 0, 1), (.getfield 3125, 3), (.if_icmp .ge 172, 3), (.aload 0, 1), (.getstatic 3113, 3), (.iload 7, 2), (.iaload, 1), (.iload 2, 1), (.if_icmp .ne 166, 3), (.aload 0, 1), (.getstatic 3115, 3), (.iload 7, 2), (.iaload, 1), (.iload 4, 2), (.if_icmp .eq 136, 3), (.goto 166, 3)]
theorem s_R_takenBy_101 : Seg 137 101 g_R_takenBy_101 := seg_of (by decide +kernel)
def g_R_takenBy_136 : List (Instr × Nat) := [(.aload 0, 1), (.getstatic 3116, 3), (.iload 7, 2), (.iaload, 1), (.iload 5, 2), (.if_icmp .ne 151, 3), (.iconst 0, 1), (.istore 6, 2)]
theorem s_R_takenBy_136 : Seg 137 136 g_R_takenBy_136 := seg_of (by decide +kernel)
def g_R_takenBy_151 : List (Instr × Nat) := [(.aload 0, 1), (.getstatic 3117, 3), (.iload 7, 2), (.iaload, 1), (.iload 5, 2), (.if_icmp .ne 166, 3), (.iconst 2, 1), (.istore 6, 2)]
theorem s_R_takenBy_151 : Seg 137 151 g_R_takenBy_151 := seg_of (by decide +kernel)
def g_R_takenBy_166 : List (Instr × Nat) := [(.iinc 7 (1), 3), (.goto 101, 3)]
theorem s_R_takenBy_166 : Seg 137 166 g_R_takenBy_166 := seg_of (by decide +kernel)
def g_R_takenBy_172 : List (Instr × Nat) := [(.iload 6, 2), (.ireturn, 1)]
theorem s_R_takenBy_172 : Seg 137 172 g_R_takenBy_172 := seg_of (by decide +kernel)
/-! R taken -/
theorem mk_R_taken : 138 < 256 ∧ mtB 138 = true := ⟨by decide, mk_138⟩
def g_R_taken_0 : List (Instr × Nat) := [(.aload 0, 1), (.iconst 0, 1), (.putfield 3072, 3), (.aload 0, 1), (.iload 1, 1), (.invokevirtual 510212, 3), (.ifCond .eq 38, 3), (.aload 0, 1), (.iload 2, 1), (.invokevirtual 510212, 3), (.ifCond .eq 38, 3), (.iload 1, 1), (.iload 2, 1), (.if_icmp .eq 38, 3), (.aload 0, 1), (.iload 3, 1), (.iload 4, 2), (.iload 5, 2), (.invokevirtual 540412, 3), (.ifCond .ne 40, 3)]
theorem s_R_taken_0 : Seg 138 0 g_R_taken_0 := seg_of (by decide +kernel)
def g_R_taken_38 : List (Instr × Nat) := [(.iconst (-1), 1), (.ireturn, 1)]
theorem s_R_taken_38 : Seg 138 38 g_R_taken_38 := seg_of (by decide +kernel)
def g_R_taken_40 : List (Instr × Nat) := [(.aload 0, 1), (.iload 3, 1), (.invokevirtual 1200212, 3), (.aload 0, 1), (.iconst 1, 1), (.iload 1, 1), (.ishl, 1), (.iload 2, 1), (.iload 3, 1), (.iload 4, 2), (.iload 5, 2), (.invokevirtual 1370612, 3), (.ireturn, 1)]
theorem s_R_taken_40 : Seg 138 40 g_R_taken_40 := seg_of (by decide +kernel)
/-! R twice -/
theorem mk_R_twice : 139 < 256 ∧ mtB 139 = true := ⟨by decide, mk_139⟩
def g_R_twice_0 : List (Instr × Nat) := [(.aload 0, 1), (.iconst 0, 1), (.putfield 3072, 3), (.aload 0, 1), (.iload 1, 1), (.invokevirtual 510212, 3), (.ifCond .eq 57, 3), (.aload 0, 1), (.iload 2, 1), (.invokevirtual 510212, 3), (.ifCond .eq 57, 3), (.aload 0, 1), (.iload 3, 1), (.invokevirtual 510212, 3), (.ifCond .eq 57, 3), (.iload 1, 1), (.iload 2, 1), (.if_icmp .eq 57, 3), (.iload 1, 1), (.iload 3, 1), (.if_icmp .eq 57, 3), (.iload 2, 1), (.iload 3, 1), (.if_icmp .eq 57, 3), (.aload 0, 1), (.iload 4, 2), (.iload 5, 2), (.iload 6, 2), (.invokevirtual 540412, 3), (.ifCond .ne 59, 3)]
theorem s_R_twice_0 : Seg 139 0 g_R_twice_0 := seg_of (by decide +kernel)
def g_R_twice_57 : List (Instr × Nat) := [(.iconst (-1), 1), (.ireturn, 1)]
theorem s_R_twice_57 : Seg 139 57 g_R_twice_57 := seg_of (by decide +kernel)
def g_R_twice_59 : List (Instr × Nat) := [(.aload 0, 1), (.iload 4, 2), (.invokevirtual 1200212, 3), (.aload 0, 1), (.iconst 1, 1), (.iload 1, 1), (.ishl, 1), (.iconst 1, 1), (.iload 2, 1), (.ishl, 1), (.ior, 1), (.iload 3, 1), (.iload 4, 2), (.iload 5, 2), (.iload 6, 2), (.invokevirtual 1370612, 3), (.ireturn, 1)]
theorem s_R_twice_59 : Seg 139 59 g_R_twice_59 := seg_of (by decide +kernel)
/-! R mistaken -/
theorem mk_R_mistaken : 140 < 256 ∧ mtB 140 = true := ⟨by decide, mk_140⟩
def g_R_mistaken_0 : List (Instr × Nat) := [(.aload 0, 1), (.iconst 0, 1), (.putfield 3072, 3), (.aload 0, 1), (.iload 1, 1), (.invokevirtual 510212, 3), (.ifCond .eq 34, 3), (.aload 0, 1), (.iload 2, 1), (.invokevirtual 510212, 3), (.ifCond .eq 34, 3), (.iload 1, 1), (.iload 2, 1), (.if_icmp .eq 34, 3), (.aload 0, 1), (.iload 3, 1), (.invokevirtual 520212, 3), (.ifCond .ne 36, 3)]
theorem s_R_mistaken_0 : Seg 140 0 g_R_mistaken_0 := seg_of (by decide +kernel)
def g_R_mistaken_34 : List (Instr × Nat) := [(.iconst (-1), 1), (.ireturn, 1)]
theorem s_R_mistaken_34 : Seg 140 34 g_R_mistaken_34 := seg_of (by decide +kernel)
def g_R_mistaken_36 : List (Instr × Nat) := [(.aload 0, 1), (.iload 3, 1), (.invokevirtual 1200212, 3), (.iconst 0, 1), (.istore 4, 2), (.iconst 0, 1), (.istore 5, 2)]
theorem s_R_mistaken_36 : Seg 140 36 g_R_mistaken_36 := seg_of (by decide +kernel)
def g_R_mistaken_47 : List (Instr × Nat) := [(.iload 5, 2), (.aload 0, 1), (.getstatic 3077, 3), (.iload 3, 1), (.iaload, 1), (.if_icmp .ge 124, 3), (.iconst 0, 1), (.istore 6, 2)]
theorem s_R_mistaken_47 : Seg 140 47 g_R_mistaken_47 := seg_of (by decide +kernel)
def g_R_mistaken_61 : List (Instr × Nat) := [(.iload 6, 2), (.aload 0, 1), (.getstatic 3078, 3), (.iload 3, 1), (.iaload, 1), (.if_icmp .ge 118, 3), (.iload 4, 2), (.aload 0, 1), (.iconst 1, 1), (.iload 1, 1), (.ishl, 1), (.iload 2, 1), (.iload 3, 1), (.iload 5, 2), (.iload 6, 2), (.invokevirtual 1370612, 3), (.aload 0, 1), (.getstatic 3079, 3), (.iload 2, 1), (.iload 3, 1), (.iload 5, 2), (.iload 6, 2), (.invokeinterface 61 4, 3), (.iaload, 1), (.if_icmp .eq 108, 3), (.iconst 1, 1), (.goto 109, 3)]
theorem s_R_mistaken_61 : Seg 140 61 g_R_mistaken_61 := seg_of (by decide +kernel)
def g_R_mistaken_108 : List (Instr × Nat) := [(.iconst 0, 1)]
theorem s_R_mistaken_108 : Seg 140 108 g_R_mistaken_108 := seg_of (by decide +kernel)
def g_R_mistaken_109 : List (Instr × Nat) := [(.iadd, 1), (.istore 4, 2), (.iinc 6 (1), 3), (.goto 61, 3)]
theorem s_R_mistaken_109 : Seg 140 109 g_R_mistaken_109 := seg_of (by decide +kernel)
def g_R_mistaken_118 : List (Instr × Nat) := [(.iinc 5 (1), 3), (.goto 47, 3)]
theorem s_R_mistaken_118 : Seg 140 118 g_R_mistaken_118 := seg_of (by decide +kernel)
def g_R_mistaken_124 : List (Instr × Nat) := [(.iload 4, 2), (.ireturn, 1)]
theorem s_R_mistaken_124 : Seg 140 124 g_R_mistaken_124 := seg_of (by decide +kernel)
/-! R about -/
theorem mk_R_about : 141 < 256 ∧ mtB 141 = true := ⟨by decide, mk_141⟩
def g_R_about_0 : List (Instr × Nat) := [(.aload 0, 1), (.iconst 0, 1), (.putfield 3072, 3), (.aload 0, 1), (.iload 1, 1), (.invokevirtual 510212, 3), (.ifCond .eq 21, 3), (.aload 0, 1), (.iload 2, 1), (.invokevirtual 520212, 3), (.ifCond .ne 23, 3)]
theorem s_R_about_0 : Seg 141 0 g_R_about_0 := seg_of (by decide +kernel)
def g_R_about_21 : List (Instr × Nat) := [(.iconst (-1), 1), (.ireturn, 1)]
theorem s_R_about_21 : Seg 141 21 g_R_about_21 := seg_of (by decide +kernel)
def g_R_about_23 : List (Instr × Nat) := [(.aload 0, 1), (.iload 2, 1), (.invokevirtual 1200212, 3), (.iconst 0, 1), (.istore 3, 1), (.iconst 0, 1), (.istore 4, 2)]
theorem s_R_about_23 : Seg 141 23 g_R_about_23 := seg_of (by decide +kernel)
def g_R_about_33 : List (Instr × Nat) := [(.iload 4, 2), (.aload 0, 1), (.getfield 3125, 3), (.if_icmp .ge 90, 3), (.iload 3, 1), (.aload 0, 1), (.getstatic 3113, 3), (.iload 4, 2), (.iaload, 1), (.iload 1, 1), (.if_icmp .ne 81, 3), (.aload 0, 1), (.iload 1, 1), (.iload 2, 1), (.aload 0, 1), (.getstatic 3115, 3), (.iload 4, 2), (.iaload, 1), (.aload 0, 1), (.getstatic 3118, 3), (.iload 4, 2), (.iaload, 1), (.invokevirtual 1110512, 3), (.ifCond .ne 81, 3), (.iconst 1, 1), (.goto 82, 3)]
theorem s_R_about_33 : Seg 141 33 g_R_about_33 := seg_of (by decide +kernel)
def g_R_about_81 : List (Instr × Nat) := [(.iconst 0, 1)]
theorem s_R_about_81 : Seg 141 81 g_R_about_81 := seg_of (by decide +kernel)
def g_R_about_82 : List (Instr × Nat) := [(.iadd, 1), (.istore 3, 1), (.iinc 4 (1), 3), (.goto 33, 3)]
theorem s_R_about_82 : Seg 141 82 g_R_about_82 := seg_of (by decide +kernel)
def g_R_about_90 : List (Instr × Nat) := [(.iload 3, 1), (.ireturn, 1)]
theorem s_R_about_90 : Seg 141 90 g_R_about_90 := seg_of (by decide +kernel)
/-! R back -/
theorem mk_R_back : 142 < 256 ∧ mtB 142 = true := ⟨by decide, mk_142⟩
def g_R_back_0 : List (Instr × Nat) := [(.aload 0, 1), (.iconst 0, 1), (.putfield 3072, 3), (.aload 0, 1), (.iload 1, 1), (.invokevirtual 510212, 3), (.ifCond .eq 30, 3), (.aload 0, 1), (.iload 2, 1), (.invokevirtual 520212, 3), (.ifCond .eq 30, 3), (.iload 3, 1), (.iconst 0, 1), (.iconst 2, 1), (.invokeinterface 50 3, 3), (.ifCond .ne 32, 3)]
theorem s_R_back_0 : Seg 142 0 g_R_back_0 := seg_of (by decide +kernel)
def g_R_back_30 : List (Instr × Nat) := [(.iconst (-1), 1), (.ireturn, 1)]
theorem s_R_back_30 : Seg 142 30 g_R_back_30 := seg_of (by decide +kernel)
def g_R_back_32 : List (Instr × Nat) := [(.aload 0, 1), (.iload 2, 1), (.invokevirtual 1200212, 3), (.aload 0, 1), (.getfield 3126, 3), (.ifCond .eq 46, 3), (.iconst (-1), 1), (.ireturn, 1)]
theorem s_R_back_32 : Seg 142 32 g_R_back_32 := seg_of (by decide +kernel)
def g_R_back_46 : List (Instr × Nat) := [(.aload 0, 1), (.iload 1, 1), (.iload 2, 1), (.aload 0, 1), (.getfield 3128, 3), (.invokevirtual 740412, 3), (.istore 4, 2), (.iconst (-1), 1), (.istore 5, 2), (.iconst (-1), 1), (.istore 6, 2), (.iconst 0, 1), (.istore 7, 2), (.iconst 0, 1), (.istore 8, 2)]
theorem s_R_back_46 : Seg 142 46 g_R_back_46 := seg_of (by decide +kernel)
def g_R_back_70 : List (Instr × Nat) := [(.iload 8, 2), (.aload 0, 1), (.getstatic 3077, 3), (.iload 2, 1), (.iaload, 1), (.if_icmp .ge 211, 3), (.iconst 0, 1), (.istore 9, 2)]
theorem s_R_back_70 : Seg 142 70 g_R_back_70 := seg_of (by decide +kernel)
def g_R_back_84 : List (Instr × Nat) := [(.iload 9, 2), (.aload 0, 1), (.getstatic 3078, 3), (.iload 2, 1), (.iaload, 1), (.if_icmp .ge 205, 3), (.aload 0, 1), (.getstatic 3079, 3), (.iload 1, 1), (.iload 2, 1), (.iload 8, 2), (.iload 9, 2), (.invokeinterface 61 4, 3), (.iaload, 1), (.iconst 1, 1), (.if_icmp .eq 116, 3), (.goto 199, 3)]
theorem s_R_back_84 : Seg 142 84 g_R_back_84 := seg_of (by decide +kernel)
def g_R_back_116 : List (Instr × Nat) := [(.aload 0, 1), (.getstatic 3079, 3), (.iload 1, 1), (.iload 2, 1), (.iload 8, 2), (.iload 9, 2), (.invokeinterface 61 4, 3), (.iconst 0, 1), (.iastore, 1), (.aload 0, 1), (.iload 2, 1), (.invokevirtual 1200212, 3), (.aload 0, 1), (.getstatic 3079, 3), (.iload 1, 1), (.iload 2, 1), (.iload 8, 2), (.iload 9, 2), (.invokeinterface 61 4, 3), (.iconst 1, 1), (.iastore, 1), (.aload 0, 1), (.getfield 3126, 3), (.ifCond .ne 174, 3), (.iload 4, 2), (.aload 0, 1), (.iload 1, 1), (.iload 2, 1), (.aload 0, 1), (.getfield 3128, 3), (.invokevirtual 740412, 3), (.isub, 1), (.goto 175, 3)]
theorem s_R_back_116 : Seg 142 116 g_R_back_116 := seg_of (by decide +kernel)
def g_R_back_174 : List (Instr × Nat) := [(.iconst 0, 1)]
theorem s_R_back_174 : Seg 142 174 g_R_back_174 := seg_of (by decide +kernel)
def g_R_back_175 : List (Instr × Nat) := [(.istore 10, 2), (.iload 10, 2), (.iload 7, 2), (.if_icmp .gt 187, 3), (.goto 199, 3)]
theorem s_R_back_175 : Seg 142 175 g_R_back_175 := seg_of (by decide +kernel)
def g_R_back_187 : List (Instr × Nat) := [(.iload 10, 2), (.istore 7, 2), (.iload 8, 2), (.istore 5, 2), (.iload 9, 2), (.istore 6, 2)]
theorem s_R_back_187 : Seg 142 187 g_R_back_187 := seg_of (by decide +kernel)
def g_R_back_199 : List (Instr × Nat) := [(.iinc 9 (1), 3), (.goto 84, 3)]
theorem s_R_back_199 : Seg 142 199 g_R_back_199 := seg_of (by decide +kernel)
def g_R_back_205 : List (Instr × Nat) := [(.iinc 8 (1), 3), (.goto 70, 3)]
theorem s_R_back_205 : Seg 142 205 g_R_back_205 := seg_of (by decide +kernel)
def g_R_back_211 : List (Instr × Nat) := [(.iload 7, 2), (.ifCond .ne 220, 3), (.iconst (-1), 1), (.goto 241, 3)]
theorem s_R_back_211 : Seg 142 211 g_R_back_211 := seg_of (by decide +kernel)
def g_R_back_220 : List (Instr × Nat) := [(.iload 3, 1), (.ifCond .ne 229, 3), (.iload 5, 2), (.goto 241, 3)]
theorem s_R_back_220 : Seg 142 220 g_R_back_220 := seg_of (by decide +kernel)
def g_R_back_229 : List (Instr × Nat) := [(.iload 3, 1), (.iconst 1, 1), (.if_icmp .ne 239, 3), (.iload 6, 2), (.goto 241, 3)]
theorem s_R_back_229 : Seg 142 229 g_R_back_229 := seg_of (by decide +kernel)
def g_R_back_239 : List (Instr × Nat) := [(.iload 7, 2)]
theorem s_R_back_239 : Seg 142 239 g_R_back_239 := seg_of (by decide +kernel)
def g_R_back_241 : List (Instr × Nat) := [(.ireturn, 1)]
theorem s_R_back_241 : Seg 142 241 g_R_back_241 := seg_of (by decide +kernel)
/-! R leans -/
theorem mk_R_leans : 143 < 256 ∧ mtB 143 = true := ⟨by decide, mk_143⟩
def g_R_leans_0 : List (Instr × Nat) := [(.aload 0, 1), (.iconst 0, 1), (.putfield 3072, 3), (.aload 0, 1), (.iload 1, 1), (.iload 2, 1), (.invokevirtual 670312, 3), (.ifCond .ne 16, 3), (.iconst (-1), 1), (.ireturn, 1)]
theorem s_R_leans_0 : Seg 143 0 g_R_leans_0 := seg_of (by decide +kernel)
def g_R_leans_16 : List (Instr × Nat) := [(.aload 0, 1), (.iload 1, 1), (.invokevirtual 1200212, 3), (.iconst 0, 1), (.istore 3, 1), (.iconst 0, 1), (.istore 4, 2)]
theorem s_R_leans_16 : Seg 143 16 g_R_leans_16 := seg_of (by decide +kernel)
def g_R_leans_26 : List (Instr × Nat) := [(.iload 4, 2), (.aload 0, 1), (.getstatic 3077, 3), (.iload 1, 1), (.iaload, 1), (.if_icmp .ge 127, 3), (.iconst 0, 1), (.istore 5, 2), (.iconst 0, 1), (.istore 6, 2)]
theorem s_R_leans_26 : Seg 143 26 g_R_leans_26 := seg_of (by decide +kernel)
def g_R_leans_43 : List (Instr × Nat) := [(.iload 6, 2), (.aload 0, 1), (.getstatic 3078, 3), (.iload 1, 1), (.iaload, 1), (.if_icmp .ge 82, 3), (.iload 5, 2), (.aload 0, 1), (.getstatic 3119, 3), (.iconst 4, 1), (.iload 4, 2), (.imul, 1), (.iload 6, 2), (.iadd, 1), (.iaload, 1), (.invokeinterface 254 1, 3), (.fadd, 3), (.istore 5, 2), (.iinc 6 (1), 3), (.goto 43, 3)]
theorem s_R_leans_43 : Seg 143 43 g_R_leans_43 := seg_of (by decide +kernel)
def g_R_leans_82 : List (Instr × Nat) := [(.iload 3, 1), (.iload 5, 2), (.ifCond .le 118, 3), (.aload 0, 1), (.getstatic 3119, 3), (.iconst 4, 1), (.iload 4, 2), (.imul, 1), (.aload 0, 1), (.iload 1, 1), (.iload 2, 1), (.iload 4, 2), (.invokevirtual 680412, 3), (.iadd, 1), (.iaload, 1), (.invokeinterface 254 1, 3), (.iload 5, 2), (.if_icmp .ge 118, 3), (.iconst 1, 1), (.goto 119, 3)]
theorem s_R_leans_82 : Seg 143 82 g_R_leans_82 := seg_of (by decide +kernel)
def g_R_leans_118 : List (Instr × Nat) := [(.iconst 0, 1)]
theorem s_R_leans_118 : Seg 143 118 g_R_leans_118 := seg_of (by decide +kernel)
def g_R_leans_119 : List (Instr × Nat) := [(.iadd, 1), (.istore 3, 1), (.iinc 4 (1), 3), (.goto 26, 3)]
theorem s_R_leans_119 : Seg 143 119 g_R_leans_119 := seg_of (by decide +kernel)
def g_R_leans_127 : List (Instr × Nat) := [(.iload 3, 1), (.ireturn, 1)]
theorem s_R_leans_127 : Seg 143 127 g_R_leans_127 := seg_of (by decide +kernel)
/-! R minds -/
theorem mk_R_minds : 144 < 256 ∧ mtB 144 = true := ⟨by decide, mk_144⟩
def g_R_minds_0 : List (Instr × Nat) := [(.aload 0, 1), (.iconst 0, 1), (.putfield 3072, 3), (.aload 0, 1), (.iload 1, 1), (.invokevirtual 510212, 3), (.ifCond .eq 21, 3), (.aload 0, 1), (.iload 2, 1), (.invokevirtual 520212, 3), (.ifCond .ne 23, 3)]
theorem s_R_minds_0 : Seg 144 0 g_R_minds_0 := seg_of (by decide +kernel)
def g_R_minds_21 : List (Instr × Nat) := [(.iconst (-1), 1), (.ireturn, 1)]
theorem s_R_minds_21 : Seg 144 21 g_R_minds_21 := seg_of (by decide +kernel)
def g_R_minds_23 : List (Instr × Nat) := [(.aload 0, 1), (.iload 1, 1), (.putfield 3133, 3), (.aload 0, 1), (.iload 2, 1), (.invokevirtual 1200212, 3), (.aload 0, 1), (.iconst (-1), 1), (.putfield 3133, 3), (.iconst 0, 1), (.istore 3, 1), (.iconst 0, 1), (.istore 4, 2)]
theorem s_R_minds_23 : Seg 144 23 g_R_minds_23 := seg_of (by decide +kernel)
def g_R_minds_43 : List (Instr × Nat) := [(.iload 4, 2), (.aload 0, 1), (.getfield 3102, 3), (.if_icmp .ge 229, 3), (.iconst 1, 1), (.istore 5, 2), (.iconst 0, 1), (.istore 6, 2)]
theorem s_R_minds_43 : Seg 144 43 g_R_minds_43 := seg_of (by decide +kernel)
def g_R_minds_58 : List (Instr × Nat) := [(.iload 6, 2), (.aload 0, 1), (.getfield 3132, 3), (.if_icmp .ge 207, 3), (.iload 5, 2), (.ifCond .eq 207, 3), (.iconst 0, 1), (.istore 7, 2)]
theorem s_R_minds_58 : Seg 144 58 g_R_minds_58 := seg_of (by decide +kernel)
def g_R_minds_75 : List (Instr × Nat) := [(.iload 7, 2), (.iconst 10, 2), (.if_icmp .ge 114, 3), (.aload 0, 1), (.getstatic 3098, 3), (.ldc 8, 3), (.iload 7, 2), (.invokevirtual 2460213, 3), (.aload 0, 1), (.getstatic 3131, 3), (.iconst 11, 2), (.iload 6, 2), (.imul, 1), (.iload 7, 2), (.iadd, 1), (.iaload, 1), (.iastore, 1), (.iinc 7 (1), 3), (.goto 75, 3)]
theorem s_R_minds_75 : Seg 144 75 g_R_minds_75 := seg_of (by decide +kernel)
def g_R_minds_114 : List (Instr × Nat) := [(.aload 0, 1), (.iload 4, 2), (.iconst 1, 1), (.iconst 110, 2), (.invokevirtual 1040412, 3), (.ifCond .eq 141, 3), (.aload 0, 1), (.getfield 3109, 3), (.ifCond .eq 137, 3), (.iconst 1, 1), (.goto 163, 3)]
theorem s_R_minds_114 : Seg 144 114 g_R_minds_114 := seg_of (by decide +kernel)
def g_R_minds_137 : List (Instr × Nat) := [(.iconst 0, 1), (.goto 163, 3)]
theorem s_R_minds_137 : Seg 144 137 g_R_minds_137 := seg_of (by decide +kernel)
def g_R_minds_141 : List (Instr × Nat) := [(.aload 0, 1), (.getstatic 3131, 3), (.iconst 11, 2), (.iload 6, 2), (.imul, 1), (.iconst 10, 2), (.iadd, 1), (.iaload, 1), (.iconst 1, 1), (.if_icmp .le 162, 3), (.iconst 1, 1), (.goto 163, 3)]
theorem s_R_minds_141 : Seg 144 141 g_R_minds_141 := seg_of (by decide +kernel)
def g_R_minds_162 : List (Instr × Nat) := [(.iconst 0, 1)]
theorem s_R_minds_162 : Seg 144 162 g_R_minds_162 := seg_of (by decide +kernel)
def g_R_minds_163 : List (Instr × Nat) := [(.istore 7, 2), (.iload 7, 2), (.aload 0, 1), (.getstatic 3131, 3), (.iconst 11, 2), (.iload 6, 2), (.imul, 1), (.iconst 10, 2), (.iadd, 1), (.iaload, 1), (.iconst 2, 1), (.irem, 1), (.iconst 1, 1), (.if_icmp .ne 190, 3), (.iconst 1, 1), (.goto 191, 3)]
theorem s_R_minds_163 : Seg 144 163 g_R_minds_163 := seg_of (by decide +kernel)
def g_R_minds_190 : List (Instr × Nat) := [(.iconst 0, 1)]
theorem s_R_minds_190 : Seg 144 190 g_R_minds_190 := seg_of (by decide +kernel)
def g_R_minds_191 : List (Instr × Nat) := [(.if_icmp .ne 198, 3), (.iconst 1, 1), (.goto 199, 3)]
theorem s_R_minds_191 : Seg 144 191 g_R_minds_191 := seg_of (by decide +kernel)
def g_R_minds_198 : List (Instr × Nat) := [(.iconst 0, 1)]
theorem s_R_minds_198 : Seg 144 198 g_R_minds_198 := seg_of (by decide +kernel)
def g_R_minds_199 : List (Instr × Nat) := [(.istore 5, 2), (.iinc 6 (1), 3), (.goto 58, 3)]
theorem s_R_minds_199 : Seg 144 199 g_R_minds_199 := seg_of (by decide +kernel)
def g_R_minds_207 : List (Instr × Nat) := [(.iload 3, 1), (.iload 5, 2), (.ifCond .eq 220, 3), (.iconst 1, 1), (.iload 4, 2), (.ishl, 1), (.goto 221, 3)]
theorem s_R_minds_207 : Seg 144 207 g_R_minds_207 := seg_of (by decide +kernel)
def g_R_minds_220 : List (Instr × Nat) := [(.iconst 0, 1)]
theorem s_R_minds_220 : Seg 144 220 g_R_minds_220 := seg_of (by decide +kernel)
def g_R_minds_221 : List (Instr × Nat) := [(.ior, 1), (.istore 3, 1), (.iinc 4 (1), 3), (.goto 43, 3)]
theorem s_R_minds_221 : Seg 144 221 g_R_minds_221 := seg_of (by decide +kernel)
def g_R_minds_229 : List (Instr × Nat) := [(.iload 3, 1), (.ireturn, 1)]
theorem s_R_minds_229 : Seg 144 229 g_R_minds_229 := seg_of (by decide +kernel)
/-! R count -/
theorem mk_R_count : 145 < 256 ∧ mtB 145 = true := ⟨by decide, mk_145⟩
def g_R_count_0 : List (Instr × Nat) := [(.aload 0, 1), (.iconst 0, 1), (.putfield 3072, 3), (.iload 1, 1), (.tableswitch 114 0 9 #[60, 65, 74, 79, 84, 89, 94, 99, 104, 109], 54)]
theorem s_R_count_0 : Seg 145 0 g_R_count_0 := seg_of (by decide +kernel)
def g_R_count_60 : List (Instr × Nat) := [(.aload 0, 1), (.getfield 3090, 3), (.ireturn, 1)]
theorem s_R_count_60 : Seg 145 60 g_R_count_60 := seg_of (by decide +kernel)
def g_R_count_65 : List (Instr × Nat) := [(.aload 0, 1), (.invokevirtual 570112, 3), (.aload 0, 1), (.getfield 3093, 3), (.ireturn, 1)]
theorem s_R_count_65 : Seg 145 65 g_R_count_65 := seg_of (by decide +kernel)
def g_R_count_74 : List (Instr × Nat) := [(.aload 0, 1), (.getfield 3091, 3), (.ireturn, 1)]
theorem s_R_count_74 : Seg 145 74 g_R_count_74 := seg_of (by decide +kernel)
def g_R_count_79 : List (Instr × Nat) := [(.aload 0, 1), (.getfield 3092, 3), (.ireturn, 1)]
theorem s_R_count_79 : Seg 145 79 g_R_count_79 := seg_of (by decide +kernel)
def g_R_count_84 : List (Instr × Nat) := [(.aload 0, 1), (.getfield 3101, 3), (.ireturn, 1)]
theorem s_R_count_84 : Seg 145 84 g_R_count_84 := seg_of (by decide +kernel)
def g_R_count_89 : List (Instr × Nat) := [(.aload 0, 1), (.getfield 3102, 3), (.ireturn, 1)]
theorem s_R_count_89 : Seg 145 89 g_R_count_89 := seg_of (by decide +kernel)
def g_R_count_94 : List (Instr × Nat) := [(.aload 0, 1), (.getfield 3139, 3), (.ireturn, 1)]
theorem s_R_count_94 : Seg 145 94 g_R_count_94 := seg_of (by decide +kernel)
def g_R_count_99 : List (Instr × Nat) := [(.aload 0, 1), (.getfield 3149, 3), (.ireturn, 1)]
theorem s_R_count_99 : Seg 145 99 g_R_count_99 := seg_of (by decide +kernel)
def g_R_count_104 : List (Instr × Nat) := [(.aload 0, 1), (.getfield 3156, 3), (.ireturn, 1)]
theorem s_R_count_104 : Seg 145 104 g_R_count_104 := seg_of (by decide +kernel)
def g_R_count_109 : List (Instr × Nat) := [(.aload 0, 1), (.getfield 3100, 3), (.ireturn, 1)]
theorem s_R_count_109 : Seg 145 109 g_R_count_109 := seg_of (by decide +kernel)
def g_R_count_114 : List (Instr × Nat) := [(.iconst (-1), 1), (.ireturn, 1)]
theorem s_R_count_114 : Seg 145 114 g_R_count_114 := seg_of (by decide +kernel)
/-! As init -/
theorem mk_As_init : 146 < 256 ∧ mtB 146 = true := ⟨by decide, mk_146⟩
def g_As_init_0 : List (Instr × Nat) := [(.aload 0, 1), (.nop, 3), (.aload 0, 1), (.iconst 60, 2), (.newarray .int, 2), (.putstatic 0, 3), (.aload 0, 1), (.iconst 60, 2), (.newarray .int, 2), (.putstatic 1, 3), (.aload 0, 1), (.iconst 60, 2), (.newarray .int, 2), (.putstatic 2, 3), (.aload 0, 1), (.iconst 60, 2), (.newarray .int, 2), (.putstatic 3, 3), (.aload 0, 1), (.iconst 60, 2), (.newarray .int, 2), (.putstatic 4, 3), (.return_, 1)]
theorem s_As_init_0 : Seg 146 0 g_As_init_0 := seg_of (by decide +kernel)
/-! As add -/
theorem mk_As_add : 147 < 256 ∧ mtB 147 = true := ⟨by decide, mk_147⟩
def g_As_add_0 : List (Instr × Nat) := [(.aload 0, 1), (.getstatic 0, 3), (.aload 0, 1), (.getfield 5, 3), (.iload 1, 1), (.iastore, 1), (.aload 0, 1), (.getstatic 1, 3), (.aload 0, 1), (.getfield 5, 3), (.iload 2, 1), (.iastore, 1), (.aload 0, 1), (.getstatic 2, 3), (.aload 0, 1), (.getfield 5, 3), (.iload 3, 1), (.iastore, 1), (.aload 0, 1), (.getstatic 3, 3), (.aload 0, 1), (.getfield 5, 3), (.iload 4, 2), (.iastore, 1), (.aload 0, 1), (.getstatic 4, 3), (.aload 0, 1), (.getfield 5, 3), (.iload 5, 2), (.ifCond .eq 58, 3), (.iconst 1, 1), (.goto 59, 3)]
theorem s_As_add_0 : Seg 147 0 g_As_add_0 := seg_of (by decide +kernel)
def g_As_add_58 : List (Instr × Nat) := [(.iconst 0, 1)]
theorem s_As_add_58 : Seg 147 58 g_As_add_58 := seg_of (by decide +kernel)
def g_As_add_59 : List (Instr × Nat) := [(.iastore, 1), (.aload 0, 1), (.dup, 1), (.getfield 5, 3), (.iconst 1, 1), (.iadd, 1), (.putfield 5, 3), (.return_, 1)]
theorem s_As_add_59 : Seg 147 59 g_As_add_59 := seg_of (by decide +kernel)
/-! As lastHeard -/
theorem mk_As_lastHeard : 148 < 256 ∧ mtB 148 = true := ⟨by decide, mk_148⟩
def g_As_lastHeard_0 : List (Instr × Nat) := [(.iconst 1, 1), (.istore 5, 2), (.iconst 0, 1), (.istore 6, 2)]
theorem s_As_lastHeard_0 : Seg 148 0 g_As_lastHeard_0 := seg_of (by decide +kernel)
def g_As_lastHeard_6 : List (Instr × Nat) := [(.iload 6, 2), (.aload 0, 1), (.getfield 5, 3), (.if_icmp .ge 90, 3), (.aload 0, 1), (.getstatic 0, 3), (.iload 6, 2), (.iaload, 1), (.iload 2, 1), (.if_icmp .ne 53, 3), (.aload 0, 1), (.getstatic 2, 3), (.iload 6, 2), (.iaload, 1), (.iload 3, 1), (.if_icmp .ne 53, 3), (.aload 0, 1), (.getstatic 3, 3), (.iload 6, 2), (.iaload, 1), (.iload 4, 2), (.if_icmp .ne 53, 3), (.iconst 1, 1), (.goto 54, 3)]
theorem s_As_lastHeard_6 : Seg 148 6 g_As_lastHeard_6 := seg_of (by decide +kernel)
def g_As_lastHeard_53 : List (Instr × Nat) := [(.iconst 0, 1)]
theorem s_As_lastHeard_53 : Seg 148 53 g_As_lastHeard_53 := seg_of (by decide +kernel)
def g_As_lastHeard_54 : List (Instr × Nat) := [(.istore 7, 2), (.iload 7, 2), (.ifCond .eq 84, 3), (.iload 1, 1), (.aload 0, 1), (.getstatic 1, 3), (.iload 6, 2), (.iaload, 1), (.iconst (-1), 1), (.ixor, 1), (.iand, 1), (.ifCond .ne 84, 3), (.aload 0, 1), (.getstatic 4, 3), (.iload 6, 2), (.iaload, 1), (.istore 5, 2)]
theorem s_As_lastHeard_54 : Seg 148 54 g_As_lastHeard_54 := seg_of (by decide +kernel)
def g_As_lastHeard_84 : List (Instr × Nat) := [(.iinc 6 (1), 3), (.goto 6, 3)]
theorem s_As_lastHeard_84 : Seg 148 84 g_As_lastHeard_84 := seg_of (by decide +kernel)
def g_As_lastHeard_90 : List (Instr × Nat) := [(.iload 5, 2), (.ireturn, 1)]
theorem s_As_lastHeard_90 : Seg 148 90 g_As_lastHeard_90 := seg_of (by decide +kernel)
/-! Ci init -/
theorem mk_Ci_init : 149 < 256 ∧ mtB 149 = true := ⟨by decide, mk_149⟩
def g_Ci_init_0 : List (Instr × Nat) := [(.aload 0, 1), (.nop, 3), (.aload 0, 1), (.iconst 8, 2), (.newarray .int, 2), (.putstatic 256, 3), (.aload 0, 1), (.iconst 8, 2), (.iconst 8, 2), (.multianewarray 7 2, 4), (.putstatic 257, 3), (.aload 0, 1), (.iconst 8, 2), (.anewarray 5, 3), (.putstatic 258, 3), (.aload 0, 1), (.iconst 8, 2), (.newarray .int, 2), (.putstatic 259, 3), (.return_, 1)]
theorem s_Ci_init_0 : Seg 149 0 g_Ci_init_0 := seg_of (by decide +kernel)
/-! Ci has -/
theorem mk_Ci_has : 150 < 256 ∧ mtB 150 = true := ⟨by decide, mk_150⟩
def g_Ci_has_0 : List (Instr × Nat) := [(.iload 1, 1), (.ifCond .lt 16, 3), (.iload 1, 1), (.aload 0, 1), (.getfield 260, 3), (.if_icmp .ge 16, 3), (.iconst 1, 1), (.goto 17, 3)]
theorem s_Ci_has_0 : Seg 150 0 g_Ci_has_0 := seg_of (by decide +kernel)
def g_Ci_has_16 : List (Instr × Nat) := [(.iconst 0, 1)]
theorem s_Ci_has_16 : Seg 150 16 g_Ci_has_16 := seg_of (by decide +kernel)
def g_Ci_has_17 : List (Instr × Nat) := [(.ireturn, 1)]
theorem s_Ci_has_17 : Seg 150 17 g_Ci_has_17 := seg_of (by decide +kernel)
/-! Ci hasTwo -/
theorem mk_Ci_hasTwo : 151 < 256 ∧ mtB 151 = true := ⟨by decide, mk_151⟩
def g_Ci_hasTwo_0 : List (Instr × Nat) := [(.aload 0, 1), (.iload 1, 1), (.invokevirtual 1500201, 3), (.ifCond .eq 25, 3), (.aload 0, 1), (.iload 2, 1), (.invokevirtual 1500201, 3), (.ifCond .eq 25, 3), (.iload 1, 1), (.iload 2, 1), (.if_icmp .eq 25, 3), (.iconst 1, 1), (.goto 26, 3)]
theorem s_Ci_hasTwo_0 : Seg 151 0 g_Ci_hasTwo_0 := seg_of (by decide +kernel)
def g_Ci_hasTwo_25 : List (Instr × Nat) := [(.iconst 0, 1)]
theorem s_Ci_hasTwo_25 : Seg 151 25 g_Ci_hasTwo_25 := seg_of (by decide +kernel)
def g_Ci_hasTwo_26 : List (Instr × Nat) := [(.ireturn, 1)]
theorem s_Ci_hasTwo_26 : Seg 151 26 g_Ci_hasTwo_26 := seg_of (by decide +kernel)
/-! Ci sits -/
theorem mk_Ci_sits : 152 < 256 ∧ mtB 152 = true := ⟨by decide, mk_152⟩
def g_Ci_sits_0 : List (Instr × Nat) := [(.aload 0, 1), (.getfield 262, 3), (.iload 1, 1), (.ishr, 1), (.iconst 1, 1), (.iand, 1), (.ifCond .eq 15, 3), (.iconst 1, 1), (.goto 16, 3)]
theorem s_Ci_sits_0 : Seg 152 0 g_Ci_sits_0 := seg_of (by decide +kernel)
def g_Ci_sits_15 : List (Instr × Nat) := [(.iconst 0, 1)]
theorem s_Ci_sits_15 : Seg 152 15 g_Ci_sits_15 := seg_of (by decide +kernel)
def g_Ci_sits_16 : List (Instr × Nat) := [(.ireturn, 1)]
theorem s_Ci_sits_16 : Seg 152 16 g_Ci_sits_16 := seg_of (by decide +kernel)
/-! Ci add -/
theorem mk_Ci_add : 153 < 256 ∧ mtB 153 = true := ⟨by decide, mk_153⟩
def g_Ci_add_0 : List (Instr × Nat) := [(.aload 0, 1), (.getstatic 256, 3), (.aload 0, 1), (.getfield 260, 3), (.iload 1, 1), (.iastore, 1), (.aload 0, 1), (.dup, 1), (.getfield 260, 3), (.iconst 1, 1), (.iadd, 1), (.putfield 260, 3), (.aload 0, 1), (.aload 0, 1), (.getfield 260, 3), (.iconst 1, 1), (.isub, 1), (.iconst 1, 1), (.invokevirtual 1540301, 3), (.aload 0, 1), (.getfield 260, 3), (.iconst 1, 1), (.isub, 1), (.ireturn, 1)]
theorem s_Ci_add_0 : Seg 153 0 g_Ci_add_0 := seg_of (by decide +kernel)
/-! Ci setSitting -/
theorem mk_Ci_setSitting : 154 < 256 ∧ mtB 154 = true := ⟨by decide, mk_154⟩
def g_Ci_setSitting_0 : List (Instr × Nat) := [(.aload 0, 1), (.iload 2, 1), (.ifCond .eq 16, 3), (.aload 0, 1), (.getfield 262, 3), (.iconst 1, 1), (.iload 1, 1), (.ishl, 1), (.ior, 1), (.goto 26, 3)]
theorem s_Ci_setSitting_0 : Seg 154 0 g_Ci_setSitting_0 := seg_of (by decide +kernel)
def g_Ci_setSitting_16 : List (Instr × Nat) := [(.aload 0, 1), (.getfield 262, 3), (.iconst 1, 1), (.iload 1, 1), (.ishl, 1), (.iconst (-1), 1), (.ixor, 1), (.iand, 1)]
theorem s_Ci_setSitting_16 : Seg 154 16 g_Ci_setSitting_16 := seg_of (by decide +kernel)
def g_Ci_setSitting_26 : List (Instr × Nat) := [(.putfield 262, 3), (.aload 0, 1), (.iconst 0, 1), (.putfield 261, 3), (.iconst 0, 1), (.istore 3, 1)]
theorem s_Ci_setSitting_26 : Seg 154 26 g_Ci_setSitting_26 := seg_of (by decide +kernel)
def g_Ci_setSitting_36 : List (Instr × Nat) := [(.iload 3, 1), (.aload 0, 1), (.getfield 260, 3), (.if_icmp .ge 63, 3), (.aload 0, 1), (.iload 3, 1), (.invokevirtual 1520201, 3), (.ifCond .eq 57, 3), (.aload 0, 1), (.iload 3, 1), (.invokevirtual 1550201, 3)]
theorem s_Ci_setSitting_36 : Seg 154 36 g_Ci_setSitting_36 := seg_of (by decide +kernel)
def g_Ci_setSitting_57 : List (Instr × Nat) := [(.iinc 3 (1), 3), (.goto 36, 3)]
theorem s_Ci_setSitting_57 : Seg 154 57 g_Ci_setSitting_57 := seg_of (by decide +kernel)
def g_Ci_setSitting_63 : List (Instr × Nat) := [(.return_, 1)]
theorem s_Ci_setSitting_63 : Seg 154 63 g_Ci_setSitting_63 := seg_of (by decide +kernel)
/-! Ci seatNext -/
theorem mk_Ci_seatNext : 155 < 256 ∧ mtB 155 = true := ⟨by decide, mk_155⟩
def g_Ci_seatNext_0 : List (Instr × Nat) := [(.aload 0, 1), (.getfield 261, 3), (.istore 2, 1)]
theorem s_Ci_seatNext_0 : Seg 155 0 g_Ci_seatNext_0 := seg_of (by decide +kernel)
def g_Ci_seatNext_5 : List (Instr × Nat) := [(.iload 2, 1), (.ifCond .le 51, 3), (.aload 0, 1), (.getstatic 256, 3), (.aload 0, 1), (.getstatic 259, 3), (.iload 2, 1), (.iconst 1, 1), (.isub, 1), (.iaload, 1), (.iaload, 1), (.aload 0, 1), (.getstatic 256, 3), (.iload 1, 1), (.iaload, 1), (.if_icmp .le 51, 3), (.aload 0, 1), (.getstatic 259, 3), (.iload 2, 1), (.aload 0, 1), (.getstatic 259, 3), (.iload 2, 1), (.iconst 1, 1), (.isub, 1), (.iaload, 1), (.iastore, 1), (.iinc 2 (-1), 3), (.goto 5, 3)]
theorem s_Ci_seatNext_5 : Seg 155 5 g_Ci_seatNext_5 := seg_of (by decide +kernel)
def g_Ci_seatNext_51 : List (Instr × Nat) := [(.aload 0, 1), (.getstatic 259, 3), (.iload 2, 1), (.iload 1, 1), (.iastore, 1), (.aload 0, 1), (.dup, 1), (.getfield 261, 3), (.iconst 1, 1), (.iadd, 1), (.putfield 261, 3), (.return_, 1)]
theorem s_Ci_seatNext_51 : Seg 155 51 g_Ci_seatNext_51 := seg_of (by decide +kernel)
/-! Co init -/
theorem mk_Co_init : 156 < 256 ∧ mtB 156 = true := ⟨by decide, mk_156⟩
def g_Co_init_0 : List (Instr × Nat) := [(.aload 0, 1), (.nop, 3), (.aload 0, 1), (.iconst 8, 2), (.newarray .int, 2), (.putstatic 513, 3), (.aload 0, 1), (.aload 1, 1), (.putstatic 512, 3), (.return_, 1)]
theorem s_Co_init_0 : Seg 156 0 g_Co_init_0 := seg_of (by decide +kernel)
/-! Co borneByAll -/
theorem mk_Co_borneByAll : 157 < 256 ∧ mtB 157 = true := ⟨by decide, mk_157⟩
def g_Co_borneByAll_0 : List (Instr × Nat) := [(.iconst 0, 1), (.istore 3, 1), (.iconst 0, 1), (.istore 4, 2)]
theorem s_Co_borneByAll_0 : Seg 157 0 g_Co_borneByAll_0 := seg_of (by decide +kernel)
def g_Co_borneByAll_5 : List (Instr × Nat) := [(.iload 4, 2), (.aload 1, 1), (.getstatic 1026, 3), (.arraylength, 1), (.if_icmp .ge 47, 3), (.aload 0, 1), (.aload 1, 1), (.aload 1, 1), (.getstatic 1026, 3), (.iload 4, 2), (.iaload, 1), (.invokevirtual 1580302, 3), (.ifCond .eq 41, 3), (.iload 3, 1), (.iload 2, 1), (.if_icmp .ne 38, 3), (.iload 4, 2), (.ireturn, 1)]
theorem s_Co_borneByAll_5 : Seg 157 5 g_Co_borneByAll_5 := seg_of (by decide +kernel)
def g_Co_borneByAll_38 : List (Instr × Nat) := [(.iinc 3 (1), 3)]
theorem s_Co_borneByAll_38 : Seg 157 38 g_Co_borneByAll_38 := seg_of (by decide +kernel)
def g_Co_borneByAll_41 : List (Instr × Nat) := [(.iinc 4 (1), 3), (.goto 5, 3)]
theorem s_Co_borneByAll_41 : Seg 157 41 g_Co_borneByAll_41 := seg_of (by decide +kernel)
def g_Co_borneByAll_47 : List (Instr × Nat) := [(.iload 2, 1), (.iconst (-1), 1), (.if_icmp .ne 56, 3), (.iload 3, 1), (.goto 57, 3)]
theorem s_Co_borneByAll_47 : Seg 157 47 g_Co_borneByAll_47 := seg_of (by decide +kernel)
def g_Co_borneByAll_56 : List (Instr × Nat) := [(.iconst (-1), 1)]
theorem s_Co_borneByAll_56 : Seg 157 56 g_Co_borneByAll_56 := seg_of (by decide +kernel)
def g_Co_borneByAll_57 : List (Instr × Nat) := [(.ireturn, 1)]
theorem s_Co_borneByAll_57 : Seg 157 57 g_Co_borneByAll_57 := seg_of (by decide +kernel)
/-! Co isBorneByAll -/
theorem mk_Co_isBorneByAll : 158 < 256 ∧ mtB 158 = true := ⟨by decide, mk_158⟩
def g_Co_isBorneByAll_0 : List (Instr × Nat) := [(.iload 2, 1), (.ifCond .eq 24, 3), (.aload 1, 1), (.iload 2, 1), (.invokevirtual 1850204, 3), (.aload 0, 1), (.getstatic 512, 3), (.getfield 262, 3), (.iand, 1), (.ifCond .ne 24, 3), (.iconst 1, 1), (.goto 25, 3)]
theorem s_Co_isBorneByAll_0 : Seg 158 0 g_Co_isBorneByAll_0 := seg_of (by decide +kernel)
def g_Co_isBorneByAll_24 : List (Instr × Nat) := [(.iconst 0, 1)]
theorem s_Co_isBorneByAll_24 : Seg 158 24 g_Co_isBorneByAll_24 := seg_of (by decide +kernel)
def g_Co_isBorneByAll_25 : List (Instr × Nat) := [(.ireturn, 1)]
theorem s_Co_isBorneByAll_25 : Seg 158 25 g_Co_isBorneByAll_25 := seg_of (by decide +kernel)
/-! Co fairest -/
theorem mk_Co_fairest : 159 < 256 ∧ mtB 159 = true := ⟨by decide, mk_159⟩
def g_Co_fairest_0 : List (Instr × Nat) := [(.iconst (-1), 1), (.istore 2, 1), (.goto_w 0, 1), (.lstore 3, 1), (.iconst 0, 1), (.istore 5, 2)]
theorem s_Co_fairest_0 : Seg 159 0 g_Co_fairest_0 := seg_of (by decide +kernel)
def g_Co_fairest_7 : List (Instr × Nat) := [(.iload 5, 2), (.aload 1, 1), (.getstatic 1026, 3), (.arraylength, 1), (.if_icmp .ge 70, 3), (.aload 0, 1), (.aload 1, 1), (.aload 1, 1), (.getstatic 1026, 3), (.iload 5, 2), (.iaload, 1), (.invokevirtual 1580302, 3), (.ifCond .eq 64, 3), (.aload 0, 1), (.aload 1, 1), (.aload 1, 1), (.getstatic 1026, 3), (.iload 5, 2), (.iaload, 1), (.invokevirtual 1600302, 3), (.lstore 6, 2), (.iload 2, 1), (.iconst (-1), 1), (.if_icmp .eq 58, 3), (.lload 6, 2), (.lload 3, 1), (.lcmp, 1), (.ifCond .ge 64, 3)]
theorem s_Co_fairest_7 : Seg 159 7 g_Co_fairest_7 := seg_of (by decide +kernel)
def g_Co_fairest_58 : List (Instr × Nat) := [(.iload 5, 2), (.istore 2, 1), (.lload 6, 2), (.lstore 3, 1)]
theorem s_Co_fairest_58 : Seg 159 58 g_Co_fairest_58 := seg_of (by decide +kernel)
def g_Co_fairest_64 : List (Instr × Nat) := [(.iinc 5 (1), 3), (.goto 7, 3)]
theorem s_Co_fairest_64 : Seg 159 64 g_Co_fairest_64 := seg_of (by decide +kernel)
def g_Co_fairest_70 : List (Instr × Nat) := [(.iload 2, 1), (.ireturn, 1)]
theorem s_Co_fairest_70 : Seg 159 70 g_Co_fairest_70 := seg_of (by decide +kernel)
/-! Co lossesFalling -/
theorem mk_Co_lossesFalling : 160 < 256 ∧ mtB 160 = true := ⟨by decide, mk_160⟩
def g_Co_lossesFalling_0 : List (Instr × Nat) := [(.iconst 0, 1), (.istore 3, 1)]
theorem s_Co_lossesFalling_0 : Seg 160 0 g_Co_lossesFalling_0 := seg_of (by decide +kernel)
def g_Co_lossesFalling_2 : List (Instr × Nat) := [(.iload 3, 1), (.aload 0, 1), (.getstatic 512, 3), (.getfield 261, 3), (.if_icmp .ge 88, 3), (.aload 1, 1), (.aload 0, 1), (.getstatic 512, 3), (.getstatic 259, 3), (.iload 3, 1), (.iaload, 1), (.iload 2, 1), (.invokevirtual 1860304, 3), (.istore 4, 2), (.iload 3, 1), (.istore 5, 2)]
theorem s_Co_lossesFalling_2 : Seg 160 2 g_Co_lossesFalling_2 := seg_of (by decide +kernel)
def g_Co_lossesFalling_32 : List (Instr × Nat) := [(.iload 5, 2), (.ifCond .le 73, 3), (.aload 0, 1), (.getstatic 513, 3), (.iload 5, 2), (.iconst 1, 1), (.isub, 1), (.iaload, 1), (.iload 4, 2), (.if_icmp .ge 73, 3), (.aload 0, 1), (.getstatic 513, 3), (.iload 5, 2), (.aload 0, 1), (.getstatic 513, 3), (.iload 5, 2), (.iconst 1, 1), (.isub, 1), (.iaload, 1), (.iastore, 1), (.iinc 5 (-1), 3), (.goto 32, 3)]
theorem s_Co_lossesFalling_32 : Seg 160 32 g_Co_lossesFalling_32 := seg_of (by decide +kernel)
def g_Co_lossesFalling_73 : List (Instr × Nat) := [(.aload 0, 1), (.getstatic 513, 3), (.iload 5, 2), (.iload 4, 2), (.iastore, 1), (.iinc 3 (1), 3), (.goto 2, 3)]
theorem s_Co_lossesFalling_73 : Seg 160 73 g_Co_lossesFalling_73 := seg_of (by decide +kernel)
def g_Co_lossesFalling_88 : List (Instr × Nat) := [(.goto_w 0, 1), (.lstore 3, 1), (.iconst 0, 1), (.istore 5, 2)]
theorem s_Co_lossesFalling_88 : Seg 160 88 g_Co_lossesFalling_88 := seg_of (by decide +kernel)
def g_Co_lossesFalling_93 : List (Instr × Nat) := [(.iload 5, 2), (.aload 0, 1), (.getstatic 512, 3), (.getfield 261, 3), (.if_icmp .ge 125, 3), (.lload 3, 1), (.iconst 6, 2), (.lshl, 1), (.aload 0, 1), (.getstatic 513, 3), (.iload 5, 2), (.iaload, 1), (.i2l, 1), (.lor, 1), (.lstore 3, 1), (.iinc 5 (1), 3), (.goto 93, 3)]
theorem s_Co_lossesFalling_93 : Seg 160 93 g_Co_lossesFalling_93 := seg_of (by decide +kernel)
def g_Co_lossesFalling_125 : List (Instr × Nat) := [(.lload 3, 1), (.lreturn, 1)]
theorem s_Co_lossesFalling_125 : Seg 160 125 g_Co_lossesFalling_125 := seg_of (by decide +kernel)
/-! Co barring -/
theorem mk_Co_barring : 161 < 256 ∧ mtB 161 = true := ⟨by decide, mk_161⟩
def g_Co_barring_0 : List (Instr × Nat) := [(.iconst (-1), 1), (.istore 2, 1), (.iconst 0, 1), (.istore 3, 1)]
theorem s_Co_barring_0 : Seg 161 0 g_Co_barring_0 := seg_of (by decide +kernel)
def g_Co_barring_4 : List (Instr × Nat) := [(.iload 3, 1), (.aload 1, 1), (.getstatic 1026, 3), (.arraylength, 1), (.if_icmp .ge 65, 3), (.aload 1, 1), (.getstatic 1026, 3), (.iload 3, 1), (.iaload, 1), (.ifCond .eq 59, 3), (.aload 1, 1), (.aload 1, 1), (.getstatic 1026, 3), (.iload 3, 1), (.iaload, 1), (.invokevirtual 1850204, 3), (.aload 0, 1), (.getstatic 512, 3), (.getfield 262, 3), (.iand, 1), (.istore 4, 2), (.iload 2, 1), (.iconst (-1), 1), (.if_icmp .eq 56, 3), (.iload 4, 2), (.iload 2, 1), (.invokeinterface 47 2, 3), (.ifCond .eq 59, 3)]
theorem s_Co_barring_4 : Seg 161 4 g_Co_barring_4 := seg_of (by decide +kernel)
def g_Co_barring_56 : List (Instr × Nat) := [(.iload 4, 2), (.istore 2, 1)]
theorem s_Co_barring_56 : Seg 161 56 g_Co_barring_56 := seg_of (by decide +kernel)
def g_Co_barring_59 : List (Instr × Nat) := [(.iinc 3 (1), 3), (.goto 4, 3)]
theorem s_Co_barring_59 : Seg 161 59 g_Co_barring_59 := seg_of (by decide +kernel)
def g_Co_barring_65 : List (Instr × Nat) := [(.iload 2, 1), (.ifCond .ne 73, 3), (.iconst (-1), 1), (.goto 74, 3)]
theorem s_Co_barring_65 : Seg 161 65 g_Co_barring_65 := seg_of (by decide +kernel)
def g_Co_barring_73 : List (Instr × Nat) := [(.iload 2, 1)]
theorem s_Co_barring_73 : Seg 161 73 g_Co_barring_73 := seg_of (by decide +kernel)
def g_Co_barring_74 : List (Instr × Nat) := [(.ireturn, 1)]
theorem s_Co_barring_74 : Seg 161 74 g_Co_barring_74 := seg_of (by decide +kernel)
/-! Co fewestOpen -/
theorem mk_Co_fewestOpen : 162 < 256 ∧ mtB 162 = true := ⟨by decide, mk_162⟩
def g_Co_fewestOpen_0 : List (Instr × Nat) := [(.iconst (-1), 1), (.istore 2, 1), (.iconst 0, 1), (.istore 3, 1)]
theorem s_Co_fewestOpen_0 : Seg 162 0 g_Co_fewestOpen_0 := seg_of (by decide +kernel)
def g_Co_fewestOpen_4 : List (Instr × Nat) := [(.iload 3, 1), (.iconst 1, 1), (.aload 1, 1), (.getfield 1024, 3), (.ishl, 1), (.if_icmp .ge 44, 3), (.iload 2, 1), (.iconst (-1), 1), (.if_icmp .eq 27, 3), (.iload 3, 1), (.iload 2, 1), (.invokeinterface 47 2, 3), (.ifCond .eq 38, 3)]
theorem s_Co_fewestOpen_4 : Seg 162 4 g_Co_fewestOpen_4 := seg_of (by decide +kernel)
def g_Co_fewestOpen_27 : List (Instr × Nat) := [(.aload 0, 1), (.aload 1, 1), (.iload 3, 1), (.invokevirtual 1630302, 3), (.ifCond .eq 38, 3), (.iload 3, 1), (.istore 2, 1)]
theorem s_Co_fewestOpen_27 : Seg 162 27 g_Co_fewestOpen_27 := seg_of (by decide +kernel)
def g_Co_fewestOpen_38 : List (Instr × Nat) := [(.iinc 3 (1), 3), (.goto 4, 3)]
theorem s_Co_fewestOpen_38 : Seg 162 38 g_Co_fewestOpen_38 := seg_of (by decide +kernel)
def g_Co_fewestOpen_44 : List (Instr × Nat) := [(.iload 2, 1), (.ireturn, 1)]
theorem s_Co_fewestOpen_44 : Seg 162 44 g_Co_fewestOpen_44 := seg_of (by decide +kernel)
/-! Co canLeaveOpen -/
theorem mk_Co_canLeaveOpen : 163 < 256 ∧ mtB 163 = true := ⟨by decide, mk_163⟩
def g_Co_canLeaveOpen_0 : List (Instr × Nat) := [(.iconst 0, 1), (.istore 3, 1), (.iconst 0, 1), (.istore 4, 2)]
theorem s_Co_canLeaveOpen_0 : Seg 163 0 g_Co_canLeaveOpen_0 := seg_of (by decide +kernel)
def g_Co_canLeaveOpen_5 : List (Instr × Nat) := [(.iload 4, 2), (.aload 1, 1), (.getfield 1024, 3), (.if_icmp .ge 39, 3), (.iload 3, 1), (.iload 2, 1), (.iload 4, 2), (.ishr, 1), (.iconst 1, 1), (.iand, 1), (.iconst 15, 2), (.iload 4, 2), (.iconst 0, 1), (.invokeinterface 41 2, 3), (.ishl, 1), (.imul, 1), (.ior, 1), (.istore 3, 1), (.iinc 4 (1), 3), (.goto 5, 3)]
theorem s_Co_canLeaveOpen_5 : Seg 163 5 g_Co_canLeaveOpen_5 := seg_of (by decide +kernel)
def g_Co_canLeaveOpen_39 : List (Instr × Nat) := [(.iconst 0, 1), (.istore 4, 2)]
theorem s_Co_canLeaveOpen_39 : Seg 163 39 g_Co_canLeaveOpen_39 := seg_of (by decide +kernel)
def g_Co_canLeaveOpen_42 : List (Instr × Nat) := [(.iload 4, 2), (.aload 1, 1), (.getstatic 1026, 3), (.arraylength, 1), (.if_icmp .ge 117, 3), (.aload 1, 1), (.getstatic 1026, 3), (.iload 4, 2), (.iaload, 1), (.istore 5, 2), (.iload 5, 2), (.ifCond .eq 80, 3), (.iload 5, 2), (.iload 3, 1), (.iand, 1), (.bipush (978670), 2), (.iand, 1), (.ifCond .ne 80, 3), (.iconst 1, 1), (.goto 81, 3)]
theorem s_Co_canLeaveOpen_42 : Seg 163 42 g_Co_canLeaveOpen_42 := seg_of (by decide +kernel)
def g_Co_canLeaveOpen_80 : List (Instr × Nat) := [(.iconst 0, 1)]
theorem s_Co_canLeaveOpen_80 : Seg 163 80 g_Co_canLeaveOpen_80 := seg_of (by decide +kernel)
def g_Co_canLeaveOpen_81 : List (Instr × Nat) := [(.istore 6, 2), (.iload 6, 2), (.ifCond .eq 111, 3), (.aload 1, 1), (.iload 5, 2), (.iload 3, 1), (.iconst (-1), 1), (.ixor, 1), (.iand, 1), (.invokevirtual 1850204, 3), (.aload 0, 1), (.getstatic 512, 3), (.getfield 262, 3), (.iand, 1), (.ifCond .ne 111, 3), (.iconst 1, 1), (.ireturn, 1)]
theorem s_Co_canLeaveOpen_81 : Seg 163 81 g_Co_canLeaveOpen_81 := seg_of (by decide +kernel)
def g_Co_canLeaveOpen_111 : List (Instr × Nat) := [(.iinc 4 (1), 3), (.goto 42, 3)]
theorem s_Co_canLeaveOpen_111 : Seg 163 111 g_Co_canLeaveOpen_111 := seg_of (by decide +kernel)
def g_Co_canLeaveOpen_117 : List (Instr × Nat) := [(.iconst 0, 1), (.ireturn, 1)]
theorem s_Co_canLeaveOpen_117 : Seg 163 117 g_Co_canLeaveOpen_117 := seg_of (by decide +kernel)
/-! Co mostHands -/
theorem mk_Co_mostHands : 164 < 256 ∧ mtB 164 = true := ⟨by decide, mk_164⟩
def g_Co_mostHands_0 : List (Instr × Nat) := [(.iconst 0, 1), (.istore 2, 1), (.iconst (-1), 1), (.istore 3, 1), (.iconst 0, 1), (.istore 4, 2), (.iconst 0, 1), (.istore 5, 2)]
theorem s_Co_mostHands_0 : Seg 164 0 g_Co_mostHands_0 := seg_of (by decide +kernel)
def g_Co_mostHands_10 : List (Instr × Nat) := [(.iload 5, 2), (.aload 1, 1), (.getstatic 1026, 3), (.arraylength, 1), (.if_icmp .ge 114, 3), (.aload 1, 1), (.getstatic 1026, 3), (.iload 5, 2), (.iaload, 1), (.istore 6, 2), (.iload 6, 2), (.ifCond .ne 38, 3), (.iconst (-1), 1), (.goto 63, 3)]
theorem s_Co_mostHands_10 : Seg 164 10 g_Co_mostHands_10 := seg_of (by decide +kernel)
def g_Co_mostHands_38 : List (Instr × Nat) := [(.aload 0, 1), (.getstatic 512, 3), (.getfield 261, 3), (.aload 1, 1), (.iload 6, 2), (.invokevirtual 1850204, 3), (.aload 0, 1), (.getstatic 512, 3), (.getfield 262, 3), (.iand, 1), (.invokeinterface 254 1, 3), (.isub, 1)]
theorem s_Co_mostHands_38 : Seg 164 38 g_Co_mostHands_38 := seg_of (by decide +kernel)
def g_Co_mostHands_63 : List (Instr × Nat) := [(.istore 7, 2), (.iload 6, 2), (.ifCond .eq 108, 3), (.iload 7, 2), (.iload 3, 1), (.if_icmp .lt 108, 3), (.aload 0, 1), (.aload 1, 1), (.iload 6, 2), (.invokevirtual 1650302, 3), (.istore 8, 2), (.iload 7, 2), (.iload 3, 1), (.if_icmp .gt 98, 3), (.iload 8, 2), (.iload 4, 2), (.if_icmp .ge 108, 3)]
theorem s_Co_mostHands_63 : Seg 164 63 g_Co_mostHands_63 := seg_of (by decide +kernel)
def g_Co_mostHands_98 : List (Instr × Nat) := [(.iload 5, 2), (.istore 2, 1), (.iload 7, 2), (.istore 3, 1), (.iload 8, 2), (.istore 4, 2)]
theorem s_Co_mostHands_98 : Seg 164 98 g_Co_mostHands_98 := seg_of (by decide +kernel)
def g_Co_mostHands_108 : List (Instr × Nat) := [(.iinc 5 (1), 3), (.goto 10, 3)]
theorem s_Co_mostHands_108 : Seg 164 108 g_Co_mostHands_108 := seg_of (by decide +kernel)
def g_Co_mostHands_114 : List (Instr × Nat) := [(.iload 2, 1), (.ireturn, 1)]
theorem s_Co_mostHands_114 : Seg 164 114 g_Co_mostHands_114 := seg_of (by decide +kernel)
/-! Co lossOfAll -/
theorem mk_Co_lossOfAll : 165 < 256 ∧ mtB 165 = true := ⟨by decide, mk_165⟩
def g_Co_lossOfAll_0 : List (Instr × Nat) := [(.iconst 0, 1), (.istore 3, 1), (.iconst 0, 1), (.istore 4, 2)]
theorem s_Co_lossOfAll_0 : Seg 165 0 g_Co_lossOfAll_0 := seg_of (by decide +kernel)
def g_Co_lossOfAll_5 : List (Instr × Nat) := [(.iload 4, 2), (.aload 0, 1), (.getstatic 512, 3), (.getfield 261, 3), (.if_icmp .ge 41, 3), (.iload 3, 1), (.aload 1, 1), (.aload 0, 1), (.getstatic 512, 3), (.getstatic 259, 3), (.iload 4, 2), (.iaload, 1), (.iload 2, 1), (.invokevirtual 1860304, 3), (.iadd, 1), (.istore 3, 1), (.iinc 4 (1), 3), (.goto 5, 3)]
theorem s_Co_lossOfAll_5 : Seg 165 5 g_Co_lossOfAll_5 := seg_of (by decide +kernel)
def g_Co_lossOfAll_41 : List (Instr × Nat) := [(.iload 3, 1), (.ireturn, 1)]
theorem s_Co_lossOfAll_41 : Seg 165 41 g_Co_lossOfAll_41 := seg_of (by decide +kernel)
/-! Gf init -/
theorem mk_Gf_init : 166 < 256 ∧ mtB 166 = true := ⟨by decide, mk_166⟩
def g_Gf_init_0 : List (Instr × Nat) := [(.aload 0, 1), (.nop, 3), (.aload 0, 1), (.iconst 8, 2), (.newarray .int, 2), (.putstatic 769, 3), (.aload 0, 1), (.iconst 8, 2), (.newarray .int, 2), (.putstatic 770, 3), (.aload 0, 1), (.iconst 8, 2), (.newarray .int, 2), (.putstatic 771, 3), (.aload 0, 1), (.iconst 8, 2), (.newarray .int, 2), (.putstatic 772, 3), (.aload 0, 1), (.iconst 8, 2), (.newarray .int, 2), (.putstatic 773, 3), (.aload 0, 1), (.iconst 1024, 3), (.newarray .int, 2), (.putstatic 774, 3), (.aload 0, 1), (.iconst 1024, 3), (.newarray .int, 2), (.putstatic 775, 3), (.aload 0, 1), (.aload 1, 1), (.putstatic 768, 3), (.return_, 1)]
theorem s_Gf_init_0 : Seg 166 0 g_Gf_init_0 := seg_of (by decide +kernel)
/-! Gf add -/
theorem mk_Gf_add : 167 < 256 ∧ mtB 167 = true := ⟨by decide, mk_167⟩
def g_Gf_add_0 : List (Instr × Nat) := [(.aload 0, 1), (.getstatic 769, 3), (.aload 0, 1), (.getfield 778, 3), (.iload 1, 1), (.iastore, 1), (.aload 0, 1), (.getstatic 770, 3), (.aload 0, 1), (.getfield 778, 3), (.iload 2, 1), (.iastore, 1), (.aload 0, 1), (.getstatic 771, 3), (.aload 0, 1), (.getfield 778, 3), (.iload 3, 1), (.iastore, 1), (.aload 0, 1), (.getstatic 772, 3), (.aload 0, 1), (.getfield 778, 3), (.iload 4, 2), (.iastore, 1), (.aload 0, 1), (.getstatic 773, 3), (.aload 0, 1), (.getfield 778, 3), (.iload 5, 2), (.iastore, 1), (.aload 0, 1), (.dup, 1), (.getfield 778, 3), (.iconst 1, 1), (.iadd, 1), (.putfield 778, 3), (.aload 0, 1), (.getfield 778, 3), (.iconst 1, 1), (.isub, 1), (.ireturn, 1)]
theorem s_Gf_add_0 : Seg 167 0 g_Gf_add_0 := seg_of (by decide +kernel)
/-! Gf between -/
theorem mk_Gf_between : 168 < 256 ∧ mtB 168 = true := ⟨by decide, mk_168⟩
def g_Gf_between_0 : List (Instr × Nat) := [(.iconst 0, 1), (.istore 3, 1), (.iconst 0, 1), (.istore 4, 2)]
theorem s_Gf_between_0 : Seg 168 0 g_Gf_between_0 := seg_of (by decide +kernel)
def g_Gf_between_5 : List (Instr × Nat) := [(.iload 4, 2), (.aload 0, 1), (.getfield 778, 3), (.if_icmp .ge 66, 3), (.aload 0, 1), (.getstatic 770, 3), (.iload 4, 2), (.iaload, 1), (.iload 1, 1), (.if_icmp .ne 60, 3), (.aload 0, 1), (.getstatic 772, 3), (.iload 4, 2), (.iaload, 1), (.iload 2, 1), (.if_icmp .ne 60, 3), (.aload 0, 1), (.getstatic 768, 3), (.aload 0, 1), (.getstatic 769, 3), (.iload 4, 2), (.iaload, 1), (.invokevirtual 1520201, 3), (.ifCond .eq 60, 3), (.iload 3, 1), (.iconst 1, 1), (.iload 4, 2), (.ishl, 1), (.ior, 1), (.istore 3, 1)]
theorem s_Gf_between_5 : Seg 168 5 g_Gf_between_5 := seg_of (by decide +kernel)
def g_Gf_between_60 : List (Instr × Nat) := [(.iinc 4 (1), 3), (.goto 5, 3)]
theorem s_Gf_between_60 : Seg 168 60 g_Gf_between_60 := seg_of (by decide +kernel)
def g_Gf_between_66 : List (Instr × Nat) := [(.iload 3, 1), (.ireturn, 1)]
theorem s_Gf_between_66 : Seg 168 66 g_Gf_between_66 := seg_of (by decide +kernel)
/-! Gf fewestFor -/
theorem mk_Gf_fewestFor : 169 < 256 ∧ mtB 169 = true := ⟨by decide, mk_169⟩
def g_Gf_fewestFor_0 : List (Instr × Nat) := [(.aload 0, 1), (.aload 1, 1), (.aload 2, 1), (.invokevirtual 1700303, 3), (.iconst (-1), 1), (.istore 4, 2), (.iconst 0, 1), (.istore 5, 2)]
theorem s_Gf_fewestFor_0 : Seg 169 0 g_Gf_fewestFor_0 := seg_of (by decide +kernel)
def g_Gf_fewestFor_12 : List (Instr × Nat) := [(.iload 5, 2), (.iconst 1, 1), (.aload 0, 1), (.getfield 778, 3), (.ishl, 1), (.if_icmp .ge 89, 3), (.iload 5, 2), (.iload 3, 1), (.iconst (-1), 1), (.ixor, 1), (.iand, 1), (.ifCond .ne 52, 3), (.iload 4, 2), (.iconst (-1), 1), (.if_icmp .eq 48, 3), (.iload 5, 2), (.iload 4, 2), (.invokeinterface 47 2, 3), (.ifCond .eq 52, 3)]
theorem s_Gf_fewestFor_12 : Seg 169 12 g_Gf_fewestFor_12 := seg_of (by decide +kernel)
def g_Gf_fewestFor_48 : List (Instr × Nat) := [(.iconst 1, 1), (.goto 53, 3)]
theorem s_Gf_fewestFor_48 : Seg 169 48 g_Gf_fewestFor_48 := seg_of (by decide +kernel)
def g_Gf_fewestFor_52 : List (Instr × Nat) := [(.iconst 0, 1)]
theorem s_Gf_fewestFor_52 : Seg 169 52 g_Gf_fewestFor_52 := seg_of (by decide +kernel)
def g_Gf_fewestFor_53 : List (Instr × Nat) := [(.istore 6, 2), (.iload 6, 2), (.ifCond .eq 83, 3), (.aload 0, 1), (.iload 5, 2), (.invokevirtual 1710203, 3), (.ifCond .eq 83, 3), (.aload 0, 1), (.aload 1, 1), (.iload 5, 2), (.invokevirtual 1720303, 3), (.ifCond .eq 83, 3), (.iload 5, 2), (.istore 4, 2)]
theorem s_Gf_fewestFor_53 : Seg 169 53 g_Gf_fewestFor_53 := seg_of (by decide +kernel)
def g_Gf_fewestFor_83 : List (Instr × Nat) := [(.iinc 5 (1), 3), (.goto 12, 3)]
theorem s_Gf_fewestFor_83 : Seg 169 83 g_Gf_fewestFor_83 := seg_of (by decide +kernel)
def g_Gf_fewestFor_89 : List (Instr × Nat) := [(.iload 4, 2), (.ireturn, 1)]
theorem s_Gf_fewestFor_89 : Seg 169 89 g_Gf_fewestFor_89 := seg_of (by decide +kernel)
/-! Gf gather -/
theorem mk_Gf_gather : 170 < 256 ∧ mtB 170 = true := ⟨by decide, mk_170⟩
def g_Gf_gather_0 : List (Instr × Nat) := [(.aload 0, 1), (.iconst 0, 1), (.putfield 776, 3), (.iconst 0, 1), (.istore 3, 1)]
theorem s_Gf_gather_0 : Seg 170 0 g_Gf_gather_0 := seg_of (by decide +kernel)
def g_Gf_gather_7 : List (Instr × Nat) := [(.iload 3, 1), (.aload 1, 1), (.getstatic 1026, 3), (.arraylength, 1), (.if_icmp .ge 73, 3), (.aload 1, 1), (.getstatic 1026, 3), (.iload 3, 1), (.iaload, 1), (.istore 4, 2), (.iload 4, 2), (.ifCond .eq 67, 3), (.aload 1, 1), (.iload 4, 2), (.invokevirtual 1840204, 3), (.aload 0, 1), (.getstatic 768, 3), (.getfield 262, 3), (.iand, 1), (.ifCond .ne 67, 3), (.aload 0, 1), (.getstatic 774, 3), (.aload 0, 1), (.getfield 776, 3), (.iload 4, 2), (.iastore, 1), (.aload 0, 1), (.dup, 1), (.getfield 776, 3), (.iconst 1, 1), (.iadd, 1), (.putfield 776, 3)]
theorem s_Gf_gather_7 : Seg 170 7 g_Gf_gather_7 := seg_of (by decide +kernel)
def g_Gf_gather_67 : List (Instr × Nat) := [(.iinc 3 (1), 3), (.goto 7, 3)]
theorem s_Gf_gather_67 : Seg 170 67 g_Gf_gather_67 := seg_of (by decide +kernel)
def g_Gf_gather_73 : List (Instr × Nat) := [(.aload 0, 1), (.iconst 0, 1), (.putfield 777, 3), (.iconst 0, 1), (.istore 3, 1)]
theorem s_Gf_gather_73 : Seg 170 73 g_Gf_gather_73 := seg_of (by decide +kernel)
def g_Gf_gather_80 : List (Instr × Nat) := [(.iload 3, 1), (.aload 2, 1), (.getstatic 1026, 3), (.arraylength, 1), (.if_icmp .ge 146, 3), (.aload 2, 1), (.getstatic 1026, 3), (.iload 3, 1), (.iaload, 1), (.istore 4, 2), (.iload 4, 2), (.ifCond .eq 140, 3), (.aload 2, 1), (.iload 4, 2), (.invokevirtual 1850204, 3), (.aload 0, 1), (.getstatic 768, 3), (.getfield 262, 3), (.iand, 1), (.ifCond .ne 140, 3), (.aload 0, 1), (.getstatic 775, 3), (.aload 0, 1), (.getfield 777, 3), (.iload 4, 2), (.iastore, 1), (.aload 0, 1), (.dup, 1), (.getfield 777, 3), (.iconst 1, 1), (.iadd, 1), (.putfield 777, 3)]
theorem s_Gf_gather_80 : Seg 170 80 g_Gf_gather_80 := seg_of (by decide +kernel)
def g_Gf_gather_140 : List (Instr × Nat) := [(.iinc 3 (1), 3), (.goto 80, 3)]
theorem s_Gf_gather_140 : Seg 170 140 g_Gf_gather_140 := seg_of (by decide +kernel)
def g_Gf_gather_146 : List (Instr × Nat) := [(.return_, 1)]
theorem s_Gf_gather_146 : Seg 170 146 g_Gf_gather_146 := seg_of (by decide +kernel)
/-! Gf isGiven -/
theorem mk_Gf_isGiven : 171 < 256 ∧ mtB 171 = true := ⟨by decide, mk_171⟩
def g_Gf_isGiven_0 : List (Instr × Nat) := [(.iconst 0, 1), (.istore 2, 1), (.iconst 0, 1), (.istore 3, 1)]
theorem s_Gf_isGiven_0 : Seg 171 0 g_Gf_isGiven_0 := seg_of (by decide +kernel)
def g_Gf_isGiven_4 : List (Instr × Nat) := [(.iload 3, 1), (.aload 0, 1), (.getfield 778, 3), (.if_icmp .ge 33, 3), (.iload 2, 1), (.iload 1, 1), (.iload 3, 1), (.ishr, 1), (.iconst 1, 1), (.iand, 1), (.aload 0, 1), (.getstatic 773, 3), (.iload 3, 1), (.iaload, 1), (.ishl, 1), (.ior, 1), (.istore 2, 1), (.iinc 3 (1), 3), (.goto 4, 3)]
theorem s_Gf_isGiven_4 : Seg 171 4 g_Gf_isGiven_4 := seg_of (by decide +kernel)
def g_Gf_isGiven_33 : List (Instr × Nat) := [(.iconst 0, 1), (.istore 3, 1)]
theorem s_Gf_isGiven_33 : Seg 171 33 g_Gf_isGiven_33 := seg_of (by decide +kernel)
def g_Gf_isGiven_35 : List (Instr × Nat) := [(.iload 3, 1), (.aload 0, 1), (.getfield 777, 3), (.if_icmp .ge 64, 3), (.iload 2, 1), (.aload 0, 1), (.getstatic 775, 3), (.iload 3, 1), (.iaload, 1), (.iconst (-1), 1), (.ixor, 1), (.iand, 1), (.ifCond .ne 58, 3), (.iconst 1, 1), (.ireturn, 1)]
theorem s_Gf_isGiven_35 : Seg 171 35 g_Gf_isGiven_35 := seg_of (by decide +kernel)
def g_Gf_isGiven_58 : List (Instr × Nat) := [(.iinc 3 (1), 3), (.goto 35, 3)]
theorem s_Gf_isGiven_58 : Seg 171 58 g_Gf_isGiven_58 := seg_of (by decide +kernel)
def g_Gf_isGiven_64 : List (Instr × Nat) := [(.iconst 0, 1), (.ireturn, 1)]
theorem s_Gf_isGiven_64 : Seg 171 64 g_Gf_isGiven_64 := seg_of (by decide +kernel)
/-! Gf isEnough -/
theorem mk_Gf_isEnough : 172 < 256 ∧ mtB 172 = true := ⟨by decide, mk_172⟩
def g_Gf_isEnough_0 : List (Instr × Nat) := [(.iconst 0, 1), (.istore 3, 1), (.iconst 0, 1), (.istore 4, 2)]
theorem s_Gf_isEnough_0 : Seg 172 0 g_Gf_isEnough_0 := seg_of (by decide +kernel)
def g_Gf_isEnough_5 : List (Instr × Nat) := [(.iload 4, 2), (.aload 0, 1), (.getstatic 768, 3), (.getfield 261, 3), (.if_icmp .ge 42, 3), (.iload 3, 1), (.aload 0, 1), (.aload 0, 1), (.getstatic 768, 3), (.getstatic 259, 3), (.iload 4, 2), (.iaload, 1), (.aload 1, 1), (.iload 2, 1), (.invokevirtual 1730403, 3), (.ior, 1), (.istore 3, 1), (.iinc 4 (1), 3), (.goto 5, 3)]
theorem s_Gf_isEnough_5 : Seg 172 5 g_Gf_isEnough_5 := seg_of (by decide +kernel)
def g_Gf_isEnough_42 : List (Instr × Nat) := [(.iconst 0, 1), (.istore 4, 2)]
theorem s_Gf_isEnough_42 : Seg 172 42 g_Gf_isEnough_42 := seg_of (by decide +kernel)
def g_Gf_isEnough_45 : List (Instr × Nat) := [(.iload 4, 2), (.aload 0, 1), (.getfield 776, 3), (.if_icmp .ge 74, 3), (.aload 0, 1), (.getstatic 774, 3), (.iload 4, 2), (.iaload, 1), (.iload 3, 1), (.iand, 1), (.ifCond .ne 68, 3), (.iconst 1, 1), (.ireturn, 1)]
theorem s_Gf_isEnough_45 : Seg 172 45 g_Gf_isEnough_45 := seg_of (by decide +kernel)
def g_Gf_isEnough_68 : List (Instr × Nat) := [(.iinc 4 (1), 3), (.goto 45, 3)]
theorem s_Gf_isEnough_68 : Seg 172 68 g_Gf_isEnough_68 := seg_of (by decide +kernel)
def g_Gf_isEnough_74 : List (Instr × Nat) := [(.iconst 0, 1), (.ireturn, 1)]
theorem s_Gf_isEnough_74 : Seg 172 74 g_Gf_isEnough_74 := seg_of (by decide +kernel)
/-! Gf unborneBy -/
theorem mk_Gf_unborneBy : 173 < 256 ∧ mtB 173 = true := ⟨by decide, mk_173⟩
def g_Gf_unborneBy_0 : List (Instr × Nat) := [(.aload 2, 1), (.getstatic 1027, 3), (.iload 1, 1), (.iaload, 1), (.istore 4, 2), (.iconst 0, 1), (.istore 5, 2)]
theorem s_Gf_unborneBy_0 : Seg 173 0 g_Gf_unborneBy_0 := seg_of (by decide +kernel)
def g_Gf_unborneBy_11 : List (Instr × Nat) := [(.iload 5, 2), (.aload 0, 1), (.getfield 778, 3), (.if_icmp .ge 62, 3), (.aload 0, 1), (.getstatic 769, 3), (.iload 5, 2), (.iaload, 1), (.iload 1, 1), (.if_icmp .ne 56, 3), (.iload 3, 1), (.iload 5, 2), (.ishr, 1), (.iconst 1, 1), (.iand, 1), (.ifCond .eq 56, 3), (.iload 4, 2), (.iconst 1, 1), (.aload 0, 1), (.getstatic 771, 3), (.iload 5, 2), (.iaload, 1), (.ishl, 1), (.iconst (-1), 1), (.ixor, 1), (.iand, 1), (.istore 4, 2)]
theorem s_Gf_unborneBy_11 : Seg 173 11 g_Gf_unborneBy_11 := seg_of (by decide +kernel)
def g_Gf_unborneBy_56 : List (Instr × Nat) := [(.iinc 5 (1), 3), (.goto 11, 3)]
theorem s_Gf_unborneBy_56 : Seg 173 56 g_Gf_unborneBy_56 := seg_of (by decide +kernel)
def g_Gf_unborneBy_62 : List (Instr × Nat) := [(.iload 4, 2), (.ireturn, 1)]
theorem s_Gf_unborneBy_62 : Seg 173 62 g_Gf_unborneBy_62 := seg_of (by decide +kernel)
/-! Ma init -/
theorem mk_Ma_init : 174 < 256 ∧ mtB 174 = true := ⟨by decide, mk_174⟩
def g_Ma_init_0 : List (Instr × Nat) := [(.aload 0, 1), (.nop, 3), (.aload 0, 1), (.iconst 8, 2), (.newarray .int, 2), (.putstatic 1027, 3), (.aload 0, 1), (.iconst 8, 2), (.newarray .int, 2), (.putstatic 1028, 3), (.aload 0, 1), (.iconst 8, 2), (.iconst 5, 1), (.multianewarray 7 2, 4), (.putstatic 1029, 3), (.aload 0, 1), (.iconst 40, 2), (.newarray .int, 2), (.putstatic 1030, 3), (.aload 0, 1), (.iconst 40, 2), (.newarray .int, 2), (.putstatic 1031, 3), (.aload 0, 1), (.iload 1, 1), (.putfield 1024, 3), (.aload 0, 1), (.iload 2, 1), (.putfield 1025, 3), (.aload 0, 1), (.iconst 1, 1), (.iconst 2, 1), (.iload 1, 1), (.imul, 1), (.ishl, 1), (.newarray .int, 2), (.putstatic 1026, 3), (.iconst 0, 1), (.istore 3, 1)]
theorem s_Ma_init_0 : Seg 174 0 g_Ma_init_0 := seg_of (by decide +kernel)
def g_Ma_init_70 : List (Instr × Nat) := [(.iload 3, 1), (.aload 0, 1), (.getstatic 1026, 3), (.arraylength, 1), (.if_icmp .ge 97, 3), (.aload 0, 1), (.getstatic 1026, 3), (.iload 3, 1), (.iload 3, 1), (.iload 1, 1), (.iload 2, 1), (.invokeinterface 175 3, 3), (.iastore, 1), (.iinc 3 (1), 3), (.goto 70, 3)]
theorem s_Ma_init_70 : Seg 174 70 g_Ma_init_70 := seg_of (by decide +kernel)
def g_Ma_init_97 : List (Instr × Nat) := [(.iconst 0, 1), (.istore 3, 1)]
theorem s_Ma_init_97 : Seg 174 97 g_Ma_init_97 := seg_of (by decide +kernel)
def g_Ma_init_99 : List (Instr × Nat) := [(.iload 3, 1), (.iconst 8, 2), (.if_icmp .ge 121, 3), (.aload 0, 1), (.getstatic 1029, 3), (.iload 3, 1), (.aaload, 1), (.iconst 1, 1), (.invokeinterface 252 2, 3), (.iinc 3 (1), 3), (.goto 99, 3)]
theorem s_Ma_init_99 : Seg 174 99 g_Ma_init_99 := seg_of (by decide +kernel)
def g_Ma_init_121 : List (Instr × Nat) := [(.return_, 1)]
theorem s_Ma_init_121 : Seg 174 121 g_Ma_init_121 := seg_of (by decide +kernel)
/-! Ma slotsIn -/
theorem mk_Ma_slotsIn : 175 < 256 ∧ mtB 175 = true := ⟨by decide, mk_175⟩
def g_Ma_slotsIn_0 : List (Instr × Nat) := [(.iconst 0, 1), (.istore 3, 1), (.iconst 0, 1), (.istore 4, 2)]
theorem s_Ma_slotsIn_0 : Seg 175 0 g_Ma_slotsIn_0 := seg_of (by decide +kernel)
def g_Ma_slotsIn_5 : List (Instr × Nat) := [(.iload 4, 2), (.iload 1, 1), (.if_icmp .ge 51, 3), (.iload 0, 1), (.iconst 2, 1), (.iload 1, 1), (.iconst 1, 1), (.isub, 1), (.iload 4, 2), (.isub, 1), (.imul, 1), (.ishr, 1), (.iconst 3, 1), (.iand, 1), (.istore 5, 2), (.iload 5, 2), (.iload 2, 1), (.if_icmp .lt 33, 3), (.iconst 0, 1), (.ireturn, 1)]
theorem s_Ma_slotsIn_5 : Seg 175 5 g_Ma_slotsIn_5 := seg_of (by decide +kernel)
def g_Ma_slotsIn_33 : List (Instr × Nat) := [(.iload 3, 1), (.iconst 1, 1), (.iload 4, 2), (.iload 5, 2), (.invokeinterface 41 2, 3), (.ishl, 1), (.ior, 1), (.istore 3, 1), (.iinc 4 (1), 3), (.goto 5, 3)]
theorem s_Ma_slotsIn_33 : Seg 175 33 g_Ma_slotsIn_33 := seg_of (by decide +kernel)
def g_Ma_slotsIn_51 : List (Instr × Nat) := [(.iload 3, 1), (.ireturn, 1)]
theorem s_Ma_slotsIn_51 : Seg 175 51 g_Ma_slotsIn_51 := seg_of (by decide +kernel)
/-! Ma hasWay -/
theorem mk_Ma_hasWay : 176 < 256 ∧ mtB 176 = true := ⟨by decide, mk_176⟩
def g_Ma_hasWay_0 : List (Instr × Nat) := [(.iload 1, 1), (.ifCond .lt 28, 3), (.iload 1, 1), (.aload 0, 1), (.getfield 1024, 3), (.if_icmp .ge 28, 3), (.iload 2, 1), (.ifCond .lt 28, 3), (.iload 2, 1), (.aload 0, 1), (.getfield 1025, 3), (.if_icmp .ge 28, 3), (.iconst 1, 1), (.goto 29, 3)]
theorem s_Ma_hasWay_0 : Seg 176 0 g_Ma_hasWay_0 := seg_of (by decide +kernel)
def g_Ma_hasWay_28 : List (Instr × Nat) := [(.iconst 0, 1)]
theorem s_Ma_hasWay_28 : Seg 176 28 g_Ma_hasWay_28 := seg_of (by decide +kernel)
def g_Ma_hasWay_29 : List (Instr × Nat) := [(.ireturn, 1)]
theorem s_Ma_hasWay_29 : Seg 176 29 g_Ma_hasWay_29 := seg_of (by decide +kernel)
/-! Ma hasProposal -/
theorem mk_Ma_hasProposal : 177 < 256 ∧ mtB 177 = true := ⟨by decide, mk_177⟩
def g_Ma_hasProposal_0 : List (Instr × Nat) := [(.iload 1, 1), (.ifCond .lt 26, 3), (.iload 1, 1), (.aload 0, 1), (.getstatic 1026, 3), (.arraylength, 1), (.if_icmp .ge 26, 3), (.aload 0, 1), (.getstatic 1026, 3), (.iload 1, 1), (.iaload, 1), (.ifCond .eq 26, 3), (.iconst 1, 1), (.goto 27, 3)]
theorem s_Ma_hasProposal_0 : Seg 177 0 g_Ma_hasProposal_0 := seg_of (by decide +kernel)
def g_Ma_hasProposal_26 : List (Instr × Nat) := [(.iconst 0, 1)]
theorem s_Ma_hasProposal_26 : Seg 177 26 g_Ma_hasProposal_26 := seg_of (by decide +kernel)
def g_Ma_hasProposal_27 : List (Instr × Nat) := [(.ireturn, 1)]
theorem s_Ma_hasProposal_27 : Seg 177 27 g_Ma_hasProposal_27 := seg_of (by decide +kernel)
/-! Ma wayIn -/
theorem mk_Ma_wayIn : 178 < 256 ∧ mtB 178 = true := ⟨by decide, mk_178⟩
def g_Ma_wayIn_0 : List (Instr × Nat) := [(.iload 1, 1), (.iconst 2, 1), (.aload 0, 1), (.getfield 1024, 3), (.iconst 1, 1), (.isub, 1), (.iload 2, 1), (.isub, 1), (.imul, 1), (.ishr, 1), (.iconst 3, 1), (.iand, 1), (.ireturn, 1)]
theorem s_Ma_wayIn_0 : Seg 178 0 g_Ma_wayIn_0 := seg_of (by decide +kernel)
/-! Ma withWay -/
theorem mk_Ma_withWay : 179 < 256 ∧ mtB 179 = true := ⟨by decide, mk_179⟩
def g_Ma_withWay_0 : List (Instr × Nat) := [(.iconst 2, 1), (.aload 0, 1), (.getfield 1024, 3), (.iconst 1, 1), (.isub, 1), (.iload 2, 1), (.isub, 1), (.imul, 1), (.istore 4, 2), (.iload 1, 1), (.iconst 3, 1), (.iload 4, 2), (.ishl, 1), (.iconst (-1), 1), (.ixor, 1), (.iand, 1), (.iload 3, 1), (.iload 4, 2), (.ishl, 1), (.ior, 1), (.ireturn, 1)]
theorem s_Ma_withWay_0 : Seg 179 0 g_Ma_withWay_0 := seg_of (by decide +kernel)
/-! Ma holdOf -/
theorem mk_Ma_holdOf : 180 < 256 ∧ mtB 180 = true := ⟨by decide, mk_180⟩
def g_Ma_holdOf_0 : List (Instr × Nat) := [(.aload 0, 1), (.getstatic 1027, 3), (.iload 1, 1), (.iaload, 1), (.iload 2, 1), (.ishr, 1), (.iconst 1, 1), (.iand, 1), (.ifCond .eq 15, 3), (.iconst 0, 1), (.ireturn, 1)]
theorem s_Ma_holdOf_0 : Seg 180 0 g_Ma_holdOf_0 := seg_of (by decide +kernel)
def g_Ma_holdOf_15 : List (Instr × Nat) := [(.aload 0, 1), (.getstatic 1028, 3), (.iload 1, 1), (.iaload, 1), (.iload 2, 1), (.ishr, 1), (.iconst 1, 1), (.iand, 1), (.ifCond .eq 32, 3), (.iconst 2, 1), (.goto 33, 3)]
theorem s_Ma_holdOf_15 : Seg 180 15 g_Ma_holdOf_15 := seg_of (by decide +kernel)
def g_Ma_holdOf_32 : List (Instr × Nat) := [(.iconst 1, 1)]
theorem s_Ma_holdOf_32 : Seg 180 32 g_Ma_holdOf_32 := seg_of (by decide +kernel)
def g_Ma_holdOf_33 : List (Instr × Nat) := [(.ireturn, 1)]
theorem s_Ma_holdOf_33 : Seg 180 33 g_Ma_holdOf_33 := seg_of (by decide +kernel)
/-! Ma setHold -/
theorem mk_Ma_setHold : 181 < 256 ∧ mtB 181 = true := ⟨by decide, mk_181⟩
def g_Ma_setHold_0 : List (Instr × Nat) := [(.iconst 1, 1), (.iload 2, 1), (.ishl, 1), (.istore 4, 2), (.aload 0, 1), (.getstatic 1027, 3), (.iload 1, 1), (.iload 3, 1), (.ifCond .ne 26, 3), (.aload 0, 1), (.getstatic 1027, 3), (.iload 1, 1), (.iaload, 1), (.iload 4, 2), (.ior, 1), (.goto 37, 3)]
theorem s_Ma_setHold_0 : Seg 181 0 g_Ma_setHold_0 := seg_of (by decide +kernel)
def g_Ma_setHold_26 : List (Instr × Nat) := [(.aload 0, 1), (.getstatic 1027, 3), (.iload 1, 1), (.iaload, 1), (.iload 4, 2), (.iconst (-1), 1), (.ixor, 1), (.iand, 1)]
theorem s_Ma_setHold_26 : Seg 181 26 g_Ma_setHold_26 := seg_of (by decide +kernel)
def g_Ma_setHold_37 : List (Instr × Nat) := [(.iastore, 1), (.aload 0, 1), (.getstatic 1028, 3), (.iload 1, 1), (.iload 3, 1), (.iconst 2, 1), (.if_icmp .ne 60, 3), (.aload 0, 1), (.getstatic 1028, 3), (.iload 1, 1), (.iaload, 1), (.iload 4, 2), (.ior, 1), (.goto 71, 3)]
theorem s_Ma_setHold_37 : Seg 181 37 g_Ma_setHold_37 := seg_of (by decide +kernel)
def g_Ma_setHold_60 : List (Instr × Nat) := [(.aload 0, 1), (.getstatic 1028, 3), (.iload 1, 1), (.iaload, 1), (.iload 4, 2), (.iconst (-1), 1), (.ixor, 1), (.iand, 1)]
theorem s_Ma_setHold_60 : Seg 181 60 g_Ma_setHold_60 := seg_of (by decide +kernel)
def g_Ma_setHold_71 : List (Instr × Nat) := [(.iastore, 1), (.return_, 1)]
theorem s_Ma_setHold_71 : Seg 181 71 g_Ma_setHold_71 := seg_of (by decide +kernel)
/-! Ma addClash -/
theorem mk_Ma_addClash : 182 < 256 ∧ mtB 182 = true := ⟨by decide, mk_182⟩
def g_Ma_addClash_0 : List (Instr × Nat) := [(.aload 0, 1), (.getfield 1032, 3), (.iconst 40, 2), (.if_icmp .ge 45, 3), (.aload 0, 1), (.getstatic 1030, 3), (.aload 0, 1), (.getfield 1032, 3), (.iload 1, 1), (.iastore, 1), (.aload 0, 1), (.getstatic 1031, 3), (.aload 0, 1), (.getfield 1032, 3), (.iconst 1, 1), (.iload 2, 1), (.ishl, 1), (.iconst 1, 1), (.iload 3, 1), (.ishl, 1), (.ior, 1), (.iastore, 1), (.aload 0, 1), (.dup, 1), (.getfield 1032, 3), (.iconst 1, 1), (.iadd, 1), (.putfield 1032, 3)]
theorem s_Ma_addClash_0 : Seg 182 0 g_Ma_addClash_0 := seg_of (by decide +kernel)
def g_Ma_addClash_45 : List (Instr × Nat) := [(.return_, 1)]
theorem s_Ma_addClash_45 : Seg 182 45 g_Ma_addClash_45 := seg_of (by decide +kernel)
/-! Ma isAgainst -/
theorem mk_Ma_isAgainst : 183 < 256 ∧ mtB 183 = true := ⟨by decide, mk_183⟩
def g_Ma_isAgainst_0 : List (Instr × Nat) := [(.aload 0, 1), (.getstatic 1027, 3), (.iload 1, 1), (.iaload, 1), (.iload 2, 1), (.ishr, 1), (.iconst 1, 1), (.iand, 1), (.ifCond .eq 15, 3), (.iconst 1, 1), (.ireturn, 1)]
theorem s_Ma_isAgainst_0 : Seg 183 0 g_Ma_isAgainst_0 := seg_of (by decide +kernel)
def g_Ma_isAgainst_15 : List (Instr × Nat) := [(.iconst 0, 1), (.istore 4, 2)]
theorem s_Ma_isAgainst_15 : Seg 183 15 g_Ma_isAgainst_15 := seg_of (by decide +kernel)
def g_Ma_isAgainst_18 : List (Instr × Nat) := [(.iload 4, 2), (.aload 0, 1), (.getfield 1032, 3), (.if_icmp .ge 86, 3), (.aload 0, 1), (.getstatic 1030, 3), (.iload 4, 2), (.iaload, 1), (.iload 1, 1), (.if_icmp .ne 56, 3), (.aload 0, 1), (.getstatic 1031, 3), (.iload 4, 2), (.iaload, 1), (.iload 2, 1), (.ishr, 1), (.iconst 1, 1), (.iand, 1), (.ifCond .eq 56, 3), (.iconst 1, 1), (.goto 57, 3)]
theorem s_Ma_isAgainst_18 : Seg 183 18 g_Ma_isAgainst_18 := seg_of (by decide +kernel)
def g_Ma_isAgainst_56 : List (Instr × Nat) := [(.iconst 0, 1)]
theorem s_Ma_isAgainst_56 : Seg 183 56 g_Ma_isAgainst_56 := seg_of (by decide +kernel)
def g_Ma_isAgainst_57 : List (Instr × Nat) := [(.istore 5, 2), (.iload 5, 2), (.ifCond .eq 80, 3), (.aload 0, 1), (.getstatic 1031, 3), (.iload 4, 2), (.iaload, 1), (.iload 3, 1), (.iconst (-1), 1), (.ixor, 1), (.iand, 1), (.ifCond .ne 80, 3), (.iconst 1, 1), (.ireturn, 1)]
theorem s_Ma_isAgainst_57 : Seg 183 57 g_Ma_isAgainst_57 := seg_of (by decide +kernel)
def g_Ma_isAgainst_80 : List (Instr × Nat) := [(.iinc 4 (1), 3), (.goto 18, 3)]
theorem s_Ma_isAgainst_80 : Seg 183 80 g_Ma_isAgainst_80 := seg_of (by decide +kernel)
def g_Ma_isAgainst_86 : List (Instr × Nat) := [(.iconst 0, 1), (.ireturn, 1)]
theorem s_Ma_isAgainst_86 : Seg 183 86 g_Ma_isAgainst_86 := seg_of (by decide +kernel)
/-! Ma clashed -/
theorem mk_Ma_clashed : 184 < 256 ∧ mtB 184 = true := ⟨by decide, mk_184⟩
def g_Ma_clashed_0 : List (Instr × Nat) := [(.iconst 0, 1), (.istore 2, 1), (.iconst 0, 1), (.istore 3, 1)]
theorem s_Ma_clashed_0 : Seg 184 0 g_Ma_clashed_0 := seg_of (by decide +kernel)
def g_Ma_clashed_4 : List (Instr × Nat) := [(.iload 3, 1), (.aload 0, 1), (.getfield 1032, 3), (.if_icmp .ge 42, 3), (.aload 0, 1), (.getstatic 1031, 3), (.iload 3, 1), (.iaload, 1), (.iload 1, 1), (.iconst (-1), 1), (.ixor, 1), (.iand, 1), (.ifCond .ne 36, 3), (.iload 2, 1), (.iconst 1, 1), (.aload 0, 1), (.getstatic 1030, 3), (.iload 3, 1), (.iaload, 1), (.ishl, 1), (.ior, 1), (.istore 2, 1)]
theorem s_Ma_clashed_4 : Seg 184 4 g_Ma_clashed_4 := seg_of (by decide +kernel)
def g_Ma_clashed_36 : List (Instr × Nat) := [(.iinc 3 (1), 3), (.goto 4, 3)]
theorem s_Ma_clashed_36 : Seg 184 36 g_Ma_clashed_36 := seg_of (by decide +kernel)
def g_Ma_clashed_42 : List (Instr × Nat) := [(.iload 2, 1), (.ireturn, 1)]
theorem s_Ma_clashed_42 : Seg 184 42 g_Ma_clashed_42 := seg_of (by decide +kernel)
/-! Ma unable -/
theorem mk_Ma_unable : 185 < 256 ∧ mtB 185 = true := ⟨by decide, mk_185⟩
def g_Ma_unable_0 : List (Instr × Nat) := [(.aload 0, 1), (.iload 1, 1), (.invokevirtual 1840204, 3), (.istore 2, 1), (.iconst 0, 1), (.istore 3, 1)]
theorem s_Ma_unable_0 : Seg 185 0 g_Ma_unable_0 := seg_of (by decide +kernel)
def g_Ma_unable_8 : List (Instr × Nat) := [(.iload 3, 1), (.iconst 8, 2), (.if_icmp .ge 37, 3), (.aload 0, 1), (.getstatic 1027, 3), (.iload 3, 1), (.iaload, 1), (.iload 1, 1), (.iand, 1), (.ifCond .eq 31, 3), (.iload 2, 1), (.iconst 1, 1), (.iload 3, 1), (.ishl, 1), (.ior, 1), (.istore 2, 1)]
theorem s_Ma_unable_8 : Seg 185 8 g_Ma_unable_8 := seg_of (by decide +kernel)
def g_Ma_unable_31 : List (Instr × Nat) := [(.iinc 3 (1), 3), (.goto 8, 3)]
theorem s_Ma_unable_31 : Seg 185 31 g_Ma_unable_31 := seg_of (by decide +kernel)
def g_Ma_unable_37 : List (Instr × Nat) := [(.iload 2, 1), (.ireturn, 1)]
theorem s_Ma_unable_37 : Seg 185 37 g_Ma_unable_37 := seg_of (by decide +kernel)
/-! Ma lossOf -/
theorem mk_Ma_lossOf : 186 < 256 ∧ mtB 186 = true := ⟨by decide, mk_186⟩
def g_Ma_lossOf_0 : List (Instr × Nat) := [(.aload 0, 1), (.getstatic 1028, 3), (.iload 1, 1), (.iaload, 1), (.istore 3, 1), (.iconst 0, 1), (.istore 4, 2), (.iconst 0, 1), (.istore 5, 2)]
theorem s_Ma_lossOf_0 : Seg 186 0 g_Ma_lossOf_0 := seg_of (by decide +kernel)
def g_Ma_lossOf_13 : List (Instr × Nat) := [(.iload 5, 2), (.aload 0, 1), (.getfield 1024, 3), (.if_icmp .ge 67, 3), (.iload 3, 1), (.iconst 15, 2), (.iload 5, 2), (.iconst 0, 1), (.invokeinterface 41 2, 3), (.ishl, 1), (.iand, 1), (.istore 6, 2), (.iload 6, 2), (.ifCond .eq 61, 3), (.iload 6, 2), (.iload 2, 1), (.iand, 1), (.ifCond .ne 61, 3), (.iload 4, 2), (.aload 0, 1), (.getstatic 1029, 3), (.iload 1, 1), (.aaload, 1), (.iload 5, 2), (.iaload, 1), (.iadd, 1), (.istore 4, 2)]
theorem s_Ma_lossOf_13 : Seg 186 13 g_Ma_lossOf_13 := seg_of (by decide +kernel)
def g_Ma_lossOf_61 : List (Instr × Nat) := [(.iinc 5 (1), 3), (.goto 13, 3)]
theorem s_Ma_lossOf_61 : Seg 186 61 g_Ma_lossOf_61 := seg_of (by decide +kernel)
def g_Ma_lossOf_67 : List (Instr × Nat) := [(.iload 4, 2), (.ireturn, 1)]
theorem s_Ma_lossOf_67 : Seg 186 67 g_Ma_lossOf_67 := seg_of (by decide +kernel)
/-! Pl init -/
theorem mk_Pl_init : 187 < 256 ∧ mtB 187 = true := ⟨by decide, mk_187⟩
def g_Pl_init_0 : List (Instr × Nat) := [(.aload 0, 1), (.nop, 3), (.aload 0, 1), (.iconst 20, 2), (.newarray .int, 2), (.putstatic 1281, 3), (.aload 0, 1), (.iconst 20, 2), (.newarray .int, 2), (.putstatic 1282, 3), (.aload 0, 1), (.iconst 20, 2), (.newarray .int, 2), (.putstatic 1283, 3), (.aload 0, 1), (.iconst 20, 2), (.newarray .int, 2), (.putstatic 1284, 3), (.aload 0, 1), (.aload 1, 1), (.putstatic 1280, 3), (.return_, 1)]
theorem s_Pl_init_0 : Seg 187 0 g_Pl_init_0 := seg_of (by decide +kernel)
/-! Pl add -/
theorem mk_Pl_add : 188 < 256 ∧ mtB 188 = true := ⟨by decide, mk_188⟩
def g_Pl_add_0 : List (Instr × Nat) := [(.aload 0, 1), (.getstatic 1281, 3), (.aload 0, 1), (.getfield 1285, 3), (.iload 1, 1), (.iastore, 1), (.aload 0, 1), (.getstatic 1282, 3), (.aload 0, 1), (.getfield 1285, 3), (.iload 2, 1), (.iastore, 1), (.aload 0, 1), (.getstatic 1283, 3), (.aload 0, 1), (.getfield 1285, 3), (.iload 3, 1), (.iastore, 1), (.aload 0, 1), (.getstatic 1284, 3), (.aload 0, 1), (.getfield 1285, 3), (.iload 4, 2), (.iastore, 1), (.aload 0, 1), (.dup, 1), (.getfield 1285, 3), (.iconst 1, 1), (.iadd, 1), (.putfield 1285, 3), (.return_, 1)]
theorem s_Pl_add_0 : Seg 188 0 g_Pl_add_0 := seg_of (by decide +kernel)
/-! Pl countOf -/
theorem mk_Pl_countOf : 189 < 256 ∧ mtB 189 = true := ⟨by decide, mk_189⟩
def g_Pl_countOf_0 : List (Instr × Nat) := [(.iconst 0, 1), (.istore 3, 1), (.iconst 0, 1), (.istore 4, 2)]
theorem s_Pl_countOf_0 : Seg 189 0 g_Pl_countOf_0 := seg_of (by decide +kernel)
def g_Pl_countOf_5 : List (Instr × Nat) := [(.iload 4, 2), (.aload 0, 1), (.getfield 1285, 3), (.if_icmp .ge 60, 3), (.aload 0, 1), (.getstatic 1281, 3), (.iload 4, 2), (.iaload, 1), (.iload 1, 1), (.if_icmp .ne 54, 3), (.aload 0, 1), (.getstatic 1280, 3), (.aload 0, 1), (.getstatic 1283, 3), (.iload 4, 2), (.iaload, 1), (.aaload, 1), (.aload 0, 1), (.getstatic 1284, 3), (.iload 4, 2), (.iaload, 1), (.invokevirtual 2290208, 3), (.iload 2, 1), (.if_icmp .ne 54, 3), (.iinc 3 (1), 3)]
theorem s_Pl_countOf_5 : Seg 189 5 g_Pl_countOf_5 := seg_of (by decide +kernel)
def g_Pl_countOf_54 : List (Instr × Nat) := [(.iinc 4 (1), 3), (.goto 5, 3)]
theorem s_Pl_countOf_54 : Seg 189 54 g_Pl_countOf_54 := seg_of (by decide +kernel)
def g_Pl_countOf_60 : List (Instr × Nat) := [(.iload 3, 1), (.ireturn, 1)]
theorem s_Pl_countOf_60 : Seg 189 60 g_Pl_countOf_60 := seg_of (by decide +kernel)
/-! Pl weighBefore -/
theorem mk_Pl_weighBefore : 190 < 256 ∧ mtB 190 = true := ⟨by decide, mk_190⟩
def g_Pl_weighBefore_0 : List (Instr × Nat) := [(.aload 2, 1), (.iconst 0, 1), (.invokeinterface 252 2, 3), (.iconst 0, 1), (.istore 3, 1)]
theorem s_Pl_weighBefore_0 : Seg 190 0 g_Pl_weighBefore_0 := seg_of (by decide +kernel)
def g_Pl_weighBefore_7 : List (Instr × Nat) := [(.iload 3, 1), (.aload 0, 1), (.getfield 1285, 3), (.if_icmp .ge 70, 3), (.aload 0, 1), (.getstatic 1283, 3), (.iload 3, 1), (.iaload, 1), (.iload 1, 1), (.if_icmp .ge 64, 3), (.aload 2, 1), (.aload 0, 1), (.getstatic 1282, 3), (.iload 3, 1), (.iaload, 1), (.dup2, 1), (.iaload, 1), (.aload 0, 1), (.getstatic 1280, 3), (.aload 0, 1), (.getstatic 1283, 3), (.iload 3, 1), (.iaload, 1), (.aaload, 1), (.aload 0, 1), (.getstatic 1284, 3), (.iload 3, 1), (.iaload, 1), (.invokevirtual 2290208, 3), (.ifCond .eq 61, 3), (.iconst 1, 1), (.goto 62, 3)]
theorem s_Pl_weighBefore_7 : Seg 190 7 g_Pl_weighBefore_7 := seg_of (by decide +kernel)
def g_Pl_weighBefore_61 : List (Instr × Nat) := [(.iconst (-1), 1)]
theorem s_Pl_weighBefore_61 : Seg 190 61 g_Pl_weighBefore_61 := seg_of (by decide +kernel)
def g_Pl_weighBefore_62 : List (Instr × Nat) := [(.iadd, 1), (.iastore, 1)]
theorem s_Pl_weighBefore_62 : Seg 190 62 g_Pl_weighBefore_62 := seg_of (by decide +kernel)
def g_Pl_weighBefore_64 : List (Instr × Nat) := [(.iinc 3 (1), 3), (.goto 7, 3)]
theorem s_Pl_weighBefore_64 : Seg 190 64 g_Pl_weighBefore_64 := seg_of (by decide +kernel)
def g_Pl_weighBefore_70 : List (Instr × Nat) := [(.return_, 1)]
theorem s_Pl_weighBefore_70 : Seg 190 70 g_Pl_weighBefore_70 := seg_of (by decide +kernel)
