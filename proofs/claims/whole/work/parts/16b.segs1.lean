/-! ===== the segments of the methods ===== -/
/-! T leans -/
theorem mk_T_leans : 38 < 256 ∧ mtB 38 = true := ⟨by decide, mk_38⟩
def g_T_leans_0 : List (Instr × Nat) := [(.aload 0, 1), (.iload 1, 1), (.invokevirtual 420211, 3), (.astore 3, 1), (.aload 3, 1), (.ifnull 18, 3)]
theorem s_T_leans_0 : Seg 38 0 g_T_leans_0 := seg_of (by decide +kernel)
def g_T_leans_10 : List (Instr × Nat) := [(.aload 3, 1), (.iload 2, 1), (.invokevirtual 1770204, 3), (.ifCond .ne 20, 3)]
theorem s_T_leans_10 : Seg 38 10 g_T_leans_10 := seg_of (by decide +kernel)
def g_T_leans_18 : List (Instr × Nat) := [(.iconst (-1), 1), (.ireturn, 1)]
theorem s_T_leans_18 : Seg 38 18 g_T_leans_18 := seg_of (by decide +kernel)
def g_T_leans_20 : List (Instr × Nat) := [(.aload 0, 1), (.iload 1, 1), (.invokevirtual 440211, 3), (.iconst 0, 1), (.istore 4, 2), (.iconst 0, 1), (.istore 5, 2)]
theorem s_T_leans_20 : Seg 38 20 g_T_leans_20 := seg_of (by decide +kernel)
def g_T_leans_31 : List (Instr × Nat) := [(.iload 5, 2), (.aload 3, 1), (.getfield 1024, 3), (.if_icmp .ge 70, 3)]
theorem s_T_leans_31 : Seg 38 31 g_T_leans_31 := seg_of (by decide +kernel)
def g_T_leans_40 : List (Instr × Nat) := [(.aload 0, 1), (.getstatic 2823, 3), (.iload 1, 1), (.aaload, 1), (.iload 5, 2), (.aload 3, 1), (.iload 2, 1), (.iload 5, 2), (.invokevirtual 1780304, 3), (.invokevirtual 2320308, 3), (.ifCond .eq 64, 3)]
theorem s_T_leans_40 : Seg 38 40 g_T_leans_40 := seg_of (by decide +kernel)
def g_T_leans_61 : List (Instr × Nat) := [(.iinc 4 (1), 3)]
theorem s_T_leans_61 : Seg 38 61 g_T_leans_61 := seg_of (by decide +kernel)
def g_T_leans_64 : List (Instr × Nat) := [(.iinc 5 (1), 3), (.goto 31, 3)]
theorem s_T_leans_64 : Seg 38 64 g_T_leans_64 := seg_of (by decide +kernel)
def g_T_leans_70 : List (Instr × Nat) := [(.iload 4, 2), (.ireturn, 1)]
theorem s_T_leans_70 : Seg 38 70 g_T_leans_70 := seg_of (by decide +kernel)
/-! T minds -/
theorem mk_T_minds : 39 < 256 ∧ mtB 39 = true := ⟨by decide, mk_39⟩
def g_T_minds_0 : List (Instr × Nat) := [(.aload 0, 1), (.iload 2, 1), (.invokevirtual 420211, 3), (.astore 3, 1), (.aload 3, 1), (.ifnull 21, 3)]
theorem s_T_minds_0 : Seg 39 0 g_T_minds_0 := seg_of (by decide +kernel)
def g_T_minds_10 : List (Instr × Nat) := [(.aload 0, 1), (.getstatic 2816, 3), (.iload 1, 1), (.invokevirtual 1500201, 3), (.ifCond .ne 23, 3)]
theorem s_T_minds_10 : Seg 39 10 g_T_minds_10 := seg_of (by decide +kernel)
def g_T_minds_21 : List (Instr × Nat) := [(.iconst (-1), 1), (.ireturn, 1)]
theorem s_T_minds_21 : Seg 39 21 g_T_minds_21 := seg_of (by decide +kernel)
def g_T_minds_23 : List (Instr × Nat) := [(.aload 0, 1), (.iload 2, 1), (.invokevirtual 440211, 3), (.aload 0, 1), (.getstatic 2825, 3), (.iload 2, 1), (.aload 0, 1), (.getstatic 2824, 3), (.getstatic 2052, 3), (.invokevirtual 1900305, 3), (.aload 0, 1), (.getstatic 2824, 3), (.iload 1, 1), (.putfield 2065, 3), (.aload 0, 1), (.getstatic 2824, 3), (.iconst 1, 1), (.aload 0, 1), (.getfield 2832, 3), (.ishl, 1), (.iconst 1, 1), (.isub, 1), (.putfield 2066, 3), (.aload 0, 1), (.getstatic 2824, 3), (.aload 3, 1), (.invokevirtual 2150208, 3), (.aload 0, 1), (.getstatic 2824, 3), (.iconst (-1), 1), (.putfield 2065, 3), (.aload 0, 1), (.getstatic 2824, 3), (.getfield 2066, 3), (.ireturn, 1)]
theorem s_T_minds_23 : Seg 39 23 g_T_minds_23 := seg_of (by decide +kernel)
/-! T count -/
theorem mk_T_count : 40 < 256 ∧ mtB 40 = true := ⟨by decide, mk_40⟩
def g_T_count_0 : List (Instr × Nat) := [(.iload 1, 1), (.tableswitch 124 0 9 #[56, 64, 72, 77, 82, 87, 92, 100, 108, 116], 55)]
theorem s_T_count_0 : Seg 40 0 g_T_count_0 := seg_of (by decide +kernel)
def g_T_count_56 : List (Instr × Nat) := [(.aload 0, 1), (.getstatic 2816, 3), (.getfield 260, 3), (.ireturn, 1)]
theorem s_T_count_56 : Seg 40 56 g_T_count_56 := seg_of (by decide +kernel)
def g_T_count_64 : List (Instr × Nat) := [(.aload 0, 1), (.getstatic 2816, 3), (.getfield 261, 3), (.ireturn, 1)]
theorem s_T_count_64 : Seg 40 64 g_T_count_64 := seg_of (by decide +kernel)
def g_T_count_72 : List (Instr × Nat) := [(.aload 0, 1), (.getfield 2829, 3), (.ireturn, 1)]
theorem s_T_count_72 : Seg 40 72 g_T_count_72 := seg_of (by decide +kernel)
def g_T_count_77 : List (Instr × Nat) := [(.aload 0, 1), (.getfield 2830, 3), (.ireturn, 1)]
theorem s_T_count_77 : Seg 40 77 g_T_count_77 := seg_of (by decide +kernel)
def g_T_count_82 : List (Instr × Nat) := [(.aload 0, 1), (.getfield 2831, 3), (.ireturn, 1)]
theorem s_T_count_82 : Seg 40 82 g_T_count_82 := seg_of (by decide +kernel)
def g_T_count_87 : List (Instr × Nat) := [(.aload 0, 1), (.getfield 2832, 3), (.ireturn, 1)]
theorem s_T_count_87 : Seg 40 87 g_T_count_87 := seg_of (by decide +kernel)
def g_T_count_92 : List (Instr × Nat) := [(.aload 0, 1), (.getstatic 2825, 3), (.getfield 1285, 3), (.ireturn, 1)]
theorem s_T_count_92 : Seg 40 92 g_T_count_92 := seg_of (by decide +kernel)
def g_T_count_100 : List (Instr × Nat) := [(.aload 0, 1), (.getstatic 2827, 3), (.getfield 778, 3), (.ireturn, 1)]
theorem s_T_count_100 : Seg 40 100 g_T_count_100 := seg_of (by decide +kernel)
def g_T_count_108 : List (Instr × Nat) := [(.aload 0, 1), (.getstatic 2828, 3), (.getfield 5, 3), (.ireturn, 1)]
theorem s_T_count_108 : Seg 40 108 g_T_count_108 := seg_of (by decide +kernel)
def g_T_count_116 : List (Instr × Nat) := [(.aload 0, 1), (.getstatic 2818, 3), (.getfield 2305, 3), (.ireturn, 1)]
theorem s_T_count_116 : Seg 40 116 g_T_count_116 := seg_of (by decide +kernel)
def g_T_count_124 : List (Instr × Nat) := [(.iconst (-1), 1), (.ireturn, 1)]
theorem s_T_count_124 : Seg 40 124 g_T_count_124 := seg_of (by decide +kernel)
/-! T slot -/
theorem mk_T_slot : 41 < 256 ∧ mtB 41 = true := ⟨by decide, mk_41⟩
def g_T_slot_0 : List (Instr × Nat) := [(.iload 0, 1), (.iconst 4, 1), (.imul, 1), (.iload 1, 1), (.iadd, 1), (.ireturn, 1)]
theorem s_T_slot_0 : Seg 41 0 g_T_slot_0 := seg_of (by decide +kernel)
/-! T matterAt -/
theorem mk_T_matterAt : 42 < 256 ∧ mtB 42 = true := ⟨by decide, mk_42⟩
def g_T_matterAt_0 : List (Instr × Nat) := [(.iload 1, 1), (.ifCond .lt 21, 3)]
theorem s_T_matterAt_0 : Seg 42 0 g_T_matterAt_0 := seg_of (by decide +kernel)
def g_T_matterAt_4 : List (Instr × Nat) := [(.iload 1, 1), (.aload 0, 1), (.getfield 2829, 3), (.if_icmp .ge 21, 3)]
theorem s_T_matterAt_4 : Seg 42 4 g_T_matterAt_4 := seg_of (by decide +kernel)
def g_T_matterAt_12 : List (Instr × Nat) := [(.aload 0, 1), (.getstatic 2817, 3), (.iload 1, 1), (.aaload, 1), (.goto 22, 3)]
theorem s_T_matterAt_12 : Seg 42 12 g_T_matterAt_12 := seg_of (by decide +kernel)
def g_T_matterAt_21 : List (Instr × Nat) := [(.aconst_null, 1)]
theorem s_T_matterAt_21 : Seg 42 21 g_T_matterAt_21 := seg_of (by decide +kernel)
def g_T_matterAt_22 : List (Instr × Nat) := [(.areturn, 1)]
theorem s_T_matterAt_22 : Seg 42 22 g_T_matterAt_22 := seg_of (by decide +kernel)
/-! T unsettleFrom -/
theorem mk_T_unsettleFrom : 43 < 256 ∧ mtB 43 = true := ⟨by decide, mk_43⟩
def g_T_unsettleFrom_0 : List (Instr × Nat) := [(.aload 0, 1), (.aload 0, 1), (.getfield 2833, 3), (.iload 1, 1), (.fsub, 3), (.putfield 2833, 3), (.return_, 1)]
theorem s_T_unsettleFrom_0 : Seg 43 0 g_T_unsettleFrom_0 := seg_of (by decide +kernel)
/-! T settle -/
theorem mk_T_settle : 44 < 256 ∧ mtB 44 = true := ⟨by decide, mk_44⟩
def g_T_settle_0 : List (Instr × Nat) := [(.aload 0, 1), (.getfield 2833, 3), (.istore 2, 1)]
theorem s_T_settle_0 : Seg 44 0 g_T_settle_0 := seg_of (by decide +kernel)
def g_T_settle_5 : List (Instr × Nat) := [(.iload 2, 1), (.iload 1, 1), (.if_icmp .gt 68, 3)]
theorem s_T_settle_5 : Seg 44 5 g_T_settle_5 := seg_of (by decide +kernel)
def g_T_settle_10 : List (Instr × Nat) := [(.iload 2, 1), (.aload 0, 1), (.getfield 2829, 3), (.if_icmp .ge 68, 3)]
theorem s_T_settle_10 : Seg 44 10 g_T_settle_10 := seg_of (by decide +kernel)
def g_T_settle_18 : List (Instr × Nat) := [(.aload 0, 1), (.iload 2, 1), (.invokevirtual 420211, 3), (.astore 3, 1), (.aload 3, 1), (.ifnull 55, 3)]
theorem s_T_settle_18 : Seg 44 18 g_T_settle_18 := seg_of (by decide +kernel)
def g_T_settle_28 : List (Instr × Nat) := [(.aload 0, 1), (.getstatic 2825, 3), (.iload 2, 1), (.aload 0, 1), (.getstatic 2823, 3), (.iload 2, 1), (.aaload, 1), (.getstatic 2052, 3), (.invokevirtual 1900305, 3), (.aload 0, 1), (.getstatic 2823, 3), (.iload 2, 1), (.aaload, 1), (.aload 3, 1), (.invokevirtual 2150208, 3)]
theorem s_T_settle_28 : Seg 44 28 g_T_settle_28 := seg_of (by decide +kernel)
def g_T_settle_55 : List (Instr × Nat) := [(.aload 0, 1), (.iload 2, 1), (.iconst 1, 1), (.iadd, 1), (.putfield 2833, 3), (.iinc 2 (1), 3), (.goto 5, 3)]
theorem s_T_settle_55 : Seg 44 55 g_T_settle_55 := seg_of (by decide +kernel)
def g_T_settle_68 : List (Instr × Nat) := [(.return_, 1)]
theorem s_T_settle_68 : Seg 44 68 g_T_settle_68 := seg_of (by decide +kernel)
/-! T takenBy -/
theorem mk_T_takenBy : 45 < 256 ∧ mtB 45 = true := ⟨by decide, mk_45⟩
def g_T_takenBy_0 : List (Instr × Nat) := [(.aload 0, 1), (.getstatic 2828, 3), (.iload 1, 1), (.iload 2, 1), (.iload 3, 1), (.iload 4, 2), (.iload 5, 2), (.invokeinterface 41 2, 3), (.invokevirtual 1480500, 3), (.istore 6, 2), (.aload 0, 1), (.getstatic 2823, 3), (.iload 3, 1), (.aaload, 1), (.iload 2, 1), (.iload 4, 2), (.iload 5, 2), (.iload 6, 2), (.invokevirtual 2300508, 3), (.ireturn, 1)]
theorem s_T_takenBy_0 : Seg 45 0 g_T_takenBy_0 := seg_of (by decide +kernel)
/-! T gainByHidingOf -/
theorem mk_T_gainByHidingOf : 46 < 256 ∧ mtB 46 = true := ⟨by decide, mk_46⟩
def g_T_gainByHidingOf_0 : List (Instr × Nat) := [(.aload 0, 1), (.iload 2, 1), (.invokevirtual 420211, 3), (.astore 4, 2), (.aload 4, 2), (.ifnull 24, 3)]
theorem s_T_gainByHidingOf_0 : Seg 46 0 g_T_gainByHidingOf_0 := seg_of (by decide +kernel)
def g_T_gainByHidingOf_12 : List (Instr × Nat) := [(.aload 0, 1), (.getstatic 2823, 3), (.iload 2, 1), (.aaload, 1), (.getfield 2059, 3), (.ifCond .eq 26, 3)]
theorem s_T_gainByHidingOf_12 : Seg 46 12 g_T_gainByHidingOf_12 := seg_of (by decide +kernel)
def g_T_gainByHidingOf_24 : List (Instr × Nat) := [(.iconst 0, 1), (.ireturn, 1)]
theorem s_T_gainByHidingOf_24 : Seg 46 24 g_T_gainByHidingOf_24 := seg_of (by decide +kernel)
def g_T_gainByHidingOf_26 : List (Instr × Nat) := [(.aload 4, 2), (.iload 1, 1), (.aload 4, 2), (.getstatic 1026, 3), (.aload 0, 1), (.getstatic 2823, 3), (.iload 2, 1), (.aaload, 1), (.getfield 2061, 3), (.iaload, 1), (.invokevirtual 1860304, 3), (.istore 5, 2), (.iload 5, 2), (.ifCond .ne 56, 3)]
theorem s_T_gainByHidingOf_26 : Seg 46 26 g_T_gainByHidingOf_26 := seg_of (by decide +kernel)
def g_T_gainByHidingOf_54 : List (Instr × Nat) := [(.iconst 0, 1), (.ireturn, 1)]
theorem s_T_gainByHidingOf_54 : Seg 46 54 g_T_gainByHidingOf_54 := seg_of (by decide +kernel)
def g_T_gainByHidingOf_56 : List (Instr × Nat) := [(.aload 0, 1), (.getstatic 2825, 3), (.iload 2, 1), (.aload 0, 1), (.getstatic 2824, 3), (.getstatic 2052, 3), (.invokevirtual 1900305, 3), (.aload 4, 2), (.iload 1, 1), (.iload 3, 1), (.iconst 0, 1), (.invokevirtual 1810404, 3), (.aload 0, 1), (.getstatic 2824, 3), (.aload 4, 2), (.invokevirtual 2150208, 3), (.aload 4, 2), (.iload 1, 1), (.iload 3, 1), (.iconst 1, 1), (.invokevirtual 1810404, 3), (.aload 0, 1), (.getstatic 2824, 3), (.getfield 2059, 3), (.ifCond .ne 131, 3)]
theorem s_T_gainByHidingOf_56 : Seg 46 56 g_T_gainByHidingOf_56 := seg_of (by decide +kernel)
def g_T_gainByHidingOf_106 : List (Instr × Nat) := [(.iload 5, 2), (.aload 4, 2), (.iload 1, 1), (.aload 4, 2), (.getstatic 1026, 3), (.aload 0, 1), (.getstatic 2824, 3), (.getfield 2061, 3), (.iaload, 1), (.invokevirtual 1860304, 3), (.isub, 1), (.goto 132, 3)]
theorem s_T_gainByHidingOf_106 : Seg 46 106 g_T_gainByHidingOf_106 := seg_of (by decide +kernel)
def g_T_gainByHidingOf_131 : List (Instr × Nat) := [(.iconst 0, 1)]
theorem s_T_gainByHidingOf_131 : Seg 46 131 g_T_gainByHidingOf_131 := seg_of (by decide +kernel)
def g_T_gainByHidingOf_132 : List (Instr × Nat) := [(.ireturn, 1)]
theorem s_T_gainByHidingOf_132 : Seg 46 132 g_T_gainByHidingOf_132 := seg_of (by decide +kernel)
/-! T comesFirst -/
theorem mk_T_comesFirst : 47 < 256 ∧ mtB 47 = true := ⟨by decide, mk_47⟩
def g_T_comesFirst_0 : List (Instr × Nat) := [(.iload 0, 1), (.invokeinterface 254 1, 3), (.iload 1, 1), (.invokeinterface 254 1, 3), (.isub, 1), (.istore 2, 1), (.iload 0, 1), (.iload 1, 1), (.ixor, 1), (.istore 3, 1), (.iload 2, 1), (.ifCond .eq 30, 3)]
theorem s_T_comesFirst_0 : Seg 47 0 g_T_comesFirst_0 := seg_of (by decide +kernel)
def g_T_comesFirst_18 : List (Instr × Nat) := [(.iload 2, 1), (.ifCond .ge 26, 3)]
theorem s_T_comesFirst_18 : Seg 47 18 g_T_comesFirst_18 := seg_of (by decide +kernel)
def g_T_comesFirst_22 : List (Instr × Nat) := [(.iconst 1, 1), (.goto 44, 3)]
theorem s_T_comesFirst_22 : Seg 47 22 g_T_comesFirst_22 := seg_of (by decide +kernel)
def g_T_comesFirst_26 : List (Instr × Nat) := [(.iconst 0, 1), (.goto 44, 3)]
theorem s_T_comesFirst_26 : Seg 47 26 g_T_comesFirst_26 := seg_of (by decide +kernel)
def g_T_comesFirst_30 : List (Instr × Nat) := [(.iload 0, 1), (.iload 3, 1), (.iand, 1), (.iload 3, 1), (.ineg, 1), (.iand, 1), (.ifCond .eq 43, 3)]
theorem s_T_comesFirst_30 : Seg 47 30 g_T_comesFirst_30 := seg_of (by decide +kernel)
def g_T_comesFirst_39 : List (Instr × Nat) := [(.iconst 1, 1), (.goto 44, 3)]
theorem s_T_comesFirst_39 : Seg 47 39 g_T_comesFirst_39 := seg_of (by decide +kernel)
def g_T_comesFirst_43 : List (Instr × Nat) := [(.iconst 0, 1)]
theorem s_T_comesFirst_43 : Seg 47 43 g_T_comesFirst_43 := seg_of (by decide +kernel)
def g_T_comesFirst_44 : List (Instr × Nat) := [(.ireturn, 1)]
theorem s_T_comesFirst_44 : Seg 47 44 g_T_comesFirst_44 := seg_of (by decide +kernel)
/-! R init -/
theorem mk_R_init : 48 < 256 ∧ mtB 48 = true := ⟨by decide, mk_48⟩
def g_R_init_0 : List (Instr × Nat) := [(.aload 0, 1), (.nop, 3), (.aload 0, 1), (.iconst 8, 2), (.newarray .int, 2), (.putstatic 3073, 3), (.aload 0, 1), (.iconst 64, 2), (.newarray .int, 2), (.putstatic 3074, 3), (.aload 0, 1), (.iconst 8, 2), (.newarray .int, 2), (.putstatic 3075, 3), (.aload 0, 1), (.iconst 8, 2), (.newarray .boolean, 2), (.putstatic 3076, 3), (.aload 0, 1), (.iconst 4, 1), (.newarray .int, 2), (.putstatic 3077, 3), (.aload 0, 1), (.iconst 4, 1), (.newarray .int, 2), (.putstatic 3078, 3), (.aload 0, 1), (.iconst 640, 3), (.newarray .int, 2), (.putstatic 3079, 3), (.aload 0, 1), (.iconst 160, 3), (.newarray .int, 2), (.putstatic 3080, 3), (.aload 0, 1), (.iconst 4, 1), (.newarray .int, 2), (.putstatic 3081, 3), (.aload 0, 1), (.iconst 4, 1), (.newarray .int, 2), (.putstatic 3082, 3), (.aload 0, 1), (.iconst 8, 2), (.newarray .int, 2), (.putstatic 3083, 3), (.aload 0, 1), (.iconst 40, 2), (.newarray .int, 2), (.putstatic 3084, 3), (.aload 0, 1), (.iconst 40, 2), (.newarray .int, 2), (.putstatic 3085, 3), (.aload 0, 1), (.iconst 40, 2), (.newarray .int, 2), (.putstatic 3086, 3), (.aload 0, 1), (.iconst 40, 2), (.newarray .int, 2), (.putstatic 3087, 3), (.aload 0, 1), (.iconst 40, 2), (.newarray .int, 2), (.putstatic 3088, 3), (.aload 0, 1), (.iconst 40, 2), (.newarray .int, 2), (.putstatic 3089, 3), (.aload 0, 1), (.iconst 160, 3), (.newarray .byte, 2), (.putstatic 3095, 3), (.aload 0, 1), (.iconst 2560, 3), (.newarray .byte, 2), (.putstatic 3096, 3), (.aload 0, 1), (.iconst 16, 2), (.newarray .int, 2), (.putstatic 3097, 3), (.aload 0, 1), (.iconst 128, 3), (.newarray .int, 2), (.putstatic 3098, 3), (.aload 0, 1), (.aload 0, 1), (.getstatic 3095, 3), (.putstatic 3099, 3), (.aload 0, 1), (.ldc 2, 2), (.putstatic 3110, 3), (.aload 0, 1), (.ldc 6, 2), (.putstatic 3111, 3), (.aload 0, 1), (.iconst 240, 3), (.newarray .int, 2), (.putstatic 3113, 3), (.aload 0, 1), (.iconst 240, 3), (.newarray .int, 2), (.putstatic 3114, 3), (.aload 0, 1), (.iconst 240, 3), (.newarray .int, 2), (.putstatic 3115, 3), (.aload 0, 1), (.iconst 240, 3), (.newarray .int, 2), (.putstatic 3116, 3), (.aload 0, 1), (.iconst 240, 3), (.newarray .int, 2), (.putstatic 3117, 3), (.aload 0, 1), (.iconst 240, 3), (.newarray .int, 2), (.putstatic 3118, 3), (.aload 0, 1), (.iconst 20, 2), (.newarray .int, 2), (.putstatic 3119, 3), (.aload 0, 1), (.iconst 20, 2), (.newarray .int, 2), (.putstatic 3120, 3), (.aload 0, 1), (.iconst 8, 2), (.newarray .int, 2), (.putstatic 3121, 3), (.aload 0, 1), (.iconst 31, 2), (.newarray .int, 2), (.putstatic 3122, 3), (.aload 0, 1), (.iconst 620, 3), (.newarray .int, 2), (.putstatic 3123, 3), (.aload 0, 1), (.iconst 620, 3), (.newarray .int, 2), (.putstatic 3124, 3), (.aload 0, 1), (.iconst 4, 1), (.newarray .int, 2), (.putstatic 3129, 3), (.aload 0, 1), (.iconst 4, 1), (.newarray .int, 2), (.putstatic 3130, 3), (.aload 0, 1), (.iconst 13200, 3), (.newarray .int, 2), (.putstatic 3131, 3), (.aload 0, 1), (.iconst (-1), 1), (.putfield 3133, 3), (.aload 0, 1), (.iconst 20, 2), (.newarray .int, 2), (.putstatic 3134, 3), (.aload 0, 1), (.iconst 20, 2), (.newarray .int, 2), (.putstatic 3135, 3), (.aload 0, 1), (.iconst 20, 2), (.newarray .int, 2), (.putstatic 3136, 3), (.aload 0, 1), (.iconst 20, 2), (.newarray .int, 2), (.putstatic 3137, 3), (.aload 0, 1), (.iconst 20, 2), (.newarray .int, 2), (.putstatic 3138, 3), (.aload 0, 1), (.iconst 8, 2), (.newarray .int, 2), (.putstatic 3140, 3), (.aload 0, 1), (.iconst 8, 2), (.newarray .int, 2), (.putstatic 3141, 3), (.aload 0, 1), (.iconst 8, 2), (.newarray .int, 2), (.putstatic 3142, 3), (.aload 0, 1), (.iconst 8, 2), (.newarray .int, 2), (.putstatic 3143, 3), (.aload 0, 1), (.iconst 8, 2), (.newarray .int, 2), (.putstatic 3144, 3), (.aload 0, 1), (.iconst 8, 2), (.newarray .int, 2), (.putstatic 3145, 3), (.aload 0, 1), (.iconst 8, 2), (.newarray .int, 2), (.putstatic 3146, 3), (.aload 0, 1), (.iconst 8, 2), (.newarray .int, 2), (.putstatic 3147, 3), (.aload 0, 1), (.iconst 8, 2), (.newarray .int, 2), (.putstatic 3148, 3), (.aload 0, 1), (.iconst 60, 2), (.newarray .int, 2), (.putstatic 3150, 3), (.aload 0, 1), (.iconst 60, 2), (.newarray .int, 2), (.putstatic 3151, 3), (.aload 0, 1), (.iconst 60, 2), (.newarray .int, 2), (.putstatic 3152, 3), (.aload 0, 1), (.iconst 60, 2), (.newarray .int, 2), (.putstatic 3153, 3), (.aload 0, 1), (.iconst 60, 2), (.newarray .int, 2), (.putstatic 3154, 3), (.aload 0, 1), (.iconst 60, 2), (.newarray .boolean, 2), (.putstatic 3155, 3), (.return_, 1)]
theorem s_R_init_0 : Seg 48 0 g_R_init_0 := seg_of (by decide +kernel)
/-! R thrown -/
theorem mk_R_thrown : 49 < 256 ∧ mtB 49 = true := ⟨by decide, mk_49⟩
def g_R_thrown_0 : List (Instr × Nat) := [(.aload 0, 1), (.getfield 3072, 3), (.ireturn, 1)]
theorem s_R_thrown_0 : Seg 49 0 g_R_thrown_0 := seg_of (by decide +kernel)
/-! R isIn -/
theorem mk_R_isIn : 50 < 256 ∧ mtB 50 = true := ⟨by decide, mk_50⟩
def g_R_isIn_0 : List (Instr × Nat) := [(.iload 0, 1), (.iload 1, 1), (.if_icmp .lt 14, 3)]
theorem s_R_isIn_0 : Seg 50 0 g_R_isIn_0 := seg_of (by decide +kernel)
def g_R_isIn_5 : List (Instr × Nat) := [(.iload 0, 1), (.iload 2, 1), (.if_icmp .gt 14, 3)]
theorem s_R_isIn_5 : Seg 50 5 g_R_isIn_5 := seg_of (by decide +kernel)
def g_R_isIn_10 : List (Instr × Nat) := [(.iconst 1, 1), (.goto 15, 3)]
theorem s_R_isIn_10 : Seg 50 10 g_R_isIn_10 := seg_of (by decide +kernel)
def g_R_isIn_14 : List (Instr × Nat) := [(.iconst 0, 1)]
theorem s_R_isIn_14 : Seg 50 14 g_R_isIn_14 := seg_of (by decide +kernel)
def g_R_isIn_15 : List (Instr × Nat) := [(.ireturn, 1)]
theorem s_R_isIn_15 : Seg 50 15 g_R_isIn_15 := seg_of (by decide +kernel)
/-! R isElder -/
theorem mk_R_isElder : 51 < 256 ∧ mtB 51 = true := ⟨by decide, mk_51⟩
def g_R_isElder_0 : List (Instr × Nat) := [(.iload 1, 1), (.ifCond .lt 16, 3)]
theorem s_R_isElder_0 : Seg 51 0 g_R_isElder_0 := seg_of (by decide +kernel)
def g_R_isElder_4 : List (Instr × Nat) := [(.iload 1, 1), (.aload 0, 1), (.getfield 3090, 3), (.if_icmp .ge 16, 3)]
theorem s_R_isElder_4 : Seg 51 4 g_R_isElder_4 := seg_of (by decide +kernel)
def g_R_isElder_12 : List (Instr × Nat) := [(.iconst 1, 1), (.goto 17, 3)]
theorem s_R_isElder_12 : Seg 51 12 g_R_isElder_12 := seg_of (by decide +kernel)
def g_R_isElder_16 : List (Instr × Nat) := [(.iconst 0, 1)]
theorem s_R_isElder_16 : Seg 51 16 g_R_isElder_16 := seg_of (by decide +kernel)
def g_R_isElder_17 : List (Instr × Nat) := [(.ireturn, 1)]
theorem s_R_isElder_17 : Seg 51 17 g_R_isElder_17 := seg_of (by decide +kernel)
/-! R isMatter -/
theorem mk_R_isMatter : 52 < 256 ∧ mtB 52 = true := ⟨by decide, mk_52⟩
def g_R_isMatter_0 : List (Instr × Nat) := [(.iload 1, 1), (.ifCond .lt 16, 3)]
theorem s_R_isMatter_0 : Seg 52 0 g_R_isMatter_0 := seg_of (by decide +kernel)
def g_R_isMatter_4 : List (Instr × Nat) := [(.iload 1, 1), (.aload 0, 1), (.getfield 3091, 3), (.if_icmp .ge 16, 3)]
theorem s_R_isMatter_4 : Seg 52 4 g_R_isMatter_4 := seg_of (by decide +kernel)
def g_R_isMatter_12 : List (Instr × Nat) := [(.iconst 1, 1), (.goto 17, 3)]
theorem s_R_isMatter_12 : Seg 52 12 g_R_isMatter_12 := seg_of (by decide +kernel)
def g_R_isMatter_16 : List (Instr × Nat) := [(.iconst 0, 1)]
theorem s_R_isMatter_16 : Seg 52 16 g_R_isMatter_16 := seg_of (by decide +kernel)
def g_R_isMatter_17 : List (Instr × Nat) := [(.ireturn, 1)]
theorem s_R_isMatter_17 : Seg 52 17 g_R_isMatter_17 := seg_of (by decide +kernel)
/-! R isPart -/
theorem mk_R_isPart : 53 < 256 ∧ mtB 53 = true := ⟨by decide, mk_53⟩
def g_R_isPart_0 : List (Instr × Nat) := [(.aload 0, 1), (.iload 1, 1), (.invokevirtual 520212, 3), (.ifCond .eq 28, 3)]
theorem s_R_isPart_0 : Seg 53 0 g_R_isPart_0 := seg_of (by decide +kernel)
def g_R_isPart_8 : List (Instr × Nat) := [(.iload 2, 1), (.iconst 0, 1), (.aload 0, 1), (.getstatic 3077, 3), (.iload 1, 1), (.iaload, 1), (.iconst 1, 1), (.isub, 1), (.invokeinterface 50 3, 3), (.ifCond .eq 28, 3)]
theorem s_R_isPart_8 : Seg 53 8 g_R_isPart_8 := seg_of (by decide +kernel)
def g_R_isPart_24 : List (Instr × Nat) := [(.iconst 1, 1), (.goto 29, 3)]
theorem s_R_isPart_24 : Seg 53 24 g_R_isPart_24 := seg_of (by decide +kernel)
def g_R_isPart_28 : List (Instr × Nat) := [(.iconst 0, 1)]
theorem s_R_isPart_28 : Seg 53 28 g_R_isPart_28 := seg_of (by decide +kernel)
def g_R_isPart_29 : List (Instr × Nat) := [(.ireturn, 1)]
theorem s_R_isPart_29 : Seg 53 29 g_R_isPart_29 := seg_of (by decide +kernel)
/-! R isWay -/
theorem mk_R_isWay : 54 < 256 ∧ mtB 54 = true := ⟨by decide, mk_54⟩
def g_R_isWay_0 : List (Instr × Nat) := [(.aload 0, 1), (.iload 1, 1), (.iload 2, 1), (.invokevirtual 530312, 3), (.ifCond .eq 29, 3)]
theorem s_R_isWay_0 : Seg 54 0 g_R_isWay_0 := seg_of (by decide +kernel)
def g_R_isWay_9 : List (Instr × Nat) := [(.iload 3, 1), (.iconst 0, 1), (.aload 0, 1), (.getstatic 3078, 3), (.iload 1, 1), (.iaload, 1), (.iconst 1, 1), (.isub, 1), (.invokeinterface 50 3, 3), (.ifCond .eq 29, 3)]
theorem s_R_isWay_9 : Seg 54 9 g_R_isWay_9 := seg_of (by decide +kernel)
def g_R_isWay_25 : List (Instr × Nat) := [(.iconst 1, 1), (.goto 30, 3)]
theorem s_R_isWay_25 : Seg 54 25 g_R_isWay_25 := seg_of (by decide +kernel)
def g_R_isWay_29 : List (Instr × Nat) := [(.iconst 0, 1)]
theorem s_R_isWay_29 : Seg 54 29 g_R_isWay_29 := seg_of (by decide +kernel)
def g_R_isWay_30 : List (Instr × Nat) := [(.ireturn, 1)]
theorem s_R_isWay_30 : Seg 54 30 g_R_isWay_30 := seg_of (by decide +kernel)
/-! R elder -/
theorem mk_R_elder : 55 < 256 ∧ mtB 55 = true := ⟨by decide, mk_55⟩
def g_R_elder_0 : List (Instr × Nat) := [(.aload 0, 1), (.iconst 0, 1), (.putfield 3072, 3), (.aload 0, 1), (.getfield 3090, 3), (.iconst 8, 2), (.if_icmp .eq 25, 3)]
theorem s_R_elder_0 : Seg 55 0 g_R_elder_0 := seg_of (by decide +kernel)
def g_R_elder_14 : List (Instr × Nat) := [(.iload 1, 1), (.iconst 20, 2), (.iconst 99, 2), (.invokeinterface 50 3, 3), (.ifCond .ne 27, 3)]
theorem s_R_elder_14 : Seg 55 14 g_R_elder_14 := seg_of (by decide +kernel)
def g_R_elder_25 : List (Instr × Nat) := [(.iconst (-1), 1), (.ireturn, 1)]
theorem s_R_elder_25 : Seg 55 25 g_R_elder_25 := seg_of (by decide +kernel)
def g_R_elder_27 : List (Instr × Nat) := [(.aload 0, 1), (.getstatic 3073, 3), (.aload 0, 1), (.getfield 3090, 3), (.iload 1, 1), (.iastore, 1), (.aload 0, 1), (.getstatic 3083, 3), (.aload 0, 1), (.getfield 3090, 3), (.iconst (-1), 1), (.iastore, 1), (.iconst 0, 1), (.istore 2, 1)]
theorem s_R_elder_27 : Seg 55 27 g_R_elder_27 := seg_of (by decide +kernel)
def g_R_elder_49 : List (Instr × Nat) := [(.iload 2, 1), (.iconst 80, 2), (.if_icmp .ge 76, 3)]
theorem s_R_elder_49 : Seg 55 49 g_R_elder_49 := seg_of (by decide +kernel)
def g_R_elder_55 : List (Instr × Nat) := [(.aload 0, 1), (.getstatic 3079, 3), (.iconst 80, 2), (.aload 0, 1), (.getfield 3090, 3), (.imul, 1), (.iload 2, 1), (.iadd, 1), (.iconst 1, 1), (.iastore, 1), (.iinc 2 (1), 3), (.goto 49, 3)]
theorem s_R_elder_55 : Seg 55 55 g_R_elder_55 := seg_of (by decide +kernel)
def g_R_elder_76 : List (Instr × Nat) := [(.iconst 0, 1), (.istore 2, 1)]
theorem s_R_elder_76 : Seg 55 76 g_R_elder_76 := seg_of (by decide +kernel)
def g_R_elder_78 : List (Instr × Nat) := [(.iload 2, 1), (.iconst 20, 2), (.if_icmp .ge 105, 3)]
theorem s_R_elder_78 : Seg 55 78 g_R_elder_78 := seg_of (by decide +kernel)
def g_R_elder_84 : List (Instr × Nat) := [(.aload 0, 1), (.getstatic 3080, 3), (.iconst 20, 2), (.aload 0, 1), (.getfield 3090, 3), (.imul, 1), (.iload 2, 1), (.iadd, 1), (.iconst 1, 1), (.iastore, 1), (.iinc 2 (1), 3), (.goto 78, 3)]
theorem s_R_elder_84 : Seg 55 84 g_R_elder_84 := seg_of (by decide +kernel)
def g_R_elder_105 : List (Instr × Nat) := [(.aload 0, 1), (.dup, 1), (.getfield 3090, 3), (.iconst 1, 1), (.iadd, 1), (.putfield 3090, 3), (.aload 0, 1), (.getfield 3090, 3), (.iconst 1, 1), (.isub, 1), (.ireturn, 1)]
theorem s_R_elder_105 : Seg 55 105 g_R_elder_105 := seg_of (by decide +kernel)
/-! R left -/
theorem mk_R_left : 56 < 256 ∧ mtB 56 = true := ⟨by decide, mk_56⟩
def g_R_left_0 : List (Instr × Nat) := [(.aload 0, 1), (.iconst 0, 1), (.putfield 3072, 3), (.aload 0, 1), (.iload 1, 1), (.invokevirtual 510212, 3), (.ifCond .eq 23, 3)]
theorem s_R_left_0 : Seg 56 0 g_R_left_0 := seg_of (by decide +kernel)
def g_R_left_13 : List (Instr × Nat) := [(.aload 0, 1), (.getstatic 3076, 3), (.iload 1, 1), (.caload, 1), (.iload 2, 1), (.if_icmp .ne 25, 3)]
theorem s_R_left_13 : Seg 56 13 g_R_left_13 := seg_of (by decide +kernel)
def g_R_left_23 : List (Instr × Nat) := [(.iconst 0, 1), (.ireturn, 1)]
theorem s_R_left_23 : Seg 56 23 g_R_left_23 := seg_of (by decide +kernel)
def g_R_left_25 : List (Instr × Nat) := [(.aload 0, 1), (.getstatic 3076, 3), (.iload 1, 1), (.iload 2, 1), (.castore, 1), (.iconst 1, 1), (.ireturn, 1)]
theorem s_R_left_25 : Seg 56 25 g_R_left_25 := seg_of (by decide +kernel)
/-! R sit -/
theorem mk_R_sit : 57 < 256 ∧ mtB 57 = true := ⟨by decide, mk_57⟩
def g_R_sit_0 : List (Instr × Nat) := [(.aload 0, 1), (.iconst 0, 1), (.putfield 3093, 3), (.iconst 20, 2), (.istore 1, 1)]
theorem s_R_sit_0 : Seg 57 0 g_R_sit_0 := seg_of (by decide +kernel)
def g_R_sit_8 : List (Instr × Nat) := [(.iload 1, 1), (.iconst 100, 2), (.if_icmp .ge 78, 3)]
theorem s_R_sit_8 : Seg 57 8 g_R_sit_8 := seg_of (by decide +kernel)
def g_R_sit_14 : List (Instr × Nat) := [(.iconst 0, 1), (.istore 2, 1)]
theorem s_R_sit_14 : Seg 57 14 g_R_sit_14 := seg_of (by decide +kernel)
def g_R_sit_16 : List (Instr × Nat) := [(.iload 2, 1), (.aload 0, 1), (.getfield 3090, 3), (.if_icmp .ge 72, 3)]
theorem s_R_sit_16 : Seg 57 16 g_R_sit_16 := seg_of (by decide +kernel)
def g_R_sit_24 : List (Instr × Nat) := [(.aload 0, 1), (.getstatic 3073, 3), (.iload 2, 1), (.iaload, 1), (.iload 1, 1), (.if_icmp .ne 66, 3)]
theorem s_R_sit_24 : Seg 57 24 g_R_sit_24 := seg_of (by decide +kernel)
def g_R_sit_34 : List (Instr × Nat) := [(.aload 0, 1), (.getstatic 3076, 3), (.iload 2, 1), (.caload, 1), (.ifCond .eq 46, 3)]
theorem s_R_sit_34 : Seg 57 34 g_R_sit_34 := seg_of (by decide +kernel)
def g_R_sit_43 : List (Instr × Nat) := [(.goto 66, 3)]
theorem s_R_sit_43 : Seg 57 43 g_R_sit_43 := seg_of (by decide +kernel)
def g_R_sit_46 : List (Instr × Nat) := [(.aload 0, 1), (.getstatic 3075, 3), (.aload 0, 1), (.getfield 3093, 3), (.iload 2, 1), (.iastore, 1), (.aload 0, 1), (.dup, 1), (.getfield 3093, 3), (.iconst 1, 1), (.iadd, 1), (.putfield 3093, 3)]
theorem s_R_sit_46 : Seg 57 46 g_R_sit_46 := seg_of (by decide +kernel)
def g_R_sit_66 : List (Instr × Nat) := [(.iinc 2 (1), 3), (.goto 16, 3)]
theorem s_R_sit_66 : Seg 57 66 g_R_sit_66 := seg_of (by decide +kernel)
def g_R_sit_72 : List (Instr × Nat) := [(.iinc 1 (1), 3), (.goto 8, 3)]
theorem s_R_sit_72 : Seg 57 72 g_R_sit_72 := seg_of (by decide +kernel)
def g_R_sit_78 : List (Instr × Nat) := [(.return_, 1)]
theorem s_R_sit_78 : Seg 57 78 g_R_sit_78 := seg_of (by decide +kernel)
/-! R place -/
theorem mk_R_place : 58 < 256 ∧ mtB 58 = true := ⟨by decide, mk_58⟩
def g_R_place_0 : List (Instr × Nat) := [(.aload 0, 1), (.iconst 0, 1), (.putfield 3072, 3), (.aload 0, 1), (.invokevirtual 570112, 3), (.iload 1, 1), (.iconst 0, 1), (.aload 0, 1), (.getfield 3093, 3), (.iconst 1, 1), (.isub, 1), (.invokeinterface 50 3, 3), (.ifCond .eq 32, 3)]
theorem s_R_place_0 : Seg 58 0 g_R_place_0 := seg_of (by decide +kernel)
def g_R_place_23 : List (Instr × Nat) := [(.aload 0, 1), (.getstatic 3075, 3), (.iload 1, 1), (.iaload, 1), (.goto 33, 3)]
theorem s_R_place_23 : Seg 58 23 g_R_place_23 := seg_of (by decide +kernel)
def g_R_place_32 : List (Instr × Nat) := [(.iconst (-1), 1)]
theorem s_R_place_32 : Seg 58 32 g_R_place_32 := seg_of (by decide +kernel)
def g_R_place_33 : List (Instr × Nat) := [(.ireturn, 1)]
theorem s_R_place_33 : Seg 58 33 g_R_place_33 := seg_of (by decide +kernel)
/-! R heed -/
theorem mk_R_heed : 59 < 256 ∧ mtB 59 = true := ⟨by decide, mk_59⟩
def g_R_heed_0 : List (Instr × Nat) := [(.aload 0, 1), (.iconst 0, 1), (.putfield 3072, 3), (.aload 0, 1), (.iload 1, 1), (.invokevirtual 510212, 3), (.ifCond .eq 36, 3)]
theorem s_R_heed_0 : Seg 59 0 g_R_heed_0 := seg_of (by decide +kernel)
def g_R_heed_13 : List (Instr × Nat) := [(.aload 0, 1), (.iload 2, 1), (.invokevirtual 510212, 3), (.ifCond .eq 36, 3)]
theorem s_R_heed_13 : Seg 59 13 g_R_heed_13 := seg_of (by decide +kernel)
def g_R_heed_21 : List (Instr × Nat) := [(.iload 1, 1), (.iload 2, 1), (.if_icmp .eq 36, 3)]
theorem s_R_heed_21 : Seg 59 21 g_R_heed_21 := seg_of (by decide +kernel)
def g_R_heed_26 : List (Instr × Nat) := [(.iload 3, 1), (.iconst 0, 1), (.iconst 9, 2), (.invokeinterface 50 3, 3), (.ifCond .ne 38, 3)]
theorem s_R_heed_26 : Seg 59 26 g_R_heed_26 := seg_of (by decide +kernel)
def g_R_heed_36 : List (Instr × Nat) := [(.iconst 0, 1), (.ireturn, 1)]
theorem s_R_heed_36 : Seg 59 36 g_R_heed_36 := seg_of (by decide +kernel)
def g_R_heed_38 : List (Instr × Nat) := [(.aload 0, 1), (.getstatic 3074, 3), (.iconst 8, 2), (.iload 1, 1), (.imul, 1), (.iload 2, 1), (.iadd, 1), (.iload 3, 1), (.iastore, 1), (.iconst 1, 1), (.ireturn, 1)]
theorem s_R_heed_38 : Seg 59 38 g_R_heed_38 := seg_of (by decide +kernel)
/-! R matter -/
theorem mk_R_matter : 60 < 256 ∧ mtB 60 = true := ⟨by decide, mk_60⟩
def g_R_matter_0 : List (Instr × Nat) := [(.aload 0, 1), (.iconst 0, 1), (.putfield 3072, 3), (.aload 0, 1), (.getfield 3091, 3), (.iconst 4, 1), (.if_icmp .eq 31, 3)]
theorem s_R_matter_0 : Seg 60 0 g_R_matter_0 := seg_of (by decide +kernel)
def g_R_matter_13 : List (Instr × Nat) := [(.iload 1, 1), (.iconst 1, 1), (.iconst 5, 1), (.invokeinterface 50 3, 3), (.ifCond .eq 31, 3)]
theorem s_R_matter_13 : Seg 60 13 g_R_matter_13 := seg_of (by decide +kernel)
def g_R_matter_22 : List (Instr × Nat) := [(.iload 2, 1), (.iconst 2, 1), (.iconst 4, 1), (.invokeinterface 50 3, 3), (.ifCond .ne 33, 3)]
theorem s_R_matter_22 : Seg 60 22 g_R_matter_22 := seg_of (by decide +kernel)
def g_R_matter_31 : List (Instr × Nat) := [(.iconst (-1), 1), (.ireturn, 1)]
theorem s_R_matter_31 : Seg 60 31 g_R_matter_31 := seg_of (by decide +kernel)
def g_R_matter_33 : List (Instr × Nat) := [(.aload 0, 1), (.getstatic 3077, 3), (.aload 0, 1), (.getfield 3091, 3), (.iload 1, 1), (.iastore, 1), (.aload 0, 1), (.getstatic 3078, 3), (.aload 0, 1), (.getfield 3091, 3), (.iload 2, 1), (.iastore, 1), (.aload 0, 1), (.getstatic 3081, 3), (.aload 0, 1), (.getfield 3091, 3), (.iconst (-1), 1), (.iastore, 1), (.aload 0, 1), (.getstatic 3082, 3), (.aload 0, 1), (.getfield 3091, 3), (.iconst 0, 1), (.iastore, 1), (.aload 0, 1), (.dup, 1), (.getfield 3091, 3), (.iconst 1, 1), (.iadd, 1), (.putfield 3091, 3), (.aload 0, 1), (.getfield 3091, 3), (.iconst 1, 1), (.isub, 1), (.ireturn, 1)]
theorem s_R_matter_33 : Seg 60 33 g_R_matter_33 := seg_of (by decide +kernel)
/-! R holdAt -/
theorem mk_R_holdAt : 61 < 256 ∧ mtB 61 = true := ⟨by decide, mk_61⟩
def g_R_holdAt_0 : List (Instr × Nat) := [(.iconst 4, 1), (.iload 0, 1), (.imul, 1), (.iload 1, 1), (.iadd, 1), (.iconst 5, 1), (.imul, 1), (.iload 2, 1), (.iadd, 1), (.iconst 4, 1), (.imul, 1), (.iload 3, 1), (.iadd, 1), (.ireturn, 1)]
theorem s_R_holdAt_0 : Seg 61 0 g_R_holdAt_0 := seg_of (by decide +kernel)
/-! R hold -/
theorem mk_R_hold : 62 < 256 ∧ mtB 62 = true := ⟨by decide, mk_62⟩
def g_R_hold_0 : List (Instr × Nat) := [(.aload 0, 1), (.iconst 0, 1), (.putfield 3072, 3), (.aload 0, 1), (.iload 1, 1), (.invokevirtual 510212, 3), (.ifCond .eq 34, 3)]
theorem s_R_hold_0 : Seg 62 0 g_R_hold_0 := seg_of (by decide +kernel)
def g_R_hold_13 : List (Instr × Nat) := [(.aload 0, 1), (.iload 2, 1), (.iload 3, 1), (.iload 4, 2), (.invokevirtual 540412, 3), (.ifCond .eq 34, 3)]
theorem s_R_hold_13 : Seg 62 13 g_R_hold_13 := seg_of (by decide +kernel)
def g_R_hold_24 : List (Instr × Nat) := [(.iload 5, 2), (.iconst 0, 1), (.iconst 2, 1), (.invokeinterface 50 3, 3), (.ifCond .ne 36, 3)]
theorem s_R_hold_24 : Seg 62 24 g_R_hold_24 := seg_of (by decide +kernel)
def g_R_hold_34 : List (Instr × Nat) := [(.iconst 0, 1), (.ireturn, 1)]
theorem s_R_hold_34 : Seg 62 34 g_R_hold_34 := seg_of (by decide +kernel)
def g_R_hold_36 : List (Instr × Nat) := [(.aload 0, 1), (.getstatic 3079, 3), (.iload 1, 1), (.iload 2, 1), (.iload 3, 1), (.iload 4, 2), (.invokeinterface 61 4, 3), (.iload 5, 2), (.iastore, 1), (.iconst 1, 1), (.ireturn, 1)]
theorem s_R_hold_36 : Seg 62 36 g_R_hold_36 := seg_of (by decide +kernel)
/-! R held -/
theorem mk_R_held : 63 < 256 ∧ mtB 63 = true := ⟨by decide, mk_63⟩
def g_R_held_0 : List (Instr × Nat) := [(.aload 0, 1), (.iconst 0, 1), (.putfield 3072, 3), (.aload 0, 1), (.iload 1, 1), (.invokevirtual 510212, 3), (.ifCond .eq 40, 3)]
theorem s_R_held_0 : Seg 63 0 g_R_held_0 := seg_of (by decide +kernel)
def g_R_held_13 : List (Instr × Nat) := [(.aload 0, 1), (.iload 2, 1), (.iload 3, 1), (.iload 4, 2), (.invokevirtual 540412, 3), (.ifCond .eq 40, 3)]
theorem s_R_held_13 : Seg 63 13 g_R_held_13 := seg_of (by decide +kernel)
def g_R_held_24 : List (Instr × Nat) := [(.aload 0, 1), (.getstatic 3079, 3), (.iload 1, 1), (.iload 2, 1), (.iload 3, 1), (.iload 4, 2), (.invokeinterface 61 4, 3), (.iaload, 1), (.goto 41, 3)]
theorem s_R_held_24 : Seg 63 24 g_R_held_24 := seg_of (by decide +kernel)
def g_R_held_40 : List (Instr × Nat) := [(.iconst (-1), 1)]
theorem s_R_held_40 : Seg 63 40 g_R_held_40 := seg_of (by decide +kernel)
def g_R_held_41 : List (Instr × Nat) := [(.ireturn, 1)]
theorem s_R_held_41 : Seg 63 41 g_R_held_41 := seg_of (by decide +kernel)
/-! R care -/
theorem mk_R_care : 64 < 256 ∧ mtB 64 = true := ⟨by decide, mk_64⟩
def g_R_care_0 : List (Instr × Nat) := [(.aload 0, 1), (.iconst 0, 1), (.putfield 3072, 3), (.aload 0, 1), (.iload 1, 1), (.invokevirtual 510212, 3), (.ifCond .eq 33, 3)]
theorem s_R_care_0 : Seg 64 0 g_R_care_0 := seg_of (by decide +kernel)
def g_R_care_13 : List (Instr × Nat) := [(.aload 0, 1), (.iload 2, 1), (.iload 3, 1), (.invokevirtual 530312, 3), (.ifCond .eq 33, 3)]
theorem s_R_care_13 : Seg 64 13 g_R_care_13 := seg_of (by decide +kernel)
def g_R_care_22 : List (Instr × Nat) := [(.iload 4, 2), (.iconst 0, 1), (.iconst 9, 2), (.invokeinterface 50 3, 3), (.ifCond .ne 35, 3)]
theorem s_R_care_22 : Seg 64 22 g_R_care_22 := seg_of (by decide +kernel)
def g_R_care_33 : List (Instr × Nat) := [(.iconst 0, 1), (.ireturn, 1)]
theorem s_R_care_33 : Seg 64 33 g_R_care_33 := seg_of (by decide +kernel)
def g_R_care_35 : List (Instr × Nat) := [(.aload 0, 1), (.getstatic 3080, 3), (.iconst 4, 1), (.iload 1, 1), (.imul, 1), (.iload 2, 1), (.iadd, 1), (.iconst 5, 1), (.imul, 1), (.iload 3, 1), (.iadd, 1), (.iload 4, 2), (.iastore, 1), (.iconst 1, 1), (.ireturn, 1)]
theorem s_R_care_35 : Seg 64 35 g_R_care_35 := seg_of (by decide +kernel)
/-! R clash -/
theorem mk_R_clash : 65 < 256 ∧ mtB 65 = true := ⟨by decide, mk_65⟩
def g_R_clash_0 : List (Instr × Nat) := [(.aload 0, 1), (.iconst 0, 1), (.putfield 3072, 3), (.aload 0, 1), (.getfield 3092, 3), (.iconst 40, 2), (.if_icmp .eq 51, 3)]
theorem s_R_clash_0 : Seg 65 0 g_R_clash_0 := seg_of (by decide +kernel)
def g_R_clash_14 : List (Instr × Nat) := [(.aload 0, 1), (.iload 1, 1), (.invokevirtual 510212, 3), (.ifCond .eq 51, 3)]
theorem s_R_clash_14 : Seg 65 14 g_R_clash_14 := seg_of (by decide +kernel)
def g_R_clash_22 : List (Instr × Nat) := [(.aload 0, 1), (.iload 2, 1), (.iload 3, 1), (.iload 4, 2), (.invokevirtual 540412, 3), (.ifCond .eq 51, 3)]
theorem s_R_clash_22 : Seg 65 22 g_R_clash_22 := seg_of (by decide +kernel)
def g_R_clash_33 : List (Instr × Nat) := [(.aload 0, 1), (.iload 2, 1), (.iload 5, 2), (.iload 6, 2), (.invokevirtual 540412, 3), (.ifCond .eq 51, 3)]
theorem s_R_clash_33 : Seg 65 33 g_R_clash_33 := seg_of (by decide +kernel)
def g_R_clash_45 : List (Instr × Nat) := [(.iload 3, 1), (.iload 5, 2), (.if_icmp .ne 53, 3)]
theorem s_R_clash_45 : Seg 65 45 g_R_clash_45 := seg_of (by decide +kernel)
def g_R_clash_51 : List (Instr × Nat) := [(.iconst 0, 1), (.ireturn, 1)]
theorem s_R_clash_51 : Seg 65 51 g_R_clash_51 := seg_of (by decide +kernel)
def g_R_clash_53 : List (Instr × Nat) := [(.aload 0, 1), (.getstatic 3084, 3), (.aload 0, 1), (.getfield 3092, 3), (.iload 1, 1), (.iastore, 1), (.aload 0, 1), (.getstatic 3085, 3), (.aload 0, 1), (.getfield 3092, 3), (.iload 2, 1), (.iastore, 1), (.aload 0, 1), (.getstatic 3086, 3), (.aload 0, 1), (.getfield 3092, 3), (.iload 3, 1), (.iastore, 1), (.aload 0, 1), (.getstatic 3087, 3), (.aload 0, 1), (.getfield 3092, 3), (.iload 4, 2), (.iastore, 1), (.aload 0, 1), (.getstatic 3088, 3), (.aload 0, 1), (.getfield 3092, 3), (.iload 5, 2), (.iastore, 1), (.aload 0, 1), (.getstatic 3089, 3), (.aload 0, 1), (.getfield 3092, 3), (.iload 6, 2), (.iastore, 1), (.aload 0, 1), (.dup, 1), (.getfield 3092, 3), (.iconst 1, 1), (.iadd, 1), (.putfield 3092, 3), (.iconst 1, 1), (.ireturn, 1)]
theorem s_R_clash_53 : Seg 65 53 g_R_clash_53 := seg_of (by decide +kernel)
/-! R wayIn -/
theorem mk_R_wayIn : 66 < 256 ∧ mtB 66 = true := ⟨by decide, mk_66⟩
def g_R_wayIn_0 : List (Instr × Nat) := [(.iload 1, 1), (.iconst 2, 1), (.iload 0, 1), (.iconst 1, 1), (.isub, 1), (.iload 2, 1), (.isub, 1), (.imul, 1), (.ishr, 1), (.iconst 3, 1), (.iand, 1), (.ireturn, 1)]
theorem s_R_wayIn_0 : Seg 66 0 g_R_wayIn_0 := seg_of (by decide +kernel)
/-! R isProposal -/
theorem mk_R_isProposal : 67 < 256 ∧ mtB 67 = true := ⟨by decide, mk_67⟩
def g_R_isProposal_0 : List (Instr × Nat) := [(.aload 0, 1), (.iload 1, 1), (.invokevirtual 520212, 3), (.ifCond .eq 26, 3)]
theorem s_R_isProposal_0 : Seg 67 0 g_R_isProposal_0 := seg_of (by decide +kernel)
def g_R_isProposal_8 : List (Instr × Nat) := [(.iload 2, 1), (.ifCond .lt 26, 3)]
theorem s_R_isProposal_8 : Seg 67 8 g_R_isProposal_8 := seg_of (by decide +kernel)
def g_R_isProposal_12 : List (Instr × Nat) := [(.iload 2, 1), (.iconst 1, 1), (.iconst 2, 1), (.aload 0, 1), (.getstatic 3077, 3), (.iload 1, 1), (.iaload, 1), (.imul, 1), (.ishl, 1), (.if_icmp .lt 28, 3)]
theorem s_R_isProposal_12 : Seg 67 12 g_R_isProposal_12 := seg_of (by decide +kernel)
def g_R_isProposal_26 : List (Instr × Nat) := [(.iconst 0, 1), (.ireturn, 1)]
theorem s_R_isProposal_26 : Seg 67 26 g_R_isProposal_26 := seg_of (by decide +kernel)
def g_R_isProposal_28 : List (Instr × Nat) := [(.iconst 0, 1), (.istore 3, 1)]
theorem s_R_isProposal_28 : Seg 67 28 g_R_isProposal_28 := seg_of (by decide +kernel)
def g_R_isProposal_30 : List (Instr × Nat) := [(.iload 3, 1), (.aload 0, 1), (.getstatic 3077, 3), (.iload 1, 1), (.iaload, 1), (.if_icmp .ge 68, 3)]
theorem s_R_isProposal_30 : Seg 67 30 g_R_isProposal_30 := seg_of (by decide +kernel)
def g_R_isProposal_40 : List (Instr × Nat) := [(.aload 0, 1), (.getstatic 3077, 3), (.iload 1, 1), (.iaload, 1), (.iload 2, 1), (.iload 3, 1), (.invokeinterface 66 3, 3), (.aload 0, 1), (.getstatic 3078, 3), (.iload 1, 1), (.iaload, 1), (.if_icmp .lt 62, 3)]
theorem s_R_isProposal_40 : Seg 67 40 g_R_isProposal_40 := seg_of (by decide +kernel)
def g_R_isProposal_60 : List (Instr × Nat) := [(.iconst 0, 1), (.ireturn, 1)]
theorem s_R_isProposal_60 : Seg 67 60 g_R_isProposal_60 := seg_of (by decide +kernel)
def g_R_isProposal_62 : List (Instr × Nat) := [(.iinc 3 (1), 3), (.goto 30, 3)]
theorem s_R_isProposal_62 : Seg 67 62 g_R_isProposal_62 := seg_of (by decide +kernel)
def g_R_isProposal_68 : List (Instr × Nat) := [(.iconst 1, 1), (.ireturn, 1)]
theorem s_R_isProposal_68 : Seg 67 68 g_R_isProposal_68 := seg_of (by decide +kernel)
/-! R wayOf -/
theorem mk_R_wayOf : 68 < 256 ∧ mtB 68 = true := ⟨by decide, mk_68⟩
def g_R_wayOf_0 : List (Instr × Nat) := [(.aload 0, 1), (.getstatic 3077, 3), (.iload 1, 1), (.iaload, 1), (.iload 2, 1), (.iload 3, 1), (.invokeinterface 66 3, 3), (.ireturn, 1)]
theorem s_R_wayOf_0 : Seg 68 0 g_R_wayOf_0 := seg_of (by decide +kernel)
/-! R clashesIn -/
theorem mk_R_clashesIn : 69 < 256 ∧ mtB 69 = true := ⟨by decide, mk_69⟩
def g_R_clashesIn_0 : List (Instr × Nat) := [(.iconst 0, 1), (.istore 6, 2)]
theorem s_R_clashesIn_0 : Seg 69 0 g_R_clashesIn_0 := seg_of (by decide +kernel)
def g_R_clashesIn_3 : List (Instr × Nat) := [(.iload 6, 2), (.aload 0, 1), (.getfield 3092, 3), (.if_icmp .ge 165, 3)]
theorem s_R_clashesIn_3 : Seg 69 3 g_R_clashesIn_3 := seg_of (by decide +kernel)
def g_R_clashesIn_12 : List (Instr × Nat) := [(.aload 0, 1), (.getstatic 3084, 3), (.iload 6, 2), (.iaload, 1), (.iload 1, 1), (.if_icmp .ne 159, 3)]
theorem s_R_clashesIn_12 : Seg 69 12 g_R_clashesIn_12 := seg_of (by decide +kernel)
def g_R_clashesIn_23 : List (Instr × Nat) := [(.aload 0, 1), (.getstatic 3085, 3), (.iload 6, 2), (.iaload, 1), (.iload 2, 1), (.if_icmp .eq 37, 3)]
theorem s_R_clashesIn_23 : Seg 69 23 g_R_clashesIn_23 := seg_of (by decide +kernel)
def g_R_clashesIn_34 : List (Instr × Nat) := [(.goto 159, 3)]
theorem s_R_clashesIn_34 : Seg 69 34 g_R_clashesIn_34 := seg_of (by decide +kernel)
def g_R_clashesIn_37 : List (Instr × Nat) := [(.iload 4, 2), (.aload 0, 1), (.getstatic 3086, 3), (.iload 6, 2), (.iaload, 1), (.ishr, 1), (.iconst 1, 1), (.iand, 1), (.iconst 1, 1), (.if_icmp .ne 103, 3)]
theorem s_R_clashesIn_37 : Seg 69 37 g_R_clashesIn_37 := seg_of (by decide +kernel)
def g_R_clashesIn_53 : List (Instr × Nat) := [(.iload 4, 2), (.aload 0, 1), (.getstatic 3088, 3), (.iload 6, 2), (.iaload, 1), (.ishr, 1), (.iconst 1, 1), (.iand, 1), (.iconst 1, 1), (.if_icmp .ne 103, 3)]
theorem s_R_clashesIn_53 : Seg 69 53 g_R_clashesIn_53 := seg_of (by decide +kernel)
def g_R_clashesIn_69 : List (Instr × Nat) := [(.iload 5, 2), (.iconst (-1), 1), (.if_icmp .eq 99, 3)]
theorem s_R_clashesIn_69 : Seg 69 69 g_R_clashesIn_69 := seg_of (by decide +kernel)
def g_R_clashesIn_75 : List (Instr × Nat) := [(.aload 0, 1), (.getstatic 3086, 3), (.iload 6, 2), (.iaload, 1), (.iload 5, 2), (.if_icmp .eq 99, 3)]
theorem s_R_clashesIn_75 : Seg 69 75 g_R_clashesIn_75 := seg_of (by decide +kernel)
def g_R_clashesIn_87 : List (Instr × Nat) := [(.aload 0, 1), (.getstatic 3088, 3), (.iload 6, 2), (.iaload, 1), (.iload 5, 2), (.if_icmp .ne 103, 3)]
theorem s_R_clashesIn_87 : Seg 69 87 g_R_clashesIn_87 := seg_of (by decide +kernel)
def g_R_clashesIn_99 : List (Instr × Nat) := [(.iconst 1, 1), (.goto 104, 3)]
theorem s_R_clashesIn_99 : Seg 69 99 g_R_clashesIn_99 := seg_of (by decide +kernel)
def g_R_clashesIn_103 : List (Instr × Nat) := [(.iconst 0, 1)]
theorem s_R_clashesIn_103 : Seg 69 103 g_R_clashesIn_103 := seg_of (by decide +kernel)
def g_R_clashesIn_104 : List (Instr × Nat) := [(.istore 7, 2), (.iload 7, 2), (.ifCond .eq 159, 3)]
theorem s_R_clashesIn_104 : Seg 69 104 g_R_clashesIn_104 := seg_of (by decide +kernel)
def g_R_clashesIn_111 : List (Instr × Nat) := [(.aload 0, 1), (.iload 2, 1), (.iload 3, 1), (.aload 0, 1), (.getstatic 3086, 3), (.iload 6, 2), (.iaload, 1), (.invokevirtual 680412, 3), (.aload 0, 1), (.getstatic 3087, 3), (.iload 6, 2), (.iaload, 1), (.if_icmp .ne 159, 3)]
theorem s_R_clashesIn_111 : Seg 69 111 g_R_clashesIn_111 := seg_of (by decide +kernel)
def g_R_clashesIn_134 : List (Instr × Nat) := [(.aload 0, 1), (.iload 2, 1), (.iload 3, 1), (.aload 0, 1), (.getstatic 3088, 3), (.iload 6, 2), (.iaload, 1), (.invokevirtual 680412, 3), (.aload 0, 1), (.getstatic 3089, 3), (.iload 6, 2), (.iaload, 1), (.if_icmp .ne 159, 3)]
theorem s_R_clashesIn_134 : Seg 69 134 g_R_clashesIn_134 := seg_of (by decide +kernel)
def g_R_clashesIn_157 : List (Instr × Nat) := [(.iconst 1, 1), (.ireturn, 1)]
theorem s_R_clashesIn_157 : Seg 69 157 g_R_clashesIn_157 := seg_of (by decide +kernel)
def g_R_clashesIn_159 : List (Instr × Nat) := [(.iinc 6 (1), 3), (.goto 3, 3)]
theorem s_R_clashesIn_159 : Seg 69 159 g_R_clashesIn_159 := seg_of (by decide +kernel)
def g_R_clashesIn_165 : List (Instr × Nat) := [(.iconst 0, 1), (.ireturn, 1)]
theorem s_R_clashesIn_165 : Seg 69 165 g_R_clashesIn_165 := seg_of (by decide +kernel)
/-! R canBearWay -/
theorem mk_R_canBearWay : 70 < 256 ∧ mtB 70 = true := ⟨by decide, mk_70⟩
def g_R_canBearWay_0 : List (Instr × Nat) := [(.aload 0, 1), (.getstatic 3079, 3), (.iload 1, 1), (.iload 2, 1), (.iload 3, 1), (.iload 4, 2), (.invokeinterface 61 4, 3), (.iaload, 1), (.ifCond .le 18, 3)]
theorem s_R_canBearWay_0 : Seg 70 0 g_R_canBearWay_0 := seg_of (by decide +kernel)
def g_R_canBearWay_16 : List (Instr × Nat) := [(.iconst 1, 1), (.ireturn, 1)]
theorem s_R_canBearWay_16 : Seg 70 16 g_R_canBearWay_16 := seg_of (by decide +kernel)
def g_R_canBearWay_18 : List (Instr × Nat) := [(.iconst 0, 1), (.istore 5, 2)]
theorem s_R_canBearWay_18 : Seg 70 18 g_R_canBearWay_18 := seg_of (by decide +kernel)
def g_R_canBearWay_21 : List (Instr × Nat) := [(.iload 5, 2), (.aload 0, 1), (.getfield 3149, 3), (.if_icmp .ge 96, 3)]
theorem s_R_canBearWay_21 : Seg 70 21 g_R_canBearWay_21 := seg_of (by decide +kernel)
def g_R_canBearWay_30 : List (Instr × Nat) := [(.aload 0, 1), (.getfield 3094, 3), (.iload 5, 2), (.ishr, 1), (.iconst 1, 1), (.iand, 1), (.iconst 1, 1), (.if_icmp .ne 90, 3)]
theorem s_R_canBearWay_30 : Seg 70 30 g_R_canBearWay_30 := seg_of (by decide +kernel)
def g_R_canBearWay_43 : List (Instr × Nat) := [(.aload 0, 1), (.getstatic 3142, 3), (.iload 5, 2), (.iaload, 1), (.iload 1, 1), (.if_icmp .ne 90, 3)]
theorem s_R_canBearWay_43 : Seg 70 43 g_R_canBearWay_43 := seg_of (by decide +kernel)
def g_R_canBearWay_54 : List (Instr × Nat) := [(.aload 0, 1), (.getstatic 3143, 3), (.iload 5, 2), (.iaload, 1), (.iload 2, 1), (.if_icmp .ne 90, 3)]
theorem s_R_canBearWay_54 : Seg 70 54 g_R_canBearWay_54 := seg_of (by decide +kernel)
def g_R_canBearWay_65 : List (Instr × Nat) := [(.aload 0, 1), (.getstatic 3144, 3), (.iload 5, 2), (.iaload, 1), (.iload 3, 1), (.if_icmp .ne 90, 3)]
theorem s_R_canBearWay_65 : Seg 70 65 g_R_canBearWay_65 := seg_of (by decide +kernel)
def g_R_canBearWay_76 : List (Instr × Nat) := [(.aload 0, 1), (.getstatic 3145, 3), (.iload 5, 2), (.iaload, 1), (.iload 4, 2), (.if_icmp .ne 90, 3)]
theorem s_R_canBearWay_76 : Seg 70 76 g_R_canBearWay_76 := seg_of (by decide +kernel)
def g_R_canBearWay_88 : List (Instr × Nat) := [(.iconst 1, 1), (.ireturn, 1)]
theorem s_R_canBearWay_88 : Seg 70 88 g_R_canBearWay_88 := seg_of (by decide +kernel)
def g_R_canBearWay_90 : List (Instr × Nat) := [(.iinc 5 (1), 3), (.goto 21, 3)]
theorem s_R_canBearWay_90 : Seg 70 90 g_R_canBearWay_90 := seg_of (by decide +kernel)
def g_R_canBearWay_96 : List (Instr × Nat) := [(.iconst 0, 1), (.ireturn, 1)]
theorem s_R_canBearWay_96 : Seg 70 96 g_R_canBearWay_96 := seg_of (by decide +kernel)
/-! R bears -/
theorem mk_R_bears : 71 < 256 ∧ mtB 71 = true := ⟨by decide, mk_71⟩
def g_R_bears_0 : List (Instr × Nat) := [(.iconst 0, 1), (.istore 5, 2)]
theorem s_R_bears_0 : Seg 71 0 g_R_bears_0 := seg_of (by decide +kernel)
def g_R_bears_3 : List (Instr × Nat) := [(.iload 5, 2), (.aload 0, 1), (.getstatic 3077, 3), (.iload 2, 1), (.iaload, 1), (.if_icmp .ge 52, 3)]
theorem s_R_bears_3 : Seg 71 3 g_R_bears_3 := seg_of (by decide +kernel)
def g_R_bears_14 : List (Instr × Nat) := [(.iload 4, 2), (.iload 5, 2), (.ishr, 1), (.iconst 1, 1), (.iand, 1), (.iconst 1, 1), (.if_icmp .ne 46, 3)]
theorem s_R_bears_14 : Seg 71 14 g_R_bears_14 := seg_of (by decide +kernel)
def g_R_bears_25 : List (Instr × Nat) := [(.aload 0, 1), (.iload 1, 1), (.iload 2, 1), (.iload 5, 2), (.aload 0, 1), (.iload 2, 1), (.iload 3, 1), (.iload 5, 2), (.invokevirtual 680412, 3), (.invokevirtual 700512, 3), (.ifCond .ne 46, 3)]
theorem s_R_bears_25 : Seg 71 25 g_R_bears_25 := seg_of (by decide +kernel)
def g_R_bears_44 : List (Instr × Nat) := [(.iconst 0, 1), (.ireturn, 1)]
theorem s_R_bears_44 : Seg 71 44 g_R_bears_44 := seg_of (by decide +kernel)
def g_R_bears_46 : List (Instr × Nat) := [(.iinc 5 (1), 3), (.goto 3, 3)]
theorem s_R_bears_46 : Seg 71 46 g_R_bears_46 := seg_of (by decide +kernel)
def g_R_bears_52 : List (Instr × Nat) := [(.aload 0, 1), (.iload 1, 1), (.iload 2, 1), (.iload 3, 1), (.iload 4, 2), (.iconst (-1), 1), (.invokevirtual 690612, 3), (.ifCond .ne 69, 3)]
theorem s_R_bears_52 : Seg 71 52 g_R_bears_52 := seg_of (by decide +kernel)
def g_R_bears_65 : List (Instr × Nat) := [(.iconst 1, 1), (.goto 70, 3)]
theorem s_R_bears_65 : Seg 71 65 g_R_bears_65 := seg_of (by decide +kernel)
def g_R_bears_69 : List (Instr × Nat) := [(.iconst 0, 1)]
theorem s_R_bears_69 : Seg 71 69 g_R_bears_69 := seg_of (by decide +kernel)
def g_R_bears_70 : List (Instr × Nat) := [(.ireturn, 1)]
theorem s_R_bears_70 : Seg 71 70 g_R_bears_70 := seg_of (by decide +kernel)
/-! R every -/
theorem mk_R_every : 72 < 256 ∧ mtB 72 = true := ⟨by decide, mk_72⟩
def g_R_every_0 : List (Instr × Nat) := [(.iconst 1, 1), (.aload 0, 1), (.getstatic 3077, 3), (.iload 1, 1), (.iaload, 1), (.ishl, 1), (.iconst 1, 1), (.isub, 1), (.ireturn, 1)]
theorem s_R_every_0 : Seg 72 0 g_R_every_0 := seg_of (by decide +kernel)
/-! R bear -/
theorem mk_R_bear : 73 < 256 ∧ mtB 73 = true := ⟨by decide, mk_73⟩
def g_R_bear_0 : List (Instr × Nat) := [(.aload 0, 1), (.iconst 0, 1), (.putfield 3072, 3), (.aload 0, 1), (.iload 1, 1), (.invokevirtual 510212, 3), (.ifCond .eq 22, 3)]
theorem s_R_bear_0 : Seg 73 0 g_R_bear_0 := seg_of (by decide +kernel)
def g_R_bear_13 : List (Instr × Nat) := [(.aload 0, 1), (.iload 2, 1), (.iload 3, 1), (.invokevirtual 670312, 3), (.ifCond .ne 26, 3)]
theorem s_R_bear_13 : Seg 73 13 g_R_bear_13 := seg_of (by decide +kernel)
def g_R_bear_22 : List (Instr × Nat) := [(.iconst (-1), 1), (.goto 46, 3)]
theorem s_R_bear_22 : Seg 73 22 g_R_bear_22 := seg_of (by decide +kernel)
def g_R_bear_26 : List (Instr × Nat) := [(.aload 0, 1), (.iload 1, 1), (.iload 2, 1), (.iload 3, 1), (.aload 0, 1), (.iload 2, 1), (.invokevirtual 720212, 3), (.invokevirtual 710512, 3), (.ifCond .eq 45, 3)]
theorem s_R_bear_26 : Seg 73 26 g_R_bear_26 := seg_of (by decide +kernel)
def g_R_bear_41 : List (Instr × Nat) := [(.iconst 1, 1), (.goto 46, 3)]
theorem s_R_bear_41 : Seg 73 41 g_R_bear_41 := seg_of (by decide +kernel)
def g_R_bear_45 : List (Instr × Nat) := [(.iconst 0, 1)]
theorem s_R_bear_45 : Seg 73 45 g_R_bear_45 := seg_of (by decide +kernel)
def g_R_bear_46 : List (Instr × Nat) := [(.ireturn, 1)]
theorem s_R_bear_46 : Seg 73 46 g_R_bear_46 := seg_of (by decide +kernel)
/-! R lossOf -/
theorem mk_R_lossOf : 74 < 256 ∧ mtB 74 = true := ⟨by decide, mk_74⟩
def g_R_lossOf_0 : List (Instr × Nat) := [(.iconst 0, 1), (.istore 4, 2), (.iconst 0, 1), (.istore 5, 2)]
theorem s_R_lossOf_0 : Seg 74 0 g_R_lossOf_0 := seg_of (by decide +kernel)
def g_R_lossOf_6 : List (Instr × Nat) := [(.iload 5, 2), (.aload 0, 1), (.getstatic 3077, 3), (.iload 2, 1), (.iaload, 1), (.if_icmp .ge 129, 3)]
theorem s_R_lossOf_6 : Seg 74 6 g_R_lossOf_6 := seg_of (by decide +kernel)
def g_R_lossOf_17 : List (Instr × Nat) := [(.iconst 0, 1), (.istore 6, 2), (.iconst 0, 1), (.istore 7, 2)]
theorem s_R_lossOf_17 : Seg 74 17 g_R_lossOf_17 := seg_of (by decide +kernel)
def g_R_lossOf_23 : List (Instr × Nat) := [(.iload 7, 2), (.aload 0, 1), (.getstatic 3078, 3), (.iload 2, 1), (.iaload, 1), (.if_icmp .ge 70, 3)]
theorem s_R_lossOf_23 : Seg 74 23 g_R_lossOf_23 := seg_of (by decide +kernel)
def g_R_lossOf_34 : List (Instr × Nat) := [(.iload 6, 2), (.ifCond .ne 57, 3)]
theorem s_R_lossOf_34 : Seg 74 34 g_R_lossOf_34 := seg_of (by decide +kernel)
def g_R_lossOf_39 : List (Instr × Nat) := [(.aload 0, 1), (.getstatic 3079, 3), (.iload 1, 1), (.iload 2, 1), (.iload 5, 2), (.iload 7, 2), (.invokeinterface 61 4, 3), (.iaload, 1), (.iconst 2, 1), (.if_icmp .ne 61, 3)]
theorem s_R_lossOf_39 : Seg 74 39 g_R_lossOf_39 := seg_of (by decide +kernel)
def g_R_lossOf_57 : List (Instr × Nat) := [(.iconst 1, 1), (.goto 62, 3)]
theorem s_R_lossOf_57 : Seg 74 57 g_R_lossOf_57 := seg_of (by decide +kernel)
def g_R_lossOf_61 : List (Instr × Nat) := [(.iconst 0, 1)]
theorem s_R_lossOf_61 : Seg 74 61 g_R_lossOf_61 := seg_of (by decide +kernel)
def g_R_lossOf_62 : List (Instr × Nat) := [(.istore 6, 2), (.iinc 7 (1), 3), (.goto 23, 3)]
theorem s_R_lossOf_62 : Seg 74 62 g_R_lossOf_62 := seg_of (by decide +kernel)
def g_R_lossOf_70 : List (Instr × Nat) := [(.iload 4, 2), (.iload 6, 2), (.ifCond .eq 119, 3)]
theorem s_R_lossOf_70 : Seg 74 70 g_R_lossOf_70 := seg_of (by decide +kernel)
def g_R_lossOf_77 : List (Instr × Nat) := [(.aload 0, 1), (.getstatic 3079, 3), (.iload 1, 1), (.iload 2, 1), (.iload 5, 2), (.aload 0, 1), (.iload 2, 1), (.iload 3, 1), (.iload 5, 2), (.invokevirtual 680412, 3), (.invokeinterface 61 4, 3), (.iaload, 1), (.iconst 2, 1), (.if_icmp .eq 119, 3)]
theorem s_R_lossOf_77 : Seg 74 77 g_R_lossOf_77 := seg_of (by decide +kernel)
def g_R_lossOf_101 : List (Instr × Nat) := [(.aload 0, 1), (.getstatic 3080, 3), (.iconst 4, 1), (.iload 1, 1), (.imul, 1), (.iload 2, 1), (.iadd, 1), (.iconst 5, 1), (.imul, 1), (.iload 5, 2), (.iadd, 1), (.iaload, 1), (.goto 120, 3)]
theorem s_R_lossOf_101 : Seg 74 101 g_R_lossOf_101 := seg_of (by decide +kernel)
def g_R_lossOf_119 : List (Instr × Nat) := [(.iconst 0, 1)]
theorem s_R_lossOf_119 : Seg 74 119 g_R_lossOf_119 := seg_of (by decide +kernel)
def g_R_lossOf_120 : List (Instr × Nat) := [(.iadd, 1), (.istore 4, 2), (.iinc 5 (1), 3), (.goto 6, 3)]
theorem s_R_lossOf_120 : Seg 74 120 g_R_lossOf_120 := seg_of (by decide +kernel)
def g_R_lossOf_129 : List (Instr × Nat) := [(.iload 4, 2), (.ireturn, 1)]
theorem s_R_lossOf_129 : Seg 74 129 g_R_lossOf_129 := seg_of (by decide +kernel)
/-! R loss -/
theorem mk_R_loss : 75 < 256 ∧ mtB 75 = true := ⟨by decide, mk_75⟩
def g_R_loss_0 : List (Instr × Nat) := [(.aload 0, 1), (.iconst 0, 1), (.putfield 3072, 3), (.aload 0, 1), (.iload 1, 1), (.invokevirtual 510212, 3), (.ifCond .eq 32, 3)]
theorem s_R_loss_0 : Seg 75 0 g_R_loss_0 := seg_of (by decide +kernel)
def g_R_loss_13 : List (Instr × Nat) := [(.aload 0, 1), (.iload 2, 1), (.iload 3, 1), (.invokevirtual 670312, 3), (.ifCond .eq 32, 3)]
theorem s_R_loss_13 : Seg 75 13 g_R_loss_13 := seg_of (by decide +kernel)
def g_R_loss_22 : List (Instr × Nat) := [(.aload 0, 1), (.iload 1, 1), (.iload 2, 1), (.iload 3, 1), (.invokevirtual 740412, 3), (.goto 33, 3)]
theorem s_R_loss_22 : Seg 75 22 g_R_loss_22 := seg_of (by decide +kernel)
def g_R_loss_32 : List (Instr × Nat) := [(.iconst (-1), 1)]
theorem s_R_loss_32 : Seg 75 32 g_R_loss_32 := seg_of (by decide +kernel)
def g_R_loss_33 : List (Instr × Nat) := [(.ireturn, 1)]
theorem s_R_loss_33 : Seg 75 33 g_R_loss_33 := seg_of (by decide +kernel)
