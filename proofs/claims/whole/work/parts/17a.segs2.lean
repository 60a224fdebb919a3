/-! ===== the segments of the methods ===== -/
/-! R bytesIn -/
theorem mk_R_bytesIn : 76 < 256 ∧ mtB 76 = true := ⟨by decide, mk_76⟩
def g_R_bytesIn_0 : List (Instr × Nat) := [(.iconst 0, 1), (.istore 1, 1), (.iconst 24, 2), (.istore 2, 1)]
theorem s_R_bytesIn_0 : Seg 76 0 g_R_bytesIn_0 := seg_of (by decide +kernel)
def g_R_bytesIn_5 : List (Instr × Nat) := [(.iload 2, 1), (.ifCond .lt 33, 3)]
theorem s_R_bytesIn_5 : Seg 76 5 g_R_bytesIn_5 := seg_of (by decide +kernel)
def g_R_bytesIn_9 : List (Instr × Nat) := [(.iload 1, 1), (.iload 0, 1), (.iload 2, 1), (.ishr, 1), (.iconst 255, 3), (.iand, 1), (.ifCond .eq 24, 3)]
theorem s_R_bytesIn_9 : Seg 76 9 g_R_bytesIn_9 := seg_of (by decide +kernel)
def g_R_bytesIn_20 : List (Instr × Nat) := [(.iconst 1, 1), (.goto 25, 3)]
theorem s_R_bytesIn_20 : Seg 76 20 g_R_bytesIn_20 := seg_of (by decide +kernel)
def g_R_bytesIn_24 : List (Instr × Nat) := [(.iconst 0, 1)]
theorem s_R_bytesIn_24 : Seg 76 24 g_R_bytesIn_24 := seg_of (by decide +kernel)
def g_R_bytesIn_25 : List (Instr × Nat) := [(.iadd, 1), (.istore 1, 1), (.iinc 2 (-8), 3), (.goto 5, 3)]
theorem s_R_bytesIn_25 : Seg 76 25 g_R_bytesIn_25 := seg_of (by decide +kernel)
def g_R_bytesIn_33 : List (Instr × Nat) := [(.iload 1, 1), (.ireturn, 1)]
theorem s_R_bytesIn_33 : Seg 76 33 g_R_bytesIn_33 := seg_of (by decide +kernel)
/-! R put -/
theorem mk_R_put : 77 < 256 ∧ mtB 77 = true := ⟨by decide, mk_77⟩
def g_R_put_0 : List (Instr × Nat) := [(.iconst 24, 2), (.istore 2, 1)]
theorem s_R_put_0 : Seg 77 0 g_R_put_0 := seg_of (by decide +kernel)
def g_R_put_3 : List (Instr × Nat) := [(.iload 2, 1), (.ifCond .lt 49, 3)]
theorem s_R_put_3 : Seg 77 3 g_R_put_3 := seg_of (by decide +kernel)
def g_R_put_7 : List (Instr × Nat) := [(.iload 1, 1), (.iload 2, 1), (.ishr, 1), (.iconst 255, 3), (.iand, 1), (.ifCond .ne 20, 3)]
theorem s_R_put_7 : Seg 77 7 g_R_put_7 := seg_of (by decide +kernel)
def g_R_put_17 : List (Instr × Nat) := [(.goto 43, 3)]
theorem s_R_put_17 : Seg 77 17 g_R_put_17 := seg_of (by decide +kernel)
def g_R_put_20 : List (Instr × Nat) := [(.aload 0, 1), (.getstatic 3095, 3), (.aload 0, 1), (.getfield 3100, 3), (.iload 1, 1), (.iload 2, 1), (.ishr, 1), (.i2b, 1), (.bastore, 1), (.aload 0, 1), (.dup, 1), (.getfield 3100, 3), (.iconst 1, 1), (.iadd, 1), (.putfield 3100, 3)]
theorem s_R_put_20 : Seg 77 20 g_R_put_20 := seg_of (by decide +kernel)
def g_R_put_43 : List (Instr × Nat) := [(.iinc 2 (-8), 3), (.goto 3, 3)]
theorem s_R_put_43 : Seg 77 43 g_R_put_43 := seg_of (by decide +kernel)
def g_R_put_49 : List (Instr × Nat) := [(.return_, 1)]
theorem s_R_put_49 : Seg 77 49 g_R_put_49 := seg_of (by decide +kernel)
/-! R feed -/
theorem mk_R_feed : 78 < 256 ∧ mtB 78 = true := ⟨by decide, mk_78⟩
def g_R_feed_0 : List (Instr × Nat) := [(.aload 0, 1), (.iconst 0, 1), (.putfield 3072, 3), (.aload 0, 1), (.getfield 3100, 3), (.iload 1, 1), (.invokeinterface 76 1, 3), (.iadd, 1), (.iload 2, 1), (.invokeinterface 76 1, 3), (.iadd, 1), (.iload 3, 1), (.invokeinterface 76 1, 3), (.iadd, 1), (.iload 4, 2), (.invokeinterface 76 1, 3), (.iadd, 1), (.iload 5, 2), (.invokeinterface 76 1, 3), (.iadd, 1), (.iconst 160, 3), (.if_icmp .le 44, 3)]
theorem s_R_feed_0 : Seg 78 0 g_R_feed_0 := seg_of (by decide +kernel)
def g_R_feed_42 : List (Instr × Nat) := [(.iconst (-1), 1), (.ireturn, 1)]
theorem s_R_feed_42 : Seg 78 42 g_R_feed_42 := seg_of (by decide +kernel)
def g_R_feed_44 : List (Instr × Nat) := [(.aload 0, 1), (.iload 1, 1), (.invokevirtual 770212, 3), (.aload 0, 1), (.iload 2, 1), (.invokevirtual 770212, 3), (.aload 0, 1), (.iload 3, 1), (.invokevirtual 770212, 3), (.aload 0, 1), (.iload 4, 2), (.invokevirtual 770212, 3), (.aload 0, 1), (.iload 5, 2), (.invokevirtual 770212, 3), (.aload 0, 1), (.getfield 3100, 3), (.ireturn, 1)]
theorem s_R_feed_44 : Seg 78 44 g_R_feed_44 := seg_of (by decide +kernel)
/-! R end -/
theorem mk_R_end : 79 < 256 ∧ mtB 79 = true := ⟨by decide, mk_79⟩
def g_R_end_0 : List (Instr × Nat) := [(.aload 0, 1), (.iconst 0, 1), (.putfield 3072, 3), (.iload 1, 1), (.ifCond .lt 17, 3)]
theorem s_R_end_0 : Seg 79 0 g_R_end_0 := seg_of (by decide +kernel)
def g_R_end_9 : List (Instr × Nat) := [(.iload 1, 1), (.aload 0, 1), (.getfield 3100, 3), (.if_icmp .le 19, 3)]
theorem s_R_end_9 : Seg 79 9 g_R_end_9 := seg_of (by decide +kernel)
def g_R_end_17 : List (Instr × Nat) := [(.iconst 0, 1), (.ireturn, 1)]
theorem s_R_end_17 : Seg 79 17 g_R_end_17 := seg_of (by decide +kernel)
def g_R_end_19 : List (Instr × Nat) := [(.aload 0, 1), (.iload 1, 1), (.putfield 3100, 3), (.iconst 1, 1), (.ireturn, 1)]
theorem s_R_end_19 : Seg 79 19 g_R_end_19 := seg_of (by decide +kernel)
/-! R look -/
theorem mk_R_look : 80 < 256 ∧ mtB 80 = true := ⟨by decide, mk_80⟩
def g_R_look_0 : List (Instr × Nat) := [(.aload 0, 1), (.getfield 3105, 3), (.aload 0, 1), (.getfield 3104, 3), (.if_icmp .ge 43, 3)]
theorem s_R_look_0 : Seg 80 0 g_R_look_0 := seg_of (by decide +kernel)
def g_R_look_11 : List (Instr × Nat) := [(.aload 0, 1), (.getstatic 3099, 3), (.aload 0, 1), (.getfield 3103, 3), (.aload 0, 1), (.getfield 3105, 3), (.iadd, 1), (.baload, 1), (.iconst 32, 2), (.if_icmp .ne 43, 3)]
theorem s_R_look_11 : Seg 80 11 g_R_look_11 := seg_of (by decide +kernel)
def g_R_look_30 : List (Instr × Nat) := [(.aload 0, 1), (.dup, 1), (.getfield 3105, 3), (.iconst 1, 1), (.iadd, 1), (.putfield 3105, 3), (.goto 0, 3)]
theorem s_R_look_30 : Seg 80 30 g_R_look_30 := seg_of (by decide +kernel)
def g_R_look_43 : List (Instr × Nat) := [(.aload 0, 1), (.getfield 3105, 3), (.aload 0, 1), (.getfield 3104, 3), (.if_icmp .ge 75, 3)]
theorem s_R_look_43 : Seg 80 43 g_R_look_43 := seg_of (by decide +kernel)
def g_R_look_54 : List (Instr × Nat) := [(.aload 0, 1), (.getstatic 3099, 3), (.aload 0, 1), (.getfield 3103, 3), (.aload 0, 1), (.getfield 3105, 3), (.iadd, 1), (.baload, 1), (.iconst 255, 3), (.iand, 1), (.goto 76, 3)]
theorem s_R_look_54 : Seg 80 54 g_R_look_54 := seg_of (by decide +kernel)
def g_R_look_75 : List (Instr × Nat) := [(.iconst (-1), 1)]
theorem s_R_look_75 : Seg 80 75 g_R_look_75 := seg_of (by decide +kernel)
def g_R_look_76 : List (Instr × Nat) := [(.ireturn, 1)]
theorem s_R_look_76 : Seg 80 76 g_R_look_76 := seg_of (by decide +kernel)
/-! R fails -/
theorem mk_R_fails : 81 < 256 ∧ mtB 81 = true := ⟨by decide, mk_81⟩
def g_R_fails_0 : List (Instr × Nat) := [(.aload 0, 1), (.getfield 3106, 3), (.iconst (-1), 1), (.if_icmp .ne 16, 3)]
theorem s_R_fails_0 : Seg 81 0 g_R_fails_0 := seg_of (by decide +kernel)
def g_R_fails_8 : List (Instr × Nat) := [(.aload 0, 1), (.aload 0, 1), (.getfield 3105, 3), (.putfield 3106, 3)]
theorem s_R_fails_8 : Seg 81 8 g_R_fails_8 := seg_of (by decide +kernel)
def g_R_fails_16 : List (Instr × Nat) := [(.iconst 0, 1), (.ireturn, 1)]
theorem s_R_fails_16 : Seg 81 16 g_R_fails_16 := seg_of (by decide +kernel)
/-! R goesIn -/
theorem mk_R_goesIn : 82 < 256 ∧ mtB 82 = true := ⟨by decide, mk_82⟩
def g_R_goesIn_0 : List (Instr × Nat) := [(.aload 0, 1), (.getfield 3107, 3), (.iconst 6, 2), (.if_icmp .ne 14, 3)]
theorem s_R_goesIn_0 : Seg 82 0 g_R_goesIn_0 := seg_of (by decide +kernel)
def g_R_goesIn_9 : List (Instr × Nat) := [(.aload 0, 1), (.invokevirtual 810112, 3), (.ireturn, 1)]
theorem s_R_goesIn_9 : Seg 82 9 g_R_goesIn_9 := seg_of (by decide +kernel)
def g_R_goesIn_14 : List (Instr × Nat) := [(.aload 0, 1), (.dup, 1), (.getfield 3107, 3), (.iconst 1, 1), (.iadd, 1), (.putfield 3107, 3), (.aload 0, 1), (.dup, 1), (.getfield 3105, 3), (.iconst 1, 1), (.iadd, 1), (.putfield 3105, 3), (.iconst 1, 1), (.ireturn, 1)]
theorem s_R_goesIn_14 : Seg 82 14 g_R_goesIn_14 := seg_of (by decide +kernel)
/-! R takes -/
theorem mk_R_takes : 83 < 256 ∧ mtB 83 = true := ⟨by decide, mk_83⟩
def g_R_takes_0 : List (Instr × Nat) := [(.aload 0, 1), (.getfield 3106, 3), (.iconst (-1), 1), (.if_icmp .ne 16, 3)]
theorem s_R_takes_0 : Seg 83 0 g_R_takes_0 := seg_of (by decide +kernel)
def g_R_takes_8 : List (Instr × Nat) := [(.aload 0, 1), (.invokevirtual 800112, 3), (.iload 1, 1), (.if_icmp .eq 21, 3)]
theorem s_R_takes_8 : Seg 83 8 g_R_takes_8 := seg_of (by decide +kernel)
def g_R_takes_16 : List (Instr × Nat) := [(.aload 0, 1), (.invokevirtual 810112, 3), (.ireturn, 1)]
theorem s_R_takes_16 : Seg 83 16 g_R_takes_16 := seg_of (by decide +kernel)
def g_R_takes_21 : List (Instr × Nat) := [(.aload 0, 1), (.dup, 1), (.getfield 3105, 3), (.iconst 1, 1), (.iadd, 1), (.putfield 3105, 3), (.iconst 1, 1), (.ireturn, 1)]
theorem s_R_takes_21 : Seg 83 21 g_R_takes_21 := seg_of (by decide +kernel)
/-! R isDigit -/
theorem mk_R_isDigit : 84 < 256 ∧ mtB 84 = true := ⟨by decide, mk_84⟩
def g_R_isDigit_0 : List (Instr × Nat) := [(.aload 0, 1), (.getfield 3105, 3), (.aload 0, 1), (.getfield 3104, 3), (.if_icmp .ge 53, 3)]
theorem s_R_isDigit_0 : Seg 84 0 g_R_isDigit_0 := seg_of (by decide +kernel)
def g_R_isDigit_11 : List (Instr × Nat) := [(.aload 0, 1), (.getstatic 3099, 3), (.aload 0, 1), (.getfield 3103, 3), (.aload 0, 1), (.getfield 3105, 3), (.iadd, 1), (.baload, 1), (.iconst 48, 2), (.if_icmp .lt 53, 3)]
theorem s_R_isDigit_11 : Seg 84 11 g_R_isDigit_11 := seg_of (by decide +kernel)
def g_R_isDigit_30 : List (Instr × Nat) := [(.aload 0, 1), (.getstatic 3099, 3), (.aload 0, 1), (.getfield 3103, 3), (.aload 0, 1), (.getfield 3105, 3), (.iadd, 1), (.baload, 1), (.iconst 57, 2), (.if_icmp .gt 53, 3)]
theorem s_R_isDigit_30 : Seg 84 30 g_R_isDigit_30 := seg_of (by decide +kernel)
def g_R_isDigit_49 : List (Instr × Nat) := [(.iconst 1, 1), (.goto 54, 3)]
theorem s_R_isDigit_49 : Seg 84 49 g_R_isDigit_49 := seg_of (by decide +kernel)
def g_R_isDigit_53 : List (Instr × Nat) := [(.iconst 0, 1)]
theorem s_R_isDigit_53 : Seg 84 53 g_R_isDigit_53 := seg_of (by decide +kernel)
def g_R_isDigit_54 : List (Instr × Nat) := [(.ireturn, 1)]
theorem s_R_isDigit_54 : Seg 84 54 g_R_isDigit_54 := seg_of (by decide +kernel)
/-! R within -/
theorem mk_R_within : 85 < 256 ∧ mtB 85 = true := ⟨by decide, mk_85⟩
def g_R_within_0 : List (Instr × Nat) := [(.jsr_w (-1000000), 3), (.jsr_w (1000000), 3), (.lload 0, 1), (.dsub, 3), (.dadd, 3), (.l2i, 1), (.ireturn, 1)]
theorem s_R_within_0 : Seg 85 0 g_R_within_0 := seg_of (by decide +kernel)
/-! R atom -/
theorem mk_R_atom : 86 < 256 ∧ mtB 86 = true := ⟨by decide, mk_86⟩
def g_R_atom_0 : List (Instr × Nat) := [(.aload 0, 1), (.invokevirtual 800112, 3), (.istore 1, 1), (.iload 1, 1), (.iconst (-1), 1), (.if_icmp .eq 38, 3)]
theorem s_R_atom_0 : Seg 86 0 g_R_atom_0 := seg_of (by decide +kernel)
def g_R_atom_10 : List (Instr × Nat) := [(.aload 0, 1), (.getstatic 3111, 3), (.iload 1, 1), (.invokevirtual 2410213, 3), (.ifCond .lt 38, 3)]
theorem s_R_atom_10 : Seg 86 10 g_R_atom_10 := seg_of (by decide +kernel)
def g_R_atom_21 : List (Instr × Nat) := [(.aload 0, 1), (.dup, 1), (.getfield 3105, 3), (.iconst 1, 1), (.iadd, 1), (.putfield 3105, 3), (.aload 0, 1), (.getstatic 3098, 3), (.iload 1, 1), (.iaload, 1), (.ireturn, 1)]
theorem s_R_atom_21 : Seg 86 21 g_R_atom_21 := seg_of (by decide +kernel)
def g_R_atom_38 : List (Instr × Nat) := [(.iload 1, 1), (.iconst 91, 2), (.if_icmp .ne 81, 3)]
theorem s_R_atom_38 : Seg 86 38 g_R_atom_38 := seg_of (by decide +kernel)
def g_R_atom_44 : List (Instr × Nat) := [(.aload 0, 1), (.invokevirtual 820112, 3), (.ifCond .ne 53, 3)]
theorem s_R_atom_44 : Seg 86 44 g_R_atom_44 := seg_of (by decide +kernel)
def g_R_atom_51 : List (Instr × Nat) := [(.iconst 0, 1), (.ireturn, 1)]
theorem s_R_atom_51 : Seg 86 51 g_R_atom_51 := seg_of (by decide +kernel)
def g_R_atom_53 : List (Instr × Nat) := [(.aload 0, 1), (.invokevirtual 880112, 3), (.istore 2, 1), (.aload 0, 1), (.iconst 93, 2), (.invokevirtual 830212, 3), (.ifCond .ne 69, 3)]
theorem s_R_atom_53 : Seg 86 53 g_R_atom_53 := seg_of (by decide +kernel)
def g_R_atom_67 : List (Instr × Nat) := [(.iconst 0, 1), (.ireturn, 1)]
theorem s_R_atom_67 : Seg 86 67 g_R_atom_67 := seg_of (by decide +kernel)
def g_R_atom_69 : List (Instr × Nat) := [(.aload 0, 1), (.dup, 1), (.getfield 3107, 3), (.iconst 1, 1), (.isub, 1), (.putfield 3107, 3), (.iload 2, 1), (.ireturn, 1)]
theorem s_R_atom_69 : Seg 86 69 g_R_atom_69 := seg_of (by decide +kernel)
def g_R_atom_81 : List (Instr × Nat) := [(.aload 0, 1), (.invokevirtual 840112, 3), (.ifCond .ne 93, 3)]
theorem s_R_atom_81 : Seg 86 81 g_R_atom_81 := seg_of (by decide +kernel)
def g_R_atom_88 : List (Instr × Nat) := [(.aload 0, 1), (.invokevirtual 810112, 3), (.pop, 1)]
theorem s_R_atom_88 : Seg 86 88 g_R_atom_88 := seg_of (by decide +kernel)
def g_R_atom_93 : List (Instr × Nat) := [(.iconst 0, 1), (.istore 2, 1), (.iconst 0, 1), (.istore 3, 1)]
theorem s_R_atom_93 : Seg 86 93 g_R_atom_93 := seg_of (by decide +kernel)
def g_R_atom_97 : List (Instr × Nat) := [(.aload 0, 1), (.invokevirtual 840112, 3), (.ifCond .eq 163, 3)]
theorem s_R_atom_97 : Seg 86 97 g_R_atom_97 := seg_of (by decide +kernel)
def g_R_atom_104 : List (Instr × Nat) := [(.aload 0, 1), (.getfield 3106, 3), (.iconst (-1), 1), (.if_icmp .ne 163, 3)]
theorem s_R_atom_104 : Seg 86 104 g_R_atom_104 := seg_of (by decide +kernel)
def g_R_atom_112 : List (Instr × Nat) := [(.iload 3, 1), (.iconst 4, 1), (.if_icmp .ne 124, 3)]
theorem s_R_atom_112 : Seg 86 112 g_R_atom_112 := seg_of (by decide +kernel)
def g_R_atom_117 : List (Instr × Nat) := [(.aload 0, 1), (.invokevirtual 810112, 3), (.pop, 1), (.iconst 0, 1), (.ireturn, 1)]
theorem s_R_atom_117 : Seg 86 117 g_R_atom_117 := seg_of (by decide +kernel)
def g_R_atom_124 : List (Instr × Nat) := [(.iconst 10, 2), (.iload 2, 1), (.imul, 1), (.aload 0, 1), (.getstatic 3099, 3), (.aload 0, 1), (.getfield 3103, 3), (.aload 0, 1), (.getfield 3105, 3), (.iadd, 1), (.baload, 1), (.iadd, 1), (.iconst 48, 2), (.isub, 1), (.istore 2, 1), (.aload 0, 1), (.dup, 1), (.getfield 3105, 3), (.iconst 1, 1), (.iadd, 1), (.putfield 3105, 3), (.iinc 3 (1), 3), (.goto 97, 3)]
theorem s_R_atom_124 : Seg 86 124 g_R_atom_124 := seg_of (by decide +kernel)
def g_R_atom_163 : List (Instr × Nat) := [(.iload 2, 1), (.ireturn, 1)]
theorem s_R_atom_163 : Seg 86 163 g_R_atom_163 := seg_of (by decide +kernel)
/-! R term -/
theorem mk_R_term : 87 < 256 ∧ mtB 87 = true := ⟨by decide, mk_87⟩
def g_R_term_0 : List (Instr × Nat) := [(.aload 0, 1), (.invokevirtual 860112, 3), (.istore 1, 1)]
theorem s_R_term_0 : Seg 87 0 g_R_term_0 := seg_of (by decide +kernel)
def g_R_term_5 : List (Instr × Nat) := [(.aload 0, 1), (.getfield 3106, 3), (.iconst (-1), 1), (.if_icmp .ne 94, 3)]
theorem s_R_term_5 : Seg 87 5 g_R_term_5 := seg_of (by decide +kernel)
def g_R_term_13 : List (Instr × Nat) := [(.aload 0, 1), (.invokevirtual 800112, 3), (.iconst 42, 2), (.if_icmp .eq 31, 3)]
theorem s_R_term_13 : Seg 87 13 g_R_term_13 := seg_of (by decide +kernel)
def g_R_term_22 : List (Instr × Nat) := [(.aload 0, 1), (.invokevirtual 800112, 3), (.iconst 47, 2), (.if_icmp .ne 94, 3)]
theorem s_R_term_22 : Seg 87 22 g_R_term_22 := seg_of (by decide +kernel)
def g_R_term_31 : List (Instr × Nat) := [(.aload 0, 1), (.invokevirtual 800112, 3), (.iconst 42, 2), (.if_icmp .ne 44, 3)]
theorem s_R_term_31 : Seg 87 31 g_R_term_31 := seg_of (by decide +kernel)
def g_R_term_40 : List (Instr × Nat) := [(.iconst 1, 1), (.goto 45, 3)]
theorem s_R_term_40 : Seg 87 40 g_R_term_40 := seg_of (by decide +kernel)
def g_R_term_44 : List (Instr × Nat) := [(.iconst 0, 1)]
theorem s_R_term_44 : Seg 87 44 g_R_term_44 := seg_of (by decide +kernel)
def g_R_term_45 : List (Instr × Nat) := [(.istore 2, 1), (.aload 0, 1), (.dup, 1), (.getfield 3105, 3), (.iconst 1, 1), (.iadd, 1), (.putfield 3105, 3), (.aload 0, 1), (.invokevirtual 860112, 3), (.i2l, 1), (.lstore 3, 1), (.iload 2, 1), (.ifCond .eq 73, 3)]
theorem s_R_term_45 : Seg 87 45 g_R_term_45 := seg_of (by decide +kernel)
def g_R_term_66 : List (Instr × Nat) := [(.iload 1, 1), (.i2l, 1), (.lload 3, 1), (.lmul, 1), (.goto 87, 3)]
theorem s_R_term_66 : Seg 87 66 g_R_term_66 := seg_of (by decide +kernel)
def g_R_term_73 : List (Instr × Nat) := [(.lload 3, 1), (.goto_w 0, 1), (.lcmp, 1), (.ifCond .ne 83, 3)]
theorem s_R_term_73 : Seg 87 73 g_R_term_73 := seg_of (by decide +kernel)
def g_R_term_79 : List (Instr × Nat) := [(.goto_w 0, 1), (.goto 87, 3)]
theorem s_R_term_79 : Seg 87 79 g_R_term_79 := seg_of (by decide +kernel)
def g_R_term_83 : List (Instr × Nat) := [(.iload 1, 1), (.i2l, 1), (.lload 3, 1), (.ldiv, 1)]
theorem s_R_term_83 : Seg 87 83 g_R_term_83 := seg_of (by decide +kernel)
def g_R_term_87 : List (Instr × Nat) := [(.invokeinterface 85 1, 3), (.istore 1, 1), (.goto 5, 3)]
theorem s_R_term_87 : Seg 87 87 g_R_term_87 := seg_of (by decide +kernel)
def g_R_term_94 : List (Instr × Nat) := [(.iload 1, 1), (.ireturn, 1)]
theorem s_R_term_94 : Seg 87 94 g_R_term_94 := seg_of (by decide +kernel)
/-! R sum -/
theorem mk_R_sum : 88 < 256 ∧ mtB 88 = true := ⟨by decide, mk_88⟩
def g_R_sum_0 : List (Instr × Nat) := [(.aload 0, 1), (.invokevirtual 870112, 3), (.istore 1, 1)]
theorem s_R_sum_0 : Seg 88 0 g_R_sum_0 := seg_of (by decide +kernel)
def g_R_sum_5 : List (Instr × Nat) := [(.aload 0, 1), (.getfield 3106, 3), (.iconst (-1), 1), (.if_icmp .ne 84, 3)]
theorem s_R_sum_5 : Seg 88 5 g_R_sum_5 := seg_of (by decide +kernel)
def g_R_sum_13 : List (Instr × Nat) := [(.aload 0, 1), (.invokevirtual 800112, 3), (.iconst 43, 2), (.if_icmp .eq 31, 3)]
theorem s_R_sum_13 : Seg 88 13 g_R_sum_13 := seg_of (by decide +kernel)
def g_R_sum_22 : List (Instr × Nat) := [(.aload 0, 1), (.invokevirtual 800112, 3), (.iconst 45, 2), (.if_icmp .ne 84, 3)]
theorem s_R_sum_22 : Seg 88 22 g_R_sum_22 := seg_of (by decide +kernel)
def g_R_sum_31 : List (Instr × Nat) := [(.aload 0, 1), (.invokevirtual 800112, 3), (.iconst 43, 2), (.if_icmp .ne 44, 3)]
theorem s_R_sum_31 : Seg 88 31 g_R_sum_31 := seg_of (by decide +kernel)
def g_R_sum_40 : List (Instr × Nat) := [(.iconst 1, 1), (.goto 45, 3)]
theorem s_R_sum_40 : Seg 88 40 g_R_sum_40 := seg_of (by decide +kernel)
def g_R_sum_44 : List (Instr × Nat) := [(.iconst 0, 1)]
theorem s_R_sum_44 : Seg 88 44 g_R_sum_44 := seg_of (by decide +kernel)
def g_R_sum_45 : List (Instr × Nat) := [(.istore 2, 1), (.aload 0, 1), (.dup, 1), (.getfield 3105, 3), (.iconst 1, 1), (.iadd, 1), (.putfield 3105, 3), (.aload 0, 1), (.invokevirtual 870112, 3), (.i2l, 1), (.lstore 3, 1), (.iload 2, 1), (.ifCond .eq 73, 3)]
theorem s_R_sum_45 : Seg 88 45 g_R_sum_45 := seg_of (by decide +kernel)
def g_R_sum_66 : List (Instr × Nat) := [(.iload 1, 1), (.i2l, 1), (.lload 3, 1), (.ladd, 1), (.goto 77, 3)]
theorem s_R_sum_66 : Seg 88 66 g_R_sum_66 := seg_of (by decide +kernel)
def g_R_sum_73 : List (Instr × Nat) := [(.iload 1, 1), (.i2l, 1), (.lload 3, 1), (.lsub, 1)]
theorem s_R_sum_73 : Seg 88 73 g_R_sum_73 := seg_of (by decide +kernel)
def g_R_sum_77 : List (Instr × Nat) := [(.invokeinterface 85 1, 3), (.istore 1, 1), (.goto 5, 3)]
theorem s_R_sum_77 : Seg 88 77 g_R_sum_77 := seg_of (by decide +kernel)
def g_R_sum_84 : List (Instr × Nat) := [(.iload 1, 1), (.ireturn, 1)]
theorem s_R_sum_84 : Seg 88 84 g_R_sum_84 := seg_of (by decide +kernel)
/-! R isSign -/
theorem mk_R_isSign : 89 < 256 ∧ mtB 89 = true := ⟨by decide, mk_89⟩
def g_R_isSign_0 : List (Instr × Nat) := [(.iload 0, 1), (.iconst 61, 2), (.if_icmp .eq 18, 3)]
theorem s_R_isSign_0 : Seg 89 0 g_R_isSign_0 := seg_of (by decide +kernel)
def g_R_isSign_6 : List (Instr × Nat) := [(.iload 0, 1), (.iconst 60, 2), (.if_icmp .eq 18, 3)]
theorem s_R_isSign_6 : Seg 89 6 g_R_isSign_6 := seg_of (by decide +kernel)
def g_R_isSign_12 : List (Instr × Nat) := [(.iload 0, 1), (.iconst 62, 2), (.if_icmp .ne 22, 3)]
theorem s_R_isSign_12 : Seg 89 12 g_R_isSign_12 := seg_of (by decide +kernel)
def g_R_isSign_18 : List (Instr × Nat) := [(.iconst 1, 1), (.goto 23, 3)]
theorem s_R_isSign_18 : Seg 89 18 g_R_isSign_18 := seg_of (by decide +kernel)
def g_R_isSign_22 : List (Instr × Nat) := [(.iconst 0, 1)]
theorem s_R_isSign_22 : Seg 89 22 g_R_isSign_22 := seg_of (by decide +kernel)
def g_R_isSign_23 : List (Instr × Nat) := [(.ireturn, 1)]
theorem s_R_isSign_23 : Seg 89 23 g_R_isSign_23 := seg_of (by decide +kernel)
/-! R compares -/
theorem mk_R_compares : 90 < 256 ∧ mtB 90 = true := ⟨by decide, mk_90⟩
def g_R_compares_0 : List (Instr × Nat) := [(.iload 1, 1), (.ifCond .eq 8, 3)]
theorem s_R_compares_0 : Seg 90 0 g_R_compares_0 := seg_of (by decide +kernel)
def g_R_compares_4 : List (Instr × Nat) := [(.iload 2, 1), (.goto 12, 3)]
theorem s_R_compares_4 : Seg 90 4 g_R_compares_4 := seg_of (by decide +kernel)
def g_R_compares_8 : List (Instr × Nat) := [(.aload 0, 1), (.invokevirtual 880112, 3)]
theorem s_R_compares_8 : Seg 90 8 g_R_compares_8 := seg_of (by decide +kernel)
def g_R_compares_12 : List (Instr × Nat) := [(.istore 3, 1), (.aload 0, 1), (.getfield 3106, 3), (.iconst (-1), 1), (.if_icmp .eq 23, 3)]
theorem s_R_compares_12 : Seg 90 12 g_R_compares_12 := seg_of (by decide +kernel)
def g_R_compares_21 : List (Instr × Nat) := [(.iconst 0, 1), (.ireturn, 1)]
theorem s_R_compares_21 : Seg 90 21 g_R_compares_21 := seg_of (by decide +kernel)
def g_R_compares_23 : List (Instr × Nat) := [(.aload 0, 1), (.invokevirtual 800112, 3), (.istore 4, 2), (.iload 4, 2), (.invokeinterface 89 1, 3), (.ifCond .ne 42, 3)]
theorem s_R_compares_23 : Seg 90 23 g_R_compares_23 := seg_of (by decide +kernel)
def g_R_compares_37 : List (Instr × Nat) := [(.aload 0, 1), (.invokevirtual 810112, 3), (.ireturn, 1)]
theorem s_R_compares_37 : Seg 90 37 g_R_compares_37 := seg_of (by decide +kernel)
def g_R_compares_42 : List (Instr × Nat) := [(.aload 0, 1), (.dup, 1), (.getfield 3105, 3), (.iconst 1, 1), (.iadd, 1), (.putfield 3105, 3), (.aload 0, 1), (.invokevirtual 880112, 3), (.istore 5, 2), (.iload 4, 2), (.iconst 61, 2), (.if_icmp .ne 79, 3)]
theorem s_R_compares_42 : Seg 90 42 g_R_compares_42 := seg_of (by decide +kernel)
def g_R_compares_65 : List (Instr × Nat) := [(.iload 3, 1), (.iload 5, 2), (.if_icmp .ne 75, 3)]
theorem s_R_compares_65 : Seg 90 65 g_R_compares_65 := seg_of (by decide +kernel)
def g_R_compares_71 : List (Instr × Nat) := [(.iconst 1, 1), (.goto 111, 3)]
theorem s_R_compares_71 : Seg 90 71 g_R_compares_71 := seg_of (by decide +kernel)
def g_R_compares_75 : List (Instr × Nat) := [(.iconst 0, 1), (.goto 111, 3)]
theorem s_R_compares_75 : Seg 90 75 g_R_compares_75 := seg_of (by decide +kernel)
def g_R_compares_79 : List (Instr × Nat) := [(.iload 4, 2), (.iconst 60, 2), (.if_icmp .ne 100, 3)]
theorem s_R_compares_79 : Seg 90 79 g_R_compares_79 := seg_of (by decide +kernel)
def g_R_compares_86 : List (Instr × Nat) := [(.iload 3, 1), (.iload 5, 2), (.if_icmp .ge 96, 3)]
theorem s_R_compares_86 : Seg 90 86 g_R_compares_86 := seg_of (by decide +kernel)
def g_R_compares_92 : List (Instr × Nat) := [(.iconst 1, 1), (.goto 111, 3)]
theorem s_R_compares_92 : Seg 90 92 g_R_compares_92 := seg_of (by decide +kernel)
def g_R_compares_96 : List (Instr × Nat) := [(.iconst 0, 1), (.goto 111, 3)]
theorem s_R_compares_96 : Seg 90 96 g_R_compares_96 := seg_of (by decide +kernel)
def g_R_compares_100 : List (Instr × Nat) := [(.iload 3, 1), (.iload 5, 2), (.if_icmp .le 110, 3)]
theorem s_R_compares_100 : Seg 90 100 g_R_compares_100 := seg_of (by decide +kernel)
def g_R_compares_106 : List (Instr × Nat) := [(.iconst 1, 1), (.goto 111, 3)]
theorem s_R_compares_106 : Seg 90 106 g_R_compares_106 := seg_of (by decide +kernel)
def g_R_compares_110 : List (Instr × Nat) := [(.iconst 0, 1)]
theorem s_R_compares_110 : Seg 90 110 g_R_compares_110 := seg_of (by decide +kernel)
def g_R_compares_111 : List (Instr × Nat) := [(.ireturn, 1)]
theorem s_R_compares_111 : Seg 90 111 g_R_compares_111 := seg_of (by decide +kernel)
/-! R unit -/
theorem mk_R_unit : 91 < 256 ∧ mtB 91 = true := ⟨by decide, mk_91⟩
def g_R_unit_0 : List (Instr × Nat) := [(.aload 0, 1), (.invokevirtual 800112, 3), (.istore 1, 1), (.iload 1, 1), (.iconst 33, 2), (.if_icmp .ne 45, 3)]
theorem s_R_unit_0 : Seg 91 0 g_R_unit_0 := seg_of (by decide +kernel)
def g_R_unit_11 : List (Instr × Nat) := [(.aload 0, 1), (.invokevirtual 820112, 3), (.ifCond .ne 20, 3)]
theorem s_R_unit_11 : Seg 91 11 g_R_unit_11 := seg_of (by decide +kernel)
def g_R_unit_18 : List (Instr × Nat) := [(.iconst 0, 1), (.ireturn, 1)]
theorem s_R_unit_18 : Seg 91 18 g_R_unit_18 := seg_of (by decide +kernel)
def g_R_unit_20 : List (Instr × Nat) := [(.aload 0, 1), (.invokevirtual 910112, 3), (.istore 2, 1), (.aload 0, 1), (.dup, 1), (.getfield 3107, 3), (.iconst 1, 1), (.isub, 1), (.putfield 3107, 3), (.iload 2, 1), (.ifCond .ne 43, 3)]
theorem s_R_unit_20 : Seg 91 20 g_R_unit_20 := seg_of (by decide +kernel)
def g_R_unit_39 : List (Instr × Nat) := [(.iconst 1, 1), (.goto 44, 3)]
theorem s_R_unit_39 : Seg 91 39 g_R_unit_39 := seg_of (by decide +kernel)
def g_R_unit_43 : List (Instr × Nat) := [(.iconst 0, 1)]
theorem s_R_unit_43 : Seg 91 43 g_R_unit_43 := seg_of (by decide +kernel)
def g_R_unit_44 : List (Instr × Nat) := [(.ireturn, 1)]
theorem s_R_unit_44 : Seg 91 44 g_R_unit_44 := seg_of (by decide +kernel)
def g_R_unit_45 : List (Instr × Nat) := [(.iload 1, 1), (.iconst 40, 2), (.if_icmp .ne 90, 3)]
theorem s_R_unit_45 : Seg 91 45 g_R_unit_45 := seg_of (by decide +kernel)
def g_R_unit_51 : List (Instr × Nat) := [(.aload 0, 1), (.invokevirtual 820112, 3), (.ifCond .ne 60, 3)]
theorem s_R_unit_51 : Seg 91 51 g_R_unit_51 := seg_of (by decide +kernel)
def g_R_unit_58 : List (Instr × Nat) := [(.iconst 0, 1), (.ireturn, 1)]
theorem s_R_unit_58 : Seg 91 58 g_R_unit_58 := seg_of (by decide +kernel)
def g_R_unit_60 : List (Instr × Nat) := [(.aload 0, 1), (.iconst 0, 1), (.iconst 0, 1), (.invokevirtual 930312, 3), (.istore 2, 1), (.aload 0, 1), (.iconst 41, 2), (.invokevirtual 830212, 3), (.ifCond .ne 78, 3)]
theorem s_R_unit_60 : Seg 91 60 g_R_unit_60 := seg_of (by decide +kernel)
def g_R_unit_76 : List (Instr × Nat) := [(.iconst 0, 1), (.ireturn, 1)]
theorem s_R_unit_76 : Seg 91 76 g_R_unit_76 := seg_of (by decide +kernel)
def g_R_unit_78 : List (Instr × Nat) := [(.aload 0, 1), (.dup, 1), (.getfield 3107, 3), (.iconst 1, 1), (.isub, 1), (.putfield 3107, 3), (.iload 2, 1), (.ireturn, 1)]
theorem s_R_unit_78 : Seg 91 78 g_R_unit_78 := seg_of (by decide +kernel)
def g_R_unit_90 : List (Instr × Nat) := [(.aload 0, 1), (.iconst 0, 1), (.iconst 0, 1), (.invokevirtual 900312, 3), (.ireturn, 1)]
theorem s_R_unit_90 : Seg 91 90 g_R_unit_90 := seg_of (by decide +kernel)
/-! R part -/
theorem mk_R_part : 92 < 256 ∧ mtB 92 = true := ⟨by decide, mk_92⟩
def g_R_part_0 : List (Instr × Nat) := [(.iload 1, 1), (.ifCond .eq 13, 3)]
theorem s_R_part_0 : Seg 92 0 g_R_part_0 := seg_of (by decide +kernel)
def g_R_part_4 : List (Instr × Nat) := [(.aload 0, 1), (.iconst 1, 1), (.iload 2, 1), (.invokevirtual 900312, 3), (.goto 17, 3)]
theorem s_R_part_4 : Seg 92 4 g_R_part_4 := seg_of (by decide +kernel)
def g_R_part_13 : List (Instr × Nat) := [(.aload 0, 1), (.invokevirtual 910112, 3)]
theorem s_R_part_13 : Seg 92 13 g_R_part_13 := seg_of (by decide +kernel)
def g_R_part_17 : List (Instr × Nat) := [(.istore 3, 1)]
theorem s_R_part_17 : Seg 92 17 g_R_part_17 := seg_of (by decide +kernel)
def g_R_part_18 : List (Instr × Nat) := [(.aload 0, 1), (.getfield 3106, 3), (.iconst (-1), 1), (.if_icmp .ne 69, 3)]
theorem s_R_part_18 : Seg 92 18 g_R_part_18 := seg_of (by decide +kernel)
def g_R_part_26 : List (Instr × Nat) := [(.aload 0, 1), (.invokevirtual 800112, 3), (.iconst 38, 2), (.if_icmp .ne 69, 3)]
theorem s_R_part_26 : Seg 92 26 g_R_part_26 := seg_of (by decide +kernel)
def g_R_part_35 : List (Instr × Nat) := [(.aload 0, 1), (.dup, 1), (.getfield 3105, 3), (.iconst 1, 1), (.iadd, 1), (.putfield 3105, 3), (.aload 0, 1), (.invokevirtual 910112, 3), (.istore 4, 2), (.iload 3, 1), (.ifCond .eq 64, 3)]
theorem s_R_part_35 : Seg 92 35 g_R_part_35 := seg_of (by decide +kernel)
def g_R_part_55 : List (Instr × Nat) := [(.iload 4, 2), (.ifCond .eq 64, 3)]
theorem s_R_part_55 : Seg 92 55 g_R_part_55 := seg_of (by decide +kernel)
def g_R_part_60 : List (Instr × Nat) := [(.iconst 1, 1), (.goto 65, 3)]
theorem s_R_part_60 : Seg 92 60 g_R_part_60 := seg_of (by decide +kernel)
def g_R_part_64 : List (Instr × Nat) := [(.iconst 0, 1)]
theorem s_R_part_64 : Seg 92 64 g_R_part_64 := seg_of (by decide +kernel)
def g_R_part_65 : List (Instr × Nat) := [(.istore 3, 1), (.goto 18, 3)]
theorem s_R_part_65 : Seg 92 65 g_R_part_65 := seg_of (by decide +kernel)
def g_R_part_69 : List (Instr × Nat) := [(.iload 3, 1), (.ireturn, 1)]
theorem s_R_part_69 : Seg 92 69 g_R_part_69 := seg_of (by decide +kernel)
/-! R condition -/
theorem mk_R_condition : 93 < 256 ∧ mtB 93 = true := ⟨by decide, mk_93⟩
def g_R_condition_0 : List (Instr × Nat) := [(.aload 0, 1), (.iload 1, 1), (.iload 2, 1), (.invokevirtual 920312, 3), (.istore 3, 1)]
theorem s_R_condition_0 : Seg 93 0 g_R_condition_0 := seg_of (by decide +kernel)
def g_R_condition_7 : List (Instr × Nat) := [(.aload 0, 1), (.getfield 3106, 3), (.iconst (-1), 1), (.if_icmp .ne 60, 3)]
theorem s_R_condition_7 : Seg 93 7 g_R_condition_7 := seg_of (by decide +kernel)
def g_R_condition_15 : List (Instr × Nat) := [(.aload 0, 1), (.invokevirtual 800112, 3), (.iconst 124, 2), (.if_icmp .ne 60, 3)]
theorem s_R_condition_15 : Seg 93 15 g_R_condition_15 := seg_of (by decide +kernel)
def g_R_condition_24 : List (Instr × Nat) := [(.aload 0, 1), (.dup, 1), (.getfield 3105, 3), (.iconst 1, 1), (.iadd, 1), (.putfield 3105, 3), (.aload 0, 1), (.iconst 0, 1), (.iconst 0, 1), (.invokevirtual 920312, 3), (.istore 4, 2), (.iload 3, 1), (.ifCond .ne 51, 3)]
theorem s_R_condition_24 : Seg 93 24 g_R_condition_24 := seg_of (by decide +kernel)
def g_R_condition_46 : List (Instr × Nat) := [(.iload 4, 2), (.ifCond .eq 55, 3)]
theorem s_R_condition_46 : Seg 93 46 g_R_condition_46 := seg_of (by decide +kernel)
def g_R_condition_51 : List (Instr × Nat) := [(.iconst 1, 1), (.goto 56, 3)]
theorem s_R_condition_51 : Seg 93 51 g_R_condition_51 := seg_of (by decide +kernel)
def g_R_condition_55 : List (Instr × Nat) := [(.iconst 0, 1)]
theorem s_R_condition_55 : Seg 93 55 g_R_condition_55 := seg_of (by decide +kernel)
def g_R_condition_56 : List (Instr × Nat) := [(.istore 3, 1), (.goto 7, 3)]
theorem s_R_condition_56 : Seg 93 56 g_R_condition_56 := seg_of (by decide +kernel)
def g_R_condition_60 : List (Instr × Nat) := [(.iload 3, 1), (.ireturn, 1)]
theorem s_R_condition_60 : Seg 93 60 g_R_condition_60 := seg_of (by decide +kernel)
/-! R clause -/
theorem mk_R_clause : 94 < 256 ∧ mtB 94 = true := ⟨by decide, mk_94⟩
def g_R_clause_0 : List (Instr × Nat) := [(.aload 0, 1), (.invokevirtual 800112, 3), (.istore 1, 1), (.iload 1, 1), (.iconst (-1), 1), (.if_icmp .eq 21, 3)]
theorem s_R_clause_0 : Seg 94 0 g_R_clause_0 := seg_of (by decide +kernel)
def g_R_clause_10 : List (Instr × Nat) := [(.aload 0, 1), (.getstatic 3110, 3), (.iload 1, 1), (.invokevirtual 2410213, 3), (.ifCond .ge 27, 3)]
theorem s_R_clause_10 : Seg 94 10 g_R_clause_10 := seg_of (by decide +kernel)
def g_R_clause_21 : List (Instr × Nat) := [(.aload 0, 1), (.invokevirtual 810112, 3), (.pop, 1), (.return_, 1)]
theorem s_R_clause_21 : Seg 94 21 g_R_clause_21 := seg_of (by decide +kernel)
def g_R_clause_27 : List (Instr × Nat) := [(.aload 0, 1), (.dup, 1), (.getfield 3105, 3), (.iconst 1, 1), (.iadd, 1), (.putfield 3105, 3), (.aload 0, 1), (.iconst 58, 2), (.invokevirtual 830212, 3), (.ifCond .ne 47, 3)]
theorem s_R_clause_27 : Seg 94 27 g_R_clause_27 := seg_of (by decide +kernel)
def g_R_clause_46 : List (Instr × Nat) := [(.return_, 1)]
theorem s_R_clause_46 : Seg 94 46 g_R_clause_46 := seg_of (by decide +kernel)
def g_R_clause_47 : List (Instr × Nat) := [(.iconst 1, 1), (.istore 2, 1), (.iconst 0, 1), (.istore 3, 1), (.aload 0, 1), (.invokevirtual 800112, 3), (.istore 4, 2), (.iload 4, 2), (.iconst 33, 2), (.if_icmp .eq 71, 3)]
theorem s_R_clause_47 : Seg 94 47 g_R_clause_47 := seg_of (by decide +kernel)
def g_R_clause_64 : List (Instr × Nat) := [(.iload 4, 2), (.iconst 40, 2), (.if_icmp .ne 96, 3)]
theorem s_R_clause_64 : Seg 94 64 g_R_clause_64 := seg_of (by decide +kernel)
def g_R_clause_71 : List (Instr × Nat) := [(.aload 0, 1), (.iconst 0, 1), (.iconst 0, 1), (.invokevirtual 930312, 3), (.istore 2, 1), (.aload 0, 1), (.iconst 63, 2), (.invokevirtual 830212, 3), (.ifCond .ne 88, 3)]
theorem s_R_clause_71 : Seg 94 71 g_R_clause_71 := seg_of (by decide +kernel)
def g_R_clause_87 : List (Instr × Nat) := [(.return_, 1)]
theorem s_R_clause_87 : Seg 94 87 g_R_clause_87 := seg_of (by decide +kernel)
def g_R_clause_88 : List (Instr × Nat) := [(.aload 0, 1), (.invokevirtual 880112, 3), (.istore 3, 1), (.goto 141, 3)]
theorem s_R_clause_88 : Seg 94 88 g_R_clause_88 := seg_of (by decide +kernel)
def g_R_clause_96 : List (Instr × Nat) := [(.aload 0, 1), (.invokevirtual 880112, 3), (.istore 3, 1), (.aload 0, 1), (.getfield 3106, 3), (.iconst (-1), 1), (.if_icmp .ne 141, 3)]
theorem s_R_clause_96 : Seg 94 96 g_R_clause_96 := seg_of (by decide +kernel)
def g_R_clause_109 : List (Instr × Nat) := [(.aload 0, 1), (.invokevirtual 800112, 3), (.invokeinterface 89 1, 3), (.ifCond .eq 141, 3)]
theorem s_R_clause_109 : Seg 94 109 g_R_clause_109 := seg_of (by decide +kernel)
def g_R_clause_119 : List (Instr × Nat) := [(.aload 0, 1), (.iconst 1, 1), (.iload 3, 1), (.invokevirtual 930312, 3), (.istore 2, 1), (.aload 0, 1), (.iconst 63, 2), (.invokevirtual 830212, 3), (.ifCond .ne 136, 3)]
theorem s_R_clause_119 : Seg 94 119 g_R_clause_119 := seg_of (by decide +kernel)
def g_R_clause_135 : List (Instr × Nat) := [(.return_, 1)]
theorem s_R_clause_135 : Seg 94 135 g_R_clause_135 := seg_of (by decide +kernel)
def g_R_clause_136 : List (Instr × Nat) := [(.aload 0, 1), (.invokevirtual 880112, 3), (.istore 3, 1)]
theorem s_R_clause_136 : Seg 94 136 g_R_clause_136 := seg_of (by decide +kernel)
def g_R_clause_141 : List (Instr × Nat) := [(.aload 0, 1), (.getfield 3106, 3), (.iconst (-1), 1), (.if_icmp .ne 168, 3)]
theorem s_R_clause_141 : Seg 94 141 g_R_clause_141 := seg_of (by decide +kernel)
def g_R_clause_149 : List (Instr × Nat) := [(.aload 0, 1), (.getfield 3112, 3), (.ifCond .ne 168, 3)]
theorem s_R_clause_149 : Seg 94 149 g_R_clause_149 := seg_of (by decide +kernel)
def g_R_clause_156 : List (Instr × Nat) := [(.iload 1, 1), (.aload 0, 1), (.getfield 3108, 3), (.if_icmp .ne 168, 3)]
theorem s_R_clause_156 : Seg 94 156 g_R_clause_156 := seg_of (by decide +kernel)
def g_R_clause_164 : List (Instr × Nat) := [(.iload 2, 1), (.ifCond .ne 169, 3)]
theorem s_R_clause_164 : Seg 94 164 g_R_clause_164 := seg_of (by decide +kernel)
def g_R_clause_168 : List (Instr × Nat) := [(.return_, 1)]
theorem s_R_clause_168 : Seg 94 168 g_R_clause_168 := seg_of (by decide +kernel)
def g_R_clause_169 : List (Instr × Nat) := [(.aload 0, 1), (.iconst 1, 1), (.fstore 3112, 3), (.aload 0, 1), (.iload 3, 1), (.putfield 3109, 3), (.return_, 1)]
theorem s_R_clause_169 : Seg 94 169 g_R_clause_169 := seg_of (by decide +kernel)
/-! R goThrough -/
theorem mk_R_goThrough : 95 < 256 ∧ mtB 95 = true := ⟨by decide, mk_95⟩
def g_R_goThrough_0 : List (Instr × Nat) := [(.aload 0, 1), (.aload 1, 1), (.putstatic 3099, 3), (.aload 0, 1), (.iload 2, 1), (.putfield 3103, 3), (.aload 0, 1), (.iload 3, 1), (.putfield 3104, 3), (.aload 0, 1), (.iload 4, 2), (.ifCond .eq 27, 3)]
theorem s_R_goThrough_0 : Seg 95 0 g_R_goThrough_0 := seg_of (by decide +kernel)
def g_R_goThrough_21 : List (Instr × Nat) := [(.ldc 4, 3), (.goto 29, 3)]
theorem s_R_goThrough_21 : Seg 95 21 g_R_goThrough_21 := seg_of (by decide +kernel)
def g_R_goThrough_27 : List (Instr × Nat) := [(.ldc 2, 2)]
theorem s_R_goThrough_27 : Seg 95 27 g_R_goThrough_27 := seg_of (by decide +kernel)
def g_R_goThrough_29 : List (Instr × Nat) := [(.putstatic 3110, 3), (.aload 0, 1), (.iload 4, 2), (.ifCond .eq 44, 3)]
theorem s_R_goThrough_29 : Seg 95 29 g_R_goThrough_29 := seg_of (by decide +kernel)
def g_R_goThrough_38 : List (Instr × Nat) := [(.ldc 8, 3), (.goto 46, 3)]
theorem s_R_goThrough_38 : Seg 95 38 g_R_goThrough_38 := seg_of (by decide +kernel)
def g_R_goThrough_44 : List (Instr × Nat) := [(.ldc 6, 2)]
theorem s_R_goThrough_44 : Seg 95 44 g_R_goThrough_44 := seg_of (by decide +kernel)
def g_R_goThrough_46 : List (Instr × Nat) := [(.putstatic 3111, 3), (.aload 0, 1), (.iload 5, 2), (.putfield 3108, 3), (.aload 0, 1), (.iconst 0, 1), (.putfield 3105, 3), (.aload 0, 1), (.iconst (-1), 1), (.putfield 3106, 3), (.aload 0, 1), (.iconst 0, 1), (.putfield 3107, 3), (.aload 0, 1), (.iconst 0, 1), (.fstore 3112, 3), (.aload 0, 1), (.iconst 0, 1), (.putfield 3109, 3), (.aload 0, 1), (.invokevirtual 940112, 3)]
theorem s_R_goThrough_46 : Seg 95 46 g_R_goThrough_46 := seg_of (by decide +kernel)
def g_R_goThrough_84 : List (Instr × Nat) := [(.aload 0, 1), (.getfield 3106, 3), (.iconst (-1), 1), (.if_icmp .ne 118, 3)]
theorem s_R_goThrough_84 : Seg 95 84 g_R_goThrough_84 := seg_of (by decide +kernel)
def g_R_goThrough_92 : List (Instr × Nat) := [(.aload 0, 1), (.invokevirtual 800112, 3), (.iconst 59, 2), (.if_icmp .ne 118, 3)]
theorem s_R_goThrough_92 : Seg 95 92 g_R_goThrough_92 := seg_of (by decide +kernel)
def g_R_goThrough_101 : List (Instr × Nat) := [(.aload 0, 1), (.dup, 1), (.getfield 3105, 3), (.iconst 1, 1), (.iadd, 1), (.putfield 3105, 3), (.aload 0, 1), (.invokevirtual 940112, 3), (.goto 84, 3)]
theorem s_R_goThrough_101 : Seg 95 101 g_R_goThrough_101 := seg_of (by decide +kernel)
def g_R_goThrough_118 : List (Instr × Nat) := [(.aload 0, 1), (.getfield 3106, 3), (.iconst (-1), 1), (.if_icmp .ne 139, 3)]
theorem s_R_goThrough_118 : Seg 95 118 g_R_goThrough_118 := seg_of (by decide +kernel)
def g_R_goThrough_126 : List (Instr × Nat) := [(.aload 0, 1), (.invokevirtual 800112, 3), (.iconst (-1), 1), (.if_icmp .eq 139, 3)]
theorem s_R_goThrough_126 : Seg 95 126 g_R_goThrough_126 := seg_of (by decide +kernel)
def g_R_goThrough_134 : List (Instr × Nat) := [(.aload 0, 1), (.invokevirtual 810112, 3), (.pop, 1)]
theorem s_R_goThrough_134 : Seg 95 134 g_R_goThrough_134 := seg_of (by decide +kernel)
def g_R_goThrough_139 : List (Instr × Nat) := [(.return_, 1)]
theorem s_R_goThrough_139 : Seg 95 139 g_R_goThrough_139 := seg_of (by decide +kernel)
/-! R fault -/
theorem mk_R_fault : 96 < 256 ∧ mtB 96 = true := ⟨by decide, mk_96⟩
def g_R_fault_0 : List (Instr × Nat) := [(.aload 0, 1), (.iconst 0, 1), (.putfield 3072, 3), (.iload 1, 1), (.iconst 0, 1), (.iconst 1, 1), (.invokeinterface 50 3, 3), (.ifCond .ne 17, 3)]
theorem s_R_fault_0 : Seg 96 0 g_R_fault_0 := seg_of (by decide +kernel)
def g_R_fault_14 : List (Instr × Nat) := [(.iconst (-2), 2), (.ireturn, 1)]
theorem s_R_fault_14 : Seg 96 14 g_R_fault_14 := seg_of (by decide +kernel)
def g_R_fault_17 : List (Instr × Nat) := [(.aload 0, 1), (.aload 0, 1), (.getstatic 3095, 3), (.iconst 0, 1), (.aload 0, 1), (.getfield 3100, 3), (.iload 1, 1), (.iconst 1, 1), (.if_icmp .ne 36, 3)]
theorem s_R_fault_17 : Seg 96 17 g_R_fault_17 := seg_of (by decide +kernel)
def g_R_fault_32 : List (Instr × Nat) := [(.iconst 1, 1), (.goto 37, 3)]
theorem s_R_fault_32 : Seg 96 32 g_R_fault_32 := seg_of (by decide +kernel)
def g_R_fault_36 : List (Instr × Nat) := [(.iconst 0, 1)]
theorem s_R_fault_36 : Seg 96 36 g_R_fault_36 := seg_of (by decide +kernel)
def g_R_fault_37 : List (Instr × Nat) := [(.iconst 0, 1), (.invokevirtual 950612, 3), (.aload 0, 1), (.getfield 3106, 3), (.ireturn, 1)]
theorem s_R_fault_37 : Seg 96 37 g_R_fault_37 := seg_of (by decide +kernel)
/-! R keeps -/
theorem mk_R_keeps : 97 < 256 ∧ mtB 97 = true := ⟨by decide, mk_97⟩
def g_R_keeps_0 : List (Instr × Nat) := [(.aload 0, 1), (.aload 0, 1), (.getstatic 3095, 3), (.iconst 0, 1), (.aload 0, 1), (.getfield 3100, 3), (.iload 2, 1), (.iconst 0, 1), (.invokevirtual 950612, 3), (.aload 0, 1), (.getfield 3106, 3), (.iconst (-1), 1), (.if_icmp .eq 25, 3)]
theorem s_R_keeps_0 : Seg 97 0 g_R_keeps_0 := seg_of (by decide +kernel)
def g_R_keeps_23 : List (Instr × Nat) := [(.iconst 0, 1), (.ireturn, 1)]
theorem s_R_keeps_23 : Seg 97 23 g_R_keeps_23 := seg_of (by decide +kernel)
def g_R_keeps_25 : List (Instr × Nat) := [(.iconst 0, 1), (.istore 3, 1)]
theorem s_R_keeps_25 : Seg 97 25 g_R_keeps_25 := seg_of (by decide +kernel)
def g_R_keeps_27 : List (Instr × Nat) := [(.iload 3, 1), (.aload 0, 1), (.getfield 3100, 3), (.if_icmp .ge 59, 3)]
theorem s_R_keeps_27 : Seg 97 27 g_R_keeps_27 := seg_of (by decide +kernel)
def g_R_keeps_35 : List (Instr × Nat) := [(.aload 0, 1), (.getstatic 3096, 3), (.iconst 160, 3), (.iload 1, 1), (.imul, 1), (.iload 3, 1), (.iadd, 1), (.aload 0, 1), (.getstatic 3095, 3), (.iload 3, 1), (.baload, 1), (.bastore, 1), (.iinc 3 (1), 3), (.goto 27, 3)]
theorem s_R_keeps_35 : Seg 97 35 g_R_keeps_35 := seg_of (by decide +kernel)
def g_R_keeps_59 : List (Instr × Nat) := [(.aload 0, 1), (.getstatic 3097, 3), (.iload 1, 1), (.aload 0, 1), (.getfield 3100, 3), (.iastore, 1), (.aload 0, 1), (.iconst 0, 1), (.putfield 3100, 3), (.iconst 1, 1), (.ireturn, 1)]
theorem s_R_keeps_59 : Seg 97 59 g_R_keeps_59 := seg_of (by decide +kernel)
/-! R law -/
theorem mk_R_law : 98 < 256 ∧ mtB 98 = true := ⟨by decide, mk_98⟩
def g_R_law_0 : List (Instr × Nat) := [(.aload 0, 1), (.iconst 0, 1), (.putfield 3072, 3), (.aload 0, 1), (.getfield 3101, 3), (.iconst 8, 2), (.if_icmp .eq 26, 3)]
theorem s_R_law_0 : Seg 98 0 g_R_law_0 := seg_of (by decide +kernel)
def g_R_law_14 : List (Instr × Nat) := [(.aload 0, 1), (.aload 0, 1), (.getfield 3101, 3), (.iconst 0, 1), (.invokevirtual 970312, 3), (.ifCond .ne 28, 3)]
theorem s_R_law_14 : Seg 98 14 g_R_law_14 := seg_of (by decide +kernel)
def g_R_law_26 : List (Instr × Nat) := [(.iconst (-1), 1), (.ireturn, 1)]
theorem s_R_law_26 : Seg 98 26 g_R_law_26 := seg_of (by decide +kernel)
def g_R_law_28 : List (Instr × Nat) := [(.aload 0, 1), (.dup, 1), (.getfield 3101, 3), (.iconst 1, 1), (.iadd, 1), (.putfield 3101, 3), (.aload 0, 1), (.getfield 3101, 3), (.iconst 1, 1), (.isub, 1), (.ireturn, 1)]
theorem s_R_law_28 : Seg 98 28 g_R_law_28 := seg_of (by decide +kernel)
/-! R mind -/
theorem mk_R_mind : 99 < 256 ∧ mtB 99 = true := ⟨by decide, mk_99⟩
def g_R_mind_0 : List (Instr × Nat) := [(.aload 0, 1), (.iconst 0, 1), (.putfield 3072, 3), (.aload 0, 1), (.getfield 3102, 3), (.iconst 8, 2), (.if_icmp .eq 29, 3)]
theorem s_R_mind_0 : Seg 99 0 g_R_mind_0 := seg_of (by decide +kernel)
def g_R_mind_14 : List (Instr × Nat) := [(.aload 0, 1), (.iconst 8, 2), (.aload 0, 1), (.getfield 3102, 3), (.iadd, 1), (.iconst 1, 1), (.invokevirtual 970312, 3), (.ifCond .ne 31, 3)]
theorem s_R_mind_14 : Seg 99 14 g_R_mind_14 := seg_of (by decide +kernel)
def g_R_mind_29 : List (Instr × Nat) := [(.iconst (-1), 1), (.ireturn, 1)]
theorem s_R_mind_29 : Seg 99 29 g_R_mind_29 := seg_of (by decide +kernel)
def g_R_mind_31 : List (Instr × Nat) := [(.aload 0, 1), (.dup, 1), (.getfield 3102, 3), (.iconst 1, 1), (.iadd, 1), (.putfield 3102, 3), (.aload 0, 1), (.getfield 3102, 3), (.iconst 1, 1), (.isub, 1), (.ireturn, 1)]
theorem s_R_mind_31 : Seg 99 31 g_R_mind_31 := seg_of (by decide +kernel)
/-! R isMind -/
theorem mk_R_isMind : 100 < 256 ∧ mtB 100 = true := ⟨by decide, mk_100⟩
def g_R_isMind_0 : List (Instr × Nat) := [(.iload 1, 1), (.ifCond .lt 16, 3)]
theorem s_R_isMind_0 : Seg 100 0 g_R_isMind_0 := seg_of (by decide +kernel)
def g_R_isMind_4 : List (Instr × Nat) := [(.iload 1, 1), (.aload 0, 1), (.getfield 3102, 3), (.if_icmp .ge 16, 3)]
theorem s_R_isMind_4 : Seg 100 4 g_R_isMind_4 := seg_of (by decide +kernel)
def g_R_isMind_12 : List (Instr × Nat) := [(.iconst 1, 1), (.goto 17, 3)]
theorem s_R_isMind_12 : Seg 100 12 g_R_isMind_12 := seg_of (by decide +kernel)
def g_R_isMind_16 : List (Instr × Nat) := [(.iconst 0, 1)]
theorem s_R_isMind_16 : Seg 100 16 g_R_isMind_16 := seg_of (by decide +kernel)
def g_R_isMind_17 : List (Instr × Nat) := [(.ireturn, 1)]
theorem s_R_isMind_17 : Seg 100 17 g_R_isMind_17 := seg_of (by decide +kernel)
/-! R by -/
theorem mk_R_by : 101 < 256 ∧ mtB 101 = true := ⟨by decide, mk_101⟩
def g_R_by_0 : List (Instr × Nat) := [(.aload 0, 1), (.iconst 0, 1), (.putfield 3072, 3), (.aload 0, 1), (.iload 1, 1), (.invokevirtual 520212, 3), (.ifCond .eq 27, 3)]
theorem s_R_by_0 : Seg 101 0 g_R_by_0 := seg_of (by decide +kernel)
def g_R_by_13 : List (Instr × Nat) := [(.iload 2, 1), (.iconst (-1), 1), (.aload 0, 1), (.getfield 3101, 3), (.iconst 1, 1), (.isub, 1), (.invokeinterface 50 3, 3), (.ifCond .ne 29, 3)]
theorem s_R_by_13 : Seg 101 13 g_R_by_13 := seg_of (by decide +kernel)
def g_R_by_27 : List (Instr × Nat) := [(.iconst 0, 1), (.ireturn, 1)]
theorem s_R_by_27 : Seg 101 27 g_R_by_27 := seg_of (by decide +kernel)
def g_R_by_29 : List (Instr × Nat) := [(.aload 0, 1), (.getstatic 3081, 3), (.iload 1, 1), (.iload 2, 1), (.iastore, 1), (.iconst 1, 1), (.ireturn, 1)]
theorem s_R_by_29 : Seg 101 29 g_R_by_29 := seg_of (by decide +kernel)
/-! R minded -/
theorem mk_R_minded : 102 < 256 ∧ mtB 102 = true := ⟨by decide, mk_102⟩
def g_R_minded_0 : List (Instr × Nat) := [(.aload 0, 1), (.iconst 0, 1), (.putfield 3072, 3), (.aload 0, 1), (.iload 1, 1), (.invokevirtual 510212, 3), (.ifCond .eq 26, 3)]
theorem s_R_minded_0 : Seg 102 0 g_R_minded_0 := seg_of (by decide +kernel)
def g_R_minded_13 : List (Instr × Nat) := [(.iload 2, 1), (.iconst (-1), 1), (.if_icmp .eq 28, 3)]
theorem s_R_minded_13 : Seg 102 13 g_R_minded_13 := seg_of (by decide +kernel)
def g_R_minded_18 : List (Instr × Nat) := [(.aload 0, 1), (.iload 2, 1), (.invokevirtual 1000212, 3), (.ifCond .ne 28, 3)]
theorem s_R_minded_18 : Seg 102 18 g_R_minded_18 := seg_of (by decide +kernel)
def g_R_minded_26 : List (Instr × Nat) := [(.iconst 0, 1), (.ireturn, 1)]
theorem s_R_minded_26 : Seg 102 26 g_R_minded_26 := seg_of (by decide +kernel)
def g_R_minded_28 : List (Instr × Nat) := [(.aload 0, 1), (.getstatic 3083, 3), (.iload 1, 1), (.iload 2, 1), (.iastore, 1), (.iconst 1, 1), (.ireturn, 1)]
theorem s_R_minded_28 : Seg 102 28 g_R_minded_28 := seg_of (by decide +kernel)
/-! R noLetters -/
theorem mk_R_noLetters : 103 < 256 ∧ mtB 103 = true := ⟨by decide, mk_103⟩
def g_R_noLetters_0 : List (Instr × Nat) := [(.iconst 0, 1), (.istore 1, 1)]
theorem s_R_noLetters_0 : Seg 103 0 g_R_noLetters_0 := seg_of (by decide +kernel)
def g_R_noLetters_2 : List (Instr × Nat) := [(.iload 1, 1), (.iconst 128, 3), (.if_icmp .ge 22, 3)]
theorem s_R_noLetters_2 : Seg 103 2 g_R_noLetters_2 := seg_of (by decide +kernel)
def g_R_noLetters_9 : List (Instr × Nat) := [(.aload 0, 1), (.getstatic 3098, 3), (.iload 1, 1), (.iconst 0, 1), (.iastore, 1), (.iinc 1 (1), 3), (.goto 2, 3)]
theorem s_R_noLetters_9 : Seg 103 9 g_R_noLetters_9 := seg_of (by decide +kernel)
def g_R_noLetters_22 : List (Instr × Nat) := [(.return_, 1)]
theorem s_R_noLetters_22 : Seg 103 22 g_R_noLetters_22 := seg_of (by decide +kernel)
/-! R hasWorth -/
theorem mk_R_hasWorth : 104 < 256 ∧ mtB 104 = true := ⟨by decide, mk_104⟩
def g_R_hasWorth_0 : List (Instr × Nat) := [(.iload 1, 1), (.iconst (-1), 1), (.if_icmp .ne 7, 3)]
theorem s_R_hasWorth_0 : Seg 104 0 g_R_hasWorth_0 := seg_of (by decide +kernel)
def g_R_hasWorth_5 : List (Instr × Nat) := [(.iconst 0, 1), (.ireturn, 1)]
theorem s_R_hasWorth_5 : Seg 104 5 g_R_hasWorth_5 := seg_of (by decide +kernel)
def g_R_hasWorth_7 : List (Instr × Nat) := [(.iload 2, 1), (.ifCond .eq 18, 3)]
theorem s_R_hasWorth_7 : Seg 104 7 g_R_hasWorth_7 := seg_of (by decide +kernel)
def g_R_hasWorth_11 : List (Instr × Nat) := [(.iconst 8, 2), (.iload 1, 1), (.iadd, 1), (.goto 19, 3)]
theorem s_R_hasWorth_11 : Seg 104 11 g_R_hasWorth_11 := seg_of (by decide +kernel)
def g_R_hasWorth_18 : List (Instr × Nat) := [(.iload 1, 1)]
theorem s_R_hasWorth_18 : Seg 104 18 g_R_hasWorth_18 := seg_of (by decide +kernel)
def g_R_hasWorth_19 : List (Instr × Nat) := [(.istore 4, 2), (.aload 0, 1), (.aload 0, 1), (.getstatic 3096, 3), (.iconst 160, 3), (.iload 4, 2), (.imul, 1), (.aload 0, 1), (.getstatic 3097, 3), (.iload 4, 2), (.iaload, 1), (.iload 2, 1), (.iload 3, 1), (.invokevirtual 950612, 3), (.aload 0, 1), (.getfield 3112, 3), (.ireturn, 1)]
theorem s_R_hasWorth_19 : Seg 104 19 g_R_hasWorth_19 := seg_of (by decide +kernel)
/-! R worth -/
theorem mk_R_worth : 105 < 256 ∧ mtB 105 = true := ⟨by decide, mk_105⟩
def g_R_worth_0 : List (Instr × Nat) := [(.aload 0, 1), (.invokevirtual 1030112, 3), (.aload 0, 1), (.getstatic 3098, 3), (.iconst 104, 2), (.iload 3, 1), (.iastore, 1), (.aload 0, 1), (.getstatic 3098, 3), (.iconst 101, 2), (.iload 4, 2), (.iastore, 1), (.aload 0, 1), (.getstatic 3098, 3), (.iconst 111, 2), (.iload 5, 2), (.iastore, 1), (.aload 0, 1), (.getstatic 3098, 3), (.iconst 116, 2), (.iload 6, 2), (.iastore, 1), (.aload 0, 1), (.getstatic 3098, 3), (.iconst 107, 2), (.iload 7, 2), (.iastore, 1), (.aload 0, 1), (.aload 0, 1), (.iload 1, 1), (.invokevirtual 1000212, 3), (.ifCond .eq 83, 3)]
theorem s_R_worth_0 : Seg 105 0 g_R_worth_0 := seg_of (by decide +kernel)
def g_R_worth_57 : List (Instr × Nat) := [(.iload 2, 1), (.iconst 110, 2), (.if_icmp .eq 69, 3)]
theorem s_R_worth_57 : Seg 105 57 g_R_worth_57 := seg_of (by decide +kernel)
def g_R_worth_63 : List (Instr × Nat) := [(.iload 2, 1), (.iconst 99, 2), (.if_icmp .ne 83, 3)]
theorem s_R_worth_63 : Seg 105 63 g_R_worth_63 := seg_of (by decide +kernel)
def g_R_worth_69 : List (Instr × Nat) := [(.aload 0, 1), (.iload 1, 1), (.iconst 1, 1), (.iload 2, 1), (.invokevirtual 1040412, 3), (.ifCond .eq 83, 3)]
theorem s_R_worth_69 : Seg 105 69 g_R_worth_69 := seg_of (by decide +kernel)
def g_R_worth_79 : List (Instr × Nat) := [(.iconst 0, 1), (.goto 84, 3)]
theorem s_R_worth_79 : Seg 105 79 g_R_worth_79 := seg_of (by decide +kernel)
def g_R_worth_83 : List (Instr × Nat) := [(.iconst 1, 1)]
theorem s_R_worth_83 : Seg 105 83 g_R_worth_83 := seg_of (by decide +kernel)
def g_R_worth_84 : List (Instr × Nat) := [(.putfield 3072, 3), (.aload 0, 1), (.getfield 3072, 3), (.ifCond .le 98, 3)]
theorem s_R_worth_84 : Seg 105 84 g_R_worth_84 := seg_of (by decide +kernel)
def g_R_worth_94 : List (Instr × Nat) := [(.iconst 0, 1), (.goto 102, 3)]
theorem s_R_worth_94 : Seg 105 94 g_R_worth_94 := seg_of (by decide +kernel)
def g_R_worth_98 : List (Instr × Nat) := [(.aload 0, 1), (.getfield 3109, 3)]
theorem s_R_worth_98 : Seg 105 98 g_R_worth_98 := seg_of (by decide +kernel)
def g_R_worth_102 : List (Instr × Nat) := [(.ireturn, 1)]
theorem s_R_worth_102 : Seg 105 102 g_R_worth_102 := seg_of (by decide +kernel)
