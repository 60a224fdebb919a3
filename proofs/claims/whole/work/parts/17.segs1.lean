/-! ===== the segments of the methods ===== -/
/-! R put -/
theorem mk_R_put : 77 < 256 ∧ mtB 77 = true := ⟨by decide, mk_77⟩
def g_R_put_0 : List (Instr × Nat) := [(.iconst 24, 2), (.istore 2, 1)]
theorem s_R_put_0 : Seg 77 0 g_R_put_0 := seg_of (by decide +kernel)
def g_R_put_3 : List (Instr × Nat) := [(.iload 2, 1), (.ifCond .lt 49, 3), (.iload 1, 1), (.iload 2, 1), (.ishr, 1), (.iconst 255, 3), (.iand, 1), (.ifCond .ne 20, 3), (.goto 43, 3)]
theorem s_R_put_3 : Seg 77 3 g_R_put_3 := seg_of (by decide +kernel)
def g_R_put_20 : List (Instr × Nat) := [(.aload 0, 1), (.getstatic 3095, 3), (.aload 0, 1), (.getfield 3100, 3), (.iload 1, 1), (.iload 2, 1), (.ishr, 1), (.i2b, 1), (.bastore, 1), (.aload 0, 1), (.dup, 1), (.getfield 3100, 3), (.iconst 1, 1), (.iadd, 1), (.putfield 3100, 3)]
theorem s_R_put_20 : Seg 77 20 g_R_put_20 := seg_of (by decide +kernel)
def g_R_put_43 : List (Instr × Nat) := [(.iinc 2 (-8), 3), (.goto 3, 3)]
theorem s_R_put_43 : Seg 77 43 g_R_put_43 := seg_of (by decide +kernel)
def g_R_put_49 : List (Instr × Nat) := [(.return_, 1)]
theorem s_R_put_49 : Seg 77 49 g_R_put_49 := seg_of (by decide +kernel)
/-! R feed -/
theorem mk_R_feed : 78 < 256 ∧ mtB 78 = true := ⟨by decide, mk_78⟩
def g_R_feed_0 : List (Instr × Nat) := [(.aload 0, 1), (.iconst 0, 1), (.putfield 3072, 3), (.aload 0, 1), (.getfield 3100, 3), (.iload 1, 1), (.invokeinterface 76 1, 3), (.iadd, 1), (.iload 2, 1), (.invokeinterface 76 1, 3), (.iadd, 1), (.iload 3, 1), (.invokeinterface 76 1, 3), (.iadd, 1), (.iload 4, 2), (.invokeinterface 76 1, 3), (.iadd, 1), (.iload 5, 2), (.invokeinterface 76 1, 3), (.iadd, 1), (.iconst 160, 3), (.if_icmp .le 44, 3), (.iconst (-1), 1), (.ireturn, 1)]
theorem s_R_feed_0 : Seg 78 0 g_R_feed_0 := seg_of (by decide +kernel)
def g_R_feed_44 : List (Instr × Nat) := [(.aload 0, 1), (.iload 1, 1), (.invokevirtual 770212, 3), (.aload 0, 1), (.iload 2, 1), (.invokevirtual 770212, 3), (.aload 0, 1), (.iload 3, 1), (.invokevirtual 770212, 3), (.aload 0, 1), (.iload 4, 2), (.invokevirtual 770212, 3), (.aload 0, 1), (.iload 5, 2), (.invokevirtual 770212, 3), (.aload 0, 1), (.getfield 3100, 3), (.ireturn, 1)]
theorem s_R_feed_44 : Seg 78 44 g_R_feed_44 := seg_of (by decide +kernel)
/-! R end -/
theorem mk_R_end : 79 < 256 ∧ mtB 79 = true := ⟨by decide, mk_79⟩
def g_R_end_0 : List (Instr × Nat) := [(.aload 0, 1), (.iconst 0, 1), (.putfield 3072, 3), (.iload 1, 1), (.ifCond .lt 17, 3), (.iload 1, 1), (.aload 0, 1), (.getfield 3100, 3), (.if_icmp .le 19, 3)]
theorem s_R_end_0 : Seg 79 0 g_R_end_0 := seg_of (by decide +kernel)
def g_R_end_17 : List (Instr × Nat) := [(.iconst 0, 1), (.ireturn, 1)]
theorem s_R_end_17 : Seg 79 17 g_R_end_17 := seg_of (by decide +kernel)
def g_R_end_19 : List (Instr × Nat) := [(.aload 0, 1), (.iload 1, 1), (.putfield 3100, 3), (.iconst 1, 1), (.ireturn, 1)]
theorem s_R_end_19 : Seg 79 19 g_R_end_19 := seg_of (by decide +kernel)
/-! R look -/
theorem mk_R_look : 80 < 256 ∧ mtB 80 = true := ⟨by decide, mk_80⟩
def g_R_look_0 : List (Instr × Nat) := [(.aload 0, 1), (.getfield 3105, 3), (.aload 0, 1), (.getfield 3104, 3), (.if_icmp .ge 43, 3), (.aload 0, 1), (.getstatic 3099, 3), (.aload 0, 1), (.getfield 3103, 3), (.aload 0, 1), (.getfield 3105, 3), (.iadd, 1), (.baload, 1), (.iconst 32, 2), (.if_icmp .ne 43, 3), (.aload 0, 1), (.dup, 1), (.getfield 3105, 3), (.iconst 1, 1), (.iadd, 1), (.putfield 3105, 3), (.goto 0, 3)]
theorem s_R_look_0 : Seg 80 0 g_R_look_0 := seg_of (by decide +kernel)
def g_R_look_43 : List (Instr × Nat) := [(.aload 0, 1), (.getfield 3105, 3), (.aload 0, 1), (.getfield 3104, 3), (.if_icmp .ge 75, 3), (.aload 0, 1), (.getstatic 3099, 3), (.aload 0, 1), (.getfield 3103, 3), (.aload 0, 1), (.getfield 3105, 3), (.iadd, 1), (.baload, 1), (.iconst 255, 3), (.iand, 1), (.goto 76, 3)]
theorem s_R_look_43 : Seg 80 43 g_R_look_43 := seg_of (by decide +kernel)
def g_R_look_75 : List (Instr × Nat) := [(.iconst (-1), 1)]
theorem s_R_look_75 : Seg 80 75 g_R_look_75 := seg_of (by decide +kernel)
def g_R_look_76 : List (Instr × Nat) := [(.ireturn, 1)]
theorem s_R_look_76 : Seg 80 76 g_R_look_76 := seg_of (by decide +kernel)
/-! R fails -/
theorem mk_R_fails : 81 < 256 ∧ mtB 81 = true := ⟨by decide, mk_81⟩
def g_R_fails_0 : List (Instr × Nat) := [(.aload 0, 1), (.getfield 3106, 3), (.iconst (-1), 1), (.if_icmp .ne 16, 3), (.aload 0, 1), (.aload 0, 1), (.getfield 3105, 3), (.putfield 3106, 3)]
theorem s_R_fails_0 : Seg 81 0 g_R_fails_0 := seg_of (by decide +kernel)
def g_R_fails_16 : List (Instr × Nat) := [(.iconst 0, 1), (.ireturn, 1)]
theorem s_R_fails_16 : Seg 81 16 g_R_fails_16 := seg_of (by decide +kernel)
/-! R goesIn -/
theorem mk_R_goesIn : 82 < 256 ∧ mtB 82 = true := ⟨by decide, mk_82⟩
def g_R_goesIn_0 : List (Instr × Nat) := [(.aload 0, 1), (.getfield 3107, 3), (.iconst 6, 2), (.if_icmp .ne 14, 3), (.aload 0, 1), (.invokevirtual 810112, 3), (.ireturn, 1)]
theorem s_R_goesIn_0 : Seg 82 0 g_R_goesIn_0 := seg_of (by decide +kernel)
def g_R_goesIn_14 : List (Instr × Nat) := [(.aload 0, 1), (.dup, 1), (.getfield 3107, 3), (.iconst 1, 1), (.iadd, 1), (.putfield 3107, 3), (.aload 0, 1), (.dup, 1), (.getfield 3105, 3), (.iconst 1, 1), (.iadd, 1), (.putfield 3105, 3), (.iconst 1, 1), (.ireturn, 1)]
theorem s_R_goesIn_14 : Seg 82 14 g_R_goesIn_14 := seg_of (by decide +kernel)
/-! R takes -/
theorem mk_R_takes : 83 < 256 ∧ mtB 83 = true := ⟨by decide, mk_83⟩
def g_R_takes_0 : List (Instr × Nat) := [(.aload 0, 1), (.getfield 3106, 3), (.iconst (-1), 1), (.if_icmp .ne 16, 3), (.aload 0, 1), (.invokevirtual 800112, 3), (.iload 1, 1), (.if_icmp .eq 21, 3)]
theorem s_R_takes_0 : Seg 83 0 g_R_takes_0 := seg_of (by decide +kernel)
def g_R_takes_16 : List (Instr × Nat) := [(.aload 0, 1), (.invokevirtual 810112, 3), (.ireturn, 1)]
theorem s_R_takes_16 : Seg 83 16 g_R_takes_16 := seg_of (by decide +kernel)
def g_R_takes_21 : List (Instr × Nat) := [(.aload 0, 1), (.dup, 1), (.getfield 3105, 3), (.iconst 1, 1), (.iadd, 1), (.putfield 3105, 3), (.iconst 1, 1), (.ireturn, 1)]
theorem s_R_takes_21 : Seg 83 21 g_R_takes_21 := seg_of (by decide +kernel)
/-! R isDigit -/
theorem mk_R_isDigit : 84 < 256 ∧ mtB 84 = true := ⟨by decide, mk_84⟩
def g_R_isDigit_0 : List (Instr × Nat) := [(.aload 0, 1), (.getfield 3105, 3), (.aload 0, 1), (.getfield 3104, 3), (.if_icmp .ge 53, 3), (.aload 0, 1), (.getstatic 3099, 3), (.aload 0, 1), (.getfield 3103, 3), (.aload 0, 1), (.getfield 3105, 3), (.iadd, 1), (.baload, 1), (.iconst 48, 2), (.if_icmp .lt 53, 3), (.aload 0, 1), (.getstatic 3099, 3), (.aload 0, 1), (.getfield 3103, 3), (.aload 0, 1), (.getfield 3105, 3), (.iadd, 1), (.baload, 1), (.iconst 57, 2), (.if_icmp .gt 53, 3), (.iconst 1, 1), (.goto 54, 3)]
theorem s_R_isDigit_0 : Seg 84 0 g_R_isDigit_0 := seg_of (by decide +kernel)
def g_R_isDigit_53 : List (Instr × Nat) := [(.iconst 0, 1)]
theorem s_R_isDigit_53 : Seg 84 53 g_R_isDigit_53 := seg_of (by decide +kernel)
def g_R_isDigit_54 : List (Instr × Nat) := [(.ireturn, 1)]
theorem s_R_isDigit_54 : Seg 84 54 g_R_isDigit_54 := seg_of (by decide +kernel)
/-! R within -/
theorem mk_R_within : 85 < 256 ∧ mtB 85 = true := ⟨by decide, mk_85⟩
def g_R_within_0 : List (Instr × Nat) := [(.jsr_w (-1000000), 3), (.jsr_w (1000000), 3), (.lload 0, 1), (.dsub, 3), (.dadd, 3), (.l2i, 1), (.ireturn, 1)]
theorem s_R_within_0 : Seg 85 0 g_R_within_0 := seg_of (by decide +kernel)
/-! R atom -/
theorem mk_R_atom : 86 < 256 ∧ mtB 86 = true := ⟨by decide, mk_86⟩
def g_R_atom_0 : List (Instr × Nat) := [(.aload 0, 1), (.invokevirtual 800112, 3), (.istore 1, 1), (.iload 1, 1), (.iconst (-1), 1), (.if_icmp .eq 38, 3), (.aload 0, 1), (.getstatic 3111, 3), (.iload 1, 1), (.invokevirtual 2410213, 3), (.ifCond .lt 38, 3), (.aload 0, 1), (.dup, 1), (.getfield 3105, 3), (.iconst 1, 1), (.iadd, 1), (.putfield 3105, 3), (.aload 0, 1), (.getstatic 3098, 3), (.iload 1, 1), (.iaload, 1), (.ireturn, 1)]
theorem s_R_atom_0 : Seg 86 0 g_R_atom_0 := seg_of (by decide +kernel)
def g_R_atom_38 : List (Instr × Nat) := [(.iload 1, 1), (.iconst 91, 2), (.if_icmp .ne 81, 3), (.aload 0, 1), (.invokevirtual 820112, 3), (.ifCond .ne 53, 3), (.iconst 0, 1), (.ireturn, 1)]
theorem s_R_atom_38 : Seg 86 38 g_R_atom_38 := seg_of (by decide +kernel)
def g_R_atom_53 : List (Instr × Nat) := [(.aload 0, 1), (.invokevirtual 880112, 3), (.istore 2, 1), (.aload 0, 1), (.iconst 93, 2), (.invokevirtual 830212, 3), (.ifCond .ne 69, 3), (.iconst 0, 1), (.ireturn, 1)]
theorem s_R_atom_53 : Seg 86 53 g_R_atom_53 := seg_of (by decide +kernel)
def g_R_atom_69 : List (Instr × Nat) := [(.aload 0, 1), (.dup, 1), (.getfield 3107, 3), (.iconst 1, 1), (.isub, 1), (.putfield 3107, 3), (.iload 2, 1), (.ireturn, 1)]
theorem s_R_atom_69 : Seg 86 69 g_R_atom_69 := seg_of (by decide +kernel)
def g_R_atom_81 : List (Instr × Nat) := [(.aload 0, 1), (.invokevirtual 840112, 3), (.ifCond .ne 93, 3), (.aload 0, 1), (.invokevirtual 810112, 3), (.pop, 1)]
theorem s_R_atom_81 : Seg 86 81 g_R_atom_81 := seg_of (by decide +kernel)
def g_R_atom_93 : List (Instr × Nat) := [(.iconst 0, 1), (.istore 2, 1), (.iconst 0, 1), (.istore 3, 1)]
theorem s_R_atom_93 : Seg 86 93 g_R_atom_93 := seg_of (by decide +kernel)
def g_R_atom_97 : List (Instr × Nat) := [(.aload 0, 1), (.invokevirtual 840112, 3), (.ifCond .eq 163, 3), (.aload 0, 1), (.getfield 3106, 3), (.iconst (-1), 1), (.if_icmp .ne 163, 3), (.iload 3, 1), (.iconst 4, 1), (.if_icmp .ne 124, 3), (.aload 0, 1), (.invokevirtual 810112, 3), (.pop, 1), (.iconst 0, 1), (.ireturn, 1)]
theorem s_R_atom_97 : Seg 86 97 g_R_atom_97 := seg_of (by decide +kernel)
def g_R_atom_124 : List (Instr × Nat) := [(.iconst 10, 2), (.iload 2, 1), (.imul, 1), (.aload 0, 1), (.getstatic 3099, 3), (.aload 0, 1), (.getfield 3103, 3), (.aload 0, 1), (.getfield 3105, 3), (.iadd, 1), (.baload, 1), (.iadd, 1), (.iconst 48, 2), (.isub, 1), (.istore 2, 1), (.aload 0, 1), (.dup, 1), (.getfield 3105, 3), (.iconst 1, 1), (.iadd, 1), (.putfield 3105, 3), (.iinc 3 (1), 3), (.goto 97, 3)]
theorem s_R_atom_124 : Seg 86 124 g_R_atom_124 := seg_of (by decide +kernel)
def g_R_atom_163 : List (Instr × Nat) := [(.iload 2, 1), (.ireturn, 1)]
theorem s_R_atom_163 : Seg 86 163 g_R_atom_163 := seg_of (by decide +kernel)
/-! R term -/
theorem mk_R_term : 87 < 256 ∧ mtB 87 = true := ⟨by decide, mk_87⟩
def g_R_term_0 : List (Instr × Nat) := [(.aload 0, 1), (.invokevirtual 860112, 3), (.istore 1, 1)]
theorem s_R_term_0 : Seg 87 0 g_R_term_0 := seg_of (by decide +kernel)
def g_R_term_5 : List (Instr × Nat) := [(.aload 0, 1), (.getfield 3106, 3), (.iconst (-1), 1), (.if_icmp .ne 94, 3), (.aload 0, 1), (.invokevirtual 800112, 3), (.iconst 42, 2), (.if_icmp .eq 31, 3), (.aload 0, 1), (.invokevirtual 800112, 3), (.iconst 47, 2), (.if_icmp .ne 94, 3)]
theorem s_R_term_5 : Seg 87 5 g_R_term_5 := seg_of (by decide +kernel)
def g_R_term_31 : List (Instr × Nat) := [(.aload 0, 1), (.invokevirtual 800112, 3), (.iconst 42, 2), (.if_icmp .ne 44, 3), (.iconst 1, 1), (.goto 45, 3)]
theorem s_R_term_31 : Seg 87 31 g_R_term_31 := seg_of (by decide +kernel)
def g_R_term_44 : List (Instr × Nat) := [(.iconst 0, 1)]
theorem s_R_term_44 : Seg 87 44 g_R_term_44 := seg_of (by decide +kernel)
def g_R_term_45 : List (Instr × Nat) := [(.istore 2, 1), (.aload 0, 1), (.dup, 1), (.getfield 3105, 3), (.iconst 1, 1), (.iadd, 1), (.putfield 3105, 3), (.aload 0, 1), (.invokevirtual 860112, 3), (.i2l, 1), (.lstore 3, 1), (.iload 2, 1), (.ifCond .eq 73, 3), (.iload 1, 1), (.i2l, 1), (.lload 3, 1), (.lmul, 1), (.goto 87, 3)]
theorem s_R_term_45 : Seg 87 45 g_R_term_45 := seg_of (by decide +kernel)
def g_R_term_73 : List (Instr × Nat) := [(.lload 3, 1), (.goto_w 0, 1), (.lcmp, 1), (.ifCond .ne 83, 3), (.goto_w 0, 1), (.goto 87, 3)]
theorem s_R_term_73 : Seg 87 73 g_R_term_73 := seg_of (by decide +kernel)
def g_R_term_83 : List (Instr × Nat) := [(.iload 1, 1), (.i2l, 1), (.lload 3, 1), (.ldiv, 1)]
theorem s_R_term_83 : Seg 87 83 g_R_term_83 := seg_of (by decide +kernel)
def g_R_term_87 : List (Instr × Nat) := [(.invokeinterface 85 1, 3), (.istore 1, 1), (.goto 5, 3)]
theorem s_R_term_87 : Seg 87 87 g_R_term_87 := seg_of (by decide +kernel)
def g_R_term_94 : List (Instr × Nat) := [(.iload 1, 1), (.ireturn, 1)]
theorem s_R_term_94 : Seg 87 94 g_R_term_94 := seg_of (by decide +kernel)
/-! R sum -/
theorem mk_R_sum : 88 < 256 ∧ mtB 88 = true := ⟨by decide, mk_88⟩
def g_R_sum_0 : List (Instr × Nat) := [(.aload 0, 1), (.invokevirtual 870112, 3), (.istore 1, 1)]
theorem s_R_sum_0 : Seg 88 0 g_R_sum_0 := seg_of (by decide +kernel)
def g_R_sum_5 : List (Instr × Nat) := [(.aload 0, 1), (.getfield 3106, 3), (.iconst (-1), 1), (.if_icmp .ne 84, 3), (.aload 0, 1), (.invokevirtual 800112, 3), (.iconst 43, 2), (.if_icmp .eq 31, 3), (.aload 0, 1), (.invokevirtual 800112, 3), (.iconst 45, 2), (.if_icmp .ne 84, 3)]
theorem s_R_sum_5 : Seg 88 5 g_R_sum_5 := seg_of (by decide +kernel)
def g_R_sum_31 : List (Instr × Nat) := [(.aload 0, 1), (.invokevirtual 800112, 3), (.iconst 43, 2), (.if_icmp .ne 44, 3), (.iconst 1, 1), (.goto 45, 3)]
theorem s_R_sum_31 : Seg 88 31 g_R_sum_31 := seg_of (by decide +kernel)
def g_R_sum_44 : List (Instr × Nat) := [(.iconst 0, 1)]
theorem s_R_sum_44 : Seg 88 44 g_R_sum_44 := seg_of (by decide +kernel)
def g_R_sum_45 : List (Instr × Nat) := [(.istore 2, 1), (.aload 0, 1), (.dup, 1), (.getfield 3105, 3), (.iconst 1, 1), (.iadd, 1), (.putfield 3105, 3), (.aload 0, 1), (.invokevirtual 870112, 3), (.i2l, 1), (.lstore 3, 1), (.iload 2, 1), (.ifCond .eq 73, 3), (.iload 1, 1), (.i2l, 1), (.lload 3, 1), (.ladd, 1), (.goto 77, 3)]
theorem s_R_sum_45 : Seg 88 45 g_R_sum_45 := seg_of (by decide +kernel)
def g_R_sum_73 : List (Instr × Nat) := [(.iload 1, 1), (.i2l, 1), (.lload 3, 1), (.lsub, 1)]
theorem s_R_sum_73 : Seg 88 73 g_R_sum_73 := seg_of (by decide +kernel)
def g_R_sum_77 : List (Instr × Nat) := [(.invokeinterface 85 1, 3), (.istore 1, 1), (.goto 5, 3)]
theorem s_R_sum_77 : Seg 88 77 g_R_sum_77 := seg_of (by decide +kernel)
def g_R_sum_84 : List (Instr × Nat) := [(.iload 1, 1), (.ireturn, 1)]
theorem s_R_sum_84 : Seg 88 84 g_R_sum_84 := seg_of (by decide +kernel)
/-! R isSign -/
theorem mk_R_isSign : 89 < 256 ∧ mtB 89 = true := ⟨by decide, mk_89⟩
def g_R_isSign_0 : List (Instr × Nat) := [(.iload 0, 1), (.iconst 61, 2), (.if_icmp .eq 18, 3), (.iload 0, 1), (.iconst 60, 2), (.if_icmp .eq 18, 3), (.iload 0, 1), (.iconst 62, 2), (.if_icmp .ne 22, 3)]
theorem s_R_isSign_0 : Seg 89 0 g_R_isSign_0 := seg_of (by decide +kernel)
def g_R_isSign_18 : List (Instr × Nat) := [(.iconst 1, 1), (.goto 23, 3)]
theorem s_R_isSign_18 : Seg 89 18 g_R_isSign_18 := seg_of (by decide +kernel)
def g_R_isSign_22 : List (Instr × Nat) := [(.iconst 0, 1)]
theorem s_R_isSign_22 : Seg 89 22 g_R_isSign_22 := seg_of (by decide +kernel)
def g_R_isSign_23 : List (Instr × Nat) := [(.ireturn, 1)]
theorem s_R_isSign_23 : Seg 89 23 g_R_isSign_23 := seg_of (by decide +kernel)
/-! R compares -/
theorem mk_R_compares : 90 < 256 ∧ mtB 90 = true := ⟨by decide, mk_90⟩
def g_R_compares_0 : List (Instr × Nat) := [(.iload 1, 1), (.ifCond .eq 8, 3), (.iload 2, 1), (.goto 12, 3)]
theorem s_R_compares_0 : Seg 90 0 g_R_compares_0 := seg_of (by decide +kernel)
def g_R_compares_8 : List (Instr × Nat) := [(.aload 0, 1), (.invokevirtual 880112, 3)]
theorem s_R_compares_8 : Seg 90 8 g_R_compares_8 := seg_of (by decide +kernel)
def g_R_compares_12 : List (Instr × Nat) := [(.istore 3, 1), (.aload 0, 1), (.getfield 3106, 3), (.iconst (-1), 1), (.if_icmp .eq 23, 3), (.iconst 0, 1), (.ireturn, 1)]
theorem s_R_compares_12 : Seg 90 12 g_R_compares_12 := seg_of (by decide +kernel)
def g_R_compares_23 : List (Instr × Nat) := [(.aload 0, 1), (.invokevirtual 800112, 3), (.istore 4, 2), (.iload 4, 2), (.invokeinterface 89 1, 3), (.ifCond .ne 42, 3), (.aload 0, 1), (.invokevirtual 810112, 3), (.ireturn, 1)]
theorem s_R_compares_23 : Seg 90 23 g_R_compares_23 := seg_of (by decide +kernel)
def g_R_compares_42 : List (Instr × Nat) := [(.aload 0, 1), (.dup, 1), (.getfield 3105, 3), (.iconst 1, 1), (.iadd, 1), (.putfield 3105, 3), (.aload 0, 1), (.invokevirtual 880112, 3), (.istore 5, 2), (.iload 4, 2), (.iconst 61, 2), (.if_icmp .ne 79, 3), (.iload 3, 1), (.iload 5, 2), (.if_icmp .ne 75, 3), (.iconst 1, 1), (.goto 111, 3)]
theorem s_R_compares_42 : Seg 90 42 g_R_compares_42 := seg_of (by decide +kernel)
def g_R_compares_75 : List (Instr × Nat) := [(.iconst 0, 1), (.goto 111, 3)]
theorem s_R_compares_75 : Seg 90 75 g_R_compares_75 := seg_of (by decide +kernel)
def g_R_compares_79 : List (Instr × Nat) := [(.iload 4, 2), (.iconst 60, 2), (.if_icmp .ne 100, 3), (.iload 3, 1), (.iload 5, 2), (.if_icmp .ge 96, 3), (.iconst 1, 1), (.goto 111, 3)]
theorem s_R_compares_79 : Seg 90 79 g_R_compares_79 := seg_of (by decide +kernel)
def g_R_compares_96 : List (Instr × Nat) := [(.iconst 0, 1), (.goto 111, 3)]
theorem s_R_compares_96 : Seg 90 96 g_R_compares_96 := seg_of (by decide +kernel)
def g_R_compares_100 : List (Instr × Nat) := [(.iload 3, 1), (.iload 5, 2), (.if_icmp .le 110, 3), (.iconst 1, 1), (.goto 111, 3)]
theorem s_R_compares_100 : Seg 90 100 g_R_compares_100 := seg_of (by decide +kernel)
def g_R_compares_110 : List (Instr × Nat) := [(.iconst 0, 1)]
theorem s_R_compares_110 : Seg 90 110 g_R_compares_110 := seg_of (by decide +kernel)
def g_R_compares_111 : List (Instr × Nat) := [(.ireturn, 1)]
theorem s_R_compares_111 : Seg 90 111 g_R_compares_111 := seg_of (by decide +kernel)
/-! R unit -/
theorem mk_R_unit : 91 < 256 ∧ mtB 91 = true := ⟨by decide, mk_91⟩
def g_R_unit_0 : List (Instr × Nat) := [(.aload 0, 1), (.invokevirtual 800112, 3), (.istore 1, 1), (.iload 1, 1), (.iconst 33, 2), (.if_icmp .ne 45, 3), (.aload 0, 1), (.invokevirtual 820112, 3), (.ifCond .ne 20, 3), (.iconst 0, 1), (.ireturn, 1)]
theorem s_R_unit_0 : Seg 91 0 g_R_unit_0 := seg_of (by decide +kernel)
def g_R_unit_20 : List (Instr × Nat) := [(.aload 0, 1), (.invokevirtual 910112, 3), (.istore 2, 1), (.aload 0, 1), (.dup, 1), (.getfield 3107, 3), (.iconst 1, 1), (.isub, 1), (.putfield 3107, 3), (.iload 2, 1), (.ifCond .ne 43, 3), (.iconst 1, 1), (.goto 44, 3)]
theorem s_R_unit_20 : Seg 91 20 g_R_unit_20 := seg_of (by decide +kernel)
def g_R_unit_43 : List (Instr × Nat) := [(.iconst 0, 1)]
theorem s_R_unit_43 : Seg 91 43 g_R_unit_43 := seg_of (by decide +kernel)
def g_R_unit_44 : List (Instr × Nat) := [(.ireturn, 1)]
theorem s_R_unit_44 : Seg 91 44 g_R_unit_44 := seg_of (by decide +kernel)
def g_R_unit_45 : List (Instr × Nat) := [(.iload 1, 1), (.iconst 40, 2), (.if_icmp .ne 90, 3), (.aload 0, 1), (.invokevirtual 820112, 3), (.ifCond .ne 60, 3), (.iconst 0, 1), (.ireturn, 1)]
theorem s_R_unit_45 : Seg 91 45 g_R_unit_45 := seg_of (by decide +kernel)
def g_R_unit_60 : List (Instr × Nat) := [(.aload 0, 1), (.iconst 0, 1), (.iconst 0, 1), (.invokevirtual 930312, 3), (.istore 2, 1), (.aload 0, 1), (.iconst 41, 2), (.invokevirtual 830212, 3), (.ifCond .ne 78, 3), (.iconst 0, 1), (.ireturn, 1)]
theorem s_R_unit_60 : Seg 91 60 g_R_unit_60 := seg_of (by decide +kernel)
def g_R_unit_78 : List (Instr × Nat) := [(.aload 0, 1), (.dup, 1), (.getfield 3107, 3), (.iconst 1, 1), (.isub, 1), (.putfield 3107, 3), (.iload 2, 1), (.ireturn, 1)]
theorem s_R_unit_78 : Seg 91 78 g_R_unit_78 := seg_of (by decide +kernel)
def g_R_unit_90 : List (Instr × Nat) := [(.aload 0, 1), (.iconst 0, 1), (.iconst 0, 1), (.invokevirtual 900312, 3), (.ireturn, 1)]
theorem s_R_unit_90 : Seg 91 90 g_R_unit_90 := seg_of (by decide +kernel)
/-! R part -/
theorem mk_R_part : 92 < 256 ∧ mtB 92 = true := ⟨by decide, mk_92⟩
def g_R_part_0 : List (Instr × Nat) := [(.iload 1, 1), (.ifCond .eq 13, 3), (.aload 0, 1), (.iconst 1, 1), (.iload 2, 1), (.invokevirtual 900312, 3), (.goto 17, 3)]
theorem s_R_part_0 : Seg 92 0 g_R_part_0 := seg_of (by decide +kernel)
def g_R_part_13 : List (Instr × Nat) := [(.aload 0, 1), (.invokevirtual 910112, 3)]
theorem s_R_part_13 : Seg 92 13 g_R_part_13 := seg_of (by decide +kernel)
def g_R_part_17 : List (Instr × Nat) := [(.istore 3, 1)]
theorem s_R_part_17 : Seg 92 17 g_R_part_17 := seg_of (by decide +kernel)
def g_R_part_18 : List (Instr × Nat) := [(.aload 0, 1), (.getfield 3106, 3), (.iconst (-1), 1), (.if_icmp .ne 69, 3), (.aload 0, 1), (.invokevirtual 800112, 3), (.iconst 38, 2), (.if_icmp .ne 69, 3), (.aload 0, 1), (.dup, 1), (.getfield 3105, 3), (.iconst 1, 1), (.iadd, 1), (.putfield 3105, 3), (.aload 0, 1), (.invokevirtual 910112, 3), (.istore 4, 2), (.iload 3, 1), (.ifCond .eq 64, 3), (.iload 4, 2), (.ifCond .eq 64, 3), (.iconst 1, 1), (.goto 65, 3)]
theorem s_R_part_18 : Seg 92 18 g_R_part_18 := seg_of (by decide +kernel)
def g_R_part_64 : List (Instr × Nat) := [(.iconst 0, 1)]
theorem s_R_part_64 : Seg 92 64 g_R_part_64 := seg_of (by decide +kernel)
def g_R_part_65 : List (Instr × Nat) := [(.istore 3, 1), (.goto 18, 3)]
theorem s_R_part_65 : Seg 92 65 g_R_part_65 := seg_of (by decide +kernel)
def g_R_part_69 : List (Instr × Nat) := [(.iload 3, 1), (.ireturn, 1)]
theorem s_R_part_69 : Seg 92 69 g_R_part_69 := seg_of (by decide +kernel)
/-! R condition -/
theorem mk_R_condition : 93 < 256 ∧ mtB 93 = true := ⟨by decide, mk_93⟩
def g_R_condition_0 : List (Instr × Nat) := [(.aload 0, 1), (.iload 1, 1), (.iload 2, 1), (.invokevirtual 920312, 3), (.istore 3, 1)]
theorem s_R_condition_0 : Seg 93 0 g_R_condition_0 := seg_of (by decide +kernel)
def g_R_condition_7 : List (Instr × Nat) := [(.aload 0, 1), (.getfield 3106, 3), (.iconst (-1), 1), (.if_icmp .ne 60, 3), (.aload 0, 1), (.invokevirtual 800112, 3), (.iconst 124, 2), (.if_icmp .ne 60, 3), (.aload 0, 1), (.dup, 1), (.getfield 3105, 3), (.iconst 1, 1), (.iadd, 1), (.putfield 3105, 3), (.aload 0, 1), (.iconst 0, 1), (.iconst 0, 1), (.invokevirtual 920312, 3), (.istore 4, 2), (.iload 3, 1), (.ifCond .ne 51, 3), (.iload 4, 2), (.ifCond .eq 55, 3)]
theorem s_R_condition_7 : Seg 93 7 g_R_condition_7 := seg_of (by decide +kernel)
def g_R_condition_51 : List (Instr × Nat) := [(.iconst 1, 1), (.goto 56, 3)]
theorem s_R_condition_51 : Seg 93 51 g_R_condition_51 := seg_of (by decide +kernel)
def g_R_condition_55 : List (Instr × Nat) := [(.iconst 0, 1)]
theorem s_R_condition_55 : Seg 93 55 g_R_condition_55 := seg_of (by decide +kernel)
def g_R_condition_56 : List (Instr × Nat) := [(.istore 3, 1), (.goto 7, 3)]
theorem s_R_condition_56 : Seg 93 56 g_R_condition_56 := seg_of (by decide +kernel)
def g_R_condition_60 : List (Instr × Nat) := [(.iload 3, 1), (.ireturn, 1)]
theorem s_R_condition_60 : Seg 93 60 g_R_condition_60 := seg_of (by decide +kernel)
/-! R clause -/
theorem mk_R_clause : 94 < 256 ∧ mtB 94 = true := ⟨by decide, mk_94⟩
def g_R_clause_0 : List (Instr × Nat) := [(.aload 0, 1), (.invokevirtual 800112, 3), (.istore 1, 1), (.iload 1, 1), (.iconst (-1), 1), (.if_icmp .eq 21, 3), (.aload 0, 1), (.getstatic 3110, 3), (.iload 1, 1), (.invokevirtual 2410213, 3), (.ifCond .ge 27, 3)]
theorem s_R_clause_0 : Seg 94 0 g_R_clause_0 := seg_of (by decide +kernel)
def g_R_clause_21 : List (Instr × Nat) := [(.aload 0, 1), (.invokevirtual 810112, 3), (.pop, 1), (.return_, 1)]
theorem s_R_clause_21 : Seg 94 21 g_R_clause_21 := seg_of (by decide +kernel)
def g_R_clause_27 : List (Instr × Nat) := [(.aload 0, 1), (.dup, 1), (.getfield 3105, 3), (.iconst 1, 1), (.iadd, 1), (.putfield 3105, 3), (.aload 0, 1), (.iconst 58, 2), (.invokevirtual 830212, 3), (.ifCond .ne 47, 3), (.return_, 1)]
theorem s_R_clause_27 : Seg 94 27 g_R_clause_27 := seg_of (by decide +kernel)
def g_R_clause_47 : List (Instr × Nat) := [(.iconst 1, 1), (.istore 2, 1), (.iconst 0, 1), (.istore 3, 1), (.aload 0, 1), (.invokevirtual 800112, 3), (.istore 4, 2), (.iload 4, 2), (.iconst 33, 2), (.if_icmp .eq 71, 3), (.iload 4, 2), (.iconst 40, 2), (.if_icmp .ne 96, 3)]
theorem s_R_clause_47 : Seg 94 47 g_R_clause_47 := seg_of (by decide +kernel)
def g_R_clause_71 : List (Instr × Nat) := [(.aload 0, 1), (.iconst 0, 1), (.iconst 0, 1), (.invokevirtual 930312, 3), (.istore 2, 1), (.aload 0, 1), (.iconst 63, 2), (.invokevirtual 830212, 3), (.ifCond .ne 88, 3), (.return_, 1)]
theorem s_R_clause_71 : Seg 94 71 g_R_clause_71 := seg_of (by decide +kernel)
def g_R_clause_88 : List (Instr × Nat) := [(.aload 0, 1), (.invokevirtual 880112, 3), (.istore 3, 1), (.goto 141, 3)]
theorem s_R_clause_88 : Seg 94 88 g_R_clause_88 := seg_of (by decide +kernel)
def g_R_clause_96 : List (Instr × Nat) := [(.aload 0, 1), (.invokevirtual 880112, 3), (.istore 3, 1), (.aload 0, 1), (.getfield 3106, 3), (.iconst (-1), 1), (.if_icmp .ne 141, 3), (.aload 0, 1), (.invokevirtual 800112, 3), (.invokeinterface 89 1, 3), (.ifCond .eq 141, 3), (.aload 0, 1), (.iconst 1, 1), (.iload 3, 1), (.invokevirtual 930312, 3), (.istore 2, 1), (.aload 0, 1), (.iconst 63, 2), (.invokevirtual 830212, 3), (.ifCond .ne 136, 3), (.return_, 1)]
theorem s_R_clause_96 : Seg 94 96 g_R_clause_96 := seg_of (by decide +kernel)
def g_R_clause_136 : List (Instr × Nat) := [(.aload 0, 1), (.invokevirtual 880112, 3), (.istore 3, 1)]
theorem s_R_clause_136 : Seg 94 136 g_R_clause_136 := seg_of (by decide +kernel)
def g_R_clause_141 : List (Instr × Nat) := [(.aload 0, 1), (.getfield 3106, 3), (.iconst (-1), 1), (.if_icmp .ne 168, 3), (.aload 0, 1), (.getfield 3112, 3), (.ifCond .ne 168, 3), (.iload 1, 1), (.aload 0, 1), (.getfield 3108, 3), (.if_icmp .ne 168, 3), (.iload 2, 1), (.ifCond .ne 169, 3)]
theorem s_R_clause_141 : Seg 94 141 g_R_clause_141 := seg_of (by decide +kernel)
def g_R_clause_168 : List (Instr × Nat) := [(.return_, 1)]
theorem s_R_clause_168 : Seg 94 168 g_R_clause_168 := seg_of (by decide +kernel)
def g_R_clause_169 : List (Instr × Nat) := [(.aload 0, 1), (.iconst 1, 1), (.fstore 3112, 3), (.aload 0, 1), (.iload 3, 1), (.putfield 3109, 3), (.return_, 1)]
theorem s_R_clause_169 : Seg 94 169 g_R_clause_169 := seg_of (by decide +kernel)
/-! R goThrough -/
theorem mk_R_goThrough : 95 < 256 ∧ mtB 95 = true := ⟨by decide, mk_95⟩
def g_R_goThrough_0 : List (Instr × Nat) := [(.aload 0, 1), (.aload 1, 1), (.putstatic 3099, 3), (.aload 0, 1), (.iload 2, 1), (.putfield 3103, 3), (.aload 0, 1), (.iload 3, 1), (.putfield 3104, 3), (.aload 0, 1), (.iload 4, 2), (.ifCond .eq 27, 3), (.ldc 4, 3), (.goto 29, 3)]
theorem s_R_goThrough_0 : Seg 95 0 g_R_goThrough_0 := seg_of (by decide +kernel)
def g_R_goThrough_27 : List (Instr × Nat) := [(.ldc 2, 2)]
theorem s_R_goThrough_27 : Seg 95 27 g_R_goThrough_27 := seg_of (by decide +kernel)
def g_R_goThrough_29 : List (Instr × Nat) := [(.putstatic 3110, 3), (.aload 0, 1), (.iload 4, 2), (.ifCond .eq 44, 3), (.ldc 8, 3), (.goto 46, 3)]
theorem s_R_goThrough_29 : Seg 95 29 g_R_goThrough_29 := seg_of (by decide +kernel)
def g_R_goThrough_44 : List (Instr × Nat) := [(.ldc 6, 2)]
theorem s_R_goThrough_44 : Seg 95 44 g_R_goThrough_44 := seg_of (by decide +kernel)
def g_R_goThrough_46 : List (Instr × Nat) := [(.putstatic 3111, 3), (.aload 0, 1), (.iload 5, 2), (.putfield 3108, 3), (.aload 0, 1), (.iconst 0, 1), (.putfield 3105, 3), (.aload 0, 1), (.iconst (-1), 1), (.putfield 3106, 3), (.aload 0, 1), (.iconst 0, 1), (.putfield 3107, 3), (.aload 0, 1), (.iconst 0, 1), (.fstore 3112, 3), (.aload 0, 1), (.iconst 0, 1), (.putfield 3109, 3), (.aload 0, 1), (.invokevirtual 940112, 3)]
theorem s_R_goThrough_46 : Seg 95 46 g_R_goThrough_46 := seg_of (by decide +kernel)
def g_R_goThrough_84 : List (Instr × Nat) := [(.aload 0, 1), (.getfield 3106, 3), (.iconst (-1), 1), (.if_icmp .ne 118, 3), (.aload 0, 1), (.invokevirtual 800112, 3), (.iconst 59, 2), (.if_icmp .ne 118, 3), (.aload 0, 1), (.dup, 1), (.getfield 3105, 3), (.iconst 1, 1), (.iadd, 1), (.putfield 3105, 3), (.aload 0, 1), (.invokevirtual 940112, 3), (.goto 84, 3)]
theorem s_R_goThrough_84 : Seg 95 84 g_R_goThrough_84 := seg_of (by decide +kernel)
def g_R_goThrough_118 : List (Instr × Nat) := [(.aload 0, 1), (.getfield 3106, 3), (.iconst (-1), 1), (.if_icmp .ne 139, 3), (.aload 0, 1), (.invokevirtual 800112, 3), (.iconst (-1), 1), (.if_icmp .eq 139, 3), (.aload 0, 1), (.invokevirtual 810112, 3), (.pop, 1)]
theorem s_R_goThrough_118 : Seg 95 118 g_R_goThrough_118 := seg_of (by decide +kernel)
def g_R_goThrough_139 : List (Instr × Nat) := [(.return_, 1)]
theorem s_R_goThrough_139 : Seg 95 139 g_R_goThrough_139 := seg_of (by decide +kernel)
/-! R fault -/
theorem mk_R_fault : 96 < 256 ∧ mtB 96 = true := ⟨by decide, mk_96⟩
def g_R_fault_0 : List (Instr × Nat) := [(.aload 0, 1), (.iconst 0, 1), (.putfield 3072, 3), (.iload 1, 1), (.iconst 0, 1), (.iconst 1, 1), (.invokeinterface 50 3, 3), (.ifCond .ne 17, 3), (.iconst (-2), 2), (.ireturn, 1)]
theorem s_R_fault_0 : Seg 96 0 g_R_fault_0 := seg_of (by decide +kernel)
def g_R_fault_17 : List (Instr × Nat) := [(.aload 0, 1), (.aload 0, 1), (.getstatic 3095, 3), (.iconst 0, 1), (.aload 0, 1), (.getfield 3100, 3), (.iload 1, 1), (.iconst 1, 1), (.if_icmp .ne 36, 3), (.iconst 1, 1), (.goto 37, 3)]
theorem s_R_fault_17 : Seg 96 17 g_R_fault_17 := seg_of (by decide +kernel)
def g_R_fault_36 : List (Instr × Nat) := [(.iconst 0, 1)]
theorem s_R_fault_36 : Seg 96 36 g_R_fault_36 := seg_of (by decide +kernel)
def g_R_fault_37 : List (Instr × Nat) := [(.iconst 0, 1), (.invokevirtual 950612, 3), (.aload 0, 1), (.getfield 3106, 3), (.ireturn, 1)]
theorem s_R_fault_37 : Seg 96 37 g_R_fault_37 := seg_of (by decide +kernel)
/-! R keeps -/
theorem mk_R_keeps : 97 < 256 ∧ mtB 97 = true := ⟨by decide, mk_97⟩
def g_R_keeps_0 : List (Instr × Nat) := [(.aload 0, 1), (.aload 0, 1), (.getstatic 3095, 3), (.iconst 0, 1), (.aload 0, 1), (.getfield 3100, 3), (.iload 2, 1), (.iconst 0, 1), (.invokevirtual 950612, 3), (.aload 0, 1), (.getfield 3106, 3), (.iconst (-1), 1), (.if_icmp .eq 25, 3), (.iconst 0, 1), (.ireturn, 1)]
theorem s_R_keeps_0 : Seg 97 0 g_R_keeps_0 := seg_of (by decide +kernel)
def g_R_keeps_25 : List (Instr × Nat) := [(.iconst 0, 1), (.istore 3, 1)]
theorem s_R_keeps_25 : Seg 97 25 g_R_keeps_25 := seg_of (by decide +kernel)
def g_R_keeps_27 : List (Instr × Nat) := [(.iload 3, 1), (.aload 0, 1), (.getfield 3100, 3), (.if_icmp .ge 59, 3), (.aload 0, 1), (.getstatic 3096, 3), (.iconst 160, 3), (.iload 1, 1), (.imul, 1), (.iload 3, 1), (.iadd, 1), (.aload 0, 1), (.getstatic 3095, 3), (.iload 3, 1), (.baload, 1), (.bastore, 1), (.iinc 3 (1), 3), (.goto 27, 3)]
theorem s_R_keeps_27 : Seg 97 27 g_R_keeps_27 := seg_of (by decide +kernel)
def g_R_keeps_59 : List (Instr × Nat) := [(.aload 0, 1), (.getstatic 3097, 3), (.iload 1, 1), (.aload 0, 1), (.getfield 3100, 3), (.iastore, 1), (.aload 0, 1), (.iconst 0, 1), (.putfield 3100, 3), (.iconst 1, 1), (.ireturn, 1)]
theorem s_R_keeps_59 : Seg 97 59 g_R_keeps_59 := seg_of (by decide +kernel)
/-! R law -/
theorem mk_R_law : 98 < 256 ∧ mtB 98 = true := ⟨by decide, mk_98⟩
def g_R_law_0 : List (Instr × Nat) := [(.aload 0, 1), (.iconst 0, 1), (.putfield 3072, 3), (.aload 0, 1), (.getfield 3101, 3), (.iconst 8, 2), (.if_icmp .eq 26, 3), (.aload 0, 1), (.aload 0, 1), (.getfield 3101, 3), (.iconst 0, 1), (.invokevirtual 970312, 3), (.ifCond .ne 28, 3)]
theorem s_R_law_0 : Seg 98 0 g_R_law_0 := seg_of (by decide +kernel)
def g_R_law_26 : List (Instr × Nat) := [(.iconst (-1), 1), (.ireturn, 1)]
theorem s_R_law_26 : Seg 98 26 g_R_law_26 := seg_of (by decide +kernel)
def g_R_law_28 : List (Instr × Nat) := [(.aload 0, 1), (.dup, 1), (.getfield 3101, 3), (.iconst 1, 1), (.iadd, 1), (.putfield 3101, 3), (.aload 0, 1), (.getfield 3101, 3), (.iconst 1, 1), (.isub, 1), (.ireturn, 1)]
theorem s_R_law_28 : Seg 98 28 g_R_law_28 := seg_of (by decide +kernel)
/-! R mind -/
theorem mk_R_mind : 99 < 256 ∧ mtB 99 = true := ⟨by decide, mk_99⟩
def g_R_mind_0 : List (Instr × Nat) := [(.aload 0, 1), (.iconst 0, 1), (.putfield 3072, 3), (.aload 0, 1), (.getfield 3102, 3), (.iconst 8, 2), (.if_icmp .eq 29, 3), (.aload 0, 1), (.iconst 8, 2), (.aload 0, 1), (.getfield 3102, 3), (.iadd, 1), (.iconst 1, 1), (.invokevirtual 970312, 3), (.ifCond .ne 31, 3)]
theorem s_R_mind_0 : Seg 99 0 g_R_mind_0 := seg_of (by decide +kernel)
def g_R_mind_29 : List (Instr × Nat) := [(.iconst (-1), 1), (.ireturn, 1)]
theorem s_R_mind_29 : Seg 99 29 g_R_mind_29 := seg_of (by decide +kernel)
def g_R_mind_31 : List (Instr × Nat) := [(.aload 0, 1), (.dup, 1), (.getfield 3102, 3), (.iconst 1, 1), (.iadd, 1), (.putfield 3102, 3), (.aload 0, 1), (.getfield 3102, 3), (.iconst 1, 1), (.isub, 1), (.ireturn, 1)]
theorem s_R_mind_31 : Seg 99 31 g_R_mind_31 := seg_of (by decide +kernel)
/-! R isMind -/
theorem mk_R_isMind : 100 < 256 ∧ mtB 100 = true := ⟨by decide, mk_100⟩
def g_R_isMind_0 : List (Instr × Nat) := [(.iload 1, 1), (.ifCond .lt 16, 3), (.iload 1, 1), (.aload 0, 1), (.getfield 3102, 3), (.if_icmp .ge 16, 3), (.iconst 1, 1), (.goto 17, 3)]
theorem s_R_isMind_0 : Seg 100 0 g_R_isMind_0 := seg_of (by decide +kernel)
def g_R_isMind_16 : List (Instr × Nat) := [(.iconst 0, 1)]
theorem s_R_isMind_16 : Seg 100 16 g_R_isMind_16 := seg_of (by decide +kernel)
def g_R_isMind_17 : List (Instr × Nat) := [(.ireturn, 1)]
theorem s_R_isMind_17 : Seg 100 17 g_R_isMind_17 := seg_of (by decide +kernel)
/-! R by -/
theorem mk_R_by : 101 < 256 ∧ mtB 101 = true := ⟨by decide, mk_101⟩
def g_R_by_0 : List (Instr × Nat) := [(.aload 0, 1), (.iconst 0, 1), (.putfield 3072, 3), (.aload 0, 1), (.iload 1, 1), (.invokevirtual 520212, 3), (.ifCond .eq 27, 3), (.iload 2, 1), (.iconst (-1), 1), (.aload 0, 1), (.getfield 3101, 3), (.iconst 1, 1), (.isub, 1), (.invokeinterface 50 3, 3), (.ifCond .ne 29, 3)]
theorem s_R_by_0 : Seg 101 0 g_R_by_0 := seg_of (by decide +kernel)
def g_R_by_27 : List (Instr × Nat) := [(.iconst 0, 1), (.ireturn, 1)]
theorem s_R_by_27 : Seg 101 27 g_R_by_27 := seg_of (by decide +kernel)
def g_R_by_29 : List (Instr × Nat) := [(.aload 0, 1), (.getstatic 3081, 3), (.iload 1, 1), (.iload 2, 1), (.iastore, 1), (.iconst 1, 1), (.ireturn, 1)]
theorem s_R_by_29 : Seg 101 29 g_R_by_29 := seg_of (by decide +kernel)
/-! R minded -/
theorem mk_R_minded : 102 < 256 ∧ mtB 102 = true := ⟨by decide, mk_102⟩
def g_R_minded_0 : List (Instr × Nat) := [(.aload 0, 1), (.iconst 0, 1), (.putfield 3072, 3), (.aload 0, 1), (.iload 1, 1), (.invokevirtual 510212, 3), (.ifCond .eq 26, 3), (.iload 2, 1), (.iconst (-1), 1), (.if_icmp .eq 28, 3), (.aload 0, 1), (.iload 2, 1), (.invokevirtual 1000212, 3), (.ifCond .ne 28, 3)]
theorem s_R_minded_0 : Seg 102 0 g_R_minded_0 := seg_of (by decide +kernel)
def g_R_minded_26 : List (Instr × Nat) := [(.iconst 0, 1), (.ireturn, 1)]
theorem s_R_minded_26 : Seg 102 26 g_R_minded_26 := seg_of (by decide +kernel)
def g_R_minded_28 : List (Instr × Nat) := [(.aload 0, 1), (.getstatic 3083, 3), (.iload 1, 1), (.iload 2, 1), (.iastore, 1), (.iconst 1, 1), (.ireturn, 1)]
theorem s_R_minded_28 : Seg 102 28 g_R_minded_28 := seg_of (by decide +kernel)
/-! R noLetters -/
theorem mk_R_noLetters : 103 < 256 ∧ mtB 103 = true := ⟨by decide, mk_103⟩
def g_R_noLetters_0 : List (Instr × Nat) := [(.iconst 0, 1), (.istore 1, 1)]
theorem s_R_noLetters_0 : Seg 103 0 g_R_noLetters_0 := seg_of (by decide +kernel)
def g_R_noLetters_2 : List (Instr × Nat) := [(.iload 1, 1), (.iconst 128, 3), (.if_icmp .ge 22, 3), (.aload 0, 1), (.getstatic 3098, 3), (.iload 1, 1), (.iconst 0, 1), (.iastore, 1), (.iinc 1 (1), 3), (.goto 2, 3)]
theorem s_R_noLetters_2 : Seg 103 2 g_R_noLetters_2 := seg_of (by decide +kernel)
def g_R_noLetters_22 : List (Instr × Nat) := [(.return_, 1)]
theorem s_R_noLetters_22 : Seg 103 22 g_R_noLetters_22 := seg_of (by decide +kernel)
/-! R hasWorth -/
theorem mk_R_hasWorth : 104 < 256 ∧ mtB 104 = true := ⟨by decide, mk_104⟩
def g_R_hasWorth_0 : List (Instr × Nat) := [(.iload 1, 1), (.iconst (-1), 1), (.if_icmp .ne 7, 3), (.iconst 0, 1), (.ireturn, 1)]
theorem s_R_hasWorth_0 : Seg 104 0 g_R_hasWorth_0 := seg_of (by decide +kernel)
def g_R_hasWorth_7 : List (Instr × Nat) := [(.iload 2, 1), (.ifCond .eq 18, 3), (.iconst 8, 2), (.iload 1, 1), (.iadd, 1), (.goto 19, 3)]
theorem s_R_hasWorth_7 : Seg 104 7 g_R_hasWorth_7 := seg_of (by decide +kernel)
def g_R_hasWorth_18 : List (Instr × Nat) := [(.iload 1, 1)]
theorem s_R_hasWorth_18 : Seg 104 18 g_R_hasWorth_18 := seg_of (by decide +kernel)
def g_R_hasWorth_19 : List (Instr × Nat) := [(.istore 4, 2), (.aload 0, 1), (.aload 0, 1), (.getstatic 3096, 3), (.iconst 160, 3), (.iload 4, 2), (.imul, 1), (.aload 0, 1), (.getstatic 3097, 3), (.iload 4, 2), (.iaload, 1), (.iload 2, 1), (.iload 3, 1), (.invokevirtual 950612, 3), (.aload 0, 1), (.getfield 3112, 3), (.ireturn, 1)]
theorem s_R_hasWorth_19 : Seg 104 19 g_R_hasWorth_19 := seg_of (by decide +kernel)
/-! R worth -/
theorem mk_R_worth : 105 < 256 ∧ mtB 105 = true := ⟨by decide, mk_105⟩
def g_R_worth_0 : List (Instr × Nat) := [(.aload 0, 1), (.invokevirtual 1030112, 3), (.aload 0, 1), (.getstatic 3098, 3), (.iconst 104, 2), (.iload 3, 1), (.iastore, 1), (.aload 0, 1), (.getstatic 3098, 3), (.iconst 101, 2), (.iload 4, 2), (.iastore, 1), (.aload 0, 1), (.getstatic 3098, 3), (.iconst 111, 2), (.iload 5, 2), (.iastore, 1), (.aload 0, 1), (.getstatic 3098, 3), (.iconst 116, 2), (.iload 6, 2), (.iastore, 1), (.aload 0, 1), (.getstatic 3098, 3), (.iconst 107, 2), (.iload 7, 2), (.iastore, 1), (.aload 0, 1), (.aload 0, 1), (.iload 1, 1), (.invokevirtual 1000212, 3), (.ifCond .eq 83, 3), (.iload 2, 1), (.iconst 110, 2), (.if_icmp .eq 69, 3), (.iload 2, 1), (.iconst 99, 2), (.if_icmp .ne 83, 3)]
theorem s_R_worth_0 : Seg 105 0 g_R_worth_0 := seg_of (by decide +kernel)
def g_R_worth_69 : List (Instr × Nat) := [(.aload 0, 1), (.iload 1, 1), (.iconst 1, 1), (.iload 2, 1), (.invokevirtual 1040412, 3), (.ifCond .eq 83, 3), (.iconst 0, 1), (.goto 84, 3)]
theorem s_R_worth_69 : Seg 105 69 g_R_worth_69 := seg_of (by decide +kernel)
def g_R_worth_83 : List (Instr × Nat) := [(.iconst 1, 1)]
theorem s_R_worth_83 : Seg 105 83 g_R_worth_83 := seg_of (by decide +kernel)
def g_R_worth_84 : List (Instr × Nat) := [(.putfield 3072, 3), (.aload 0, 1), (.getfield 3072, 3), (.ifCond .le 98, 3), (.iconst 0, 1), (.goto 102, 3)]
theorem s_R_worth_84 : Seg 105 84 g_R_worth_84 := seg_of (by decide +kernel)
def g_R_worth_98 : List (Instr × Nat) := [(.aload 0, 1), (.getfield 3109, 3)]
theorem s_R_worth_98 : Seg 105 98 g_R_worth_98 := seg_of (by decide +kernel)
def g_R_worth_102 : List (Instr × Nat) := [(.ireturn, 1)]
theorem s_R_worth_102 : Seg 105 102 g_R_worth_102 := seg_of (by decide +kernel)
/-! R ground -/
theorem mk_R_ground : 106 < 256 ∧ mtB 106 = true := ⟨by decide, mk_106⟩
def g_R_ground_0 : List (Instr × Nat) := [(.aload 0, 1), (.iconst 0, 1), (.putfield 3072, 3), (.aload 0, 1), (.iload 1, 1), (.iload 2, 1), (.invokevirtual 670312, 3), (.ifCond .ne 16, 3), (.iconst 0, 1), (.ireturn, 1)]
theorem s_R_ground_0 : Seg 106 0 g_R_ground_0 := seg_of (by decide +kernel)
def g_R_ground_16 : List (Instr × Nat) := [(.aload 0, 1), (.getstatic 3082, 3), (.iload 1, 1), (.iload 2, 1), (.iastore, 1), (.iconst 1, 1), (.ireturn, 1)]
theorem s_R_ground_16 : Seg 106 16 g_R_ground_16 := seg_of (by decide +kernel)
/-! R heedFor -/
theorem mk_R_heedFor : 107 < 256 ∧ mtB 107 = true := ⟨by decide, mk_107⟩
def g_R_heedFor_0 : List (Instr × Nat) := [(.iconst 0, 1), (.istore 3, 1), (.iconst 0, 1), (.istore 4, 2)]
theorem s_R_heedFor_0 : Seg 107 0 g_R_heedFor_0 := seg_of (by decide +kernel)
def g_R_heedFor_5 : List (Instr × Nat) := [(.iload 4, 2), (.aload 0, 1), (.getfield 3090, 3), (.if_icmp .ge 55, 3), (.iload 3, 1), (.iload 2, 1), (.iload 4, 2), (.ishr, 1), (.iconst 1, 1), (.iand, 1), (.iconst 1, 1), (.if_icmp .ne 46, 3), (.iload 4, 2), (.iload 1, 1), (.if_icmp .eq 46, 3), (.aload 0, 1), (.getstatic 3074, 3), (.iconst 8, 2), (.iload 1, 1), (.imul, 1), (.iload 4, 2), (.iadd, 1), (.iaload, 1), (.goto 47, 3)]
theorem s_R_heedFor_5 : Seg 107 5 g_R_heedFor_5 := seg_of (by decide +kernel)
def g_R_heedFor_46 : List (Instr × Nat) := [(.iconst 0, 1)]
theorem s_R_heedFor_46 : Seg 107 46 g_R_heedFor_46 := seg_of (by decide +kernel)
def g_R_heedFor_47 : List (Instr × Nat) := [(.iadd, 1), (.istore 3, 1), (.iinc 4 (1), 3), (.goto 5, 3)]
theorem s_R_heedFor_47 : Seg 107 47 g_R_heedFor_47 := seg_of (by decide +kernel)
def g_R_heedFor_55 : List (Instr × Nat) := [(.iload 3, 1), (.ireturn, 1)]
theorem s_R_heedFor_55 : Seg 107 55 g_R_heedFor_55 := seg_of (by decide +kernel)
/-! R trust -/
theorem mk_R_trust : 108 < 256 ∧ mtB 108 = true := ⟨by decide, mk_108⟩
def g_R_trust_0 : List (Instr × Nat) := [(.iconst 0, 1), (.istore 3, 1), (.iconst 0, 1), (.istore 4, 2)]
theorem s_R_trust_0 : Seg 108 0 g_R_trust_0 := seg_of (by decide +kernel)
def g_R_trust_5 : List (Instr × Nat) := [(.iload 4, 2), (.aload 0, 1), (.getfield 3139, 3), (.if_icmp .ge 62, 3), (.aload 0, 1), (.getstatic 3135, 3), (.iload 4, 2), (.iaload, 1), (.iload 1, 1), (.if_icmp .ne 56, 3), (.aload 0, 1), (.getstatic 3136, 3), (.iload 4, 2), (.iaload, 1), (.iload 2, 1), (.if_icmp .lt 39, 3), (.goto 56, 3)]
theorem s_R_trust_5 : Seg 108 5 g_R_trust_5 := seg_of (by decide +kernel)
def g_R_trust_39 : List (Instr × Nat) := [(.iload 3, 1), (.aload 0, 1), (.iload 4, 2), (.invokevirtual 1090212, 3), (.ifCond .eq 53, 3), (.iconst 1, 1), (.goto 54, 3)]
theorem s_R_trust_39 : Seg 108 39 g_R_trust_39 := seg_of (by decide +kernel)
def g_R_trust_53 : List (Instr × Nat) := [(.iconst (-1), 1)]
theorem s_R_trust_53 : Seg 108 53 g_R_trust_53 := seg_of (by decide +kernel)
def g_R_trust_54 : List (Instr × Nat) := [(.iadd, 1), (.istore 3, 1)]
theorem s_R_trust_54 : Seg 108 54 g_R_trust_54 := seg_of (by decide +kernel)
def g_R_trust_56 : List (Instr × Nat) := [(.iinc 4 (1), 3), (.goto 5, 3)]
theorem s_R_trust_56 : Seg 108 56 g_R_trust_56 := seg_of (by decide +kernel)
def g_R_trust_62 : List (Instr × Nat) := [(.iload 3, 1), (.ireturn, 1)]
theorem s_R_trust_62 : Seg 108 62 g_R_trust_62 := seg_of (by decide +kernel)
/-! R isKept -/
theorem mk_R_isKept : 109 < 256 ∧ mtB 109 = true := ⟨by decide, mk_109⟩
def g_R_isKept_0 : List (Instr × Nat) := [(.aload 0, 1), (.getstatic 3136, 3), (.iload 1, 1), (.iaload, 1), (.istore 2, 1), (.aload 0, 1), (.getstatic 3129, 3), (.iload 2, 1), (.iaload, 1), (.ifCond .ne 46, 3), (.aload 0, 1), (.iload 2, 1), (.aload 0, 1), (.getstatic 3130, 3), (.iload 2, 1), (.iaload, 1), (.aload 0, 1), (.getstatic 3137, 3), (.iload 1, 1), (.iaload, 1), (.invokevirtual 680412, 3), (.aload 0, 1), (.getstatic 3138, 3), (.iload 1, 1), (.iaload, 1), (.if_icmp .ne 46, 3), (.iconst 1, 1), (.goto 47, 3)]
theorem s_R_isKept_0 : Seg 109 0 g_R_isKept_0 := seg_of (by decide +kernel)
def g_R_isKept_46 : List (Instr × Nat) := [(.iconst 0, 1)]
theorem s_R_isKept_46 : Seg 109 46 g_R_isKept_46 := seg_of (by decide +kernel)
def g_R_isKept_47 : List (Instr × Nat) := [(.ireturn, 1)]
theorem s_R_isKept_47 : Seg 109 47 g_R_isKept_47 := seg_of (by decide +kernel)
/-! R layLook -/
theorem mk_R_layLook : 110 < 256 ∧ mtB 110 = true := ⟨by decide, mk_110⟩
def g_R_layLook_0 : List (Instr × Nat) := [(.aload 0, 1), (.invokevirtual 1030112, 3), (.aload 0, 1), (.getstatic 3098, 3), (.iconst 104, 2), (.aload 0, 1), (.getstatic 3079, 3), (.iload 1, 1), (.iload 2, 1), (.iload 3, 1), (.iload 4, 2), (.invokeinterface 61 4, 3), (.iaload, 1), (.iastore, 1), (.aload 0, 1), (.getstatic 3098, 3), (.iconst 101, 2), (.aload 0, 1), (.iload 1, 1), (.aload 0, 1), (.getstatic 3119, 3), (.iconst 4, 1), (.iload 3, 1), (.imul, 1), (.iload 4, 2), (.iadd, 1), (.iaload, 1), (.invokevirtual 1070312, 3), (.iastore, 1), (.aload 0, 1), (.getstatic 3098, 3), (.iconst 111, 2), (.aload 0, 1), (.iload 1, 1), (.aload 0, 1), (.getstatic 3120, 3), (.iconst 4, 1), (.iload 3, 1), (.imul, 1), (.iload 4, 2), (.iadd, 1), (.iaload, 1), (.invokevirtual 1070312, 3), (.iastore, 1), (.aload 0, 1), (.getstatic 3098, 3), (.iconst 116, 2), (.iload 5, 2), (.iastore, 1), (.aload 0, 1), (.getstatic 3098, 3), (.iconst 107, 2), (.aload 0, 1), (.getstatic 3121, 3), (.iload 1, 1), (.iaload, 1), (.iastore, 1), (.aload 0, 1), (.getstatic 3098, 3), (.iconst 97, 2), (.iload 6, 2), (.iastore, 1), (.aload 0, 1), (.getstatic 3098, 3), (.iconst 113, 2), (.iload 3, 1), (.iastore, 1), (.aload 0, 1), (.getstatic 3098, 3), (.iconst 119, 2), (.iload 4, 2), (.iastore, 1), (.aload 0, 1), (.getstatic 3098, 3), (.iconst 103, 2), (.iload 8, 2), (.iastore, 1), (.aload 0, 1), (.getstatic 3098, 3), (.iconst 102, 2), (.iload 7, 2), (.iastore, 1), (.return_, 1)]
theorem s_R_layLook_0 : Seg 110 0 g_R_layLook_0 := seg_of (by decide +kernel)
/-! R plainlyNo -/
theorem mk_R_plainlyNo : 111 < 256 ∧ mtB 111 = true := ⟨by decide, mk_111⟩
def g_R_plainlyNo_0 : List (Instr × Nat) := [(.aload 0, 1), (.getstatic 3079, 3), (.iload 1, 1), (.iload 2, 1), (.iload 3, 1), (.aload 0, 1), (.iload 2, 1), (.iload 4, 2), (.iload 3, 1), (.invokevirtual 680412, 3), (.invokeinterface 61 4, 3), (.iaload, 1), (.ifCond .eq 39, 3), (.aload 0, 1), (.iload 1, 1), (.iload 2, 1), (.iload 4, 2), (.aload 0, 1), (.iload 2, 1), (.invokevirtual 720212, 3), (.iload 3, 1), (.invokevirtual 690612, 3), (.ifCond .eq 43, 3)]
theorem s_R_plainlyNo_0 : Seg 111 0 g_R_plainlyNo_0 := seg_of (by decide +kernel)
def g_R_plainlyNo_39 : List (Instr × Nat) := [(.iconst 1, 1), (.goto 44, 3)]
theorem s_R_plainlyNo_39 : Seg 111 39 g_R_plainlyNo_39 := seg_of (by decide +kernel)
def g_R_plainlyNo_43 : List (Instr × Nat) := [(.iconst 0, 1)]
theorem s_R_plainlyNo_43 : Seg 111 43 g_R_plainlyNo_43 := seg_of (by decide +kernel)
def g_R_plainlyNo_44 : List (Instr × Nat) := [(.ireturn, 1)]
theorem s_R_plainlyNo_44 : Seg 111 44 g_R_plainlyNo_44 := seg_of (by decide +kernel)
/-! R maySpeak -/
theorem mk_R_maySpeak : 112 < 256 ∧ mtB 112 = true := ⟨by decide, mk_112⟩
def g_R_maySpeak_0 : List (Instr × Nat) := [(.aload 0, 1), (.invokevirtual 1030112, 3), (.aload 0, 1), (.getstatic 3098, 3), (.iconst 97, 2), (.iload 4, 2), (.iastore, 1), (.aload 0, 1), (.getstatic 3098, 3), (.iconst 107, 2), (.aload 0, 1), (.getstatic 3121, 3), (.iload 1, 1), (.iaload, 1), (.iastore, 1), (.aload 0, 1), (.getstatic 3098, 3), (.iconst 116, 2), (.iload 3, 1), (.iastore, 1), (.aload 0, 1), (.getstatic 3098, 3), (.iconst 102, 2), (.iload 5, 2), (.iastore, 1), (.aload 0, 1), (.getstatic 3098, 3), (.iconst 109, 2), (.aload 0, 1), (.getfield 3093, 3), (.iastore, 1), (.aload 0, 1), (.aload 0, 1), (.getstatic 3081, 3), (.iload 2, 1), (.iaload, 1), (.iconst 0, 1), (.iconst 115, 2), (.invokevirtual 1040412, 3), (.ifCond .eq 85, 3), (.aload 0, 1), (.getfield 3109, 3), (.ifCond .eq 81, 3), (.iconst 1, 1), (.goto 100, 3)]
theorem s_R_maySpeak_0 : Seg 112 0 g_R_maySpeak_0 := seg_of (by decide +kernel)
def g_R_maySpeak_81 : List (Instr × Nat) := [(.iconst 0, 1), (.goto 100, 3)]
theorem s_R_maySpeak_81 : Seg 112 81 g_R_maySpeak_81 := seg_of (by decide +kernel)
def g_R_maySpeak_85 : List (Instr × Nat) := [(.aload 0, 1), (.getstatic 3121, 3), (.iload 1, 1), (.iaload, 1), (.iconst 3, 1), (.if_icmp .ge 99, 3), (.iconst 1, 1), (.goto 100, 3)]
theorem s_R_maySpeak_85 : Seg 112 85 g_R_maySpeak_85 := seg_of (by decide +kernel)
def g_R_maySpeak_99 : List (Instr × Nat) := [(.iconst 0, 1)]
theorem s_R_maySpeak_99 : Seg 112 99 g_R_maySpeak_99 := seg_of (by decide +kernel)
def g_R_maySpeak_100 : List (Instr × Nat) := [(.ireturn, 1)]
theorem s_R_maySpeak_100 : Seg 112 100 g_R_maySpeak_100 := seg_of (by decide +kernel)
/-! R turns -/
theorem mk_R_turns : 113 < 256 ∧ mtB 113 = true := ⟨by decide, mk_113⟩
def g_R_turns_0 : List (Instr × Nat) := [(.aload 0, 1), (.iload 1, 1), (.iload 2, 1), (.iload 3, 1), (.iload 4, 2), (.iload 5, 2), (.invokevirtual 1120612, 3), (.ifCond .ne 16, 3), (.iconst 0, 1), (.ireturn, 1)]
theorem s_R_turns_0 : Seg 113 0 g_R_turns_0 := seg_of (by decide +kernel)
def g_R_turns_16 : List (Instr × Nat) := [(.aload 0, 1), (.iload 1, 1), (.iload 2, 1), (.invokevirtual 1080312, 3), (.istore 6, 2), (.iconst 0, 1), (.istore 7, 2)]
theorem s_R_turns_16 : Seg 113 16 g_R_turns_16 := seg_of (by decide +kernel)
def g_R_turns_27 : List (Instr × Nat) := [(.iload 7, 2), (.aload 0, 1), (.getstatic 3077, 3), (.iload 2, 1), (.iaload, 1), (.if_icmp .ge 389, 3), (.aload 0, 1), (.iload 2, 1), (.aload 0, 1), (.getfield 3128, 3), (.iload 7, 2), (.invokevirtual 680412, 3), (.istore 8, 2), (.aload 0, 1), (.iload 1, 1), (.iload 2, 1), (.iload 7, 2), (.iload 8, 2), (.iload 3, 1), (.iload 4, 2), (.iload 5, 2), (.iload 6, 2), (.invokevirtual 1100912, 3), (.aload 0, 1), (.aload 0, 1), (.getstatic 3083, 3), (.iload 1, 1), (.iaload, 1), (.iconst 1, 1), (.iconst 110, 2), (.invokevirtual 1040412, 3), (.ifCond .eq 99, 3), (.aload 0, 1), (.getfield 3109, 3), (.ifCond .eq 95, 3), (.iconst 1, 1), (.goto 111, 3)]
theorem s_R_turns_27 : Seg 113 27 g_R_turns_27 := seg_of (by decide +kernel)
def g_R_turns_95 : List (Instr × Nat) := [(.iconst 0, 1), (.goto 111, 3)]
theorem s_R_turns_95 : Seg 113 95 g_R_turns_95 := seg_of (by decide +kernel)
def g_R_turns_99 : List (Instr × Nat) := [(.aload 0, 1), (.iload 1, 1), (.iload 2, 1), (.iload 7, 2), (.aload 0, 1), (.getfield 3128, 3), (.invokevirtual 1110512, 3)]
theorem s_R_turns_99 : Seg 113 99 g_R_turns_99 := seg_of (by decide +kernel)
def g_R_turns_111 : List (Instr × Nat) := [(.istore 9, 2), (.iload 1, 1), (.aload 0, 1), (.getfield 3133, 3), (.if_icmp .ne 221, 3), (.iconst 0, 1), (.istore 10, 2)]
theorem s_R_turns_111 : Seg 113 111 g_R_turns_111 := seg_of (by decide +kernel)
def g_R_turns_124 : List (Instr × Nat) := [(.iload 10, 2), (.iconst 10, 2), (.if_icmp .ge 165, 3), (.aload 0, 1), (.getstatic 3131, 3), (.iconst 11, 2), (.aload 0, 1), (.getfield 3132, 3), (.imul, 1), (.iload 10, 2), (.iadd, 1), (.aload 0, 1), (.getstatic 3098, 3), (.ldc 8, 3), (.iload 10, 2), (.invokevirtual 2460213, 3), (.iaload, 1), (.iastore, 1), (.iinc 10 (1), 3), (.goto 124, 3)]
theorem s_R_turns_124 : Seg 113 124 g_R_turns_124 := seg_of (by decide +kernel)
def g_R_turns_165 : List (Instr × Nat) := [(.aload 0, 1), (.getstatic 3131, 3), (.iconst 11, 2), (.aload 0, 1), (.getfield 3132, 3), (.imul, 1), (.iconst 10, 2), (.iadd, 1), (.aload 0, 1), (.iload 1, 1), (.iload 2, 1), (.iload 7, 2), (.aload 0, 1), (.getfield 3128, 3), (.invokevirtual 1110512, 3), (.ifCond .eq 198, 3), (.iconst 2, 1), (.goto 199, 3)]
theorem s_R_turns_165 : Seg 113 165 g_R_turns_165 := seg_of (by decide +kernel)
def g_R_turns_198 : List (Instr × Nat) := [(.iconst 0, 1)]
theorem s_R_turns_198 : Seg 113 198 g_R_turns_198 := seg_of (by decide +kernel)
def g_R_turns_199 : List (Instr × Nat) := [(.iload 9, 2), (.ifCond .eq 208, 3), (.iconst 1, 1), (.goto 209, 3)]
theorem s_R_turns_199 : Seg 113 199 g_R_turns_199 := seg_of (by decide +kernel)
def g_R_turns_208 : List (Instr × Nat) := [(.iconst 0, 1)]
theorem s_R_turns_208 : Seg 113 208 g_R_turns_208 := seg_of (by decide +kernel)
def g_R_turns_209 : List (Instr × Nat) := [(.iadd, 1), (.iastore, 1), (.aload 0, 1), (.dup, 1), (.getfield 3132, 3), (.iconst 1, 1), (.iadd, 1), (.putfield 3132, 3)]
theorem s_R_turns_209 : Seg 113 209 g_R_turns_209 := seg_of (by decide +kernel)
def g_R_turns_221 : List (Instr × Nat) := [(.iload 9, 2), (.ifCond .ne 229, 3), (.goto 383, 3)]
theorem s_R_turns_221 : Seg 113 221 g_R_turns_221 := seg_of (by decide +kernel)
def g_R_turns_229 : List (Instr × Nat) := [(.aload 0, 1), (.aload 0, 1), (.getstatic 3083, 3), (.iload 1, 1), (.iaload, 1), (.iconst 1, 1), (.iconst 99, 2), (.invokevirtual 1040412, 3), (.ifCond .eq 277, 3), (.aload 0, 1), (.getfield 3109, 3), (.iconst 0, 1), (.aload 0, 1), (.getstatic 3078, 3), (.iload 2, 1), (.iaload, 1), (.iconst 1, 1), (.isub, 1), (.invokeinterface 50 3, 3), (.ifCond .eq 277, 3), (.aload 0, 1), (.getfield 3109, 3), (.iload 8, 2), (.if_icmp .eq 277, 3), (.iconst 1, 1), (.goto 278, 3)]
theorem s_R_turns_229 : Seg 113 229 g_R_turns_229 := seg_of (by decide +kernel)
def g_R_turns_277 : List (Instr × Nat) := [(.iconst 0, 1)]
theorem s_R_turns_277 : Seg 113 277 g_R_turns_277 := seg_of (by decide +kernel)
def g_R_turns_278 : List (Instr × Nat) := [(.istore 10, 2), (.iload 10, 2), (.ifCond .eq 292, 3), (.aload 0, 1), (.getfield 3109, 3), (.goto 293, 3)]
theorem s_R_turns_278 : Seg 113 278 g_R_turns_278 := seg_of (by decide +kernel)
def g_R_turns_292 : List (Instr × Nat) := [(.iconst (-1), 1)]
theorem s_R_turns_292 : Seg 113 292 g_R_turns_292 := seg_of (by decide +kernel)
def g_R_turns_293 : List (Instr × Nat) := [(.istore 11, 2), (.iconst 0, 1), (.istore 12, 2)]
theorem s_R_turns_293 : Seg 113 293 g_R_turns_293 := seg_of (by decide +kernel)
def g_R_turns_298 : List (Instr × Nat) := [(.iload 12, 2), (.aload 0, 1), (.getstatic 3078, 3), (.iload 2, 1), (.iaload, 1), (.if_icmp .ge 368, 3), (.iload 10, 2), (.ifCond .ne 368, 3), (.iload 12, 2), (.iload 8, 2), (.if_icmp .eq 362, 3), (.iload 11, 2), (.iconst (-1), 1), (.if_icmp .eq 358, 3), (.aload 0, 1), (.getstatic 3079, 3), (.iload 1, 1), (.iload 2, 1), (.iload 7, 2), (.iload 12, 2), (.invokeinterface 61 4, 3), (.iaload, 1), (.aload 0, 1), (.getstatic 3079, 3), (.iload 1, 1), (.iload 2, 1), (.iload 7, 2), (.iload 11, 2), (.invokeinterface 61 4, 3), (.iaload, 1), (.if_icmp .le 362, 3)]
theorem s_R_turns_298 : Seg 113 298 g_R_turns_298 := seg_of (by decide +kernel)
def g_R_turns_358 : List (Instr × Nat) := [(.iload 12, 2), (.istore 11, 2)]
theorem s_R_turns_358 : Seg 113 358 g_R_turns_358 := seg_of (by decide +kernel)
def g_R_turns_362 : List (Instr × Nat) := [(.iinc 12 (1), 3), (.goto 298, 3)]
theorem s_R_turns_362 : Seg 113 362 g_R_turns_362 := seg_of (by decide +kernel)
def g_R_turns_368 : List (Instr × Nat) := [(.aload 0, 1), (.iload 1, 1), (.iload 2, 1), (.iload 3, 1), (.iload 7, 2), (.iload 8, 2), (.iload 11, 2), (.invokevirtual 1140712, 3), (.iconst 1, 1), (.ireturn, 1)]
theorem s_R_turns_368 : Seg 113 368 g_R_turns_368 := seg_of (by decide +kernel)
def g_R_turns_383 : List (Instr × Nat) := [(.iinc 7 (1), 3), (.goto 27, 3)]
theorem s_R_turns_383 : Seg 113 383 g_R_turns_383 := seg_of (by decide +kernel)
def g_R_turns_389 : List (Instr × Nat) := [(.iconst 0, 1), (.ireturn, 1)]
theorem s_R_turns_389 : Seg 113 389 g_R_turns_389 := seg_of (by decide +kernel)
/-! R speak -/
theorem mk_R_speak : 114 < 256 ∧ mtB 114 = true := ⟨by decide, mk_114⟩
def g_R_speak_0 : List (Instr × Nat) := [(.aload 0, 1), (.getstatic 3113, 3), (.aload 0, 1), (.getfield 3125, 3), (.iload 1, 1), (.iastore, 1), (.aload 0, 1), (.getstatic 3114, 3), (.aload 0, 1), (.getfield 3125, 3), (.iload 3, 1), (.iastore, 1), (.aload 0, 1), (.getstatic 3115, 3), (.aload 0, 1), (.getfield 3125, 3), (.iload 4, 2), (.iastore, 1), (.aload 0, 1), (.getstatic 3116, 3), (.aload 0, 1), (.getfield 3125, 3), (.iload 5, 2), (.iastore, 1), (.aload 0, 1), (.getstatic 3117, 3), (.aload 0, 1), (.getfield 3125, 3), (.iload 6, 2), (.iastore, 1), (.aload 0, 1), (.getstatic 3118, 3), (.aload 0, 1), (.getfield 3125, 3), (.aload 0, 1), (.getfield 3128, 3), (.iastore, 1), (.aload 0, 1), (.dup, 1), (.getfield 3125, 3), (.iconst 1, 1), (.iadd, 1), (.putfield 3125, 3), (.aload 0, 1), (.getstatic 3120, 3), (.iconst 4, 1), (.iload 4, 2), (.imul, 1), (.iload 5, 2), (.iadd, 1), (.dup2, 1), (.iaload, 1), (.iconst 1, 1), (.iload 1, 1), (.ishl, 1), (.ior, 1), (.iastore, 1), (.aload 0, 1), (.getstatic 3119, 3), (.iconst 4, 1), (.iload 4, 2), (.imul, 1), (.iload 6, 2), (.iadd, 1), (.dup2, 1), (.iaload, 1), (.iconst 1, 1), (.iload 1, 1), (.ishl, 1), (.ior, 1), (.iastore, 1), (.aload 0, 1), (.getstatic 3121, 3), (.iload 1, 1), (.dup2, 1), (.iaload, 1), (.iconst 1, 1), (.iadd, 1), (.iastore, 1), (.iconst 2, 1), (.aload 0, 1), (.getstatic 3077, 3), (.iload 2, 1), (.iaload, 1), (.iconst 1, 1), (.isub, 1), (.iload 4, 2), (.isub, 1), (.imul, 1), (.istore 7, 2), (.aload 0, 1), (.aload 0, 1), (.getfield 3128, 3), (.iconst 3, 1), (.iload 7, 2), (.ishl, 1), (.iconst (-1), 1), (.ixor, 1), (.iand, 1), (.iload 6, 2), (.iload 7, 2), (.ishl, 1), (.ior, 1), (.putfield 3128, 3), (.return_, 1)]
theorem s_R_speak_0 : Seg 114 0 g_R_speak_0 := seg_of (by decide +kernel)
/-! R allBear -/
theorem mk_R_allBear : 115 < 256 ∧ mtB 115 = true := ⟨by decide, mk_115⟩
def g_R_allBear_0 : List (Instr × Nat) := [(.iconst 0, 1), (.istore 3, 1)]
theorem s_R_allBear_0 : Seg 115 0 g_R_allBear_0 := seg_of (by decide +kernel)
def g_R_allBear_2 : List (Instr × Nat) := [(.iload 3, 1), (.aload 0, 1), (.getfield 3093, 3), (.if_icmp .ge 38, 3), (.aload 0, 1), (.aload 0, 1), (.getstatic 3075, 3), (.iload 3, 1), (.iaload, 1), (.iload 1, 1), (.iload 2, 1), (.aload 0, 1), (.iload 1, 1), (.invokevirtual 720212, 3), (.invokevirtual 710512, 3), (.ifCond .ne 32, 3), (.iconst 0, 1), (.ireturn, 1)]
theorem s_R_allBear_2 : Seg 115 2 g_R_allBear_2 := seg_of (by decide +kernel)
def g_R_allBear_32 : List (Instr × Nat) := [(.iinc 3 (1), 3), (.goto 2, 3)]
theorem s_R_allBear_32 : Seg 115 32 g_R_allBear_32 := seg_of (by decide +kernel)
def g_R_allBear_38 : List (Instr × Nat) := [(.iconst 1, 1), (.ireturn, 1)]
theorem s_R_allBear_38 : Seg 115 38 g_R_allBear_38 := seg_of (by decide +kernel)
/-! R isSilent -/
theorem mk_R_isSilent : 116 < 256 ∧ mtB 116 = true := ⟨by decide, mk_116⟩
def g_R_isSilent_0 : List (Instr × Nat) := [(.aload 0, 1), (.invokevirtual 1030112, 3), (.aload 0, 1), (.getstatic 3098, 3), (.iconst 116, 2), (.iload 2, 1), (.iastore, 1), (.aload 0, 1), (.getstatic 3098, 3), (.iconst 109, 2), (.aload 0, 1), (.getfield 3093, 3), (.iastore, 1), (.aload 0, 1), (.aload 0, 1), (.getstatic 3081, 3), (.iload 1, 1), (.iaload, 1), (.iconst 0, 1), (.iconst 108, 2), (.invokevirtual 1040412, 3), (.ifCond .eq 62, 3), (.aload 0, 1), (.getfield 3109, 3), (.ifCond .ne 62, 3), (.aload 0, 1), (.iload 1, 1), (.aload 0, 1), (.getfield 3128, 3), (.invokevirtual 1150312, 3), (.ifCond .ne 62, 3), (.iconst 1, 1), (.goto 63, 3)]
theorem s_R_isSilent_0 : Seg 116 0 g_R_isSilent_0 := seg_of (by decide +kernel)
def g_R_isSilent_62 : List (Instr × Nat) := [(.iconst 0, 1)]
theorem s_R_isSilent_62 : Seg 116 62 g_R_isSilent_62 := seg_of (by decide +kernel)
def g_R_isSilent_63 : List (Instr × Nat) := [(.ireturn, 1)]
theorem s_R_isSilent_63 : Seg 116 63 g_R_isSilent_63 := seg_of (by decide +kernel)
/-! R lastDay -/
theorem mk_R_lastDay : 117 < 256 ∧ mtB 117 = true := ⟨by decide, mk_117⟩
def g_R_lastDay_0 : List (Instr × Nat) := [(.aload 0, 1), (.invokevirtual 1030112, 3), (.aload 0, 1), (.getstatic 3098, 3), (.iconst 109, 2), (.aload 0, 1), (.getfield 3093, 3), (.iastore, 1), (.aload 0, 1), (.aload 0, 1), (.getstatic 3081, 3), (.iload 1, 1), (.iaload, 1), (.iconst 0, 1), (.iconst 100, 2), (.invokevirtual 1040412, 3), (.ifCond .eq 47, 3), (.iconst 1, 1), (.iconst 30, 2), (.aload 0, 1), (.getfield 3109, 3), (.fsub, 3), (.fadd, 3), (.goto 49, 3)]
theorem s_R_lastDay_0 : Seg 117 0 g_R_lastDay_0 := seg_of (by decide +kernel)
def g_R_lastDay_47 : List (Instr × Nat) := [(.iconst 30, 2)]
theorem s_R_lastDay_47 : Seg 117 47 g_R_lastDay_47 := seg_of (by decide +kernel)
def g_R_lastDay_49 : List (Instr × Nat) := [(.ireturn, 1)]
theorem s_R_lastDay_49 : Seg 117 49 g_R_lastDay_49 := seg_of (by decide +kernel)
/-! R wasAs -/
theorem mk_R_wasAs : 118 < 256 ∧ mtB 118 = true := ⟨by decide, mk_118⟩
def g_R_wasAs_0 : List (Instr × Nat) := [(.aload 0, 1), (.getstatic 3122, 3), (.iload 1, 1), (.iaload, 1), (.aload 0, 1), (.getstatic 3122, 3), (.iload 2, 1), (.iaload, 1), (.if_icmp .ne 19, 3), (.iconst 1, 1), (.goto 20, 3)]
theorem s_R_wasAs_0 : Seg 118 0 g_R_wasAs_0 := seg_of (by decide +kernel)
def g_R_wasAs_19 : List (Instr × Nat) := [(.iconst 0, 1)]
theorem s_R_wasAs_19 : Seg 118 19 g_R_wasAs_19 := seg_of (by decide +kernel)
def g_R_wasAs_20 : List (Instr × Nat) := [(.istore 3, 1), (.iconst 0, 1), (.istore 4, 2)]
theorem s_R_wasAs_20 : Seg 118 20 g_R_wasAs_20 := seg_of (by decide +kernel)
def g_R_wasAs_24 : List (Instr × Nat) := [(.iload 4, 2), (.iconst 20, 2), (.if_icmp .ge 101, 3), (.iload 3, 1), (.ifCond .eq 93, 3), (.aload 0, 1), (.getstatic 3123, 3), (.iconst 20, 2), (.iload 1, 1), (.imul, 1), (.iload 4, 2), (.iadd, 1), (.iaload, 1), (.aload 0, 1), (.getstatic 3123, 3), (.iconst 20, 2), (.iload 2, 1), (.imul, 1), (.iload 4, 2), (.iadd, 1), (.iaload, 1), (.if_icmp .ne 93, 3), (.aload 0, 1), (.getstatic 3124, 3), (.iconst 20, 2), (.iload 1, 1), (.imul, 1), (.iload 4, 2), (.iadd, 1), (.iaload, 1), (.aload 0, 1), (.getstatic 3124, 3), (.iconst 20, 2), (.iload 2, 1), (.imul, 1), (.iload 4, 2), (.iadd, 1), (.iaload, 1), (.if_icmp .ne 93, 3), (.iconst 1, 1), (.goto 94, 3)]
theorem s_R_wasAs_24 : Seg 118 24 g_R_wasAs_24 := seg_of (by decide +kernel)
def g_R_wasAs_93 : List (Instr × Nat) := [(.iconst 0, 1)]
theorem s_R_wasAs_93 : Seg 118 93 g_R_wasAs_93 := seg_of (by decide +kernel)
def g_R_wasAs_94 : List (Instr × Nat) := [(.istore 3, 1), (.iinc 4 (1), 3), (.goto 24, 3)]
theorem s_R_wasAs_94 : Seg 118 94 g_R_wasAs_94 := seg_of (by decide +kernel)
def g_R_wasAs_101 : List (Instr × Nat) := [(.iload 3, 1), (.ireturn, 1)]
theorem s_R_wasAs_101 : Seg 118 101 g_R_wasAs_101 := seg_of (by decide +kernel)
/-! R goThroughTalk -/
theorem mk_R_goThroughTalk : 119 < 256 ∧ mtB 119 = true := ⟨by decide, mk_119⟩
def g_R_goThroughTalk_0 : List (Instr × Nat) := [(.aload 0, 1), (.iconst 0, 1), (.putfield 3125, 3), (.aload 0, 1), (.aload 0, 1), (.getstatic 3082, 3), (.iload 1, 1), (.iaload, 1), (.putfield 3128, 3), (.iconst 0, 1), (.istore 2, 1)]
theorem s_R_goThroughTalk_0 : Seg 119 0 g_R_goThroughTalk_0 := seg_of (by decide +kernel)
def g_R_goThroughTalk_17 : List (Instr × Nat) := [(.iload 2, 1), (.iconst 20, 2), (.if_icmp .ge 43, 3), (.aload 0, 1), (.getstatic 3119, 3), (.iload 2, 1), (.iconst 0, 1), (.iastore, 1), (.aload 0, 1), (.getstatic 3120, 3), (.iload 2, 1), (.iconst 0, 1), (.iastore, 1), (.iinc 2 (1), 3), (.goto 17, 3)]
theorem s_R_goThroughTalk_17 : Seg 119 17 g_R_goThroughTalk_17 := seg_of (by decide +kernel)
def g_R_goThroughTalk_43 : List (Instr × Nat) := [(.iconst 0, 1), (.istore 2, 1)]
theorem s_R_goThroughTalk_43 : Seg 119 43 g_R_goThroughTalk_43 := seg_of (by decide +kernel)
def g_R_goThroughTalk_45 : List (Instr × Nat) := [(.iload 2, 1), (.iconst 8, 2), (.if_icmp .ge 64, 3), (.aload 0, 1), (.getstatic 3121, 3), (.iload 2, 1), (.iconst 0, 1), (.iastore, 1), (.iinc 2 (1), 3), (.goto 45, 3)]
theorem s_R_goThroughTalk_45 : Seg 119 45 g_R_goThroughTalk_45 := seg_of (by decide +kernel)
def g_R_goThroughTalk_64 : List (Instr × Nat) := [(.aload 0, 1), (.iload 1, 1), (.invokevirtual 1170212, 3), (.istore 2, 1), (.aload 0, 1), (.iconst (-1), 1), (.putfield 3126, 3), (.iconst 1, 1), (.istore 3, 1)]
theorem s_R_goThroughTalk_64 : Seg 119 64 g_R_goThroughTalk_64 := seg_of (by decide +kernel)
def g_R_goThroughTalk_77 : List (Instr × Nat) := [(.aload 0, 1), (.getfield 3126, 3), (.iconst (-1), 1), (.if_icmp .ne 280, 3), (.aload 0, 1), (.iload 3, 1), (.putfield 3127, 3), (.iconst 0, 1), (.istore 4, 2), (.iconst 0, 1), (.istore 5, 2)]
theorem s_R_goThroughTalk_77 : Seg 119 77 g_R_goThroughTalk_77 := seg_of (by decide +kernel)
def g_R_goThroughTalk_96 : List (Instr × Nat) := [(.iload 5, 2), (.aload 0, 1), (.getfield 3093, 3), (.if_icmp .ge 141, 3), (.iload 4, 2), (.aload 0, 1), (.aload 0, 1), (.getstatic 3075, 3), (.iload 5, 2), (.iaload, 1), (.iload 1, 1), (.iload 3, 1), (.iload 5, 2), (.iload 4, 2), (.invokevirtual 1130612, 3), (.ifCond .eq 131, 3), (.iconst 1, 1), (.goto 132, 3)]
theorem s_R_goThroughTalk_96 : Seg 119 96 g_R_goThroughTalk_96 := seg_of (by decide +kernel)
def g_R_goThroughTalk_131 : List (Instr × Nat) := [(.iconst 0, 1)]
theorem s_R_goThroughTalk_131 : Seg 119 131 g_R_goThroughTalk_131 := seg_of (by decide +kernel)
def g_R_goThroughTalk_132 : List (Instr × Nat) := [(.iadd, 1), (.istore 4, 2), (.iinc 5 (1), 3), (.goto 96, 3)]
theorem s_R_goThroughTalk_132 : Seg 119 132 g_R_goThroughTalk_132 := seg_of (by decide +kernel)
def g_R_goThroughTalk_141 : List (Instr × Nat) := [(.aload 0, 1), (.getstatic 3122, 3), (.iload 3, 1), (.aload 0, 1), (.getfield 3128, 3), (.iastore, 1), (.iconst 0, 1), (.istore 5, 2)]
theorem s_R_goThroughTalk_141 : Seg 119 141 g_R_goThroughTalk_141 := seg_of (by decide +kernel)
def g_R_goThroughTalk_154 : List (Instr × Nat) := [(.iload 5, 2), (.iconst 20, 2), (.if_icmp .ge 205, 3), (.aload 0, 1), (.getstatic 3123, 3), (.iconst 20, 2), (.iload 3, 1), (.imul, 1), (.iload 5, 2), (.iadd, 1), (.aload 0, 1), (.getstatic 3119, 3), (.iload 5, 2), (.iaload, 1), (.iastore, 1), (.aload 0, 1), (.getstatic 3124, 3), (.iconst 20, 2), (.iload 3, 1), (.imul, 1), (.iload 5, 2), (.iadd, 1), (.aload 0, 1), (.getstatic 3120, 3), (.iload 5, 2), (.iaload, 1), (.iastore, 1), (.iinc 5 (1), 3), (.goto 154, 3)]
theorem s_R_goThroughTalk_154 : Seg 119 154 g_R_goThroughTalk_154 := seg_of (by decide +kernel)
def g_R_goThroughTalk_205 : List (Instr × Nat) := [(.iload 4, 2), (.ifCond .ne 231, 3), (.aload 0, 1), (.aload 0, 1), (.iload 1, 1), (.iload 3, 1), (.invokevirtual 1160312, 3), (.ifCond .eq 224, 3), (.iconst 3, 1), (.goto 225, 3)]
theorem s_R_goThroughTalk_205 : Seg 119 205 g_R_goThroughTalk_205 := seg_of (by decide +kernel)
def g_R_goThroughTalk_224 : List (Instr × Nat) := [(.iconst 0, 1)]
theorem s_R_goThroughTalk_224 : Seg 119 224 g_R_goThroughTalk_224 := seg_of (by decide +kernel)
def g_R_goThroughTalk_225 : List (Instr × Nat) := [(.putfield 3126, 3), (.goto 274, 3)]
theorem s_R_goThroughTalk_225 : Seg 119 225 g_R_goThroughTalk_225 := seg_of (by decide +kernel)
def g_R_goThroughTalk_231 : List (Instr × Nat) := [(.iload 3, 1), (.iload 2, 1), (.if_icmp .ne 244, 3), (.aload 0, 1), (.iconst 1, 1), (.putfield 3126, 3), (.goto 274, 3)]
theorem s_R_goThroughTalk_231 : Seg 119 231 g_R_goThroughTalk_231 := seg_of (by decide +kernel)
def g_R_goThroughTalk_244 : List (Instr × Nat) := [(.iconst 1, 1), (.istore 5, 2)]
theorem s_R_goThroughTalk_244 : Seg 119 244 g_R_goThroughTalk_244 := seg_of (by decide +kernel)
def g_R_goThroughTalk_247 : List (Instr × Nat) := [(.iload 5, 2), (.iload 3, 1), (.if_icmp .ge 274, 3), (.aload 0, 1), (.iload 5, 2), (.iload 3, 1), (.invokevirtual 1180312, 3), (.ifCond .eq 268, 3), (.aload 0, 1), (.iconst 2, 1), (.putfield 3126, 3)]
theorem s_R_goThroughTalk_247 : Seg 119 247 g_R_goThroughTalk_247 := seg_of (by decide +kernel)
def g_R_goThroughTalk_268 : List (Instr × Nat) := [(.iinc 5 (1), 3), (.goto 247, 3)]
theorem s_R_goThroughTalk_268 : Seg 119 268 g_R_goThroughTalk_268 := seg_of (by decide +kernel)
def g_R_goThroughTalk_274 : List (Instr × Nat) := [(.iinc 3 (1), 3), (.goto 77, 3)]
theorem s_R_goThroughTalk_274 : Seg 119 274 g_R_goThroughTalk_274 := seg_of (by decide +kernel)
def g_R_goThroughTalk_280 : List (Instr × Nat) := [(.return_, 1)]
theorem s_R_goThroughTalk_280 : Seg 119 280 g_R_goThroughTalk_280 := seg_of (by decide +kernel)
/-! R talkOf -/
theorem mk_R_talkOf : 120 < 256 ∧ mtB 120 = true := ⟨by decide, mk_120⟩
def g_R_talkOf_0 : List (Instr × Nat) := [(.aload 0, 1), (.invokevirtual 570112, 3), (.aload 0, 1), (.iconst 0, 1), (.putfield 3094, 3), (.aload 0, 1), (.getfield 3133, 3), (.istore 2, 1), (.aload 0, 1), (.iconst (-1), 1), (.putfield 3133, 3), (.iconst 0, 1), (.istore 3, 1)]
theorem s_R_talkOf_0 : Seg 120 0 g_R_talkOf_0 := seg_of (by decide +kernel)
def g_R_talkOf_21 : List (Instr × Nat) := [(.iload 3, 1), (.iload 1, 1), (.if_icmp .ge 57, 3), (.aload 0, 1), (.iload 3, 1), (.invokevirtual 1190212, 3), (.aload 0, 1), (.getstatic 3129, 3), (.iload 3, 1), (.aload 0, 1), (.getfield 3126, 3), (.iastore, 1), (.aload 0, 1), (.getstatic 3130, 3), (.iload 3, 1), (.aload 0, 1), (.getfield 3128, 3), (.iastore, 1), (.iinc 3 (1), 3), (.goto 21, 3)]
theorem s_R_talkOf_21 : Seg 120 21 g_R_talkOf_21 := seg_of (by decide +kernel)
def g_R_talkOf_57 : List (Instr × Nat) := [(.aload 0, 1), (.iload 2, 1), (.putfield 3133, 3), (.aload 0, 1), (.iconst 0, 1), (.putfield 3132, 3), (.aload 0, 1), (.iload 1, 1), (.invokevirtual 1190212, 3), (.aload 0, 1), (.getstatic 3129, 3), (.iload 1, 1), (.aload 0, 1), (.getfield 3126, 3), (.iastore, 1), (.aload 0, 1), (.getstatic 3130, 3), (.iload 1, 1), (.aload 0, 1), (.getfield 3128, 3), (.iastore, 1), (.return_, 1)]
theorem s_R_talkOf_57 : Seg 120 57 g_R_talkOf_57 := seg_of (by decide +kernel)
/-! R talk -/
theorem mk_R_talk : 121 < 256 ∧ mtB 121 = true := ⟨by decide, mk_121⟩
def g_R_talk_0 : List (Instr × Nat) := [(.aload 0, 1), (.iconst 0, 1), (.putfield 3072, 3), (.aload 0, 1), (.iload 1, 1), (.invokevirtual 520212, 3), (.ifCond .eq 22, 3), (.iload 2, 1), (.iconst 0, 1), (.iconst 3, 1), (.invokeinterface 50 3, 3), (.ifCond .ne 24, 3)]
theorem s_R_talk_0 : Seg 121 0 g_R_talk_0 := seg_of (by decide +kernel)
def g_R_talk_22 : List (Instr × Nat) := [(.iconst (-1), 1), (.ireturn, 1)]
theorem s_R_talk_22 : Seg 121 22 g_R_talk_22 := seg_of (by decide +kernel)
def g_R_talk_24 : List (Instr × Nat) := [(.aload 0, 1), (.iload 1, 1), (.invokevirtual 1200212, 3), (.iload 2, 1), (.ifCond .ne 40, 3), (.aload 0, 1), (.getfield 3126, 3), (.goto 68, 3)]
theorem s_R_talk_24 : Seg 121 24 g_R_talk_24 := seg_of (by decide +kernel)
def g_R_talk_40 : List (Instr × Nat) := [(.iload 2, 1), (.iconst 1, 1), (.if_icmp .ne 52, 3), (.aload 0, 1), (.getfield 3127, 3), (.goto 68, 3)]
theorem s_R_talk_40 : Seg 121 40 g_R_talk_40 := seg_of (by decide +kernel)
def g_R_talk_52 : List (Instr × Nat) := [(.iload 2, 1), (.iconst 2, 1), (.if_icmp .ne 64, 3), (.aload 0, 1), (.getfield 3128, 3), (.goto 68, 3)]
theorem s_R_talk_52 : Seg 121 52 g_R_talk_52 := seg_of (by decide +kernel)
def g_R_talk_64 : List (Instr × Nat) := [(.aload 0, 1), (.getfield 3125, 3)]
theorem s_R_talk_64 : Seg 121 64 g_R_talk_64 := seg_of (by decide +kernel)
def g_R_talk_68 : List (Instr × Nat) := [(.ireturn, 1)]
theorem s_R_talk_68 : Seg 121 68 g_R_talk_68 := seg_of (by decide +kernel)
/-! R said -/
theorem mk_R_said : 122 < 256 ∧ mtB 122 = true := ⟨by decide, mk_122⟩
def g_R_said_0 : List (Instr × Nat) := [(.aload 0, 1), (.iconst 1, 1), (.putfield 3072, 3), (.aload 0, 1), (.iload 1, 1), (.invokevirtual 520212, 3), (.ifCond .eq 22, 3), (.iload 3, 1), (.iconst 0, 1), (.iconst 4, 1), (.invokeinterface 50 3, 3), (.ifCond .ne 24, 3)]
theorem s_R_said_0 : Seg 122 0 g_R_said_0 := seg_of (by decide +kernel)
def g_R_said_22 : List (Instr × Nat) := [(.iconst 0, 1), (.ireturn, 1)]
theorem s_R_said_22 : Seg 122 22 g_R_said_22 := seg_of (by decide +kernel)
def g_R_said_24 : List (Instr × Nat) := [(.aload 0, 1), (.iload 1, 1), (.invokevirtual 1200212, 3), (.iload 2, 1), (.iconst 0, 1), (.aload 0, 1), (.getfield 3125, 3), (.iconst 1, 1), (.isub, 1), (.invokeinterface 50 3, 3), (.ifCond .ne 45, 3), (.iconst 0, 1), (.ireturn, 1)]
theorem s_R_said_24 : Seg 122 24 g_R_said_24 := seg_of (by decide +kernel)
def g_R_said_45 : List (Instr × Nat) := [(.aload 0, 1), (.iconst 0, 1), (.putfield 3072, 3), (.iload 3, 1), (.tableswitch 108 0 3 #[80, 87, 94, 101], 29)]
theorem s_R_said_45 : Seg 122 45 g_R_said_45 := seg_of (by decide +kernel)
def g_R_said_80 : List (Instr × Nat) := [(.aload 0, 1), (.getstatic 3113, 3), (.iload 2, 1), (.iaload, 1), (.ireturn, 1)]
theorem s_R_said_80 : Seg 122 80 g_R_said_80 := seg_of (by decide +kernel)
def g_R_said_87 : List (Instr × Nat) := [(.aload 0, 1), (.getstatic 3114, 3), (.iload 2, 1), (.iaload, 1), (.ireturn, 1)]
theorem s_R_said_87 : Seg 122 87 g_R_said_87 := seg_of (by decide +kernel)
def g_R_said_94 : List (Instr × Nat) := [(.aload 0, 1), (.getstatic 3115, 3), (.iload 2, 1), (.iaload, 1), (.ireturn, 1)]
theorem s_R_said_94 : Seg 122 94 g_R_said_94 := seg_of (by decide +kernel)
def g_R_said_101 : List (Instr × Nat) := [(.aload 0, 1), (.getstatic 3116, 3), (.iload 2, 1), (.iaload, 1), (.ireturn, 1)]
theorem s_R_said_101 : Seg 122 101 g_R_said_101 := seg_of (by decide +kernel)
def g_R_said_108 : List (Instr × Nat) := [(.aload 0, 1), (.getstatic 3117, 3), (.iload 2, 1), (.iaload, 1), (.ireturn, 1)]
theorem s_R_said_108 : Seg 122 108 g_R_said_108 := seg_of (by decide +kernel)
/-! R promise -/
theorem mk_R_promise : 123 < 256 ∧ mtB 123 = true := ⟨by decide, mk_123⟩
def g_R_promise_0 : List (Instr × Nat) := [(.aload 0, 1), (.iconst 0, 1), (.putfield 3072, 3), (.aload 0, 1), (.getfield 3139, 3), (.iconst 20, 2), (.if_icmp .eq 47, 3), (.aload 0, 1), (.iload 1, 1), (.invokevirtual 510212, 3), (.ifCond .eq 47, 3), (.aload 0, 1), (.iload 2, 1), (.invokevirtual 510212, 3), (.ifCond .eq 47, 3), (.iload 1, 1), (.iload 2, 1), (.if_icmp .eq 47, 3), (.aload 0, 1), (.iload 3, 1), (.iload 4, 2), (.iload 5, 2), (.invokevirtual 540412, 3), (.ifCond .ne 49, 3)]
theorem s_R_promise_0 : Seg 123 0 g_R_promise_0 := seg_of (by decide +kernel)
def g_R_promise_47 : List (Instr × Nat) := [(.iconst 0, 1), (.ireturn, 1)]
theorem s_R_promise_47 : Seg 123 47 g_R_promise_47 := seg_of (by decide +kernel)
def g_R_promise_49 : List (Instr × Nat) := [(.aload 0, 1), (.getstatic 3134, 3), (.aload 0, 1), (.getfield 3139, 3), (.iload 1, 1), (.iastore, 1), (.aload 0, 1), (.getstatic 3135, 3), (.aload 0, 1), (.getfield 3139, 3), (.iload 2, 1), (.iastore, 1), (.aload 0, 1), (.getstatic 3136, 3), (.aload 0, 1), (.getfield 3139, 3), (.iload 3, 1), (.iastore, 1), (.aload 0, 1), (.getstatic 3137, 3), (.aload 0, 1), (.getfield 3139, 3), (.iload 4, 2), (.iastore, 1), (.aload 0, 1), (.getstatic 3138, 3), (.aload 0, 1), (.getfield 3139, 3), (.iload 5, 2), (.iastore, 1), (.aload 0, 1), (.dup, 1), (.getfield 3139, 3), (.iconst 1, 1), (.iadd, 1), (.putfield 3139, 3), (.iconst 1, 1), (.ireturn, 1)]
theorem s_R_promise_49 : Seg 123 49 g_R_promise_49 := seg_of (by decide +kernel)
/-! R promised -/
theorem mk_R_promised : 124 < 256 ∧ mtB 124 = true := ⟨by decide, mk_124⟩
def g_R_promised_0 : List (Instr × Nat) := [(.aload 0, 1), (.iconst 0, 1), (.putfield 3072, 3), (.aload 0, 1), (.iload 1, 1), (.invokevirtual 510212, 3), (.ifCond .ne 15, 3), (.iconst (-1), 1), (.ireturn, 1)]
theorem s_R_promised_0 : Seg 124 0 g_R_promised_0 := seg_of (by decide +kernel)
def g_R_promised_15 : List (Instr × Nat) := [(.aload 0, 1), (.getfield 3091, 3), (.ifCond .le 32, 3), (.aload 0, 1), (.aload 0, 1), (.getfield 3091, 3), (.iconst 1, 1), (.isub, 1), (.invokevirtual 1200212, 3)]
theorem s_R_promised_15 : Seg 124 15 g_R_promised_15 := seg_of (by decide +kernel)
def g_R_promised_32 : List (Instr × Nat) := [(.iconst 0, 1), (.istore 3, 1), (.iconst 0, 1), (.istore 4, 2)]
theorem s_R_promised_32 : Seg 124 32 g_R_promised_32 := seg_of (by decide +kernel)
def g_R_promised_37 : List (Instr × Nat) := [(.iload 4, 2), (.aload 0, 1), (.getfield 3139, 3), (.if_icmp .ge 81, 3), (.iload 3, 1), (.aload 0, 1), (.getstatic 3134, 3), (.iload 4, 2), (.iaload, 1), (.iload 1, 1), (.if_icmp .ne 72, 3), (.aload 0, 1), (.iload 4, 2), (.invokevirtual 1090212, 3), (.iload 2, 1), (.if_icmp .ne 72, 3), (.iconst 1, 1), (.goto 73, 3)]
theorem s_R_promised_37 : Seg 124 37 g_R_promised_37 := seg_of (by decide +kernel)
def g_R_promised_72 : List (Instr × Nat) := [(.iconst 0, 1)]
theorem s_R_promised_72 : Seg 124 72 g_R_promised_72 := seg_of (by decide +kernel)
def g_R_promised_73 : List (Instr × Nat) := [(.iadd, 1), (.istore 3, 1), (.iinc 4 (1), 3), (.goto 37, 3)]
theorem s_R_promised_73 : Seg 124 73 g_R_promised_73 := seg_of (by decide +kernel)
def g_R_promised_81 : List (Instr × Nat) := [(.iload 3, 1), (.ireturn, 1)]
theorem s_R_promised_81 : Seg 124 81 g_R_promised_81 := seg_of (by decide +kernel)
/-! R all -/
theorem mk_R_all : 125 < 256 ∧ mtB 125 = true := ⟨by decide, mk_125⟩
def g_R_all_0 : List (Instr × Nat) := [(.aload 0, 1), (.iconst 0, 1), (.putfield 3072, 3), (.aload 0, 1), (.iload 1, 1), (.invokevirtual 520212, 3), (.ifCond .ne 15, 3), (.iconst (-1), 1), (.ireturn, 1)]
theorem s_R_all_0 : Seg 125 0 g_R_all_0 := seg_of (by decide +kernel)
def g_R_all_15 : List (Instr × Nat) := [(.aload 0, 1), (.invokevirtual 570112, 3), (.aload 0, 1), (.iconst 0, 1), (.putfield 3094, 3), (.iconst 0, 1), (.istore 3, 1), (.iconst 0, 1), (.istore 4, 2)]
theorem s_R_all_15 : Seg 125 15 g_R_all_15 := seg_of (by decide +kernel)
def g_R_all_29 : List (Instr × Nat) := [(.iload 4, 2), (.iconst 1, 1), (.iconst 2, 1), (.aload 0, 1), (.getstatic 3077, 3), (.iload 1, 1), (.iaload, 1), (.imul, 1), (.ishl, 1), (.if_icmp .ge 84, 3), (.aload 0, 1), (.iload 1, 1), (.iload 4, 2), (.invokevirtual 670312, 3), (.ifCond .eq 78, 3), (.aload 0, 1), (.iload 1, 1), (.iload 4, 2), (.invokevirtual 1150312, 3), (.ifCond .ne 67, 3), (.goto 78, 3)]
theorem s_R_all_29 : Seg 125 29 g_R_all_29 := seg_of (by decide +kernel)
def g_R_all_67 : List (Instr × Nat) := [(.iload 3, 1), (.iload 2, 1), (.if_icmp .ne 75, 3), (.iload 4, 2), (.ireturn, 1)]
theorem s_R_all_67 : Seg 125 67 g_R_all_67 := seg_of (by decide +kernel)
def g_R_all_75 : List (Instr × Nat) := [(.iinc 3 (1), 3)]
theorem s_R_all_75 : Seg 125 75 g_R_all_75 := seg_of (by decide +kernel)
def g_R_all_78 : List (Instr × Nat) := [(.iinc 4 (1), 3), (.goto 29, 3)]
theorem s_R_all_78 : Seg 125 78 g_R_all_78 := seg_of (by decide +kernel)
def g_R_all_84 : List (Instr × Nat) := [(.iload 2, 1), (.iconst (-1), 1), (.if_icmp .ne 93, 3), (.iload 3, 1), (.goto 94, 3)]
theorem s_R_all_84 : Seg 125 84 g_R_all_84 := seg_of (by decide +kernel)
def g_R_all_93 : List (Instr × Nat) := [(.iconst (-1), 1)]
theorem s_R_all_93 : Seg 125 93 g_R_all_93 := seg_of (by decide +kernel)
def g_R_all_94 : List (Instr × Nat) := [(.ireturn, 1)]
theorem s_R_all_94 : Seg 125 94 g_R_all_94 := seg_of (by decide +kernel)
/-! R layLosses -/
theorem mk_R_layLosses : 126 < 256 ∧ mtB 126 = true := ⟨by decide, mk_126⟩
def g_R_layLosses_0 : List (Instr × Nat) := [(.iconst 0, 1), (.istore 3, 1)]
theorem s_R_layLosses_0 : Seg 126 0 g_R_layLosses_0 := seg_of (by decide +kernel)
def g_R_layLosses_2 : List (Instr × Nat) := [(.iload 3, 1), (.aload 0, 1), (.getfield 3093, 3), (.if_icmp .ge 83, 3), (.aload 0, 1), (.aload 0, 1), (.getstatic 3075, 3), (.iload 3, 1), (.iaload, 1), (.iload 1, 1), (.iload 2, 1), (.invokevirtual 740412, 3), (.istore 4, 2), (.iload 3, 1), (.istore 5, 2)]
theorem s_R_layLosses_2 : Seg 126 2 g_R_layLosses_2 := seg_of (by decide +kernel)
def g_R_layLosses_27 : List (Instr × Nat) := [(.iload 5, 2), (.ifCond .le 68, 3), (.aload 0, 1), (.getstatic 3140, 3), (.iload 5, 2), (.iconst 1, 1), (.isub, 1), (.iaload, 1), (.iload 4, 2), (.if_icmp .ge 68, 3), (.aload 0, 1), (.getstatic 3140, 3), (.iload 5, 2), (.aload 0, 1), (.getstatic 3140, 3), (.iload 5, 2), (.iconst 1, 1), (.isub, 1), (.iaload, 1), (.iastore, 1), (.iinc 5 (-1), 3), (.goto 27, 3)]
theorem s_R_layLosses_27 : Seg 126 27 g_R_layLosses_27 := seg_of (by decide +kernel)
def g_R_layLosses_68 : List (Instr × Nat) := [(.aload 0, 1), (.getstatic 3140, 3), (.iload 5, 2), (.iload 4, 2), (.iastore, 1), (.iinc 3 (1), 3), (.goto 2, 3)]
theorem s_R_layLosses_68 : Seg 126 68 g_R_layLosses_68 := seg_of (by decide +kernel)
def g_R_layLosses_83 : List (Instr × Nat) := [(.return_, 1)]
theorem s_R_layLosses_83 : Seg 126 83 g_R_layLosses_83 := seg_of (by decide +kernel)
/-! R fair -/
theorem mk_R_fair : 127 < 256 ∧ mtB 127 = true := ⟨by decide, mk_127⟩
def g_R_fair_0 : List (Instr × Nat) := [(.aload 0, 1), (.iconst 0, 1), (.putfield 3072, 3), (.aload 0, 1), (.iload 1, 1), (.invokevirtual 520212, 3), (.ifCond .ne 15, 3), (.iconst (-1), 1), (.ireturn, 1)]
theorem s_R_fair_0 : Seg 127 0 g_R_fair_0 := seg_of (by decide +kernel)
def g_R_fair_15 : List (Instr × Nat) := [(.aload 0, 1), (.invokevirtual 570112, 3), (.aload 0, 1), (.iconst 0, 1), (.putfield 3094, 3), (.iconst (-1), 1), (.istore 2, 1), (.iconst 0, 1), (.istore 3, 1)]
theorem s_R_fair_15 : Seg 127 15 g_R_fair_15 := seg_of (by decide +kernel)
def g_R_fair_28 : List (Instr × Nat) := [(.iload 3, 1), (.iconst 1, 1), (.iconst 2, 1), (.aload 0, 1), (.getstatic 3077, 3), (.iload 1, 1), (.iaload, 1), (.imul, 1), (.ishl, 1), (.if_icmp .ge 169, 3), (.aload 0, 1), (.iload 1, 1), (.iload 3, 1), (.invokevirtual 670312, 3), (.ifCond .eq 163, 3), (.aload 0, 1), (.iload 1, 1), (.iload 3, 1), (.invokevirtual 1150312, 3), (.ifCond .ne 63, 3), (.goto 163, 3)]
theorem s_R_fair_28 : Seg 127 28 g_R_fair_28 := seg_of (by decide +kernel)
def g_R_fair_63 : List (Instr × Nat) := [(.aload 0, 1), (.iload 1, 1), (.iload 3, 1), (.invokevirtual 1260312, 3), (.iload 2, 1), (.iconst (-1), 1), (.if_icmp .ne 78, 3), (.iconst 1, 1), (.goto 79, 3)]
theorem s_R_fair_63 : Seg 127 63 g_R_fair_63 := seg_of (by decide +kernel)
def g_R_fair_78 : List (Instr × Nat) := [(.iconst 0, 1)]
theorem s_R_fair_78 : Seg 127 78 g_R_fair_78 := seg_of (by decide +kernel)
def g_R_fair_79 : List (Instr × Nat) := [(.istore 4, 2), (.iconst 0, 1), (.istore 5, 2)]
theorem s_R_fair_79 : Seg 127 79 g_R_fair_79 := seg_of (by decide +kernel)
def g_R_fair_84 : List (Instr × Nat) := [(.iload 5, 2), (.aload 0, 1), (.getfield 3093, 3), (.if_icmp .ge 121, 3), (.iload 4, 2), (.ifCond .ne 121, 3), (.aload 0, 1), (.getstatic 3141, 3), (.iload 5, 2), (.iaload, 1), (.aload 0, 1), (.getstatic 3140, 3), (.iload 5, 2), (.iaload, 1), (.isub, 1), (.istore 4, 2), (.iinc 5 (1), 3), (.goto 84, 3)]
theorem s_R_fair_84 : Seg 127 84 g_R_fair_84 := seg_of (by decide +kernel)
def g_R_fair_121 : List (Instr × Nat) := [(.iload 4, 2), (.ifCond .gt 129, 3), (.goto 163, 3)]
theorem s_R_fair_121 : Seg 127 121 g_R_fair_121 := seg_of (by decide +kernel)
def g_R_fair_129 : List (Instr × Nat) := [(.iload 3, 1), (.istore 2, 1), (.iconst 0, 1), (.istore 5, 2)]
theorem s_R_fair_129 : Seg 127 129 g_R_fair_129 := seg_of (by decide +kernel)
def g_R_fair_134 : List (Instr × Nat) := [(.iload 5, 2), (.aload 0, 1), (.getfield 3093, 3), (.if_icmp .ge 163, 3), (.aload 0, 1), (.getstatic 3141, 3), (.iload 5, 2), (.aload 0, 1), (.getstatic 3140, 3), (.iload 5, 2), (.iaload, 1), (.iastore, 1), (.iinc 5 (1), 3), (.goto 134, 3)]
theorem s_R_fair_134 : Seg 127 134 g_R_fair_134 := seg_of (by decide +kernel)
def g_R_fair_163 : List (Instr × Nat) := [(.iinc 3 (1), 3), (.goto 28, 3)]
theorem s_R_fair_163 : Seg 127 163 g_R_fair_163 := seg_of (by decide +kernel)
def g_R_fair_169 : List (Instr × Nat) := [(.iload 2, 1), (.ireturn, 1)]
theorem s_R_fair_169 : Seg 127 169 g_R_fair_169 := seg_of (by decide +kernel)
/-! R isOpen -/
theorem mk_R_isOpen : 128 < 256 ∧ mtB 128 = true := ⟨by decide, mk_128⟩
def g_R_isOpen_0 : List (Instr × Nat) := [(.iconst 0, 1), (.istore 4, 2)]
theorem s_R_isOpen_0 : Seg 128 0 g_R_isOpen_0 := seg_of (by decide +kernel)
def g_R_isOpen_3 : List (Instr × Nat) := [(.iload 4, 2), (.iconst 1, 1), (.iconst 2, 1), (.aload 0, 1), (.getstatic 3077, 3), (.iload 1, 1), (.iaload, 1), (.imul, 1), (.ishl, 1), (.if_icmp .ge 110, 3), (.aload 0, 1), (.iload 1, 1), (.iload 4, 2), (.invokevirtual 670312, 3), (.ifCond .ne 31, 3), (.goto 104, 3)]
theorem s_R_isOpen_3 : Seg 128 3 g_R_isOpen_3 := seg_of (by decide +kernel)
def g_R_isOpen_31 : List (Instr × Nat) := [(.iconst 1, 1), (.istore 5, 2), (.iconst 0, 1), (.istore 6, 2)]
theorem s_R_isOpen_31 : Seg 128 31 g_R_isOpen_31 := seg_of (by decide +kernel)
def g_R_isOpen_37 : List (Instr × Nat) := [(.iload 6, 2), (.aload 0, 1), (.getfield 3093, 3), (.if_icmp .ge 97, 3), (.iload 5, 2), (.ifCond .eq 97, 3), (.iload 2, 1), (.aload 0, 1), (.getstatic 3075, 3), (.iload 6, 2), (.iaload, 1), (.ishr, 1), (.iconst 1, 1), (.iand, 1), (.iconst 1, 1), (.if_icmp .eq 84, 3), (.aload 0, 1), (.aload 0, 1), (.getstatic 3075, 3), (.iload 6, 2), (.iaload, 1), (.iload 1, 1), (.iload 4, 2), (.iload 3, 1), (.invokevirtual 710512, 3), (.ifCond .eq 88, 3)]
theorem s_R_isOpen_37 : Seg 128 37 g_R_isOpen_37 := seg_of (by decide +kernel)
def g_R_isOpen_84 : List (Instr × Nat) := [(.iconst 1, 1), (.goto 89, 3)]
theorem s_R_isOpen_84 : Seg 128 84 g_R_isOpen_84 := seg_of (by decide +kernel)
def g_R_isOpen_88 : List (Instr × Nat) := [(.iconst 0, 1)]
theorem s_R_isOpen_88 : Seg 128 88 g_R_isOpen_88 := seg_of (by decide +kernel)
def g_R_isOpen_89 : List (Instr × Nat) := [(.istore 5, 2), (.iinc 6 (1), 3), (.goto 37, 3)]
theorem s_R_isOpen_89 : Seg 128 89 g_R_isOpen_89 := seg_of (by decide +kernel)
def g_R_isOpen_97 : List (Instr × Nat) := [(.iload 5, 2), (.ifCond .eq 104, 3), (.iconst 1, 1), (.ireturn, 1)]
theorem s_R_isOpen_97 : Seg 128 97 g_R_isOpen_97 := seg_of (by decide +kernel)
def g_R_isOpen_104 : List (Instr × Nat) := [(.iinc 4 (1), 3), (.goto 3, 3)]
theorem s_R_isOpen_104 : Seg 128 104 g_R_isOpen_104 := seg_of (by decide +kernel)
def g_R_isOpen_110 : List (Instr × Nat) := [(.iconst 0, 1), (.ireturn, 1)]
theorem s_R_isOpen_110 : Seg 128 110 g_R_isOpen_110 := seg_of (by decide +kernel)
/-! R isBetter -/
theorem mk_R_isBetter : 129 < 256 ∧ mtB 129 = true := ⟨by decide, mk_129⟩
def g_R_isBetter_0 : List (Instr × Nat) := [(.iload 1, 1), (.iconst (-1), 1), (.if_icmp .ne 9, 3), (.iconst (-1), 1), (.goto 18, 3)]
theorem s_R_isBetter_0 : Seg 129 0 g_R_isBetter_0 := seg_of (by decide +kernel)
def g_R_isBetter_9 : List (Instr × Nat) := [(.iload 0, 1), (.invokeinterface 254 1, 3), (.iload 1, 1), (.invokeinterface 254 1, 3), (.isub, 1)]
theorem s_R_isBetter_9 : Seg 129 9 g_R_isBetter_9 := seg_of (by decide +kernel)
def g_R_isBetter_18 : List (Instr × Nat) := [(.istore 2, 1), (.iload 2, 1), (.ifCond .lt 40, 3), (.iload 2, 1), (.ifCond .ne 44, 3), (.iload 0, 1), (.iload 0, 1), (.iload 1, 1), (.ixor, 1), (.iand, 1), (.iload 0, 1), (.iload 1, 1), (.ixor, 1), (.ineg, 1), (.iand, 1), (.ifCond .eq 44, 3)]
theorem s_R_isBetter_18 : Seg 129 18 g_R_isBetter_18 := seg_of (by decide +kernel)
def g_R_isBetter_40 : List (Instr × Nat) := [(.iconst 1, 1), (.goto 45, 3)]
theorem s_R_isBetter_40 : Seg 129 40 g_R_isBetter_40 := seg_of (by decide +kernel)
def g_R_isBetter_44 : List (Instr × Nat) := [(.iconst 0, 1)]
theorem s_R_isBetter_44 : Seg 129 44 g_R_isBetter_44 := seg_of (by decide +kernel)
def g_R_isBetter_45 : List (Instr × Nat) := [(.ireturn, 1)]
theorem s_R_isBetter_45 : Seg 129 45 g_R_isBetter_45 := seg_of (by decide +kernel)
/-! R barred -/
theorem mk_R_barred : 130 < 256 ∧ mtB 130 = true := ⟨by decide, mk_130⟩
def g_R_barred_0 : List (Instr × Nat) := [(.aload 0, 1), (.iconst 0, 1), (.putfield 3072, 3), (.aload 0, 1), (.iload 1, 1), (.invokevirtual 520212, 3), (.ifCond .ne 15, 3), (.iconst (-1), 1), (.ireturn, 1)]
theorem s_R_barred_0 : Seg 130 0 g_R_barred_0 := seg_of (by decide +kernel)
def g_R_barred_15 : List (Instr × Nat) := [(.aload 0, 1), (.invokevirtual 570112, 3), (.aload 0, 1), (.iconst 0, 1), (.putfield 3094, 3), (.iconst 0, 1), (.istore 2, 1), (.iconst 0, 1), (.istore 3, 1)]
theorem s_R_barred_15 : Seg 130 15 g_R_barred_15 := seg_of (by decide +kernel)
def g_R_barred_28 : List (Instr × Nat) := [(.iload 3, 1), (.aload 0, 1), (.getfield 3093, 3), (.if_icmp .ge 53, 3), (.iload 2, 1), (.iconst 1, 1), (.aload 0, 1), (.getstatic 3075, 3), (.iload 3, 1), (.iaload, 1), (.ishl, 1), (.ior, 1), (.istore 2, 1), (.iinc 3 (1), 3), (.goto 28, 3)]
theorem s_R_barred_28 : Seg 130 28 g_R_barred_28 := seg_of (by decide +kernel)
def g_R_barred_53 : List (Instr × Nat) := [(.aload 0, 1), (.iload 1, 1), (.iconst 0, 1), (.aload 0, 1), (.iload 1, 1), (.invokevirtual 720212, 3), (.invokevirtual 1280412, 3), (.ifCond .eq 69, 3), (.iconst (-1), 1), (.ireturn, 1)]
theorem s_R_barred_53 : Seg 130 53 g_R_barred_53 := seg_of (by decide +kernel)
def g_R_barred_69 : List (Instr × Nat) := [(.iconst (-1), 1), (.istore 3, 1), (.iconst 1, 1), (.istore 4, 2)]
theorem s_R_barred_69 : Seg 130 69 g_R_barred_69 := seg_of (by decide +kernel)
def g_R_barred_74 : List (Instr × Nat) := [(.iload 4, 2), (.iconst 1, 1), (.aload 0, 1), (.getfield 3090, 3), (.ishl, 1), (.if_icmp .ge 127, 3), (.iload 4, 2), (.iload 2, 1), (.iconst (-1), 1), (.ixor, 1), (.iand, 1), (.ifCond .ne 121, 3), (.iload 4, 2), (.iload 3, 1), (.invokeinterface 129 2, 3), (.ifCond .eq 121, 3), (.aload 0, 1), (.iload 1, 1), (.iload 4, 2), (.aload 0, 1), (.iload 1, 1), (.invokevirtual 720212, 3), (.invokevirtual 1280412, 3), (.ifCond .eq 121, 3), (.iload 4, 2), (.istore 3, 1)]
theorem s_R_barred_74 : Seg 130 74 g_R_barred_74 := seg_of (by decide +kernel)
def g_R_barred_121 : List (Instr × Nat) := [(.iinc 4 (1), 3), (.goto 74, 3)]
theorem s_R_barred_121 : Seg 130 121 g_R_barred_121 := seg_of (by decide +kernel)
def g_R_barred_127 : List (Instr × Nat) := [(.iload 3, 1), (.ireturn, 1)]
theorem s_R_barred_127 : Seg 130 127 g_R_barred_127 := seg_of (by decide +kernel)
/-! R open -/
theorem mk_R_open : 131 < 256 ∧ mtB 131 = true := ⟨by decide, mk_131⟩
def g_R_open_0 : List (Instr × Nat) := [(.aload 0, 1), (.iconst 0, 1), (.putfield 3072, 3), (.aload 0, 1), (.iload 1, 1), (.invokevirtual 520212, 3), (.ifCond .ne 15, 3), (.iconst (-1), 1), (.ireturn, 1)]
theorem s_R_open_0 : Seg 131 0 g_R_open_0 := seg_of (by decide +kernel)
def g_R_open_15 : List (Instr × Nat) := [(.aload 0, 1), (.invokevirtual 570112, 3), (.aload 0, 1), (.iconst 0, 1), (.putfield 3094, 3), (.iconst (-1), 1), (.istore 2, 1), (.iconst 0, 1), (.istore 3, 1)]
theorem s_R_open_15 : Seg 131 15 g_R_open_15 := seg_of (by decide +kernel)
def g_R_open_28 : List (Instr × Nat) := [(.iload 3, 1), (.aload 0, 1), (.iload 1, 1), (.invokevirtual 720212, 3), (.if_icmp .gt 71, 3), (.iload 3, 1), (.iload 2, 1), (.invokeinterface 129 2, 3), (.ifCond .eq 65, 3), (.aload 0, 1), (.iload 1, 1), (.iconst 0, 1), (.aload 0, 1), (.iload 1, 1), (.invokevirtual 720212, 3), (.iload 3, 1), (.iconst (-1), 1), (.ixor, 1), (.iand, 1), (.invokevirtual 1280412, 3), (.ifCond .eq 65, 3), (.iload 3, 1), (.istore 2, 1)]
theorem s_R_open_28 : Seg 131 28 g_R_open_28 := seg_of (by decide +kernel)
def g_R_open_65 : List (Instr × Nat) := [(.iinc 3 (1), 3), (.goto 28, 3)]
theorem s_R_open_65 : Seg 131 65 g_R_open_65 := seg_of (by decide +kernel)
def g_R_open_71 : List (Instr × Nat) := [(.iload 2, 1), (.ireturn, 1)]
theorem s_R_open_71 : Seg 131 71 g_R_open_71 := seg_of (by decide +kernel)
