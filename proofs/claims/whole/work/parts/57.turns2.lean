/-! ===== the reference: looks, a turn ===== -/
theorem getD_appL (ls : List Lk) (x : Lk) (k : Nat) (hk : k ≤ ls.length) : (ls ++ [x]).getD k l0 = if k < ls.length then ls.getD k l0 else x := by
  simp only [List.getD_eq_getElem?_getD]
  by_cases h : k < ls.length
  · rw [if_pos h, List.getElem?_append_left h]
  · rw [if_neg h, List.getElem?_append_right (by omega)]
    have e : k = ls.length := by omega
    rw [e, Nat.sub_self]
    rfl
theorem told_lt : ∀ i, i < 10 → (strN 4).getD i 0 < 128 ∧ sln.getD 4 0 = 10 := by decide +kernel
section
variable {h : AH} {s : St} {d : Nat}
/-- the looks of one are written down -/
theorem tu_look (W : RH h s) (K : SK h) {ws : List Wd} {g : Nat} {tr : Int32} {e m day ahead today p : Nat} {ls : List Lk} {LS : List Lk} {res : Option (Nat × Nat)} (he : e < s 107 18) (hm : m < s 107 19) (hp : p < s 112 m) (hg : g < 1024) (hls : ls.length < 1200)
    {P : Nat → LL → List Value → AH → Nat → Nat → Prop} (hP : Clo (Mz (d + 34)) 113 0 0 (PU h ws g (s 112 m) e day res LS (wyN (s 112 m) g)) P)
    {H : AH} (F : Ft [31, 32, 33, 34, 35, 36, 37, 40, 53, 56, 60] [128, 129, 130, 131, 132, 133, 134, 135, 136, 137, 143] h H) (T : TK H ws g) (LL1 : LKs H ls) (LT1 : LTR H (lkP s ws g tr e m day ahead today p)) {t : Prop} (ht : t ↔ noP s ws g tr e m day ahead today p)
    (J : ∀ H, Ft [31, 32, 33, 34, 35, 36, 37, 40, 53, 56, 60] [128, 129, 130, 131, 132, 133, 134, 135, 136, 137, 143] h H → TK H ws g → LKs H (ls ++ [lkC s ws g tr e m day ahead today p]) → LTR H (lkP s ws g tr e m day ahead today p) → ∀ x10 : Option Value, P 221 [some (.ref 107), some (.int (nI e)), some (.int (nI m)), some (.int (nI day)), some (.int (nI ahead)), some (.int (nI today)), some (.int (tr)), some (.int (nI p)), some (.int (nI (wyN (s 112 m) g p))), some (.int (bP t)), x10, none, none] [] H 0 0) : P 121 [some (.ref 107), some (.int (nI e)), some (.int (nI m)), some (.int (nI day)), some (.int (nI ahead)), some (.int (nI today)), some (.int (tr)), some (.int (nI p)), some (.int (nI (wyN (s 112 m) g p))), some (.int (bP t)), none, none, none] [] H 0 0 := by
  have h1 := rs_m W
  have h2 := rs_p W hm
  have h3 := rs_e W
  have fin : ∀ Hi, Fx [] [143] H Hi → (∀ i, i < 10 → gi Hi 143 (11 * ls.length + i) = ltF (lkP s ws g tr e m day ahead today p) ((strN 4).getD i 0)) → (∀ j, j < 11 * ls.length → gi Hi 143 j = gi H 143 j) → ∀ i, P 165 [some (.ref 107), some (.int (nI e)), some (.int (nI m)), some (.int (nI day)), some (.int (nI ahead)), some (.int (nI today)), some (.int (tr)), some (.int (nI p)), some (.int (nI (wyN (s 112 m) g p))), some (.int (bP t)), some (.int (nI i)), none, none] [] Hi 0 0 := by
    intro Hi FI hI hO i
    have F1 : Ft [31, 32, 33, 34, 35, 36, 37, 40, 53, 56, 60] [128, 129, 130, 131, 132, 133, 134, 135, 136, 137, 143] h Hi := F.trans (FI.ft.mono rfl)
    have WI := F1.rw W rfl
    have TI := FI.ft.tk T rfl rfl
    have LI : LTR Hi (lkP s ws g tr e m day ahead today p) := LTR_fx LT1 FI.ft (fun _ => rfl)
    have n60 : gi Hi 107 60 = nI ls.length := (FI.2 _ _ rfl).trans LL1.1
    have j209 : ∀ a b, a = nif (plP s e m p g) 2 0 → b = nif (noP s ws g tr e m day ahead today p) 1 0 → P 209 [some (.ref 107), some (.int (nI e)), some (.int (nI m)), some (.int (nI day)), some (.int (nI ahead)), some (.int (nI today)), some (.int (tr)), some (.int (nI p)), some (.int (nI (wyN (s 112 m) g p))), some (.int (bP t)), some (.int (nI i)), none, none] [.int (nI b), .int (nI a), .int (nI (11 * ls.length + 10)), .ref 143] Hi 0 0 := by
      intro a b ea eb
      have k1 := k143 WI.1
      refine hP.1 _ _ s_R_turns_209 _ _ _ _ _ ?_
      simp (maxSteps := 1000000) (disch := omega) only [g_R_turns_209, slk, List.map_cons, List.map_nil, List.sum_cons, List.sum_nil, vc_i, vc_r, vc_n, vc_l, vc_o, Nat.add_zero, kO_e, kA_e, hdO_a, eq_self, blk, stp, lg, ls0, lk, ls1, ls2, kI_i, kL_l, kR_r, kR_n, kR_o, s1I_i, s2I_i, s1L_l, s2L_l, s1R_r, s1R_n, s1R_o, s1A_a, cmpc, popn, swt, rf_s, rf_n, cat_i, cat_r, cat_n, cat_l, true_and, and_true, List.length_cons, List.length_nil, Nat.zero_add, Int.reduceToNat, Nat.reduceAdd, Nat.reduceDiv, Nat.reduceMod, Nat.reduceMul, Nat.reduceSub, Nat.reduceLeDiff, Nat.reduceLT, Nat.reduceEqDiff, ↓reduceIte, r_gr_wi, r_gl_wi, r_gk_wi, r_gn_wi, r_wi_eq, r_wi_ne, r_wi_nj, r_gi_wr, r_gl_wr, r_gk_wr, r_gn_wr, r_gr_wa, r_gl_wa, r_gk_wa, r_gn_wa, u_lt, u_le, u_gt, u_ge, u_lt0, u_le0, u_gt0, u_ge0, Classical.not_not, not_true_eq_false, not_false_eq_true, oi_n, oi_m, n_dec, nI_add, pk_mul, n_sub, n_eq, n_le, n_lt, n_eq0, n_lt0, n_le0, n_0lt, n_0le, n_eqm, m_eqn, n_ltm, n_and, n_or, n_xor, n_shl, n_shr, tb1, tb0, bP_1, bP_0, bP_n0, ix_n, inb_n, u_eq, u_eqm, k107 WI.1, k1, n60]
      refine J _ ?_ ?_ ?_ ?_ _
      · have Fw : Fx [60] [143] Hi (wi (wi Hi 143 (11 * ls.length + 10) (nI (a + b))) 107 60 (nI (ls.length + 1))) := ((Fx.refl _ _ Hi).wi _ rfl).wi _ rfl
        exact F1.trans (Fw.ft.mono rfl)
      · have Fw : Fx [60] [143] Hi (wi (wi Hi 143 (11 * ls.length + 10) (nI (a + b))) 107 60 (nI (ls.length + 1))) := ((Fx.refl _ _ Hi).wi _ rfl).wi _ rfl
        exact Fw.ft.tk TI rfl rfl
      · refine ⟨?_, fun k hk => ?_⟩
        · rw [List.length_append]
          rfl
        · rw [List.length_append] at hk
          simp only [List.length_cons, List.length_nil] at hk
          rw [getD_appL ls _ k (by omega)]
          by_cases q : k < ls.length
          · rw [if_pos q]
            obtain ⟨o1, o2⟩ := LL1.2 k q
            refine ⟨fun i hi => ?_, ?_⟩
            · simp (disch := omega) only [r_wi_ne, r_wi_nj]
              rw [hO _ (by omega)]
              exact o1 i hi
            · simp (disch := omega) only [r_wi_ne, r_wi_nj]
              rw [hO _ (by omega)]
              exact o2
          · have q2 : k = ls.length := by omega
            subst q2
            rw [if_neg q]
            refine ⟨fun i hi => ?_, ?_⟩
            · simp (disch := omega) only [r_wi_ne, r_wi_nj]
              exact hI i hi
            · simp (disch := omega) only [r_wi_ne, r_wi_eq]
              rw [ea, eb]
              rfl
      · have Fw : Fx [60] [143] Hi (wi (wi Hi 143 (11 * ls.length + 10) (nI (a + b))) 107 60 (nI (ls.length + 1))) := ((Fx.refl _ _ Hi).wi _ rfl).wi _ rfl
        exact LTR_fx LI Fw.ft (fun _ => rfl)
    have j199 : ∀ a, a = nif (plP s e m p g) 2 0 → P 199 [some (.ref 107), some (.int (nI e)), some (.int (nI m)), some (.int (nI day)), some (.int (nI ahead)), some (.int (nI today)), some (.int (tr)), some (.int (nI p)), some (.int (nI (wyN (s 112 m) g p))), some (.int (bP t)), some (.int (nI i)), none, none] [.int (nI a), .int (nI (11 * ls.length + 10)), .ref 143] Hi 0 0 := by
      intro a ea
      refine hP.1 _ _ s_R_turns_199 _ _ _ _ _ ?_
      simp (maxSteps := 1000000) (disch := omega) only [g_R_turns_199, slk, List.map_cons, List.map_nil, List.sum_cons, List.sum_nil, vc_i, vc_r, vc_n, vc_l, vc_o, Nat.add_zero, kO_e, kA_e, hdO_a, eq_self, blk, stp, lg, ls0, lk, ls1, ls2, kI_i, kL_l, kR_r, kR_n, kR_o, s1I_i, s2I_i, s1L_l, s2L_l, s1R_r, s1R_n, s1R_o, s1A_a, cmpc, popn, swt, rf_s, rf_n, cat_i, cat_r, cat_n, cat_l, true_and, and_true, List.length_cons, List.length_nil, Nat.zero_add, Int.reduceToNat, Nat.reduceAdd, Nat.reduceDiv, Nat.reduceMod, Nat.reduceMul, Nat.reduceSub, Nat.reduceLeDiff, Nat.reduceLT, Nat.reduceEqDiff, ↓reduceIte, r_gr_wi, r_gl_wi, r_gk_wi, r_gn_wi, r_wi_eq, r_wi_ne, r_wi_nj, r_gi_wr, r_gl_wr, r_gk_wr, r_gn_wr, r_gr_wa, r_gl_wa, r_gk_wa, r_gn_wa, u_lt, u_le, u_gt, u_ge, u_lt0, u_le0, u_gt0, u_ge0, Classical.not_not, not_true_eq_false, not_false_eq_true, oi_n, oi_m, n_dec, nI_add, pk_mul, n_sub, n_eq, n_le, n_lt, n_eq0, n_lt0, n_le0, n_0lt, n_0le, n_eqm, m_eqn, n_ltm, n_and, n_or, n_xor, n_shl, n_shr, tb1, tb0, bP_1, bP_0, bP_n0, ix_n, inb_n, u_eq, u_eqm]
      refine ⟨fun q => ?_, fun q => ?_⟩
      · refine hP.1 _ _ s_R_turns_208 _ _ _ _ _ ?_
        simp (maxSteps := 1000000) (disch := omega) only [g_R_turns_208, slk, List.map_cons, List.map_nil, List.sum_cons, List.sum_nil, vc_i, vc_r, vc_n, vc_l, vc_o, Nat.add_zero, kO_e, kA_e, hdO_a, eq_self, blk, stp, lg, ls0, lk, ls1, ls2, kI_i, kL_l, kR_r, kR_n, kR_o, s1I_i, s2I_i, s1L_l, s2L_l, s1R_r, s1R_n, s1R_o, s1A_a, cmpc, popn, swt, rf_s, rf_n, cat_i, cat_r, cat_n, cat_l, true_and, and_true, List.length_cons, List.length_nil, Nat.zero_add, Int.reduceToNat, Nat.reduceAdd, Nat.reduceDiv, Nat.reduceMod, Nat.reduceMul, Nat.reduceSub, Nat.reduceLeDiff, Nat.reduceLT, Nat.reduceEqDiff, ↓reduceIte, r_gr_wi, r_gl_wi, r_gk_wi, r_gn_wi, r_wi_eq, r_wi_ne, r_wi_nj, r_gi_wr, r_gl_wr, r_gk_wr, r_gn_wr, r_gr_wa, r_gl_wa, r_gk_wa, r_gn_wa, u_lt, u_le, u_gt, u_ge, u_lt0, u_le0, u_gt0, u_ge0, Classical.not_not, not_true_eq_false, not_false_eq_true, oi_n, oi_m, n_dec, nI_add, pk_mul, n_sub, n_eq, n_le, n_lt, n_eq0, n_lt0, n_le0, n_0lt, n_0le, n_eqm, m_eqn, n_ltm, n_and, n_or, n_xor, n_shl, n_shr, tb1, tb0, bP_1, bP_0, bP_n0, ix_n, inb_n, u_eq, u_eqm]
        exact j209 a 0 ea (nif_f (fun z => q (ht.mpr z))).symm
      · refine hP.1 _ _ s_R_turns_204 _ _ _ _ _ ?_
        simp (maxSteps := 1000000) (disch := omega) only [g_R_turns_204, slk, List.map_cons, List.map_nil, List.sum_cons, List.sum_nil, vc_i, vc_r, vc_n, vc_l, vc_o, Nat.add_zero, kO_e, kA_e, hdO_a, eq_self, blk, stp, lg, ls0, lk, ls1, ls2, kI_i, kL_l, kR_r, kR_n, kR_o, s1I_i, s2I_i, s1L_l, s2L_l, s1R_r, s1R_n, s1R_o, s1A_a, cmpc, popn, swt, rf_s, rf_n, cat_i, cat_r, cat_n, cat_l, true_and, and_true, List.length_cons, List.length_nil, Nat.zero_add, Int.reduceToNat, Nat.reduceAdd, Nat.reduceDiv, Nat.reduceMod, Nat.reduceMul, Nat.reduceSub, Nat.reduceLeDiff, Nat.reduceLT, Nat.reduceEqDiff, ↓reduceIte, r_gr_wi, r_gl_wi, r_gk_wi, r_gn_wi, r_wi_eq, r_wi_ne, r_wi_nj, r_gi_wr, r_gl_wr, r_gk_wr, r_gn_wr, r_gr_wa, r_gl_wa, r_gk_wa, r_gn_wa, u_lt, u_le, u_gt, u_ge, u_lt0, u_le0, u_gt0, u_ge0, Classical.not_not, not_true_eq_false, not_false_eq_true, oi_n, oi_m, n_dec, nI_add, pk_mul, n_sub, n_eq, n_le, n_lt, n_eq0, n_lt0, n_le0, n_0lt, n_0le, n_eqm, m_eqn, n_ltm, n_and, n_or, n_xor, n_shl, n_shr, tb1, tb0, bP_1, bP_0, bP_n0, ix_n, inb_n, u_eq, u_eqm]
        exact j209 a 1 ea (nif_t (ht.mp q)).symm
    refine hP.1 _ _ s_R_turns_165 _ _ _ _ _ ?_
    simp (maxSteps := 1000000) (disch := omega) only [g_R_turns_165, slk, List.map_cons, List.map_nil, List.sum_cons, List.sum_nil, vc_i, vc_r, vc_n, vc_l, vc_o, Nat.add_zero, kO_e, kA_e, hdO_a, eq_self, blk, stp, lg, ls0, lk, ls1, ls2, kI_i, kL_l, kR_r, kR_n, kR_o, s1I_i, s2I_i, s1L_l, s2L_l, s1R_r, s1R_n, s1R_o, s1A_a, cmpc, popn, swt, rf_s, rf_n, cat_i, cat_r, cat_n, cat_l, true_and, and_true, List.length_cons, List.length_nil, Nat.zero_add, Int.reduceToNat, Nat.reduceAdd, Nat.reduceDiv, Nat.reduceMod, Nat.reduceMul, Nat.reduceSub, Nat.reduceLeDiff, Nat.reduceLT, Nat.reduceEqDiff, ↓reduceIte, r_gr_wi, r_gl_wi, r_gk_wi, r_gn_wi, r_wi_eq, r_wi_ne, r_wi_nj, r_gi_wr, r_gl_wr, r_gk_wr, r_gn_wr, r_gr_wa, r_gl_wa, r_gk_wa, r_gn_wa, u_lt, u_le, u_gt, u_ge, u_lt0, u_le0, u_gt0, u_ge0, Classical.not_not, not_true_eq_false, not_false_eq_true, oi_n, oi_m, n_dec, nI_add, pk_mul, n_sub, n_eq, n_le, n_lt, n_eq0, n_lt0, n_le0, n_0lt, n_0le, n_eqm, m_eqn, n_ltm, n_and, n_or, n_xor, n_shl, n_shr, tb1, tb0, bP_1, bP_0, bP_n0, ix_n, inb_n, u_eq, u_eqm, k107 WI.1, f107_59 WI.1, k143 WI.1, n60, TI.1.2, k143 WI.1]
    refine wc (c_R_plainlyNo WI (by omega) hm hp (by omega)) ⟨by omega, by omega⟩ ?_
    simp (maxSteps := 1000000) (disch := omega) only [slk, List.map_cons, List.map_nil, List.sum_cons, List.sum_nil, vc_i, vc_r, vc_n, vc_l, vc_o, Nat.add_zero, kO_e, kA_e, hdO_a, eq_self, blk, stp, lg, ls0, lk, ls1, ls2, kI_i, kL_l, kR_r, kR_n, kR_o, s1I_i, s2I_i, s1L_l, s2L_l, s1R_r, s1R_n, s1R_o, s1A_a, cmpc, popn, swt, rf_s, rf_n, cat_i, cat_r, cat_n, cat_l, true_and, and_true, List.length_cons, List.length_nil, Nat.zero_add, Int.reduceToNat, Nat.reduceAdd, Nat.reduceDiv, Nat.reduceMod, Nat.reduceMul, Nat.reduceSub, Nat.reduceLeDiff, Nat.reduceLT, Nat.reduceEqDiff, ↓reduceIte, r_gr_wi, r_gl_wi, r_gk_wi, r_gn_wi, r_wi_eq, r_wi_ne, r_wi_nj, r_gi_wr, r_gl_wr, r_gk_wr, r_gn_wr, r_gr_wa, r_gl_wa, r_gk_wa, r_gn_wa, u_lt, u_le, u_gt, u_ge, u_lt0, u_le0, u_gt0, u_ge0, Classical.not_not, not_true_eq_false, not_false_eq_true, oi_n, oi_m, n_dec, nI_add, pk_mul, n_sub, n_eq, n_le, n_lt, n_eq0, n_lt0, n_le0, n_0lt, n_0le, n_eqm, m_eqn, n_ltm, n_and, n_or, n_xor, n_shl, n_shr, tb1, tb0, bP_1, bP_0, bP_n0, ix_n, inb_n, u_eq, u_eqm, k107 WI.1, f107_59 WI.1, k143 WI.1, n60, TI.1.2, k143 WI.1]
    refine ⟨fun q => ?_, fun q => ?_⟩
    · refine hP.1 _ _ s_R_turns_198 _ _ _ _ _ ?_
      simp (maxSteps := 1000000) (disch := omega) only [g_R_turns_198, slk, List.map_cons, List.map_nil, List.sum_cons, List.sum_nil, vc_i, vc_r, vc_n, vc_l, vc_o, Nat.add_zero, kO_e, kA_e, hdO_a, eq_self, blk, stp, lg, ls0, lk, ls1, ls2, kI_i, kL_l, kR_r, kR_n, kR_o, s1I_i, s2I_i, s1L_l, s2L_l, s1R_r, s1R_n, s1R_o, s1A_a, cmpc, popn, swt, rf_s, rf_n, cat_i, cat_r, cat_n, cat_l, true_and, and_true, List.length_cons, List.length_nil, Nat.zero_add, Int.reduceToNat, Nat.reduceAdd, Nat.reduceDiv, Nat.reduceMod, Nat.reduceMul, Nat.reduceSub, Nat.reduceLeDiff, Nat.reduceLT, Nat.reduceEqDiff, ↓reduceIte, r_gr_wi, r_gl_wi, r_gk_wi, r_gn_wi, r_wi_eq, r_wi_ne, r_wi_nj, r_gi_wr, r_gl_wr, r_gk_wr, r_gn_wr, r_gr_wa, r_gl_wa, r_gk_wa, r_gn_wa, u_lt, u_le, u_gt, u_ge, u_lt0, u_le0, u_gt0, u_ge0, Classical.not_not, not_true_eq_false, not_false_eq_true, oi_n, oi_m, n_dec, nI_add, pk_mul, n_sub, n_eq, n_le, n_lt, n_eq0, n_lt0, n_le0, n_0lt, n_0le, n_eqm, m_eqn, n_ltm, n_and, n_or, n_xor, n_shl, n_shr, tb1, tb0, bP_1, bP_0, bP_n0, ix_n, inb_n, u_eq, u_eqm, n60, TI.1.2, k143 WI.1]
      exact j199 0 (nif_f q).symm
    · refine hP.1 _ _ s_R_turns_194 _ _ _ _ _ ?_
      simp (maxSteps := 1000000) (disch := omega) only [g_R_turns_194, slk, List.map_cons, List.map_nil, List.sum_cons, List.sum_nil, vc_i, vc_r, vc_n, vc_l, vc_o, Nat.add_zero, kO_e, kA_e, hdO_a, eq_self, blk, stp, lg, ls0, lk, ls1, ls2, kI_i, kL_l, kR_r, kR_n, kR_o, s1I_i, s2I_i, s1L_l, s2L_l, s1R_r, s1R_n, s1R_o, s1A_a, cmpc, popn, swt, rf_s, rf_n, cat_i, cat_r, cat_n, cat_l, true_and, and_true, List.length_cons, List.length_nil, Nat.zero_add, Int.reduceToNat, Nat.reduceAdd, Nat.reduceDiv, Nat.reduceMod, Nat.reduceMul, Nat.reduceSub, Nat.reduceLeDiff, Nat.reduceLT, Nat.reduceEqDiff, ↓reduceIte, r_gr_wi, r_gl_wi, r_gk_wi, r_gn_wi, r_wi_eq, r_wi_ne, r_wi_nj, r_gi_wr, r_gl_wr, r_gk_wr, r_gn_wr, r_gr_wa, r_gl_wa, r_gk_wa, r_gn_wa, u_lt, u_le, u_gt, u_ge, u_lt0, u_le0, u_gt0, u_ge0, Classical.not_not, not_true_eq_false, not_false_eq_true, oi_n, oi_m, n_dec, nI_add, pk_mul, n_sub, n_eq, n_le, n_lt, n_eq0, n_lt0, n_le0, n_0lt, n_0le, n_eqm, m_eqn, n_ltm, n_and, n_or, n_xor, n_shl, n_shr, tb1, tb0, bP_1, bP_0, bP_n0, ix_n, inb_n, u_eq, u_eqm, n60, TI.1.2, k143 WI.1]
      exact j199 2 (nif_t q).symm
  have loop : ∀ n i Hi, i + n = 10 → Fx [] [143] H Hi → (∀ i', i' < i → gi Hi 143 (11 * ls.length + i') = ltF (lkP s ws g tr e m day ahead today p) ((strN 4).getD i' 0)) → (∀ j, j < 11 * ls.length → gi Hi 143 j = gi H 143 j) → P 124 [some (.ref 107), some (.int (nI e)), some (.int (nI m)), some (.int (nI day)), some (.int (nI ahead)), some (.int (nI today)), some (.int (tr)), some (.int (nI p)), some (.int (nI (wyN (s 112 m) g p))), some (.int (bP t)), some (.int (nI i)), none, none] [] Hi 0 0 := by
    intro n
    induction n using Nat.strongRecOn with
    | _ n ih =>
      intro i Hi hi FI hI hO
      have F1 : Ft [31, 32, 33, 34, 35, 36, 37, 40, 53, 56, 60] [128, 129, 130, 131, 132, 133, 134, 135, 136, 137, 143] h Hi := F.trans (FI.ft.mono rfl)
      have WI := F1.rw W rfl
      have LI : LTR Hi (lkP s ws g tr e m day ahead today p) := LTR_fx LT1 FI.ft (fun _ => rfl)
      have n60 : gi Hi 107 60 = nI ls.length := (FI.2 _ _ rfl).trans LL1.1
      have KI := F1.sk K rfl
      refine hP.1 _ _ s_R_turns_124 _ _ _ _ _ ?_
      simp (maxSteps := 1000000) (disch := omega) only [g_R_turns_124, slk, List.map_cons, List.map_nil, List.sum_cons, List.sum_nil, vc_i, vc_r, vc_n, vc_l, vc_o, Nat.add_zero, kO_e, kA_e, hdO_a, eq_self, blk, stp, lg, ls0, lk, ls1, ls2, kI_i, kL_l, kR_r, kR_n, kR_o, s1I_i, s2I_i, s1L_l, s2L_l, s1R_r, s1R_n, s1R_o, s1A_a, cmpc, popn, swt, rf_s, rf_n, cat_i, cat_r, cat_n, cat_l, true_and, and_true, List.length_cons, List.length_nil, Nat.zero_add, Int.reduceToNat, Nat.reduceAdd, Nat.reduceDiv, Nat.reduceMod, Nat.reduceMul, Nat.reduceSub, Nat.reduceLeDiff, Nat.reduceLT, Nat.reduceEqDiff, ↓reduceIte, r_gr_wi, r_gl_wi, r_gk_wi, r_gn_wi, r_wi_eq, r_wi_ne, r_wi_nj, r_gi_wr, r_gl_wr, r_gk_wr, r_gn_wr, r_gr_wa, r_gl_wa, r_gk_wa, r_gn_wa, u_lt, u_le, u_gt, u_ge, u_lt0, u_le0, u_gt0, u_ge0, Classical.not_not, not_true_eq_false, not_false_eq_true, oi_n, oi_m, n_dec, nI_add, pk_mul, n_sub, n_eq, n_le, n_lt, n_eq0, n_lt0, n_le0, n_0lt, n_0le, n_eqm, m_eqn, n_ltm, n_and, n_or, n_xor, n_shl, n_shr, tb1, tb0, bP_1, bP_0, bP_n0, ix_n, inb_n, u_eq, u_eqm]
      refine ⟨fun hc => ?_, fun hc => ?_⟩
      · have ei : i = 10 := by omega
        subst ei
        exact fin Hi FI hI hO 10
      · obtain ⟨tl, tn10⟩ := told_lt i (by omega)
        have ks := (KI 4 (by omega)).1
        refine hP.1 _ _ s_R_turns_131 _ _ _ _ _ ?_
        simp (maxSteps := 1000000) (disch := omega) only [g_R_turns_131, slk, List.map_cons, List.map_nil, List.sum_cons, List.sum_nil, vc_i, vc_r, vc_n, vc_l, vc_o, Nat.add_zero, kO_e, kA_e, hdO_a, eq_self, blk, stp, lg, ls0, lk, ls1, ls2, kI_i, kL_l, kR_r, kR_n, kR_o, s1I_i, s2I_i, s1L_l, s2L_l, s1R_r, s1R_n, s1R_o, s1A_a, cmpc, popn, swt, rf_s, rf_n, cat_i, cat_r, cat_n, cat_l, true_and, and_true, List.length_cons, List.length_nil, Nat.zero_add, Int.reduceToNat, Nat.reduceAdd, Nat.reduceDiv, Nat.reduceMod, Nat.reduceMul, Nat.reduceSub, Nat.reduceLeDiff, Nat.reduceLT, Nat.reduceEqDiff, ↓reduceIte, r_gr_wi, r_gl_wi, r_gk_wi, r_gn_wi, r_wi_eq, r_wi_ne, r_wi_nj, r_gi_wr, r_gl_wr, r_gk_wr, r_gn_wr, r_gr_wa, r_gl_wa, r_gk_wa, r_gn_wa, u_lt, u_le, u_gt, u_ge, u_lt0, u_le0, u_gt0, u_ge0, Classical.not_not, not_true_eq_false, not_false_eq_true, oi_n, oi_m, n_dec, nI_add, pk_mul, n_sub, n_eq, n_le, n_lt, n_eq0, n_lt0, n_le0, n_0lt, n_0le, n_eqm, m_eqn, n_ltm, n_and, n_or, n_xor, n_shl, n_shr, tb1, tb0, bP_1, bP_0, bP_n0, ix_n, inb_n, u_eq, u_eqm, k107 WI.1, f107_59 WI.1, k143 WI.1, f107_26 WI.1, k128 WI.1, n60, k143 WI.1, LI _ tl, k128 WI.1, ks]
        refine wc (c_S_charAt KI (i := 4) (by omega) (j := i) (by omega)) ⟨by omega, by omega⟩ ?_
        simp (maxSteps := 1000000) (disch := omega) only [slk, List.map_cons, List.map_nil, List.sum_cons, List.sum_nil, vc_i, vc_r, vc_n, vc_l, vc_o, Nat.add_zero, kO_e, kA_e, hdO_a, eq_self, blk, stp, lg, ls0, lk, ls1, ls2, kI_i, kL_l, kR_r, kR_n, kR_o, s1I_i, s2I_i, s1L_l, s2L_l, s1R_r, s1R_n, s1R_o, s1A_a, cmpc, popn, swt, rf_s, rf_n, cat_i, cat_r, cat_n, cat_l, true_and, and_true, List.length_cons, List.length_nil, Nat.zero_add, Int.reduceToNat, Nat.reduceAdd, Nat.reduceDiv, Nat.reduceMod, Nat.reduceMul, Nat.reduceSub, Nat.reduceLeDiff, Nat.reduceLT, Nat.reduceEqDiff, ↓reduceIte, r_gr_wi, r_gl_wi, r_gk_wi, r_gn_wi, r_wi_eq, r_wi_ne, r_wi_nj, r_gi_wr, r_gl_wr, r_gk_wr, r_gn_wr, r_gr_wa, r_gl_wa, r_gk_wa, r_gn_wa, u_lt, u_le, u_gt, u_ge, u_lt0, u_le0, u_gt0, u_ge0, Classical.not_not, not_true_eq_false, not_false_eq_true, oi_n, oi_m, n_dec, nI_add, pk_mul, n_sub, n_eq, n_le, n_lt, n_eq0, n_lt0, n_le0, n_0lt, n_0le, n_eqm, m_eqn, n_ltm, n_and, n_or, n_xor, n_shl, n_shr, tb1, tb0, bP_1, bP_0, bP_n0, ix_n, inb_n, u_eq, u_eqm, k107 WI.1, f107_59 WI.1, k143 WI.1, f107_26 WI.1, k128 WI.1, n60, k143 WI.1, LI _ tl, k128 WI.1, ks]
        refine ih (n - 1) (by omega) (i + 1) _ (by omega) (FI.wi _ rfl) ?_ ?_
        · intro i' hi'
          by_cases q : i' = i
          · subst q
            rw [r_wi_eq]
          · simp (disch := omega) only [r_wi_nj]
            exact hI i' (by omega)
        · intro j hj
          simp (disch := omega) only [r_wi_nj]
          exact hO j hj
  have WH := F.rw W rfl
  refine hP.1 _ _ s_R_turns_121 _ _ _ _ _ ?_
  simp (maxSteps := 1000000) (disch := omega) only [g_R_turns_121, slk, List.map_cons, List.map_nil, List.sum_cons, List.sum_nil, vc_i, vc_r, vc_n, vc_l, vc_o, Nat.add_zero, kO_e, kA_e, hdO_a, eq_self, blk, stp, lg, ls0, lk, ls1, ls2, kI_i, kL_l, kR_r, kR_n, kR_o, s1I_i, s2I_i, s1L_l, s2L_l, s1R_r, s1R_n, s1R_o, s1A_a, cmpc, popn, swt, rf_s, rf_n, cat_i, cat_r, cat_n, cat_l, true_and, and_true, List.length_cons, List.length_nil, Nat.zero_add, Int.reduceToNat, Nat.reduceAdd, Nat.reduceDiv, Nat.reduceMod, Nat.reduceMul, Nat.reduceSub, Nat.reduceLeDiff, Nat.reduceLT, Nat.reduceEqDiff, ↓reduceIte, r_gr_wi, r_gl_wi, r_gk_wi, r_gn_wi, r_wi_eq, r_wi_ne, r_wi_nj, r_gi_wr, r_gl_wr, r_gk_wr, r_gn_wr, r_gr_wa, r_gl_wa, r_gk_wa, r_gn_wa, u_lt, u_le, u_gt, u_ge, u_lt0, u_le0, u_gt0, u_ge0, Classical.not_not, not_true_eq_false, not_false_eq_true, oi_n, oi_m, n_dec, nI_add, pk_mul, n_sub, n_eq, n_le, n_lt, n_eq0, n_lt0, n_le0, n_0lt, n_0le, n_eqm, m_eqn, n_ltm, n_and, n_or, n_xor, n_shl, n_shr, tb1, tb0, bP_1, bP_0, bP_n0, ix_n, inb_n, u_eq, u_eqm]
  exact loop 10 0 H rfl (Fx.refl _ _ _) (fun i hi => absurd hi (Nat.not_lt_zero _)) (fun j _ => rfl)
end
