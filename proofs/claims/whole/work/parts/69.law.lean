/-! ===== the reference: a law, a mind ===== -/
def lawC (s : St) : Prop := ¬ s 107 29 = 8 ∧ keepC s (s 107 29) false
def lawS (s : St) : St := uS (keepS s (s 107 29)) 107 29 (s 107 29 + 1)
def mindC (s : St) : Prop := ¬ s 107 30 = 8 ∧ keepC s (8 + s 107 30) true
def mindS (s : St) : St := uS (keepS s (8 + s 107 30)) 107 30 (s 107 30 + 1)
theorem rsLaw {h : AH} {s : St} (W : RH h s) (c : lawC s) : RS (lawS s) := by
  obtain ⟨⟨a1, a2, a3, a4, a5, a6, a7, a8, a9, a10⟩, r2, r3, r4, r5, r6, r7, r8, r9, r10, r11, r12, r13, r14, r15⟩ := rs_keep W (s 107 29)
  have b1 : s 107 29 ≤ 8 := a5
  have n1 : s 107 29 + 1 ≤ 8 := by
    have := c.1
    omega
  refine ⟨⟨a1, a2, a3, a4, n1, a6, a7, a8, a9, a10⟩, r2, r3, r4, ?_, r6, r7, r8, r9, r10, r11, r12, r13, r14, r15⟩
  intro m hm
  obtain ⟨q1, q2, q3, q4, q5, q6⟩ := r5 m hm
  exact ⟨q1, q2, q3, q4, q5.imp id (fun z => Nat.lt_succ_of_lt z), q6⟩
theorem rsMind {h : AH} {s : St} (W : RH h s) (c : mindC s) : RS (mindS s) := by
  obtain ⟨⟨a1, a2, a3, a4, a5, a6, a7, a8, a9, a10⟩, r2, r3, r4, r5, r6, r7, r8, r9, r10, r11, r12, r13, r14, r15⟩ := rs_keep W (8 + s 107 30)
  have b1 : s 107 30 ≤ 8 := a6
  have n1 : s 107 30 + 1 ≤ 8 := by
    have := c.1
    omega
  refine ⟨⟨a1, a2, a3, a4, a5, n1, a7, a8, a9, a10⟩, r2, r3, r4, r5, r6, r7, ?_, r9, r10, r11, r12, r13, r14, r15⟩
  intro e he
  exact (r8 e he).imp id (fun z => Nat.lt_succ_of_lt z)
theorem txB_other {s : St} {k j : Nat} (hn : s 107 28 ≤ 160) (hj : j ≠ k) : txB (keepS s k) j = txB s j ∧ keepS s k 127 j = s 127 j := by
  refine ⟨?_, if_neg hj⟩
  funext p
  by_cases q : p < 160
  · rw [txB_lt q, txB_lt q]
    show (if 160 * k ≤ 160 * j + p ∧ 160 * j + p < 160 * k + s 107 28 then _ else s 126 (160 * j + p)) = _
    rw [if_neg (by omega)]
  · exact (if_neg q).trans (if_neg q).symm
theorem txOK_other {s : St} {k j : Nat} {mind : Bool} (hn : s 107 28 ≤ 160) (hj : j ≠ k) (hl : s 127 j ≤ 160) (O : txOK s mind j) : txOK (keepS s k) mind j := by
  obtain ⟨e1, e2⟩ := txB_other hn hj
  unfold txOK
  rw [e1, e2]
  refine ⟨O.1, fun p hp => ?_⟩
  have := congrFun e1 p
  rw [txB_lt (by omega), txB_lt (by omega)] at this
  rw [this]
  exact O.2 p hp
theorem txOK_self {h : AH} {s : St} (W : RH h s) {k : Nat} {mind : Bool} (c : keepC s k mind) : txOK (keepS s k) mind k := by
  have b1 := rs_l W
  have e2 : keepS s k 127 k = s 107 28 := if_pos rfl
  unfold txOK
  rw [e2]
  refine ⟨c, fun p hp => ?_⟩
  have := txB_keep (s := s) (k := k) b1 hp
  rw [txB_lt (by omega)] at this
  rw [this]
  exact (rs_tape W hp).1
theorem to_law {h : AH} {s : St} (W : RH h s) (TT : TO s) (c : lawC s) : TO (lawS s) := by
  have b1 := rs_l W
  have b2 := rs_laws W
  refine ⟨fun k hk => ?_, fun k hk => ?_⟩
  · have hk2 : k < s 107 29 + 1 := hk
    by_cases q : k = s 107 29
    · subst q
      exact txOK_self W c.2
    · exact txOK_other b1 q (rs_tl W k) (TT.1 k (by omega))
  · have hc := c.1
    exact txOK_other b1 (by omega) (rs_tl W _) (TT.2 k hk)
theorem to_mind {h : AH} {s : St} (W : RH h s) (TT : TO s) (c : mindC s) : TO (mindS s) := by
  have b1 := rs_l W
  have b2 := rs_laws W
  refine ⟨fun k hk => ?_, fun k hk => ?_⟩
  · have hk2 : k < s 107 29 := hk
    exact txOK_other b1 (by omega) (rs_tl W k) (TT.1 k hk)
  · have hk2 : k < s 107 30 + 1 := hk
    by_cases q : k = s 107 30
    · subst q
      exact txOK_self W c.2
    · exact txOK_other b1 (by omega) (rs_tl W _) (TT.2 k (by omega))
section
variable {h : AH} {s : St} {d : Nat}
theorem c_R_law (W : RH h s) (K : SK h) : Mz (d + 34) 98 [.ref 107] h 0 0 (Pb (iff1 (lawC s) (nI (s 107 29))) (ifS (lawC s) (lawS s) s) h) := by
  have W1 := (pre1 W).1
  have K1 : SK (wi h 107 0 (nI 0)) := ((Fx.refl [0] [] h).wi _ rfl).sk K rfl
  have b1 := rs_laws W
  refine mz_in (l := [some (.ref 107)]) mk_R_law n_R_law rfl l_R_law rfl (Nat.le_of_ble_eq_true rfl) fun P hP => ?_
  have bad : ∀ H, ¬ lawC s → RH H s → FrR h H → P 26 [some (.ref 107)] [] H 0 0 := by
    intro H a WH F
    refine hP.1 _ _ s_R_law_26 _ _ _ _ _ ?_
    simp (maxSteps := 1000000) (disch := omega) only [g_R_law_26, slk, List.map_cons, List.map_nil, List.sum_cons, List.sum_nil, vc_i, vc_r, vc_n, vc_l, vc_o, Nat.add_zero, kO_e, kA_e, hdO_a, eq_self, blk, stp, lg, ls0, lk, ls1, ls2, kI_i, kL_l, kR_r, kR_n, kR_o, s1I_i, s2I_i, s1L_l, s2L_l, s1R_r, s1R_n, s1R_o, s1A_a, cmpc, popn, swt, rf_s, rf_n, cat_i, cat_r, cat_n, cat_l, true_and, and_true, List.length_cons, List.length_nil, Nat.zero_add, Int.reduceToNat, Nat.reduceAdd, Nat.reduceDiv, Nat.reduceMod, Nat.reduceMul, Nat.reduceSub, Nat.reduceLeDiff, Nat.reduceLT, Nat.reduceEqDiff, ↓reduceIte, r_gr_wi, r_gl_wi, r_gk_wi, r_gn_wi, r_wi_eq, r_wi_ne, r_wi_nj, r_gi_wr, r_gl_wr, r_gk_wr, r_gn_wr, r_gr_wa, r_gl_wa, r_gk_wa, r_gn_wa, u_lt, u_le, u_gt, u_ge, u_lt0, u_le0, u_gt0, u_ge0, Classical.not_not, not_true_eq_false, not_false_eq_true, oi_n, oi_m, n_dec, nI_add, pk_mul, n_sub, n_eq, n_le, n_lt, n_eq0, n_lt0, n_le0, n_0lt, n_0le, n_eqm, m_eqn, n_ltm, n_and, n_or, n_xor, n_shl, n_shr, tb1, tb0, bP_1, bP_0, bP_n0, ix_n, inb_n, u_eq, u_eqm, n1_1, true_or, or_true, u_eqm]
    exact lfQN r_R_law a WH F
  refine hP.1 _ _ s_R_law_0 _ _ _ _ _ ?_
  simp (maxSteps := 1000000) (disch := omega) only [g_R_law_0, slk, List.map_cons, List.map_nil, List.sum_cons, List.sum_nil, vc_i, vc_r, vc_n, vc_l, vc_o, Nat.add_zero, kO_e, kA_e, hdO_a, eq_self, blk, stp, lg, ls0, lk, ls1, ls2, kI_i, kL_l, kR_r, kR_n, kR_o, s1I_i, s2I_i, s1L_l, s2L_l, s1R_r, s1R_n, s1R_o, s1A_a, cmpc, popn, swt, rf_s, rf_n, cat_i, cat_r, cat_n, cat_l, true_and, and_true, List.length_cons, List.length_nil, Nat.zero_add, Int.reduceToNat, Nat.reduceAdd, Nat.reduceDiv, Nat.reduceMod, Nat.reduceMul, Nat.reduceSub, Nat.reduceLeDiff, Nat.reduceLT, Nat.reduceEqDiff, ↓reduceIte, r_gr_wi, r_gl_wi, r_gk_wi, r_gn_wi, r_wi_eq, r_wi_ne, r_wi_nj, r_gi_wr, r_gl_wr, r_gk_wr, r_gn_wr, r_gr_wa, r_gl_wa, r_gk_wa, r_gn_wa, u_lt, u_le, u_gt, u_ge, u_lt0, u_le0, u_gt0, u_ge0, Classical.not_not, not_true_eq_false, not_false_eq_true, oi_n, oi_m, n_dec, nI_add, pk_mul, n_sub, n_eq, n_le, n_lt, n_eq0, n_lt0, n_le0, n_0lt, n_0le, n_eqm, m_eqn, n_ltm, n_and, n_or, n_xor, n_shl, n_shr, tb1, tb0, bP_1, bP_0, bP_n0, ix_n, inb_n, u_eq, u_eqm, k107 W.1, q107_29 W, n1_1, true_or, or_true, u_eqm]
  refine ⟨fun hc => bad _ (fun q => q.1 hc) W1 (pre1 W).2, fun hc1 => ?_⟩
  have g := c_R_keeps (d := d) W1 K1 (k := s 107 29) (by omega) false
  rw [bP_f (by decide)] at g
  refine hP.1 _ _ s_R_law_14 _ _ _ _ _ ?_
  simp (maxSteps := 1000000) (disch := omega) only [g_R_law_14, slk, List.map_cons, List.map_nil, List.sum_cons, List.sum_nil, vc_i, vc_r, vc_n, vc_l, vc_o, Nat.add_zero, kO_e, kA_e, hdO_a, eq_self, blk, stp, lg, ls0, lk, ls1, ls2, kI_i, kL_l, kR_r, kR_n, kR_o, s1I_i, s2I_i, s1L_l, s2L_l, s1R_r, s1R_n, s1R_o, s1A_a, cmpc, popn, swt, rf_s, rf_n, cat_i, cat_r, cat_n, cat_l, true_and, and_true, List.length_cons, List.length_nil, Nat.zero_add, Int.reduceToNat, Nat.reduceAdd, Nat.reduceDiv, Nat.reduceMod, Nat.reduceMul, Nat.reduceSub, Nat.reduceLeDiff, Nat.reduceLT, Nat.reduceEqDiff, ↓reduceIte, r_gr_wi, r_gl_wi, r_gk_wi, r_gn_wi, r_wi_eq, r_wi_ne, r_wi_nj, r_gi_wr, r_gl_wr, r_gk_wr, r_gn_wr, r_gr_wa, r_gl_wa, r_gk_wa, r_gn_wa, u_lt, u_le, u_gt, u_ge, u_lt0, u_le0, u_gt0, u_ge0, Classical.not_not, not_true_eq_false, not_false_eq_true, oi_n, oi_m, n_dec, nI_add, pk_mul, n_sub, n_eq, n_le, n_lt, n_eq0, n_lt0, n_le0, n_0lt, n_0le, n_eqm, m_eqn, n_ltm, n_and, n_or, n_xor, n_shl, n_shr, tb1, tb0, bP_1, bP_0, bP_n0, ix_n, inb_n, u_eq, u_eqm, k107 W.1, q107_29 W, n1_1, true_or, or_true, u_eqm]
  refine ⟨_, _, _, g, ⟨by omega, by omega⟩, ?_⟩
  rintro r H2 ⟨rfl, W2, F2⟩
  have F3 := (pre1 W).2.trans F2
  by_cases c : keepC s (s 107 29) false
  · rw [ifS_t c] at W2
    rw [bP_t c]
    have e8 : keepS s (s 107 29) 107 29 = s 107 29 := rfl
    simp (maxSteps := 1000000) (disch := omega) only [slk, List.map_cons, List.map_nil, List.sum_cons, List.sum_nil, vc_i, vc_r, vc_n, vc_l, vc_o, Nat.add_zero, kO_e, kA_e, hdO_a, eq_self, blk, stp, lg, ls0, lk, ls1, ls2, kI_i, kL_l, kR_r, kR_n, kR_o, s1I_i, s2I_i, s1L_l, s2L_l, s1R_r, s1R_n, s1R_o, s1A_a, cmpc, popn, swt, rf_s, rf_n, cat_i, cat_r, cat_n, cat_l, true_and, and_true, List.length_cons, List.length_nil, Nat.zero_add, Int.reduceToNat, Nat.reduceAdd, Nat.reduceDiv, Nat.reduceMod, Nat.reduceMul, Nat.reduceSub, Nat.reduceLeDiff, Nat.reduceLT, Nat.reduceEqDiff, ↓reduceIte, r_gr_wi, r_gl_wi, r_gk_wi, r_gn_wi, r_wi_eq, r_wi_ne, r_wi_nj, r_gi_wr, r_gl_wr, r_gk_wr, r_gn_wr, r_gr_wa, r_gl_wa, r_gk_wa, r_gn_wa, u_lt, u_le, u_gt, u_ge, u_lt0, u_le0, u_gt0, u_ge0, Classical.not_not, not_true_eq_false, not_false_eq_true, oi_n, oi_m, n_dec, nI_add, pk_mul, n_sub, n_eq, n_le, n_lt, n_eq0, n_lt0, n_le0, n_0lt, n_0le, n_eqm, m_eqn, n_ltm, n_and, n_or, n_xor, n_shl, n_shr, tb1, tb0, bP_1, bP_0, bP_n0, ix_n, inb_n, u_eq, u_eqm, k107 W.1, q107_29 W, e8]
    refine ⟨fun _ => ?_, fun q => q.elim⟩
    refine hP.1 _ _ s_R_law_28 _ _ _ _ _ ?_
    simp (maxSteps := 1000000) (disch := omega) only [g_R_law_28, slk, List.map_cons, List.map_nil, List.sum_cons, List.sum_nil, vc_i, vc_r, vc_n, vc_l, vc_o, Nat.add_zero, kO_e, kA_e, hdO_a, eq_self, blk, stp, lg, ls0, lk, ls1, ls2, kI_i, kL_l, kR_r, kR_n, kR_o, s1I_i, s2I_i, s1L_l, s2L_l, s1R_r, s1R_n, s1R_o, s1A_a, cmpc, popn, swt, rf_s, rf_n, cat_i, cat_r, cat_n, cat_l, true_and, and_true, List.length_cons, List.length_nil, Nat.zero_add, Int.reduceToNat, Nat.reduceAdd, Nat.reduceDiv, Nat.reduceMod, Nat.reduceMul, Nat.reduceSub, Nat.reduceLeDiff, Nat.reduceLT, Nat.reduceEqDiff, ↓reduceIte, r_gr_wi, r_gl_wi, r_gk_wi, r_gn_wi, r_wi_eq, r_wi_ne, r_wi_nj, r_gi_wr, r_gl_wr, r_gk_wr, r_gn_wr, r_gr_wa, r_gl_wa, r_gk_wa, r_gn_wa, u_lt, u_le, u_gt, u_ge, u_lt0, u_le0, u_gt0, u_ge0, Classical.not_not, not_true_eq_false, not_false_eq_true, oi_n, oi_m, n_dec, nI_add, pk_mul, n_sub, n_eq, n_le, n_lt, n_eq0, n_lt0, n_le0, n_0lt, n_0le, n_eqm, m_eqn, n_ltm, n_and, n_or, n_xor, n_shl, n_shr, tb1, tb0, bP_1, bP_0, bP_n0, ix_n, inb_n, u_eq, u_eqm, k107 W2.1, q107_29 W2, e8]
    exact lfQI r_R_law (⟨hc1, c⟩ : lawC s) (by rw [Nat.add_sub_cancel]) W2.1 (rc_set W2.2.1 (by decide)) (rsLaw W ⟨hc1, c⟩) (fr_wi F3 (by omega))
  · rw [ifS_f c] at W2
    rw [bP_f c]
    simp (maxSteps := 1000000) (disch := omega) only [slk, List.map_cons, List.map_nil, List.sum_cons, List.sum_nil, vc_i, vc_r, vc_n, vc_l, vc_o, Nat.add_zero, kO_e, kA_e, hdO_a, eq_self, blk, stp, lg, ls0, lk, ls1, ls2, kI_i, kL_l, kR_r, kR_n, kR_o, s1I_i, s2I_i, s1L_l, s2L_l, s1R_r, s1R_n, s1R_o, s1A_a, cmpc, popn, swt, rf_s, rf_n, cat_i, cat_r, cat_n, cat_l, true_and, and_true, List.length_cons, List.length_nil, Nat.zero_add, Int.reduceToNat, Nat.reduceAdd, Nat.reduceDiv, Nat.reduceMod, Nat.reduceMul, Nat.reduceSub, Nat.reduceLeDiff, Nat.reduceLT, Nat.reduceEqDiff, ↓reduceIte, r_gr_wi, r_gl_wi, r_gk_wi, r_gn_wi, r_wi_eq, r_wi_ne, r_wi_nj, r_gi_wr, r_gl_wr, r_gk_wr, r_gn_wr, r_gr_wa, r_gl_wa, r_gk_wa, r_gn_wa, u_lt, u_le, u_gt, u_ge, u_lt0, u_le0, u_gt0, u_ge0, Classical.not_not, not_true_eq_false, not_false_eq_true, oi_n, oi_m, n_dec, nI_add, pk_mul, n_sub, n_eq, n_le, n_lt, n_eq0, n_lt0, n_le0, n_0lt, n_0le, n_eqm, m_eqn, n_ltm, n_and, n_or, n_xor, n_shl, n_shr, tb1, tb0, bP_1, bP_0, bP_n0, ix_n, inb_n, u_eq, u_eqm, k107 W.1, q107_29 W, n1_1, true_or, or_true, u_eqm]
    exact ⟨fun q => q.elim, fun _ => bad _ (fun q => c q.2) W2 F3⟩
theorem c_R_mind (W : RH h s) (K : SK h) : Mz (d + 34) 99 [.ref 107] h 0 0 (Pb (iff1 (mindC s) (nI (s 107 30))) (ifS (mindC s) (mindS s) s) h) := by
  have W1 := (pre1 W).1
  have K1 : SK (wi h 107 0 (nI 0)) := ((Fx.refl [0] [] h).wi _ rfl).sk K rfl
  have b1 := rs_minds W
  refine mz_in (l := [some (.ref 107)]) mk_R_mind n_R_mind rfl l_R_mind rfl (Nat.le_of_ble_eq_true rfl) fun P hP => ?_
  have bad : ∀ H, ¬ mindC s → RH H s → FrR h H → P 29 [some (.ref 107)] [] H 0 0 := by
    intro H a WH F
    refine hP.1 _ _ s_R_mind_29 _ _ _ _ _ ?_
    simp (maxSteps := 1000000) (disch := omega) only [g_R_mind_29, slk, List.map_cons, List.map_nil, List.sum_cons, List.sum_nil, vc_i, vc_r, vc_n, vc_l, vc_o, Nat.add_zero, kO_e, kA_e, hdO_a, eq_self, blk, stp, lg, ls0, lk, ls1, ls2, kI_i, kL_l, kR_r, kR_n, kR_o, s1I_i, s2I_i, s1L_l, s2L_l, s1R_r, s1R_n, s1R_o, s1A_a, cmpc, popn, swt, rf_s, rf_n, cat_i, cat_r, cat_n, cat_l, true_and, and_true, List.length_cons, List.length_nil, Nat.zero_add, Int.reduceToNat, Nat.reduceAdd, Nat.reduceDiv, Nat.reduceMod, Nat.reduceMul, Nat.reduceSub, Nat.reduceLeDiff, Nat.reduceLT, Nat.reduceEqDiff, ↓reduceIte, r_gr_wi, r_gl_wi, r_gk_wi, r_gn_wi, r_wi_eq, r_wi_ne, r_wi_nj, r_gi_wr, r_gl_wr, r_gk_wr, r_gn_wr, r_gr_wa, r_gl_wa, r_gk_wa, r_gn_wa, u_lt, u_le, u_gt, u_ge, u_lt0, u_le0, u_gt0, u_ge0, Classical.not_not, not_true_eq_false, not_false_eq_true, oi_n, oi_m, n_dec, nI_add, pk_mul, n_sub, n_eq, n_le, n_lt, n_eq0, n_lt0, n_le0, n_0lt, n_0le, n_eqm, m_eqn, n_ltm, n_and, n_or, n_xor, n_shl, n_shr, tb1, tb0, bP_1, bP_0, bP_n0, ix_n, inb_n, u_eq, u_eqm, n1_1, true_or, or_true, u_eqm]
    exact lfQN r_R_mind a WH F
  refine hP.1 _ _ s_R_mind_0 _ _ _ _ _ ?_
  simp (maxSteps := 1000000) (disch := omega) only [g_R_mind_0, slk, List.map_cons, List.map_nil, List.sum_cons, List.sum_nil, vc_i, vc_r, vc_n, vc_l, vc_o, Nat.add_zero, kO_e, kA_e, hdO_a, eq_self, blk, stp, lg, ls0, lk, ls1, ls2, kI_i, kL_l, kR_r, kR_n, kR_o, s1I_i, s2I_i, s1L_l, s2L_l, s1R_r, s1R_n, s1R_o, s1A_a, cmpc, popn, swt, rf_s, rf_n, cat_i, cat_r, cat_n, cat_l, true_and, and_true, List.length_cons, List.length_nil, Nat.zero_add, Int.reduceToNat, Nat.reduceAdd, Nat.reduceDiv, Nat.reduceMod, Nat.reduceMul, Nat.reduceSub, Nat.reduceLeDiff, Nat.reduceLT, Nat.reduceEqDiff, ↓reduceIte, r_gr_wi, r_gl_wi, r_gk_wi, r_gn_wi, r_wi_eq, r_wi_ne, r_wi_nj, r_gi_wr, r_gl_wr, r_gk_wr, r_gn_wr, r_gr_wa, r_gl_wa, r_gk_wa, r_gn_wa, u_lt, u_le, u_gt, u_ge, u_lt0, u_le0, u_gt0, u_ge0, Classical.not_not, not_true_eq_false, not_false_eq_true, oi_n, oi_m, n_dec, nI_add, pk_mul, n_sub, n_eq, n_le, n_lt, n_eq0, n_lt0, n_le0, n_0lt, n_0le, n_eqm, m_eqn, n_ltm, n_and, n_or, n_xor, n_shl, n_shr, tb1, tb0, bP_1, bP_0, bP_n0, ix_n, inb_n, u_eq, u_eqm, k107 W.1, q107_30 W, n1_1, true_or, or_true, u_eqm]
  refine ⟨fun hc => bad _ (fun q => q.1 hc) W1 (pre1 W).2, fun hc1 => ?_⟩
  have g := c_R_keeps (d := d) W1 K1 (k := 8 + s 107 30) (by omega) true
  rw [bP_t (by decide)] at g
  refine hP.1 _ _ s_R_mind_14 _ _ _ _ _ ?_
  simp (maxSteps := 1000000) (disch := omega) only [g_R_mind_14, slk, List.map_cons, List.map_nil, List.sum_cons, List.sum_nil, vc_i, vc_r, vc_n, vc_l, vc_o, Nat.add_zero, kO_e, kA_e, hdO_a, eq_self, blk, stp, lg, ls0, lk, ls1, ls2, kI_i, kL_l, kR_r, kR_n, kR_o, s1I_i, s2I_i, s1L_l, s2L_l, s1R_r, s1R_n, s1R_o, s1A_a, cmpc, popn, swt, rf_s, rf_n, cat_i, cat_r, cat_n, cat_l, true_and, and_true, List.length_cons, List.length_nil, Nat.zero_add, Int.reduceToNat, Nat.reduceAdd, Nat.reduceDiv, Nat.reduceMod, Nat.reduceMul, Nat.reduceSub, Nat.reduceLeDiff, Nat.reduceLT, Nat.reduceEqDiff, ↓reduceIte, r_gr_wi, r_gl_wi, r_gk_wi, r_gn_wi, r_wi_eq, r_wi_ne, r_wi_nj, r_gi_wr, r_gl_wr, r_gk_wr, r_gn_wr, r_gr_wa, r_gl_wa, r_gk_wa, r_gn_wa, u_lt, u_le, u_gt, u_ge, u_lt0, u_le0, u_gt0, u_ge0, Classical.not_not, not_true_eq_false, not_false_eq_true, oi_n, oi_m, n_dec, nI_add, pk_mul, n_sub, n_eq, n_le, n_lt, n_eq0, n_lt0, n_le0, n_0lt, n_0le, n_eqm, m_eqn, n_ltm, n_and, n_or, n_xor, n_shl, n_shr, tb1, tb0, bP_1, bP_0, bP_n0, ix_n, inb_n, u_eq, u_eqm, k107 W.1, q107_30 W, n1_1, true_or, or_true, u_eqm]
  refine ⟨_, _, _, g, ⟨by omega, by omega⟩, ?_⟩
  rintro r H2 ⟨rfl, W2, F2⟩
  have F3 := (pre1 W).2.trans F2
  by_cases c : keepC s (8 + s 107 30) true
  · rw [ifS_t c] at W2
    rw [bP_t c]
    have e8 : keepS s (8 + s 107 30) 107 30 = s 107 30 := rfl
    simp (maxSteps := 1000000) (disch := omega) only [slk, List.map_cons, List.map_nil, List.sum_cons, List.sum_nil, vc_i, vc_r, vc_n, vc_l, vc_o, Nat.add_zero, kO_e, kA_e, hdO_a, eq_self, blk, stp, lg, ls0, lk, ls1, ls2, kI_i, kL_l, kR_r, kR_n, kR_o, s1I_i, s2I_i, s1L_l, s2L_l, s1R_r, s1R_n, s1R_o, s1A_a, cmpc, popn, swt, rf_s, rf_n, cat_i, cat_r, cat_n, cat_l, true_and, and_true, List.length_cons, List.length_nil, Nat.zero_add, Int.reduceToNat, Nat.reduceAdd, Nat.reduceDiv, Nat.reduceMod, Nat.reduceMul, Nat.reduceSub, Nat.reduceLeDiff, Nat.reduceLT, Nat.reduceEqDiff, ↓reduceIte, r_gr_wi, r_gl_wi, r_gk_wi, r_gn_wi, r_wi_eq, r_wi_ne, r_wi_nj, r_gi_wr, r_gl_wr, r_gk_wr, r_gn_wr, r_gr_wa, r_gl_wa, r_gk_wa, r_gn_wa, u_lt, u_le, u_gt, u_ge, u_lt0, u_le0, u_gt0, u_ge0, Classical.not_not, not_true_eq_false, not_false_eq_true, oi_n, oi_m, n_dec, nI_add, pk_mul, n_sub, n_eq, n_le, n_lt, n_eq0, n_lt0, n_le0, n_0lt, n_0le, n_eqm, m_eqn, n_ltm, n_and, n_or, n_xor, n_shl, n_shr, tb1, tb0, bP_1, bP_0, bP_n0, ix_n, inb_n, u_eq, u_eqm, k107 W.1, q107_30 W, e8]
    refine ⟨fun _ => ?_, fun q => q.elim⟩
    refine hP.1 _ _ s_R_mind_31 _ _ _ _ _ ?_
    simp (maxSteps := 1000000) (disch := omega) only [g_R_mind_31, slk, List.map_cons, List.map_nil, List.sum_cons, List.sum_nil, vc_i, vc_r, vc_n, vc_l, vc_o, Nat.add_zero, kO_e, kA_e, hdO_a, eq_self, blk, stp, lg, ls0, lk, ls1, ls2, kI_i, kL_l, kR_r, kR_n, kR_o, s1I_i, s2I_i, s1L_l, s2L_l, s1R_r, s1R_n, s1R_o, s1A_a, cmpc, popn, swt, rf_s, rf_n, cat_i, cat_r, cat_n, cat_l, true_and, and_true, List.length_cons, List.length_nil, Nat.zero_add, Int.reduceToNat, Nat.reduceAdd, Nat.reduceDiv, Nat.reduceMod, Nat.reduceMul, Nat.reduceSub, Nat.reduceLeDiff, Nat.reduceLT, Nat.reduceEqDiff, ↓reduceIte, r_gr_wi, r_gl_wi, r_gk_wi, r_gn_wi, r_wi_eq, r_wi_ne, r_wi_nj, r_gi_wr, r_gl_wr, r_gk_wr, r_gn_wr, r_gr_wa, r_gl_wa, r_gk_wa, r_gn_wa, u_lt, u_le, u_gt, u_ge, u_lt0, u_le0, u_gt0, u_ge0, Classical.not_not, not_true_eq_false, not_false_eq_true, oi_n, oi_m, n_dec, nI_add, pk_mul, n_sub, n_eq, n_le, n_lt, n_eq0, n_lt0, n_le0, n_0lt, n_0le, n_eqm, m_eqn, n_ltm, n_and, n_or, n_xor, n_shl, n_shr, tb1, tb0, bP_1, bP_0, bP_n0, ix_n, inb_n, u_eq, u_eqm, k107 W2.1, q107_30 W2, e8]
    exact lfQI r_R_mind (⟨hc1, c⟩ : mindC s) (by rw [Nat.add_sub_cancel]) W2.1 (rc_set W2.2.1 (by decide)) (rsMind W ⟨hc1, c⟩) (fr_wi F3 (by omega))
  · rw [ifS_f c] at W2
    rw [bP_f c]
    simp (maxSteps := 1000000) (disch := omega) only [slk, List.map_cons, List.map_nil, List.sum_cons, List.sum_nil, vc_i, vc_r, vc_n, vc_l, vc_o, Nat.add_zero, kO_e, kA_e, hdO_a, eq_self, blk, stp, lg, ls0, lk, ls1, ls2, kI_i, kL_l, kR_r, kR_n, kR_o, s1I_i, s2I_i, s1L_l, s2L_l, s1R_r, s1R_n, s1R_o, s1A_a, cmpc, popn, swt, rf_s, rf_n, cat_i, cat_r, cat_n, cat_l, true_and, and_true, List.length_cons, List.length_nil, Nat.zero_add, Int.reduceToNat, Nat.reduceAdd, Nat.reduceDiv, Nat.reduceMod, Nat.reduceMul, Nat.reduceSub, Nat.reduceLeDiff, Nat.reduceLT, Nat.reduceEqDiff, ↓reduceIte, r_gr_wi, r_gl_wi, r_gk_wi, r_gn_wi, r_wi_eq, r_wi_ne, r_wi_nj, r_gi_wr, r_gl_wr, r_gk_wr, r_gn_wr, r_gr_wa, r_gl_wa, r_gk_wa, r_gn_wa, u_lt, u_le, u_gt, u_ge, u_lt0, u_le0, u_gt0, u_ge0, Classical.not_not, not_true_eq_false, not_false_eq_true, oi_n, oi_m, n_dec, nI_add, pk_mul, n_sub, n_eq, n_le, n_lt, n_eq0, n_lt0, n_le0, n_0lt, n_0le, n_eqm, m_eqn, n_ltm, n_and, n_or, n_xor, n_shl, n_shr, tb1, tb0, bP_1, bP_0, bP_n0, ix_n, inb_n, u_eq, u_eqm, k107 W.1, q107_30 W, n1_1, true_or, or_true, u_eqm]
    exact ⟨fun q => q.elim, fun _ => bad _ (fun q => c q.2) W2 F3⟩
end
