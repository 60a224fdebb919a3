/-! ===== the reference: an elder joins ===== -/
def uF (s : St) (a lo n v : Nat) : St := fun b j => if b = a then (if lo ≤ j ∧ j < lo + n then v else s b j) else s b j
theorem uF_0 (s : St) (a lo v : Nat) : uF s a lo 0 v = s := by
  funext b j
  unfold uF
  split
  · rw [if_neg (by omega)]
  · rfl
theorem uF_s (s : St) (a lo n v : Nat) : uS (uF s a lo n v) a (lo + n) v = uF s a lo (n + 1) v := by
  funext b j
  unfold uS uF
  by_cases q : b = a
  · simp only [if_pos q]
    by_cases r : j = lo + n
    · rw [if_pos r, if_pos (by omega)]
    · rw [if_neg r]
      by_cases r2 : lo ≤ j ∧ j < lo + n
      · rw [if_pos r2, if_pos (by omega)]
      · rw [if_neg r2, if_neg (by omega)]
  · simp only [if_neg q]
def elA (s : St) (a : Nat) : St := uS (uS s 108 (s 107 18) a) 118 (s 107 18) 4294967295
def elB (s : St) (a n : Nat) : St := uF (elA s a) 114 (80 * s 107 18) n 1
def elC (s : St) (a n : Nat) : St := uF (elB s a 80) 115 (20 * s 107 18) n 1
def elderS (s : St) (a : Nat) : St := uS (elC s a 20) 107 18 (s 107 18 + 1)
def elderC (s : St) (a : Nat) : Prop := ¬ s 107 18 = 8 ∧ 20 ≤ a ∧ a ≤ 99
theorem rs_elA {s : St} (R : RS s) (a : Nat) : RS (elA s a) := by
  obtain ⟨a0, r2, r3, r4, r5, r6, r7, r8, r9, r10, r11, r12, r13, r14, r15⟩ := R
  refine ⟨a0, ?_, r3, r4, r5, r6, r7, ?_, r9, r10, r11, r12, r13, r14, r15⟩
  · intro e he
    have he2 : e < s 107 18 := he
    show 20 ≤ (if e = s 107 18 then a else s 108 e) ∧ (if e = s 107 18 then a else s 108 e) ≤ 99
    rw [if_neg (by omega)]
    exact r2 e he2
  · intro e he
    have he2 : e < s 107 18 := he
    show (if e = s 107 18 then 4294967295 else s 118 e) = 4294967295 ∨ (if e = s 107 18 then 4294967295 else s 118 e) < s 107 30
    rw [if_neg (by omega)]
    exact r8 e he2
theorem rs_elB {s : St} (R : RS s) (a n : Nat) : RS (elB s a n) := by
  obtain ⟨a0, r2, r3, r4, r5, r6, r7, r8, r9, r10, r11, r12, r13, r14, r15⟩ := rs_elA R a
  refine ⟨a0, r2, r3, r4, r5, ?_, r7, r8, r9, r10, r11, r12, r13, r14, r15⟩
  intro j
  show (if 80 * s 107 18 ≤ j ∧ j < 80 * s 107 18 + n then 1 else elA s a 114 j) ≤ 2
  split
  · omega
  · exact r6 j
theorem rs_elC {s : St} (R : RS s) (a n : Nat) : RS (elC s a n) := by
  obtain ⟨a0, r2, r3, r4, r5, r6, r7, r8, r9, r10, r11, r12, r13, r14, r15⟩ := rs_elB R a 80
  refine ⟨a0, r2, r3, r4, r5, r6, ?_, r8, r9, r10, r11, r12, r13, r14, r15⟩
  intro j
  show (if 20 * s 107 18 ≤ j ∧ j < 20 * s 107 18 + n then 1 else elB s a 80 115 j) ≤ 9
  split
  · omega
  · exact r7 j
theorem rs_elder {s : St} (R : RS s) {a : Nat} (c : elderC s a) : RS (elderS s a) := by
  obtain ⟨⟨a1, a2, a3, a4, a5, a6, a7, a8, a9, a10⟩, r2, r3, r4, r5, r6, r7, r8, r9, r10, r11, r12, r13, r14, r15⟩ := rs_elC R a 20
  have c1 : s 107 18 ≤ 8 := a1
  have n1 : s 107 18 + 1 ≤ 8 := by
    have := c.1
    omega
  refine ⟨⟨n1, a2, a3, a4, a5, a6, a7, a8, a9, a10⟩, ?_, r3, r4, r5, r6, r7, ?_, ?_, r10, r11, r12, ?_, ?_, ?_⟩
  · intro e he
    have he2 : e < s 107 18 + 1 := he
    by_cases q : e = s 107 18
    · show 20 ≤ (if e = s 107 18 then a else s 108 e) ∧ (if e = s 107 18 then a else s 108 e) ≤ 99
      rw [if_pos q]
      exact c.2
    · exact r2 e (by show e < s 107 18; omega)
  · intro e he
    have he2 : e < s 107 18 + 1 := he
    by_cases q : e = s 107 18
    · show (if e = s 107 18 then 4294967295 else s 118 e) = 4294967295 ∨ (if e = s 107 18 then 4294967295 else s 118 e) < s 107 30
      rw [if_pos q]
      exact Or.inl rfl
    · exact r8 e (by show e < s 107 18; omega)
  · intro k hk
    obtain ⟨x, y⟩ := r9 k hk
    exact ⟨Nat.lt_succ_of_lt x, y⟩
  · intro k hk
    obtain ⟨x, y, z⟩ := r13 k hk
    exact ⟨Nat.lt_succ_of_lt x, Nat.lt_succ_of_lt y, z⟩
  · intro k hk
    obtain ⟨x, y⟩ := r14 k hk
    exact ⟨Nat.lt_succ_of_lt x, y⟩
  · intro k hk
    obtain ⟨x, y, z, w⟩ := r15 k hk
    refine ⟨Nat.lt_succ_of_lt x, y, ?_, w⟩
    have z2 : s 159 k < 1 <<< s 107 18 := z
    show s 159 k < 1 <<< (s 107 18 + 1)
    rw [Nat.one_shiftLeft] at z2 ⊢
    have := Nat.pow_lt_pow_right (a := 2) (by omega) (Nat.lt_succ_self (s 107 18))
    omega
section
variable {h : AH} {s : St} {d : Nat}
theorem c_R_elder (W : RH h s) {a : Nat} (ha : a < 4294967296) : Mz (d + 2) 55 [.ref 107, .int (nI a)] h 0 0 (Pb (iff1 (elderC s a) (nI (s 107 18))) (ifS (elderC s a) (elderS s a) s) h) := by
  have W1 := (pre1 W).1
  have b1 := rs_e W
  refine mz_in (l := [some (.ref 107), some (.int (nI a)), none]) mk_R_elder n_R_elder rfl l_R_elder rfl (Nat.le_of_ble_eq_true rfl) fun P hP => ?_
  have bad : ¬ elderC s a → P 25 [some (.ref 107), some (.int (nI a)), none] [] (wi h 107 0 (nI 0)) 0 0 := by
    intro a
    refine hP.1 _ _ s_R_elder_25 _ _ _ _ _ ?_
    simp (maxSteps := 1000000) (disch := omega) only [g_R_elder_25, slk, List.map_cons, List.map_nil, List.sum_cons, List.sum_nil, vc_i, vc_r, vc_n, vc_l, vc_o, Nat.add_zero, kO_e, kA_e, hdO_a, eq_self, blk, stp, lg, ls0, lk, ls1, ls2, kI_i, kL_l, kR_r, kR_n, kR_o, s1I_i, s2I_i, s1L_l, s2L_l, s1R_r, s1R_n, s1R_o, s1A_a, cmpc, popn, swt, rf_s, rf_n, cat_i, cat_r, cat_n, cat_l, true_and, and_true, List.length_cons, List.length_nil, Nat.zero_add, Int.reduceToNat, Nat.reduceAdd, Nat.reduceDiv, Nat.reduceMod, Nat.reduceMul, Nat.reduceSub, Nat.reduceLeDiff, Nat.reduceLT, Nat.reduceEqDiff, ↓reduceIte, r_gr_wi, r_gl_wi, r_gk_wi, r_gn_wi, r_wi_eq, r_wi_ne, r_wi_nj, r_gi_wr, r_gl_wr, r_gk_wr, r_gn_wr, r_gr_wa, r_gl_wa, r_gk_wa, r_gn_wa, u_lt, u_le, u_gt, u_ge, u_lt0, u_le0, u_gt0, u_ge0, Classical.not_not, not_true_eq_false, not_false_eq_true, oi_n, oi_m, n_dec, nI_add, pk_mul, n_sub, n_eq, n_le, n_lt, n_eq0, n_lt0, n_le0, n_0lt, n_0le, n_eqm, m_eqn, n_ltm, n_and, n_or, n_xor, n_shl, n_shr, tb1, tb0, bP_1, bP_0, bP_n0, ix_n, inb_n, u_eq, u_eqm, n1_1, true_or, or_true, u_eqm]
    exact lfQN r_R_elder a W1 (pre1 W).2
  have careL : elderC s a → ∀ n k H, k + n = 20 → FrR h H → RH H (elC s a k) → P 78 [some (.ref 107), some (.int (nI a)), some (.int (nI k))] [] H 0 0 := by
    intro c n
    induction n using Nat.strongRecOn with
    | _ n ih =>
      intro k H hk F WH
      have e8 : elC s a k 107 18 = s 107 18 := rfl
      have c8 : s 107 18 < 8 := by
        have := c.1
        omega
      refine hP.1 _ _ s_R_elder_78 _ _ _ _ _ ?_
      simp (maxSteps := 1000000) (disch := omega) only [g_R_elder_78, slk, List.map_cons, List.map_nil, List.sum_cons, List.sum_nil, vc_i, vc_r, vc_n, vc_l, vc_o, Nat.add_zero, kO_e, kA_e, hdO_a, eq_self, blk, stp, lg, ls0, lk, ls1, ls2, kI_i, kL_l, kR_r, kR_n, kR_o, s1I_i, s2I_i, s1L_l, s2L_l, s1R_r, s1R_n, s1R_o, s1A_a, cmpc, popn, swt, rf_s, rf_n, cat_i, cat_r, cat_n, cat_l, true_and, and_true, List.length_cons, List.length_nil, Nat.zero_add, Int.reduceToNat, Nat.reduceAdd, Nat.reduceDiv, Nat.reduceMod, Nat.reduceMul, Nat.reduceSub, Nat.reduceLeDiff, Nat.reduceLT, Nat.reduceEqDiff, ↓reduceIte, r_gr_wi, r_gl_wi, r_gk_wi, r_gn_wi, r_wi_eq, r_wi_ne, r_wi_nj, r_gi_wr, r_gl_wr, r_gk_wr, r_gn_wr, r_gr_wa, r_gl_wa, r_gk_wa, r_gn_wa, u_lt, u_le, u_gt, u_ge, u_lt0, u_le0, u_gt0, u_ge0, Classical.not_not, not_true_eq_false, not_false_eq_true, oi_n, oi_m, n_dec, nI_add, pk_mul, n_sub, n_eq, n_le, n_lt, n_eq0, n_lt0, n_le0, n_0lt, n_0le, n_eqm, m_eqn, n_ltm, n_and, n_or, n_xor, n_shl, n_shr, tb1, tb0, bP_1, bP_0, bP_n0, ix_n, inb_n, u_eq, u_eqm, e8]
      refine ⟨fun hc => ?_, fun hc => ?_⟩
      · have e : k = 20 := by omega
        subst e
        refine hP.1 _ _ s_R_elder_105 _ _ _ _ _ ?_
        simp (maxSteps := 1000000) (disch := omega) only [g_R_elder_105, slk, List.map_cons, List.map_nil, List.sum_cons, List.sum_nil, vc_i, vc_r, vc_n, vc_l, vc_o, Nat.add_zero, kO_e, kA_e, hdO_a, eq_self, blk, stp, lg, ls0, lk, ls1, ls2, kI_i, kL_l, kR_r, kR_n, kR_o, s1I_i, s2I_i, s1L_l, s2L_l, s1R_r, s1R_n, s1R_o, s1A_a, cmpc, popn, swt, rf_s, rf_n, cat_i, cat_r, cat_n, cat_l, true_and, and_true, List.length_cons, List.length_nil, Nat.zero_add, Int.reduceToNat, Nat.reduceAdd, Nat.reduceDiv, Nat.reduceMod, Nat.reduceMul, Nat.reduceSub, Nat.reduceLeDiff, Nat.reduceLT, Nat.reduceEqDiff, ↓reduceIte, r_gr_wi, r_gl_wi, r_gk_wi, r_gn_wi, r_wi_eq, r_wi_ne, r_wi_nj, r_gi_wr, r_gl_wr, r_gk_wr, r_gn_wr, r_gr_wa, r_gl_wa, r_gk_wa, r_gn_wa, u_lt, u_le, u_gt, u_ge, u_lt0, u_le0, u_gt0, u_ge0, Classical.not_not, not_true_eq_false, not_false_eq_true, oi_n, oi_m, n_dec, nI_add, pk_mul, n_sub, n_eq, n_le, n_lt, n_eq0, n_lt0, n_le0, n_0lt, n_0le, n_eqm, m_eqn, n_ltm, n_and, n_or, n_xor, n_shl, n_shr, tb1, tb0, bP_1, bP_0, bP_n0, ix_n, inb_n, u_eq, u_eqm, k107 WH.1, q107_18 WH, e8]
        exact lfQI r_R_elder c (by rw [Nat.add_sub_cancel]) WH.1 (rc_set WH.2.1 (by decide)) (rs_elder W.2.2 c) (fr_wi F (by omega))
      · refine hP.1 _ _ s_R_elder_84 _ _ _ _ _ ?_
        simp (maxSteps := 1000000) (disch := omega) only [g_R_elder_84, slk, List.map_cons, List.map_nil, List.sum_cons, List.sum_nil, vc_i, vc_r, vc_n, vc_l, vc_o, Nat.add_zero, kO_e, kA_e, hdO_a, eq_self, blk, stp, lg, ls0, lk, ls1, ls2, kI_i, kL_l, kR_r, kR_n, kR_o, s1I_i, s2I_i, s1L_l, s2L_l, s1R_r, s1R_n, s1R_o, s1A_a, cmpc, popn, swt, rf_s, rf_n, cat_i, cat_r, cat_n, cat_l, true_and, and_true, List.length_cons, List.length_nil, Nat.zero_add, Int.reduceToNat, Nat.reduceAdd, Nat.reduceDiv, Nat.reduceMod, Nat.reduceMul, Nat.reduceSub, Nat.reduceLeDiff, Nat.reduceLT, Nat.reduceEqDiff, ↓reduceIte, r_gr_wi, r_gl_wi, r_gk_wi, r_gn_wi, r_wi_eq, r_wi_ne, r_wi_nj, r_gi_wr, r_gl_wr, r_gk_wr, r_gn_wr, r_gr_wa, r_gl_wa, r_gk_wa, r_gn_wa, u_lt, u_le, u_gt, u_ge, u_lt0, u_le0, u_gt0, u_ge0, Classical.not_not, not_true_eq_false, not_false_eq_true, oi_n, oi_m, n_dec, nI_add, pk_mul, n_sub, n_eq, n_le, n_lt, n_eq0, n_lt0, n_le0, n_0lt, n_0le, n_eqm, m_eqn, n_ltm, n_and, n_or, n_xor, n_shl, n_shr, tb1, tb0, bP_1, bP_0, bP_n0, ix_n, inb_n, u_eq, u_eqm, k107 WH.1, f107_8 WH.1, k115 WH.1, q115 WH, q107_18 WH, e8]
        refine ih (n - 1) (by omega) (k + 1) (wi H 115 (20 * s 107 18 + k) (nI 1)) (by omega) (fr_wi F (by omega)) ⟨WH.1, ?_, rs_elC W.2.2 a (k + 1)⟩
        have := rc_set (a := 115) (k := 20 * s 107 18 + k) (v := 1) WH.2.1 (by decide)
        rw [elC, uF_s] at this
        exact this
  have holdL : elderC s a → ∀ n k H, k + n = 80 → FrR h H → RH H (elB s a k) → P 49 [some (.ref 107), some (.int (nI a)), some (.int (nI k))] [] H 0 0 := by
    intro c n
    induction n using Nat.strongRecOn with
    | _ n ih =>
      intro k H hk F WH
      have e8 : elB s a k 107 18 = s 107 18 := rfl
      have c8 : s 107 18 < 8 := by
        have := c.1
        omega
      refine hP.1 _ _ s_R_elder_49 _ _ _ _ _ ?_
      simp (maxSteps := 1000000) (disch := omega) only [g_R_elder_49, slk, List.map_cons, List.map_nil, List.sum_cons, List.sum_nil, vc_i, vc_r, vc_n, vc_l, vc_o, Nat.add_zero, kO_e, kA_e, hdO_a, eq_self, blk, stp, lg, ls0, lk, ls1, ls2, kI_i, kL_l, kR_r, kR_n, kR_o, s1I_i, s2I_i, s1L_l, s2L_l, s1R_r, s1R_n, s1R_o, s1A_a, cmpc, popn, swt, rf_s, rf_n, cat_i, cat_r, cat_n, cat_l, true_and, and_true, List.length_cons, List.length_nil, Nat.zero_add, Int.reduceToNat, Nat.reduceAdd, Nat.reduceDiv, Nat.reduceMod, Nat.reduceMul, Nat.reduceSub, Nat.reduceLeDiff, Nat.reduceLT, Nat.reduceEqDiff, ↓reduceIte, r_gr_wi, r_gl_wi, r_gk_wi, r_gn_wi, r_wi_eq, r_wi_ne, r_wi_nj, r_gi_wr, r_gl_wr, r_gk_wr, r_gn_wr, r_gr_wa, r_gl_wa, r_gk_wa, r_gn_wa, u_lt, u_le, u_gt, u_ge, u_lt0, u_le0, u_gt0, u_ge0, Classical.not_not, not_true_eq_false, not_false_eq_true, oi_n, oi_m, n_dec, nI_add, pk_mul, n_sub, n_eq, n_le, n_lt, n_eq0, n_lt0, n_le0, n_0lt, n_0le, n_eqm, m_eqn, n_ltm, n_and, n_or, n_xor, n_shl, n_shr, tb1, tb0, bP_1, bP_0, bP_n0, ix_n, inb_n, u_eq, u_eqm, e8]
      refine ⟨fun hc => ?_, fun hc => ?_⟩
      · have e : k = 80 := by omega
        subst e
        refine hP.1 _ _ s_R_elder_76 _ _ _ _ _ ?_
        simp (maxSteps := 1000000) (disch := omega) only [g_R_elder_76, slk, List.map_cons, List.map_nil, List.sum_cons, List.sum_nil, vc_i, vc_r, vc_n, vc_l, vc_o, Nat.add_zero, kO_e, kA_e, hdO_a, eq_self, blk, stp, lg, ls0, lk, ls1, ls2, kI_i, kL_l, kR_r, kR_n, kR_o, s1I_i, s2I_i, s1L_l, s2L_l, s1R_r, s1R_n, s1R_o, s1A_a, cmpc, popn, swt, rf_s, rf_n, cat_i, cat_r, cat_n, cat_l, true_and, and_true, List.length_cons, List.length_nil, Nat.zero_add, Int.reduceToNat, Nat.reduceAdd, Nat.reduceDiv, Nat.reduceMod, Nat.reduceMul, Nat.reduceSub, Nat.reduceLeDiff, Nat.reduceLT, Nat.reduceEqDiff, ↓reduceIte, r_gr_wi, r_gl_wi, r_gk_wi, r_gn_wi, r_wi_eq, r_wi_ne, r_wi_nj, r_gi_wr, r_gl_wr, r_gk_wr, r_gn_wr, r_gr_wa, r_gl_wa, r_gk_wa, r_gn_wa, u_lt, u_le, u_gt, u_ge, u_lt0, u_le0, u_gt0, u_ge0, Classical.not_not, not_true_eq_false, not_false_eq_true, oi_n, oi_m, n_dec, nI_add, pk_mul, n_sub, n_eq, n_le, n_lt, n_eq0, n_lt0, n_le0, n_0lt, n_0le, n_eqm, m_eqn, n_ltm, n_and, n_or, n_xor, n_shl, n_shr, tb1, tb0, bP_1, bP_0, bP_n0, ix_n, inb_n, u_eq, u_eqm, e8]
        exact careL c 20 0 H rfl F (by rw [elC, uF_0]; exact WH)
      · refine hP.1 _ _ s_R_elder_55 _ _ _ _ _ ?_
        simp (maxSteps := 1000000) (disch := omega) only [g_R_elder_55, slk, List.map_cons, List.map_nil, List.sum_cons, List.sum_nil, vc_i, vc_r, vc_n, vc_l, vc_o, Nat.add_zero, kO_e, kA_e, hdO_a, eq_self, blk, stp, lg, ls0, lk, ls1, ls2, kI_i, kL_l, kR_r, kR_n, kR_o, s1I_i, s2I_i, s1L_l, s2L_l, s1R_r, s1R_n, s1R_o, s1A_a, cmpc, popn, swt, rf_s, rf_n, cat_i, cat_r, cat_n, cat_l, true_and, and_true, List.length_cons, List.length_nil, Nat.zero_add, Int.reduceToNat, Nat.reduceAdd, Nat.reduceDiv, Nat.reduceMod, Nat.reduceMul, Nat.reduceSub, Nat.reduceLeDiff, Nat.reduceLT, Nat.reduceEqDiff, ↓reduceIte, r_gr_wi, r_gl_wi, r_gk_wi, r_gn_wi, r_wi_eq, r_wi_ne, r_wi_nj, r_gi_wr, r_gl_wr, r_gk_wr, r_gn_wr, r_gr_wa, r_gl_wa, r_gk_wa, r_gn_wa, u_lt, u_le, u_gt, u_ge, u_lt0, u_le0, u_gt0, u_ge0, Classical.not_not, not_true_eq_false, not_false_eq_true, oi_n, oi_m, n_dec, nI_add, pk_mul, n_sub, n_eq, n_le, n_lt, n_eq0, n_lt0, n_le0, n_0lt, n_0le, n_eqm, m_eqn, n_ltm, n_and, n_or, n_xor, n_shl, n_shr, tb1, tb0, bP_1, bP_0, bP_n0, ix_n, inb_n, u_eq, u_eqm, k107 WH.1, f107_7 WH.1, k114 WH.1, q114 WH, q107_18 WH, e8]
        refine ih (n - 1) (by omega) (k + 1) (wi H 114 (80 * s 107 18 + k) (nI 1)) (by omega) (fr_wi F (by omega)) ⟨WH.1, ?_, rs_elB W.2.2 a (k + 1)⟩
        have := rc_set (a := 114) (k := 80 * s 107 18 + k) (v := 1) WH.2.1 (by decide)
        rw [elB, uF_s] at this
        exact this
  have good : elderC s a → P 27 [some (.ref 107), some (.int (nI a)), none] [] (wi h 107 0 (nI 0)) 0 0 := by
    intro c
    have c8 : s 107 18 < 8 := by
      have := c.1
      omega
    refine hP.1 _ _ s_R_elder_27 _ _ _ _ _ ?_
    simp (maxSteps := 1000000) (disch := omega) only [g_R_elder_27, slk, List.map_cons, List.map_nil, List.sum_cons, List.sum_nil, vc_i, vc_r, vc_n, vc_l, vc_o, Nat.add_zero, kO_e, kA_e, hdO_a, eq_self, blk, stp, lg, ls0, lk, ls1, ls2, kI_i, kL_l, kR_r, kR_n, kR_o, s1I_i, s2I_i, s1L_l, s2L_l, s1R_r, s1R_n, s1R_o, s1A_a, cmpc, popn, swt, rf_s, rf_n, cat_i, cat_r, cat_n, cat_l, true_and, and_true, List.length_cons, List.length_nil, Nat.zero_add, Int.reduceToNat, Nat.reduceAdd, Nat.reduceDiv, Nat.reduceMod, Nat.reduceMul, Nat.reduceSub, Nat.reduceLeDiff, Nat.reduceLT, Nat.reduceEqDiff, ↓reduceIte, r_gr_wi, r_gl_wi, r_gk_wi, r_gn_wi, r_wi_eq, r_wi_ne, r_wi_nj, r_gi_wr, r_gl_wr, r_gk_wr, r_gn_wr, r_gr_wa, r_gl_wa, r_gk_wa, r_gn_wa, u_lt, u_le, u_gt, u_ge, u_lt0, u_le0, u_gt0, u_ge0, Classical.not_not, not_true_eq_false, not_false_eq_true, oi_n, oi_m, n_dec, nI_add, pk_mul, n_sub, n_eq, n_le, n_lt, n_eq0, n_lt0, n_le0, n_0lt, n_0le, n_eqm, m_eqn, n_ltm, n_and, n_or, n_xor, n_shl, n_shr, tb1, tb0, bP_1, bP_0, bP_n0, ix_n, inb_n, u_eq, u_eqm, k107 W.1, f107_1 W.1, k108 W.1, q108 W, q107_18 W, f107_11 W.1, k118 W.1, q118 W, n1_1, true_or, or_true, u_eqm]
    refine holdL c 80 0 _ rfl (fr_wi (fr_wi (pre1 W).2 (by omega)) (by omega)) ?_
    rw [elB, uF_0]
    exact ⟨W1.1, rc_setm (rc_set W1.2.1 (by decide)) (by decide), rs_elA W.2.2 a⟩
  refine hP.1 _ _ s_R_elder_0 _ _ _ _ _ ?_
  simp (maxSteps := 1000000) (disch := omega) only [g_R_elder_0, slk, List.map_cons, List.map_nil, List.sum_cons, List.sum_nil, vc_i, vc_r, vc_n, vc_l, vc_o, Nat.add_zero, kO_e, kA_e, hdO_a, eq_self, blk, stp, lg, ls0, lk, ls1, ls2, kI_i, kL_l, kR_r, kR_n, kR_o, s1I_i, s2I_i, s1L_l, s2L_l, s1R_r, s1R_n, s1R_o, s1A_a, cmpc, popn, swt, rf_s, rf_n, cat_i, cat_r, cat_n, cat_l, true_and, and_true, List.length_cons, List.length_nil, Nat.zero_add, Int.reduceToNat, Nat.reduceAdd, Nat.reduceDiv, Nat.reduceMod, Nat.reduceMul, Nat.reduceSub, Nat.reduceLeDiff, Nat.reduceLT, Nat.reduceEqDiff, ↓reduceIte, r_gr_wi, r_gl_wi, r_gk_wi, r_gn_wi, r_wi_eq, r_wi_ne, r_wi_nj, r_gi_wr, r_gl_wr, r_gk_wr, r_gn_wr, r_gr_wa, r_gl_wa, r_gk_wa, r_gn_wa, u_lt, u_le, u_gt, u_ge, u_lt0, u_le0, u_gt0, u_ge0, Classical.not_not, not_true_eq_false, not_false_eq_true, oi_n, oi_m, n_dec, nI_add, pk_mul, n_sub, n_eq, n_le, n_lt, n_eq0, n_lt0, n_le0, n_0lt, n_0le, n_eqm, m_eqn, n_ltm, n_and, n_or, n_xor, n_shl, n_shr, tb1, tb0, bP_1, bP_0, bP_n0, ix_n, inb_n, u_eq, u_eqm, k107 W.1, q107_18 W, n1_1, true_or, or_true, u_eqm]
  refine ⟨fun hc => bad (fun q => by unfold elderC at q; omega), fun hc1 => ?_⟩
  refine hP.1 _ _ s_R_elder_14 _ _ _ _ _ ?_
  simp (maxSteps := 1000000) (disch := omega) only [g_R_elder_14, slk, List.map_cons, List.map_nil, List.sum_cons, List.sum_nil, vc_i, vc_r, vc_n, vc_l, vc_o, Nat.add_zero, kO_e, kA_e, hdO_a, eq_self, blk, stp, lg, ls0, lk, ls1, ls2, kI_i, kL_l, kR_r, kR_n, kR_o, s1I_i, s2I_i, s1L_l, s2L_l, s1R_r, s1R_n, s1R_o, s1A_a, cmpc, popn, swt, rf_s, rf_n, cat_i, cat_r, cat_n, cat_l, true_and, and_true, List.length_cons, List.length_nil, Nat.zero_add, Int.reduceToNat, Nat.reduceAdd, Nat.reduceDiv, Nat.reduceMod, Nat.reduceMul, Nat.reduceSub, Nat.reduceLeDiff, Nat.reduceLT, Nat.reduceEqDiff, ↓reduceIte, r_gr_wi, r_gl_wi, r_gk_wi, r_gn_wi, r_wi_eq, r_wi_ne, r_wi_nj, r_gi_wr, r_gl_wr, r_gk_wr, r_gn_wr, r_gr_wa, r_gl_wa, r_gk_wa, r_gn_wa, u_lt, u_le, u_gt, u_ge, u_lt0, u_le0, u_gt0, u_ge0, Classical.not_not, not_true_eq_false, not_false_eq_true, oi_n, oi_m, n_dec, nI_add, pk_mul, n_sub, n_eq, n_le, n_lt, n_eq0, n_lt0, n_le0, n_0lt, n_0le, n_eqm, m_eqn, n_ltm, n_and, n_or, n_xor, n_shl, n_shr, tb1, tb0, bP_1, bP_0, bP_n0, ix_n, inb_n, u_eq, u_eqm, n1_1, true_or, or_true, u_eqm]
  refine wc (c_R_isIn ha (by omega) (by omega)) ⟨by omega, by omega⟩ ?_
  simp (maxSteps := 1000000) (disch := omega) only [slk, List.map_cons, List.map_nil, List.sum_cons, List.sum_nil, vc_i, vc_r, vc_n, vc_l, vc_o, Nat.add_zero, kO_e, kA_e, hdO_a, eq_self, blk, stp, lg, ls0, lk, ls1, ls2, kI_i, kL_l, kR_r, kR_n, kR_o, s1I_i, s2I_i, s1L_l, s2L_l, s1R_r, s1R_n, s1R_o, s1A_a, cmpc, popn, swt, rf_s, rf_n, cat_i, cat_r, cat_n, cat_l, true_and, and_true, List.length_cons, List.length_nil, Nat.zero_add, Int.reduceToNat, Nat.reduceAdd, Nat.reduceDiv, Nat.reduceMod, Nat.reduceMul, Nat.reduceSub, Nat.reduceLeDiff, Nat.reduceLT, Nat.reduceEqDiff, ↓reduceIte, r_gr_wi, r_gl_wi, r_gk_wi, r_gn_wi, r_wi_eq, r_wi_ne, r_wi_nj, r_gi_wr, r_gl_wr, r_gk_wr, r_gn_wr, r_gr_wa, r_gl_wa, r_gk_wa, r_gn_wa, u_lt, u_le, u_gt, u_ge, u_lt0, u_le0, u_gt0, u_ge0, Classical.not_not, not_true_eq_false, not_false_eq_true, oi_n, oi_m, n_dec, nI_add, pk_mul, n_sub, n_eq, n_le, n_lt, n_eq0, n_lt0, n_le0, n_0lt, n_0le, n_eqm, m_eqn, n_ltm, n_and, n_or, n_xor, n_shl, n_shr, tb1, tb0, bP_1, bP_0, bP_n0, ix_n, inb_n, u_eq, u_eqm, n1_1, true_or, or_true, u_eqm]
  refine ⟨fun hc => ?_, fun hc => bad (fun q => by unfold elderC at q; omega)⟩
  exact good (by unfold elderC; omega)
end
