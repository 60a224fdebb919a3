/-! ===== the class: what talks came to; promises ===== -/
theorem n_Pl_countOf : mN 189 = 3 := rfl
theorem l_Pl_countOf : mL 189 = 5 := rfl
theorem r_Pl_countOf : mR 189 = some .int := rfl
theorem n_Pl_weighBefore : mN 190 = 3 := rfl
theorem l_Pl_weighBefore : mL 190 = 4 := rfl
theorem r_Pl_weighBefore : mR 190 = none := rfl
theorem unW_id {s : St} (h61 : s 107 61 = 4294967295) : unW s = s := by
  unfold unW
  rw [← h61]
  funext a j
  unfold uS
  split
  · rename_i q
    split
    · rename_i q2
      rw [q, q2]
    · rfl
  · rfl
theorem eb_lt {s : St} (h61 : s 107 61 = 4294967295) : ∀ m j, j < m → eB s m j = (tkE s j).2 ∧ rB s m j = (tkD s j).2.1 := by
  have u := unW_id h61
  have e1 : ∀ m, eB s m = (erS s m).1 ∧ rB s m = (erS s m).2 := fun m => by
    unfold eB rB
    rw [u]
    exact ⟨rfl, rfl⟩
  intro m
  induction m with
  | zero => intro j hj; exact absurd hj (Nat.not_lt_zero _)
  | succ m ih =>
    intro j hj
    rw [(e1 (m + 1)).1, (e1 (m + 1)).2]
    by_cases q : j = m
    · subst q
      have a1 : (erS s (j + 1)).1 j = (tlS s (erS s j).1 (erS s j).2 j []).2 := if_pos rfl
      have a2 : (erS s (j + 1)).2 j = (dE s (erS s j).1 (erS s j).2 j [] (tlS s (erS s j).1 (erS s j).2 j []).1).2.1 := if_pos rfl
      rw [a1, a2]
      unfold tkD tkE
      rw [(e1 j).1, (e1 j).2]
      exact ⟨rfl, rfl⟩
    · have a1 : (erS s (m + 1)).1 j = (erS s m).1 j := if_neg q
      have a2 : (erS s (m + 1)).2 j = (erS s m).2 j := if_neg q
      rw [a1, a2, ← (e1 m).1, ← (e1 m).2]
      exact ih j (by omega)
/-- the talk of matter j stands in T -/
def ST1 (h : AH) (s : St) (j b T : Nat) : Prop := gr h T 3 = some b ∧ gi h T 11 = nI (tkE s j).2 ∧ TZ h T (tkD s j) (tkE s j).1
theorem tk_b {h : AH} {s : St} (W : RH h s) {j : Nat} (hj : j < s 107 19) : (tkE s j).2 ≤ 3 ∧ 1 ≤ (tkE s j).1 ∧ (tkE s j).1 ≤ 30 ∧ isPr s j (tkD s j).2.1 ∧ (tkD s j).2.1 < 1024 ∧ WK s j (tkD s j).1 := by
  have a := tlS_b (ed := eB s j) (rs := rB s j) (ls := []) (m := j) W
  have p := dE_pr (ed := eB s j) (rs := rB s j) (ls := []) W hj (tkE s j).1
  exact ⟨a.2.2, a.2.1, a.1, p, isPr_lt W hj p, tkD_ok W hj⟩
section
variable {h : AH} {s : St} {d b : Nat}
theorem c_Ta_restsWith (W : RH h s) {h2 : AH} (L : Lay h2) {T j : Nat} (hT : isT T) (hj : j < s 107 19) (M : MA h2 b (s 112 j)) (V : MV h2 s j b) (S : ST1 h2 s j b T) {p w : Nat} (hp : p < s 112 j) (hw : w < 4) : Mz (d + 1) 229 [.ref T, .int (nI (4 * p + w))] h2 0 0 (Rt (bP ((tkE s j).2 = 0 ∧ wyN (s 112 j) (tkD s j).2.1 p = w)) h2) := by
  have tb := ta_b hT
  have b4 := rs_p W hj
  have b5 := sh_1024 b4.2.1
  have t := tk_b W hj
  have slb := sl_lt b4.2.1 (s 113 j) (tkD s j).2.1
  have sl := V.2.1 _ t.2.2.2.1.1
  have g1 := t.2.2.2.1.1
  have sb := sl_bit t.2.2.2.1.2 (4 * p + w)
  rw [show (4 * p + w) / 4 = p by omega, show (4 * p + w) % 4 = w by omega] at sb
  refine mz_in (l := [some (.ref T), some (.int (nI (4 * p + w)))]) mk_Ta_restsWith n_Ta_restsWith rfl l_Ta_restsWith rfl (Nat.le_of_ble_eq_true rfl) fun P hP => ?_
  have no : ¬ ((tkE s j).2 = 0 ∧ wyN (s 112 j) (tkD s j).2.1 p = w) → P 37 [some (.ref T), some (.int (nI (4 * p + w)))] [] h2 0 0 := by
    intro q
    refine hP.1 _ _ s_Ta_restsWith_37 _ _ _ _ _ ?_
    simp (maxSteps := 1000000) (disch := omega) only [g_Ta_restsWith_37, slk, List.map_cons, List.map_nil, List.sum_cons, List.sum_nil, vc_i, vc_r, vc_n, vc_l, vc_o, Nat.add_zero, kO_e, kA_e, hdO_a, eq_self, blk, stp, lg, ls0, lk, ls1, ls2, kI_i, kL_l, kR_r, kR_n, kR_o, s1I_i, s2I_i, s1L_l, s2L_l, s1R_r, s1R_n, s1R_o, s1A_a, cmpc, popn, swt, rf_s, rf_n, cat_i, cat_r, cat_n, cat_l, true_and, and_true, List.length_cons, List.length_nil, Nat.zero_add, Int.reduceToNat, Nat.reduceAdd, Nat.reduceDiv, Nat.reduceMod, Nat.reduceMul, Nat.reduceSub, Nat.reduceLeDiff, Nat.reduceLT, Nat.reduceEqDiff, ↓reduceIte, r_gr_wi, r_gl_wi, r_gk_wi, r_gn_wi, r_wi_eq, r_wi_ne, r_wi_nj, r_gi_wr, r_gl_wr, r_gk_wr, r_gn_wr, r_gr_wa, r_gl_wa, r_gk_wa, r_gn_wa, aa_e, as_e, al_e, u_lt, u_le, u_gt, u_ge, u_lt0, u_le0, u_gt0, u_ge0, Classical.not_not, not_true_eq_false, not_false_eq_true, oi_n, oi_m, n_dec, nI_add, pk_mul, n_sub, n_eq, n_le, n_lt, n_eq0, n_lt0, n_le0, n_0lt, n_0le, n_eqm, m_eqn, n_ltm, n_and, n_or, n_xor, n_shl, n_shr, tb1, tb0, bP_1, bP_0, bP_n0, ix_n, inb_n, u_eq, u_eqm, (ta_k L hT).1, (ta_k L hT).2.1, (ta_k L hT).2.2.1, (ta_k L hT).2.2.2.1, (ta_k L hT).2.2.2.2.1, (ta_k L hT).2.2.2.2.2.1, (ta_k L hT).2.2.2.2.2.2.1, (ta_k L hT).2.2.2.2.2.2.2, (ta_r L hT).1, (ta_r L hT).2.1, (ta_r L hT).2.2.1, (ta_r L hT).2.2.2.1, (ta_r L hT).2.2.2.2.1, (ta_r L hT).2.2.2.2.2.1, (ta_r L hT).2.2.2.2.2.2.1, (ta_r L hT).2.2.2.2.2.2.2.1, (ta_r L hT).2.2.2.2.2.2.2.2.1, (ta_r L hT).2.2.2.2.2.2.2.2.2, k21 L, k42 L, k33 L, k32 L, f21_0 L, f21_1 L, f21_2 L, f21_3 L, ta_20 hT, ta_2k hT, S.1, S.2.1, S.2.2.1.1.2.1, ma_k M, ma_k14 M, ma_r2 M, sl]
    refine hP.1 _ _ s_Ta_restsWith_38 _ _ _ _ _ ?_
    simp (maxSteps := 1000000) (disch := omega) only [g_Ta_restsWith_38, slk, List.map_cons, List.map_nil, List.sum_cons, List.sum_nil, vc_i, vc_r, vc_n, vc_l, vc_o, Nat.add_zero, kO_e, kA_e, hdO_a, eq_self, blk, stp, lg, ls0, lk, ls1, ls2, kI_i, kL_l, kR_r, kR_n, kR_o, s1I_i, s2I_i, s1L_l, s2L_l, s1R_r, s1R_n, s1R_o, s1A_a, cmpc, popn, swt, rf_s, rf_n, cat_i, cat_r, cat_n, cat_l, true_and, and_true, List.length_cons, List.length_nil, Nat.zero_add, Int.reduceToNat, Nat.reduceAdd, Nat.reduceDiv, Nat.reduceMod, Nat.reduceMul, Nat.reduceSub, Nat.reduceLeDiff, Nat.reduceLT, Nat.reduceEqDiff, ↓reduceIte, r_gr_wi, r_gl_wi, r_gk_wi, r_gn_wi, r_wi_eq, r_wi_ne, r_wi_nj, r_gi_wr, r_gl_wr, r_gk_wr, r_gn_wr, r_gr_wa, r_gl_wa, r_gk_wa, r_gn_wa, aa_e, as_e, al_e, u_lt, u_le, u_gt, u_ge, u_lt0, u_le0, u_gt0, u_ge0, Classical.not_not, not_true_eq_false, not_false_eq_true, oi_n, oi_m, n_dec, nI_add, pk_mul, n_sub, n_eq, n_le, n_lt, n_eq0, n_lt0, n_le0, n_0lt, n_0le, n_eqm, m_eqn, n_ltm, n_and, n_or, n_xor, n_shl, n_shr, tb1, tb0, bP_1, bP_0, bP_n0, ix_n, inb_n, u_eq, u_eqm, (ta_k L hT).1, (ta_k L hT).2.1, (ta_k L hT).2.2.1, (ta_k L hT).2.2.2.1, (ta_k L hT).2.2.2.2.1, (ta_k L hT).2.2.2.2.2.1, (ta_k L hT).2.2.2.2.2.2.1, (ta_k L hT).2.2.2.2.2.2.2, (ta_r L hT).1, (ta_r L hT).2.1, (ta_r L hT).2.2.1, (ta_r L hT).2.2.2.1, (ta_r L hT).2.2.2.2.1, (ta_r L hT).2.2.2.2.2.1, (ta_r L hT).2.2.2.2.2.2.1, (ta_r L hT).2.2.2.2.2.2.2.1, (ta_r L hT).2.2.2.2.2.2.2.2.1, (ta_r L hT).2.2.2.2.2.2.2.2.2, k21 L, k42 L, k33 L, k32 L, f21_0 L, f21_1 L, f21_2 L, f21_3 L, ta_20 hT, ta_2k hT, S.1, S.2.1, S.2.2.1.1.2.1, ma_k M, ma_k14 M, ma_r2 M, sl]
    exact lfF r_Ta_restsWith q rfl
  refine hP.1 _ _ s_Ta_restsWith_0 _ _ _ _ _ ?_
  simp (maxSteps := 1000000) (disch := omega) only [g_Ta_restsWith_0, slk, List.map_cons, List.map_nil, List.sum_cons, List.sum_nil, vc_i, vc_r, vc_n, vc_l, vc_o, Nat.add_zero, kO_e, kA_e, hdO_a, eq_self, blk, stp, lg, ls0, lk, ls1, ls2, kI_i, kL_l, kR_r, kR_n, kR_o, s1I_i, s2I_i, s1L_l, s2L_l, s1R_r, s1R_n, s1R_o, s1A_a, cmpc, popn, swt, rf_s, rf_n, cat_i, cat_r, cat_n, cat_l, true_and, and_true, List.length_cons, List.length_nil, Nat.zero_add, Int.reduceToNat, Nat.reduceAdd, Nat.reduceDiv, Nat.reduceMod, Nat.reduceMul, Nat.reduceSub, Nat.reduceLeDiff, Nat.reduceLT, Nat.reduceEqDiff, ↓reduceIte, r_gr_wi, r_gl_wi, r_gk_wi, r_gn_wi, r_wi_eq, r_wi_ne, r_wi_nj, r_gi_wr, r_gl_wr, r_gk_wr, r_gn_wr, r_gr_wa, r_gl_wa, r_gk_wa, r_gn_wa, aa_e, as_e, al_e, u_lt, u_le, u_gt, u_ge, u_lt0, u_le0, u_gt0, u_ge0, Classical.not_not, not_true_eq_false, not_false_eq_true, oi_n, oi_m, n_dec, nI_add, pk_mul, n_sub, n_eq, n_le, n_lt, n_eq0, n_lt0, n_le0, n_0lt, n_0le, n_eqm, m_eqn, n_ltm, n_and, n_or, n_xor, n_shl, n_shr, tb1, tb0, bP_1, bP_0, bP_n0, ix_n, inb_n, u_eq, u_eqm, (ta_k L hT).1, (ta_k L hT).2.1, (ta_k L hT).2.2.1, (ta_k L hT).2.2.2.1, (ta_k L hT).2.2.2.2.1, (ta_k L hT).2.2.2.2.2.1, (ta_k L hT).2.2.2.2.2.2.1, (ta_k L hT).2.2.2.2.2.2.2, (ta_r L hT).1, (ta_r L hT).2.1, (ta_r L hT).2.2.1, (ta_r L hT).2.2.2.1, (ta_r L hT).2.2.2.2.1, (ta_r L hT).2.2.2.2.2.1, (ta_r L hT).2.2.2.2.2.2.1, (ta_r L hT).2.2.2.2.2.2.2.1, (ta_r L hT).2.2.2.2.2.2.2.2.1, (ta_r L hT).2.2.2.2.2.2.2.2.2, k21 L, k42 L, k33 L, k32 L, f21_0 L, f21_1 L, f21_2 L, f21_3 L, ta_20 hT, ta_2k hT, S.1, S.2.1, S.2.2.1.1.2.1, ma_k M, ma_k14 M, ma_r2 M, sl]
  refine ⟨fun q => no (fun z => q z.1), fun q => ?_⟩
  refine hP.1 _ _ s_Ta_restsWith_7 _ _ _ _ _ ?_
  simp (maxSteps := 1000000) (disch := omega) only [g_Ta_restsWith_7, slk, List.map_cons, List.map_nil, List.sum_cons, List.sum_nil, vc_i, vc_r, vc_n, vc_l, vc_o, Nat.add_zero, kO_e, kA_e, hdO_a, eq_self, blk, stp, lg, ls0, lk, ls1, ls2, kI_i, kL_l, kR_r, kR_n, kR_o, s1I_i, s2I_i, s1L_l, s2L_l, s1R_r, s1R_n, s1R_o, s1A_a, cmpc, popn, swt, rf_s, rf_n, cat_i, cat_r, cat_n, cat_l, true_and, and_true, List.length_cons, List.length_nil, Nat.zero_add, Int.reduceToNat, Nat.reduceAdd, Nat.reduceDiv, Nat.reduceMod, Nat.reduceMul, Nat.reduceSub, Nat.reduceLeDiff, Nat.reduceLT, Nat.reduceEqDiff, ↓reduceIte, r_gr_wi, r_gl_wi, r_gk_wi, r_gn_wi, r_wi_eq, r_wi_ne, r_wi_nj, r_gi_wr, r_gl_wr, r_gk_wr, r_gn_wr, r_gr_wa, r_gl_wa, r_gk_wa, r_gn_wa, aa_e, as_e, al_e, u_lt, u_le, u_gt, u_ge, u_lt0, u_le0, u_gt0, u_ge0, Classical.not_not, not_true_eq_false, not_false_eq_true, oi_n, oi_m, n_dec, nI_add, pk_mul, n_sub, n_eq, n_le, n_lt, n_eq0, n_lt0, n_le0, n_0lt, n_0le, n_eqm, m_eqn, n_ltm, n_and, n_or, n_xor, n_shl, n_shr, tb1, tb0, bP_1, bP_0, bP_n0, ix_n, inb_n, u_eq, u_eqm, (ta_k L hT).1, (ta_k L hT).2.1, (ta_k L hT).2.2.1, (ta_k L hT).2.2.2.1, (ta_k L hT).2.2.2.2.1, (ta_k L hT).2.2.2.2.2.1, (ta_k L hT).2.2.2.2.2.2.1, (ta_k L hT).2.2.2.2.2.2.2, (ta_r L hT).1, (ta_r L hT).2.1, (ta_r L hT).2.2.1, (ta_r L hT).2.2.2.1, (ta_r L hT).2.2.2.2.1, (ta_r L hT).2.2.2.2.2.1, (ta_r L hT).2.2.2.2.2.2.1, (ta_r L hT).2.2.2.2.2.2.2.1, (ta_r L hT).2.2.2.2.2.2.2.2.1, (ta_r L hT).2.2.2.2.2.2.2.2.2, k21 L, k42 L, k33 L, k32 L, f21_0 L, f21_1 L, f21_2 L, f21_3 L, ta_20 hT, ta_2k hT, S.1, S.2.1, S.2.2.1.1.2.1, ma_k M, ma_k14 M, ma_r2 M, sl]
  refine ⟨fun z => (by first | exact z.elim | cases z), fun _ => ?_⟩
  refine hP.1 _ _ s_Ta_restsWith_14 _ _ _ _ _ ?_
  simp (maxSteps := 1000000) (disch := omega) only [g_Ta_restsWith_14, slk, List.map_cons, List.map_nil, List.sum_cons, List.sum_nil, vc_i, vc_r, vc_n, vc_l, vc_o, Nat.add_zero, kO_e, kA_e, hdO_a, eq_self, blk, stp, lg, ls0, lk, ls1, ls2, kI_i, kL_l, kR_r, kR_n, kR_o, s1I_i, s2I_i, s1L_l, s2L_l, s1R_r, s1R_n, s1R_o, s1A_a, cmpc, popn, swt, rf_s, rf_n, cat_i, cat_r, cat_n, cat_l, true_and, and_true, List.length_cons, List.length_nil, Nat.zero_add, Int.reduceToNat, Nat.reduceAdd, Nat.reduceDiv, Nat.reduceMod, Nat.reduceMul, Nat.reduceSub, Nat.reduceLeDiff, Nat.reduceLT, Nat.reduceEqDiff, ↓reduceIte, r_gr_wi, r_gl_wi, r_gk_wi, r_gn_wi, r_wi_eq, r_wi_ne, r_wi_nj, r_gi_wr, r_gl_wr, r_gk_wr, r_gn_wr, r_gr_wa, r_gl_wa, r_gk_wa, r_gn_wa, aa_e, as_e, al_e, u_lt, u_le, u_gt, u_ge, u_lt0, u_le0, u_gt0, u_ge0, Classical.not_not, not_true_eq_false, not_false_eq_true, oi_n, oi_m, n_dec, nI_add, pk_mul, n_sub, n_eq, n_le, n_lt, n_eq0, n_lt0, n_le0, n_0lt, n_0le, n_eqm, m_eqn, n_ltm, n_and, n_or, n_xor, n_shl, n_shr, tb1, tb0, bP_1, bP_0, bP_n0, ix_n, inb_n, u_eq, u_eqm, (ta_k L hT).1, (ta_k L hT).2.1, (ta_k L hT).2.2.1, (ta_k L hT).2.2.2.1, (ta_k L hT).2.2.2.2.1, (ta_k L hT).2.2.2.2.2.1, (ta_k L hT).2.2.2.2.2.2.1, (ta_k L hT).2.2.2.2.2.2.2, (ta_r L hT).1, (ta_r L hT).2.1, (ta_r L hT).2.2.1, (ta_r L hT).2.2.2.1, (ta_r L hT).2.2.2.2.1, (ta_r L hT).2.2.2.2.2.1, (ta_r L hT).2.2.2.2.2.2.1, (ta_r L hT).2.2.2.2.2.2.2.1, (ta_r L hT).2.2.2.2.2.2.2.2.1, (ta_r L hT).2.2.2.2.2.2.2.2.2, k21 L, k42 L, k33 L, k32 L, f21_0 L, f21_1 L, f21_2 L, f21_3 L, ta_20 hT, ta_2k hT, S.1, S.2.1, S.2.2.1.1.2.1, ma_k M, ma_k14 M, ma_r2 M, sl]
  refine ⟨fun q2 => no (fun z => by rw [sb.mpr ⟨hp, z.2.symm⟩] at q2; cases q2), fun q2 => ?_⟩
  refine hP.1 _ _ s_Ta_restsWith_33 _ _ _ _ _ ?_
  simp (maxSteps := 1000000) (disch := omega) only [g_Ta_restsWith_33, slk, List.map_cons, List.map_nil, List.sum_cons, List.sum_nil, vc_i, vc_r, vc_n, vc_l, vc_o, Nat.add_zero, kO_e, kA_e, hdO_a, eq_self, blk, stp, lg, ls0, lk, ls1, ls2, kI_i, kL_l, kR_r, kR_n, kR_o, s1I_i, s2I_i, s1L_l, s2L_l, s1R_r, s1R_n, s1R_o, s1A_a, cmpc, popn, swt, rf_s, rf_n, cat_i, cat_r, cat_n, cat_l, true_and, and_true, List.length_cons, List.length_nil, Nat.zero_add, Int.reduceToNat, Nat.reduceAdd, Nat.reduceDiv, Nat.reduceMod, Nat.reduceMul, Nat.reduceSub, Nat.reduceLeDiff, Nat.reduceLT, Nat.reduceEqDiff, ↓reduceIte, r_gr_wi, r_gl_wi, r_gk_wi, r_gn_wi, r_wi_eq, r_wi_ne, r_wi_nj, r_gi_wr, r_gl_wr, r_gk_wr, r_gn_wr, r_gr_wa, r_gl_wa, r_gk_wa, r_gn_wa, aa_e, as_e, al_e, u_lt, u_le, u_gt, u_ge, u_lt0, u_le0, u_gt0, u_ge0, Classical.not_not, not_true_eq_false, not_false_eq_true, oi_n, oi_m, n_dec, nI_add, pk_mul, n_sub, n_eq, n_le, n_lt, n_eq0, n_lt0, n_le0, n_0lt, n_0le, n_eqm, m_eqn, n_ltm, n_and, n_or, n_xor, n_shl, n_shr, tb1, tb0, bP_1, bP_0, bP_n0, ix_n, inb_n, u_eq, u_eqm, (ta_k L hT).1, (ta_k L hT).2.1, (ta_k L hT).2.2.1, (ta_k L hT).2.2.2.1, (ta_k L hT).2.2.2.2.1, (ta_k L hT).2.2.2.2.2.1, (ta_k L hT).2.2.2.2.2.2.1, (ta_k L hT).2.2.2.2.2.2.2, (ta_r L hT).1, (ta_r L hT).2.1, (ta_r L hT).2.2.1, (ta_r L hT).2.2.2.1, (ta_r L hT).2.2.2.2.1, (ta_r L hT).2.2.2.2.2.1, (ta_r L hT).2.2.2.2.2.2.1, (ta_r L hT).2.2.2.2.2.2.2.1, (ta_r L hT).2.2.2.2.2.2.2.2.1, (ta_r L hT).2.2.2.2.2.2.2.2.2, k21 L, k42 L, k33 L, k32 L, f21_0 L, f21_1 L, f21_2 L, f21_3 L, ta_20 hT, ta_2k hT, S.1, S.2.1, S.2.2.1.1.2.1, ma_k M, ma_k14 M, ma_r2 M, sl]
  refine hP.1 _ _ s_Ta_restsWith_38 _ _ _ _ _ ?_
  simp (maxSteps := 1000000) (disch := omega) only [g_Ta_restsWith_38, slk, List.map_cons, List.map_nil, List.sum_cons, List.sum_nil, vc_i, vc_r, vc_n, vc_l, vc_o, Nat.add_zero, kO_e, kA_e, hdO_a, eq_self, blk, stp, lg, ls0, lk, ls1, ls2, kI_i, kL_l, kR_r, kR_n, kR_o, s1I_i, s2I_i, s1L_l, s2L_l, s1R_r, s1R_n, s1R_o, s1A_a, cmpc, popn, swt, rf_s, rf_n, cat_i, cat_r, cat_n, cat_l, true_and, and_true, List.length_cons, List.length_nil, Nat.zero_add, Int.reduceToNat, Nat.reduceAdd, Nat.reduceDiv, Nat.reduceMod, Nat.reduceMul, Nat.reduceSub, Nat.reduceLeDiff, Nat.reduceLT, Nat.reduceEqDiff, ↓reduceIte, r_gr_wi, r_gl_wi, r_gk_wi, r_gn_wi, r_wi_eq, r_wi_ne, r_wi_nj, r_gi_wr, r_gl_wr, r_gk_wr, r_gn_wr, r_gr_wa, r_gl_wa, r_gk_wa, r_gn_wa, aa_e, as_e, al_e, u_lt, u_le, u_gt, u_ge, u_lt0, u_le0, u_gt0, u_ge0, Classical.not_not, not_true_eq_false, not_false_eq_true, oi_n, oi_m, n_dec, nI_add, pk_mul, n_sub, n_eq, n_le, n_lt, n_eq0, n_lt0, n_le0, n_0lt, n_0le, n_eqm, m_eqn, n_ltm, n_and, n_or, n_xor, n_shl, n_shr, tb1, tb0, bP_1, bP_0, bP_n0, ix_n, inb_n, u_eq, u_eqm, (ta_k L hT).1, (ta_k L hT).2.1, (ta_k L hT).2.2.1, (ta_k L hT).2.2.2.1, (ta_k L hT).2.2.2.2.1, (ta_k L hT).2.2.2.2.2.1, (ta_k L hT).2.2.2.2.2.2.1, (ta_k L hT).2.2.2.2.2.2.2, (ta_r L hT).1, (ta_r L hT).2.1, (ta_r L hT).2.2.1, (ta_r L hT).2.2.2.1, (ta_r L hT).2.2.2.2.1, (ta_r L hT).2.2.2.2.2.1, (ta_r L hT).2.2.2.2.2.2.1, (ta_r L hT).2.2.2.2.2.2.2.1, (ta_r L hT).2.2.2.2.2.2.2.2.1, (ta_r L hT).2.2.2.2.2.2.2.2.2, k21 L, k42 L, k33 L, k32 L, f21_0 L, f21_1 L, f21_2 L, f21_3 L, ta_20 hT, ta_2k hT, S.1, S.2.1, S.2.2.1.1.2.1, ma_k M, ma_k14 M, ma_r2 M, sl]
  exact lfT r_Ta_restsWith ⟨by omega, (sb.mp (by simpa using q2)).2.symm⟩ rfl
/-- the talk of matter j, by its place in the list -/
def tOf (j : Nat) : Nat := 75 + 8 * j
theorem tOf_T {j : Nat} (hj : j < 4) : isT (tOf j) := by
  unfold tOf isT
  omega
theorem tOf_r {h : AH} (L : Lay h) {j : Nat} (hj : j < 4) : gr h 45 j = some (tOf j) := by
  rcases (by omega : j = 0 ∨ j = 1 ∨ j = 2 ∨ j = 3) with rfl | rfl | rfl | rfl
  · exact f45_0 L
  · exact f45_1 L
  · exact f45_2 L
  · exact f45_3 L
/-- promises as the class keeps them -/
def PLC (h : AH) (s : St) : Prop := gi h 54 5 = nI (s 107 67) ∧ ∀ k, k < s 107 67 → gi h 55 k = nI (s 144 k) ∧ gi h 56 k = nI (s 145 k) ∧ gi h 57 k = nI (s 146 k) ∧ gi h 58 k = nI (4 * s 147 k + s 148 k)
/-- the talks below m stand -/
def STD (h : AH) (s : St) (bm : Nat → Nat) (m : Nat) : Prop := ∀ j, j < m → ST1 h s j (bm j) (tOf j)
def MTS (h : AH) (s : St) (bm : Nat → Nat) (m : Nat) : Prop := ∀ j, j < m → MA h (bm j) (s 112 j) ∧ MV h s j (bm j)
def PWb (h : AH) (A : Nat) (s : St) (m : Nat) (r : Option (Option Value)) (h' : AH) : Prop := r = some none ∧ Fp (fun a => a = A) h h' ∧ ∀ e, e < 8 → gi h' A e = trI s (eB s m) (rB s m) e m (s 107 67)
theorem c_Pl_weighBefore (W : RH h s) {h2 : AH} (L : Lay h2) (h61 : s 107 61 = 4294967295) {bm : Nat → Nat} {m A : Nat} (hm : m ≤ s 107 19) (PL : PLC h2 s) (M : MTS h2 s bm m) (S : STD h2 s bm m) (hA : gk h2 A = some (.inr (0, 8))) (hA2 : A = 47 ∨ A = tOf m + 1) : Mz (d + 2) 190 [.ref 54, .int (nI m), .ref A] h2 0 0 (PWb h2 A s m) := by
  have b0 := rs_m W
  have b1 := rs_pr W
  have b2 := rs_e W
  have em : tOf m = 75 + 8 * m := rfl
  have a20 : 20 ≤ A := by omega
  refine mz_in (l := [some (.ref 54), some (.int (nI m)), some (.ref A), none]) mk_Pl_weighBefore n_Pl_weighBefore rfl l_Pl_weighBefore rfl (Nat.le_of_ble_eq_true rfl) fun P hP => ?_
  have L0 := L
  have loop : ∀ n k H, k + n = s 107 67 → Fp (fun a => a = A) h2 H → (∀ e, e < 8 → gi H A e = trI s (eB s m) (rB s m) e m k) → P 7 [some (.ref 54), some (.int (nI m)), some (.ref A), some (.int (nI k))] [] H 0 0 := by
    intro n
    induction n using Nat.strongRecOn with
    | _ n ih =>
      intro k H hk F hI
      have LH := F.lay L0
      have n54 : ∀ a j, a ≠ A → gi H a j = gi h2 a j := fun a j q => F.at q j
      have hAH : gk H A = some (.inr (0, 8)) := by rw [F.gk]; exact hA
      refine hP.1 _ _ s_Pl_weighBefore_7 _ _ _ _ _ ?_
      simp (maxSteps := 1000000) (disch := omega) only [g_Pl_weighBefore_7, slk, List.map_cons, List.map_nil, List.sum_cons, List.sum_nil, vc_i, vc_r, vc_n, vc_l, vc_o, Nat.add_zero, kO_e, kA_e, hdO_a, eq_self, blk, stp, lg, ls0, lk, ls1, ls2, kI_i, kL_l, kR_r, kR_n, kR_o, s1I_i, s2I_i, s1L_l, s2L_l, s1R_r, s1R_n, s1R_o, s1A_a, cmpc, popn, swt, rf_s, rf_n, cat_i, cat_r, cat_n, cat_l, true_and, and_true, List.length_cons, List.length_nil, Nat.zero_add, Int.reduceToNat, Nat.reduceAdd, Nat.reduceDiv, Nat.reduceMod, Nat.reduceMul, Nat.reduceSub, Nat.reduceLeDiff, Nat.reduceLT, Nat.reduceEqDiff, ↓reduceIte, r_gr_wi, r_gl_wi, r_gk_wi, r_gn_wi, r_wi_eq, r_wi_ne, r_wi_nj, r_gi_wr, r_gl_wr, r_gk_wr, r_gn_wr, r_gr_wa, r_gl_wa, r_gk_wa, r_gn_wa, aa_e, as_e, al_e, u_lt, u_le, u_gt, u_ge, u_lt0, u_le0, u_gt0, u_ge0, Classical.not_not, not_true_eq_false, not_false_eq_true, oi_n, oi_m, n_dec, nI_add, pk_mul, n_sub, n_eq, n_le, n_lt, n_eq0, n_lt0, n_le0, n_0lt, n_0le, n_eqm, m_eqn, n_ltm, n_and, n_or, n_xor, n_shl, n_shr, tb1, tb0, bP_1, bP_0, bP_n0, ix_n, inb_n, u_eq, u_eqm, k54 LH, (n54 54 5 (by omega)).trans PL.1, hAH, a20]
      refine ⟨fun hc => ?_, fun hc => ?_⟩
      · have e1 : k = s 107 67 := by omega
        subst e1
        refine hP.1 _ _ s_Pl_weighBefore_70 _ _ _ _ _ ?_
        simp (maxSteps := 1000000) (disch := omega) only [g_Pl_weighBefore_70, slk, List.map_cons, List.map_nil, List.sum_cons, List.sum_nil, vc_i, vc_r, vc_n, vc_l, vc_o, Nat.add_zero, kO_e, kA_e, hdO_a, eq_self, blk, stp, lg, ls0, lk, ls1, ls2, kI_i, kL_l, kR_r, kR_n, kR_o, s1I_i, s2I_i, s1L_l, s2L_l, s1R_r, s1R_n, s1R_o, s1A_a, cmpc, popn, swt, rf_s, rf_n, cat_i, cat_r, cat_n, cat_l, true_and, and_true, List.length_cons, List.length_nil, Nat.zero_add, Int.reduceToNat, Nat.reduceAdd, Nat.reduceDiv, Nat.reduceMod, Nat.reduceMul, Nat.reduceSub, Nat.reduceLeDiff, Nat.reduceLT, Nat.reduceEqDiff, ↓reduceIte, r_gr_wi, r_gl_wi, r_gk_wi, r_gn_wi, r_wi_eq, r_wi_ne, r_wi_nj, r_gi_wr, r_gl_wr, r_gk_wr, r_gn_wr, r_gr_wa, r_gl_wa, r_gk_wa, r_gn_wa, aa_e, as_e, al_e, u_lt, u_le, u_gt, u_ge, u_lt0, u_le0, u_gt0, u_ge0, Classical.not_not, not_true_eq_false, not_false_eq_true, oi_n, oi_m, n_dec, nI_add, pk_mul, n_sub, n_eq, n_le, n_lt, n_eq0, n_lt0, n_le0, n_0lt, n_0le, n_eqm, m_eqn, n_ltm, n_and, n_or, n_xor, n_shl, n_shr, tb1, tb0, bP_1, bP_0, bP_n0, ix_n, inb_n, u_eq, u_eqm, (n54 54 5 (by omega)).trans PL.1, hAH, a20]
        rw [r_Pl_weighBefore]
        exact ⟨trivial, rfl, F, hI⟩
      · have hk2 : k < s 107 67 := by omega
        have pk := PL.2 k hk2
        have rk := rs_prm W hk2
        have p56 := (n54 56 k (by omega)).trans pk.2.1
        have p57 := (n54 57 k (by omega)).trans pk.2.2.1
        have p58 := (n54 58 k (by omega)).trans pk.2.2.2
        have nx : ∀ H, Fp (fun a => a = A) h2 H → (∀ e, e < 8 → gi H A e = trI s (eB s m) (rB s m) e m (k + 1)) → P 64 [some (.ref 54), some (.int (nI m)), some (.ref A), some (.int (nI k))] [] H 0 0 := by
          intro H F hI
          refine hP.1 _ _ s_Pl_weighBefore_64 _ _ _ _ _ ?_
          simp (maxSteps := 1000000) (disch := omega) only [g_Pl_weighBefore_64, slk, List.map_cons, List.map_nil, List.sum_cons, List.sum_nil, vc_i, vc_r, vc_n, vc_l, vc_o, Nat.add_zero, kO_e, kA_e, hdO_a, eq_self, blk, stp, lg, ls0, lk, ls1, ls2, kI_i, kL_l, kR_r, kR_n, kR_o, s1I_i, s2I_i, s1L_l, s2L_l, s1R_r, s1R_n, s1R_o, s1A_a, cmpc, popn, swt, rf_s, rf_n, cat_i, cat_r, cat_n, cat_l, true_and, and_true, List.length_cons, List.length_nil, Nat.zero_add, Int.reduceToNat, Nat.reduceAdd, Nat.reduceDiv, Nat.reduceMod, Nat.reduceMul, Nat.reduceSub, Nat.reduceLeDiff, Nat.reduceLT, Nat.reduceEqDiff, ↓reduceIte, r_gr_wi, r_gl_wi, r_gk_wi, r_gn_wi, r_wi_eq, r_wi_ne, r_wi_nj, r_gi_wr, r_gl_wr, r_gk_wr, r_gn_wr, r_gr_wa, r_gl_wa, r_gk_wa, r_gn_wa, aa_e, as_e, al_e, u_lt, u_le, u_gt, u_ge, u_lt0, u_le0, u_gt0, u_ge0, Classical.not_not, not_true_eq_false, not_false_eq_true, oi_n, oi_m, n_dec, nI_add, pk_mul, n_sub, n_eq, n_le, n_lt, n_eq0, n_lt0, n_le0, n_0lt, n_0le, n_eqm, m_eqn, n_ltm, n_and, n_or, n_xor, n_shl, n_shr, tb1, tb0, bP_1, bP_0, bP_n0, ix_n, inb_n, u_eq, u_eqm, (n54 54 5 (by omega)).trans PL.1, hAH, a20]
          exact ih (n - 1) (by omega) (k + 1) H (by omega) F hI
        have et : ∀ e, trI s (eB s m) (rB s m) e m (k + 1) = @ite _ (s 145 k = e ∧ s 146 k < m) (Classical.propDecidable _) (trI s (eB s m) (rB s m) e m k + @ite _ (kpP s (eB s m) (rB s m) k) (Classical.propDecidable _) (nI 1) (-1)) (trI s (eB s m) (rB s m) e m k) := fun e => rfl
        refine hP.1 _ _ s_Pl_weighBefore_15 _ _ _ _ _ ?_
        simp (maxSteps := 1000000) (disch := omega) only [g_Pl_weighBefore_15, slk, List.map_cons, List.map_nil, List.sum_cons, List.sum_nil, vc_i, vc_r, vc_n, vc_l, vc_o, Nat.add_zero, kO_e, kA_e, hdO_a, eq_self, blk, stp, lg, ls0, lk, ls1, ls2, kI_i, kL_l, kR_r, kR_n, kR_o, s1I_i, s2I_i, s1L_l, s2L_l, s1R_r, s1R_n, s1R_o, s1A_a, cmpc, popn, swt, rf_s, rf_n, cat_i, cat_r, cat_n, cat_l, true_and, and_true, List.length_cons, List.length_nil, Nat.zero_add, Int.reduceToNat, Nat.reduceAdd, Nat.reduceDiv, Nat.reduceMod, Nat.reduceMul, Nat.reduceSub, Nat.reduceLeDiff, Nat.reduceLT, Nat.reduceEqDiff, ↓reduceIte, r_gr_wi, r_gl_wi, r_gk_wi, r_gn_wi, r_wi_eq, r_wi_ne, r_wi_nj, r_gi_wr, r_gl_wr, r_gk_wr, r_gn_wr, r_gr_wa, r_gl_wa, r_gk_wa, r_gn_wa, aa_e, as_e, al_e, u_lt, u_le, u_gt, u_ge, u_lt0, u_le0, u_gt0, u_ge0, Classical.not_not, not_true_eq_false, not_false_eq_true, oi_n, oi_m, n_dec, nI_add, pk_mul, n_sub, n_eq, n_le, n_lt, n_eq0, n_lt0, n_le0, n_0lt, n_0le, n_eqm, m_eqn, n_ltm, n_and, n_or, n_xor, n_shl, n_shr, tb1, tb0, bP_1, bP_0, bP_n0, ix_n, inb_n, u_eq, u_eqm, k54 LH, f54_3 LH, k57 LH, (n54 54 5 (by omega)).trans PL.1, hAH, a20, p56, p57, p58]
        refine ⟨fun q => ?_, fun q => ?_⟩
        · refine nx H F (fun e he => ?_)
          rw [et, if_neg (fun z => by omega)]
          exact hI e he
        · have jm : s 146 k < m := by omega
          have MJ := M _ jm
          have SJ := S _ jm
          have e45 := tOf_r LH (j := s 146 k) (by omega)
          have TT := tOf_T (j := s 146 k) (by omega)
          have kp : kpP s (eB s m) (rB s m) k = ((tkE s (s 146 k)).2 = 0 ∧ wyN (s 112 (s 146 k)) (tkD s (s 146 k)).2.1 (s 147 k) = s 148 k) := by
            unfold kpP
            rw [(eb_lt h61 m _ jm).1, (eb_lt h61 m _ jm).2]
          have hI5 := hI (s 145 k) (by omega)
          have tT := ta_b TT
          have eT : tOf (s 146 k) = 75 + 8 * s 146 k := rfl
          have SH : ST1 H s (s 146 k) (bm (s 146 k)) (tOf (s 146 k)) := by
            refine ⟨by rw [F.gr]; exact SJ.1, (n54 _ _ (by omega)).trans SJ.2.1, F.ts SJ.2.2.1 (fun a q => by have q2 : a = A := q; omega), (n54 _ _ (by omega)).trans SJ.2.2.2⟩
          refine hP.1 _ _ s_Pl_weighBefore_25 _ _ _ _ _ ?_
          simp (maxSteps := 1000000) (disch := omega) only [g_Pl_weighBefore_25, slk, List.map_cons, List.map_nil, List.sum_cons, List.sum_nil, vc_i, vc_r, vc_n, vc_l, vc_o, Nat.add_zero, kO_e, kA_e, hdO_a, eq_self, blk, stp, lg, ls0, lk, ls1, ls2, kI_i, kL_l, kR_r, kR_n, kR_o, s1I_i, s2I_i, s1L_l, s2L_l, s1R_r, s1R_n, s1R_o, s1A_a, cmpc, popn, swt, rf_s, rf_n, cat_i, cat_r, cat_n, cat_l, true_and, and_true, List.length_cons, List.length_nil, Nat.zero_add, Int.reduceToNat, Nat.reduceAdd, Nat.reduceDiv, Nat.reduceMod, Nat.reduceMul, Nat.reduceSub, Nat.reduceLeDiff, Nat.reduceLT, Nat.reduceEqDiff, ↓reduceIte, r_gr_wi, r_gl_wi, r_gk_wi, r_gn_wi, r_wi_eq, r_wi_ne, r_wi_nj, r_gi_wr, r_gl_wr, r_gk_wr, r_gn_wr, r_gr_wa, r_gl_wa, r_gk_wa, r_gn_wa, aa_e, as_e, al_e, u_lt, u_le, u_gt, u_ge, u_lt0, u_le0, u_gt0, u_ge0, Classical.not_not, not_true_eq_false, not_false_eq_true, oi_n, oi_m, n_dec, nI_add, pk_mul, n_sub, n_eq, n_le, n_lt, n_eq0, n_lt0, n_le0, n_0lt, n_0le, n_eqm, m_eqn, n_ltm, n_and, n_or, n_xor, n_shl, n_shr, tb1, tb0, bP_1, bP_0, bP_n0, ix_n, inb_n, u_eq, u_eqm, k54 LH, f54_2 LH, k56 LH, f54_0 LH, k45 LH, f54_3 LH, k57 LH, f54_4 LH, k58 LH, (n54 54 5 (by omega)).trans PL.1, hAH, a20, p56, p57, p58, e45, (ta_k LH TT).1, hI5]
          refine wc (c_Ta_restsWith (d := d) W LH TT rk.2.2.1 (F.ma MJ.1) (F.mv MJ.2 (fun a q => by have q2 : a = A := q; have := ma_b MJ.1; omega)) SH rk.2.2.2.1 (w := s 148 k) (by have := rs_p W rk.2.2.1; omega)) ⟨by omega, by omega⟩ ?_
          simp (maxSteps := 1000000) (disch := omega) only [slk, List.map_cons, List.map_nil, List.sum_cons, List.sum_nil, vc_i, vc_r, vc_n, vc_l, vc_o, Nat.add_zero, kO_e, kA_e, hdO_a, eq_self, blk, stp, lg, ls0, lk, ls1, ls2, kI_i, kL_l, kR_r, kR_n, kR_o, s1I_i, s2I_i, s1L_l, s2L_l, s1R_r, s1R_n, s1R_o, s1A_a, cmpc, popn, swt, rf_s, rf_n, cat_i, cat_r, cat_n, cat_l, true_and, and_true, List.length_cons, List.length_nil, Nat.zero_add, Int.reduceToNat, Nat.reduceAdd, Nat.reduceDiv, Nat.reduceMod, Nat.reduceMul, Nat.reduceSub, Nat.reduceLeDiff, Nat.reduceLT, Nat.reduceEqDiff, ↓reduceIte, r_gr_wi, r_gl_wi, r_gk_wi, r_gn_wi, r_wi_eq, r_wi_ne, r_wi_nj, r_gi_wr, r_gl_wr, r_gk_wr, r_gn_wr, r_gr_wa, r_gl_wa, r_gk_wa, r_gn_wa, aa_e, as_e, al_e, u_lt, u_le, u_gt, u_ge, u_lt0, u_le0, u_gt0, u_ge0, Classical.not_not, not_true_eq_false, not_false_eq_true, oi_n, oi_m, n_dec, nI_add, pk_mul, n_sub, n_eq, n_le, n_lt, n_eq0, n_lt0, n_le0, n_0lt, n_0le, n_eqm, m_eqn, n_ltm, n_and, n_or, n_xor, n_shl, n_shr, tb1, tb0, bP_1, bP_0, bP_n0, ix_n, inb_n, u_eq, u_eqm, k54 LH, f54_2 LH, k56 LH, f54_0 LH, k45 LH, f54_3 LH, k57 LH, f54_4 LH, k58 LH, (n54 54 5 (by omega)).trans PL.1, hAH, a20, p56, p57, p58, e45, (ta_k LH TT).1, hI5]
          have up : ∀ v : Int32, v = trI s (eB s m) (rB s m) (s 145 k) m (k + 1) → P 64 [some (.ref 54), some (.int (nI m)), some (.ref A), some (.int (nI k))] [] (wi H A (s 145 k) v) 0 0 := by
            intro v ev
            refine nx _ (F.wi rfl _ _) (fun e he => ?_)
            by_cases q3 : s 145 k = e
            · subst q3
              rw [r_wi_eq, ev]
            · rw [r_wi_nj _ _ _ (fun z => q3 z.symm), et, if_neg (fun z => q3 z.1)]
              exact hI e he
          refine ⟨fun q2 => ?_, fun q2 => ?_⟩
          · refine hP.1 _ _ s_Pl_weighBefore_61 _ _ _ _ _ ?_
            simp (maxSteps := 1000000) (disch := omega) only [g_Pl_weighBefore_61, slk, List.map_cons, List.map_nil, List.sum_cons, List.sum_nil, vc_i, vc_r, vc_n, vc_l, vc_o, Nat.add_zero, kO_e, kA_e, hdO_a, eq_self, blk, stp, lg, ls0, lk, ls1, ls2, kI_i, kL_l, kR_r, kR_n, kR_o, s1I_i, s2I_i, s1L_l, s2L_l, s1R_r, s1R_n, s1R_o, s1A_a, cmpc, popn, swt, rf_s, rf_n, cat_i, cat_r, cat_n, cat_l, true_and, and_true, List.length_cons, List.length_nil, Nat.zero_add, Int.reduceToNat, Nat.reduceAdd, Nat.reduceDiv, Nat.reduceMod, Nat.reduceMul, Nat.reduceSub, Nat.reduceLeDiff, Nat.reduceLT, Nat.reduceEqDiff, ↓reduceIte, r_gr_wi, r_gl_wi, r_gk_wi, r_gn_wi, r_wi_eq, r_wi_ne, r_wi_nj, r_gi_wr, r_gl_wr, r_gk_wr, r_gn_wr, r_gr_wa, r_gl_wa, r_gk_wa, r_gn_wa, aa_e, as_e, al_e, u_lt, u_le, u_gt, u_ge, u_lt0, u_le0, u_gt0, u_ge0, Classical.not_not, not_true_eq_false, not_false_eq_true, oi_n, oi_m, n_dec, nI_add, pk_mul, n_sub, n_eq, n_le, n_lt, n_eq0, n_lt0, n_le0, n_0lt, n_0le, n_eqm, m_eqn, n_ltm, n_and, n_or, n_xor, n_shl, n_shr, tb1, tb0, bP_1, bP_0, bP_n0, ix_n, inb_n, u_eq, u_eqm, (n54 54 5 (by omega)).trans PL.1, hAH, a20, p56, p57, p58, e45, (ta_k LH TT).1, hI5]
            refine hP.1 _ _ s_Pl_weighBefore_62 _ _ _ _ _ ?_
            simp (maxSteps := 1000000) (disch := omega) only [g_Pl_weighBefore_62, slk, List.map_cons, List.map_nil, List.sum_cons, List.sum_nil, vc_i, vc_r, vc_n, vc_l, vc_o, Nat.add_zero, kO_e, kA_e, hdO_a, eq_self, blk, stp, lg, ls0, lk, ls1, ls2, kI_i, kL_l, kR_r, kR_n, kR_o, s1I_i, s2I_i, s1L_l, s2L_l, s1R_r, s1R_n, s1R_o, s1A_a, cmpc, popn, swt, rf_s, rf_n, cat_i, cat_r, cat_n, cat_l, true_and, and_true, List.length_cons, List.length_nil, Nat.zero_add, Int.reduceToNat, Nat.reduceAdd, Nat.reduceDiv, Nat.reduceMod, Nat.reduceMul, Nat.reduceSub, Nat.reduceLeDiff, Nat.reduceLT, Nat.reduceEqDiff, ↓reduceIte, r_gr_wi, r_gl_wi, r_gk_wi, r_gn_wi, r_wi_eq, r_wi_ne, r_wi_nj, r_gi_wr, r_gl_wr, r_gk_wr, r_gn_wr, r_gr_wa, r_gl_wa, r_gk_wa, r_gn_wa, aa_e, as_e, al_e, u_lt, u_le, u_gt, u_ge, u_lt0, u_le0, u_gt0, u_ge0, Classical.not_not, not_true_eq_false, not_false_eq_true, oi_n, oi_m, n_dec, nI_add, pk_mul, n_sub, n_eq, n_le, n_lt, n_eq0, n_lt0, n_le0, n_0lt, n_0le, n_eqm, m_eqn, n_ltm, n_and, n_or, n_xor, n_shl, n_shr, tb1, tb0, bP_1, bP_0, bP_n0, ix_n, inb_n, u_eq, u_eqm, (n54 54 5 (by omega)).trans PL.1, hAH, a20, p56, p57, p58, e45, (ta_k LH TT).1, hI5]
            refine up _ ?_
            rw [et, if_pos ⟨rfl, jm⟩, if_neg (fun z => q2 (by rw [kp] at z; exact z))]
          · refine hP.1 _ _ s_Pl_weighBefore_57 _ _ _ _ _ ?_
            simp (maxSteps := 1000000) (disch := omega) only [g_Pl_weighBefore_57, slk, List.map_cons, List.map_nil, List.sum_cons, List.sum_nil, vc_i, vc_r, vc_n, vc_l, vc_o, Nat.add_zero, kO_e, kA_e, hdO_a, eq_self, blk, stp, lg, ls0, lk, ls1, ls2, kI_i, kL_l, kR_r, kR_n, kR_o, s1I_i, s2I_i, s1L_l, s2L_l, s1R_r, s1R_n, s1R_o, s1A_a, cmpc, popn, swt, rf_s, rf_n, cat_i, cat_r, cat_n, cat_l, true_and, and_true, List.length_cons, List.length_nil, Nat.zero_add, Int.reduceToNat, Nat.reduceAdd, Nat.reduceDiv, Nat.reduceMod, Nat.reduceMul, Nat.reduceSub, Nat.reduceLeDiff, Nat.reduceLT, Nat.reduceEqDiff, ↓reduceIte, r_gr_wi, r_gl_wi, r_gk_wi, r_gn_wi, r_wi_eq, r_wi_ne, r_wi_nj, r_gi_wr, r_gl_wr, r_gk_wr, r_gn_wr, r_gr_wa, r_gl_wa, r_gk_wa, r_gn_wa, aa_e, as_e, al_e, u_lt, u_le, u_gt, u_ge, u_lt0, u_le0, u_gt0, u_ge0, Classical.not_not, not_true_eq_false, not_false_eq_true, oi_n, oi_m, n_dec, nI_add, pk_mul, n_sub, n_eq, n_le, n_lt, n_eq0, n_lt0, n_le0, n_0lt, n_0le, n_eqm, m_eqn, n_ltm, n_and, n_or, n_xor, n_shl, n_shr, tb1, tb0, bP_1, bP_0, bP_n0, ix_n, inb_n, u_eq, u_eqm, (n54 54 5 (by omega)).trans PL.1, hAH, a20, p56, p57, p58, e45, (ta_k LH TT).1, hI5]
            refine hP.1 _ _ s_Pl_weighBefore_62 _ _ _ _ _ ?_
            simp (maxSteps := 1000000) (disch := omega) only [g_Pl_weighBefore_62, slk, List.map_cons, List.map_nil, List.sum_cons, List.sum_nil, vc_i, vc_r, vc_n, vc_l, vc_o, Nat.add_zero, kO_e, kA_e, hdO_a, eq_self, blk, stp, lg, ls0, lk, ls1, ls2, kI_i, kL_l, kR_r, kR_n, kR_o, s1I_i, s2I_i, s1L_l, s2L_l, s1R_r, s1R_n, s1R_o, s1A_a, cmpc, popn, swt, rf_s, rf_n, cat_i, cat_r, cat_n, cat_l, true_and, and_true, List.length_cons, List.length_nil, Nat.zero_add, Int.reduceToNat, Nat.reduceAdd, Nat.reduceDiv, Nat.reduceMod, Nat.reduceMul, Nat.reduceSub, Nat.reduceLeDiff, Nat.reduceLT, Nat.reduceEqDiff, ↓reduceIte, r_gr_wi, r_gl_wi, r_gk_wi, r_gn_wi, r_wi_eq, r_wi_ne, r_wi_nj, r_gi_wr, r_gl_wr, r_gk_wr, r_gn_wr, r_gr_wa, r_gl_wa, r_gk_wa, r_gn_wa, aa_e, as_e, al_e, u_lt, u_le, u_gt, u_ge, u_lt0, u_le0, u_gt0, u_ge0, Classical.not_not, not_true_eq_false, not_false_eq_true, oi_n, oi_m, n_dec, nI_add, pk_mul, n_sub, n_eq, n_le, n_lt, n_eq0, n_lt0, n_le0, n_0lt, n_0le, n_eqm, m_eqn, n_ltm, n_and, n_or, n_xor, n_shl, n_shr, tb1, tb0, bP_1, bP_0, bP_n0, ix_n, inb_n, u_eq, u_eqm, (n54 54 5 (by omega)).trans PL.1, hAH, a20, p56, p57, p58, e45, (ta_k LH TT).1, hI5]
            refine up _ ?_
            rw [et, if_pos ⟨rfl, jm⟩, if_pos (by rw [kp]; first | exact q2 | exact Classical.not_not.mp q2)]
  refine hP.1 _ _ s_Pl_weighBefore_0 _ _ _ _ _ ?_
  simp (maxSteps := 1000000) (disch := omega) only [g_Pl_weighBefore_0, slk, List.map_cons, List.map_nil, List.sum_cons, List.sum_nil, vc_i, vc_r, vc_n, vc_l, vc_o, Nat.add_zero, kO_e, kA_e, hdO_a, eq_self, blk, stp, lg, ls0, lk, ls1, ls2, kI_i, kL_l, kR_r, kR_n, kR_o, s1I_i, s2I_i, s1L_l, s2L_l, s1R_r, s1R_n, s1R_o, s1A_a, cmpc, popn, swt, rf_s, rf_n, cat_i, cat_r, cat_n, cat_l, true_and, and_true, List.length_cons, List.length_nil, Nat.zero_add, Int.reduceToNat, Nat.reduceAdd, Nat.reduceDiv, Nat.reduceMod, Nat.reduceMul, Nat.reduceSub, Nat.reduceLeDiff, Nat.reduceLT, Nat.reduceEqDiff, ↓reduceIte, r_gr_wi, r_gl_wi, r_gk_wi, r_gn_wi, r_wi_eq, r_wi_ne, r_wi_nj, r_gi_wr, r_gl_wr, r_gk_wr, r_gn_wr, r_gr_wa, r_gl_wa, r_gk_wa, r_gn_wa, aa_e, as_e, al_e, u_lt, u_le, u_gt, u_ge, u_lt0, u_le0, u_gt0, u_ge0, Classical.not_not, not_true_eq_false, not_false_eq_true, oi_n, oi_m, n_dec, nI_add, pk_mul, n_sub, n_eq, n_le, n_lt, n_eq0, n_lt0, n_le0, n_0lt, n_0le, n_eqm, m_eqn, n_ltm, n_and, n_or, n_xor, n_shl, n_shr, tb1, tb0, bP_1, bP_0, bP_n0, ix_n, inb_n, u_eq, u_eqm]
  refine wcv (c_Ar_fill (N := 8) (by omega) (by exact hA) (by omega)) ⟨by omega, by omega⟩ ?_
  simp (maxSteps := 1000000) (disch := omega) only [slk, List.map_cons, List.map_nil, List.sum_cons, List.sum_nil, vc_i, vc_r, vc_n, vc_l, vc_o, Nat.add_zero, kO_e, kA_e, hdO_a, eq_self, blk, stp, lg, ls0, lk, ls1, ls2, kI_i, kL_l, kR_r, kR_n, kR_o, s1I_i, s2I_i, s1L_l, s2L_l, s1R_r, s1R_n, s1R_o, s1A_a, cmpc, popn, swt, rf_s, rf_n, cat_i, cat_r, cat_n, cat_l, true_and, and_true, List.length_cons, List.length_nil, Nat.zero_add, Int.reduceToNat, Nat.reduceAdd, Nat.reduceDiv, Nat.reduceMod, Nat.reduceMul, Nat.reduceSub, Nat.reduceLeDiff, Nat.reduceLT, Nat.reduceEqDiff, ↓reduceIte, r_gr_wi, r_gl_wi, r_gk_wi, r_gn_wi, r_wi_eq, r_wi_ne, r_wi_nj, r_gi_wr, r_gl_wr, r_gk_wr, r_gn_wr, r_gr_wa, r_gl_wa, r_gk_wa, r_gn_wa, aa_e, as_e, al_e, u_lt, u_le, u_gt, u_ge, u_lt0, u_le0, u_gt0, u_ge0, Classical.not_not, not_true_eq_false, not_false_eq_true, oi_n, oi_m, n_dec, nI_add, pk_mul, n_sub, n_eq, n_le, n_lt, n_eq0, n_lt0, n_le0, n_0lt, n_0le, n_eqm, m_eqn, n_ltm, n_and, n_or, n_xor, n_shl, n_shr, tb1, tb0, bP_1, bP_0, bP_n0, ix_n, inb_n, u_eq, u_eqm]
  refine loop (s 107 67) 0 _ (Nat.zero_add _) ((Fp.refl (fun a => a = A) h2).wa (a := A) rfl _) (fun e he => ?_)
  rw [r_gi_wa, if_pos rfl, if_pos he]
  rfl
theorem c_Pl_countOf (W : RH h s) {h2 : AH} (L : Lay h2) (h61 : s 107 61 = 4294967295) {bm : Nat → Nat} {e c : Nat} (he : e < s 107 18) (hc1 : c ≤ 1) (PL : PLC h2 s) (M : MTS h2 s bm (s 107 19)) (S : STD h2 s bm (s 107 19)) : Mz (d + 2) 189 [.ref 54, .int (nI e), .int (nI c)] h2 0 0 (Rt (nI (prN s e c (s 107 67))) h2) := by
  have b0 := rs_m W
  have b1 := rs_pr W
  have b2 := rs_e W
  refine mz_in (l := [some (.ref 54), some (.int (nI e)), some (.int (nI c)), none, none]) mk_Pl_countOf n_Pl_countOf rfl l_Pl_countOf rfl (Nat.le_of_ble_eq_true rfl) fun P hP => ?_
  have loop : ∀ n k, k + n = s 107 67 → P 5 [some (.ref 54), some (.int (nI e)), some (.int (nI c)), some (.int (nI (prN s e c k))), some (.int (nI k))] [] h2 0 0 := by
    intro n
    induction n using Nat.strongRecOn with
    | _ n ih =>
      intro k hk
      have pb := prN_b s e c k
      refine hP.1 _ _ s_Pl_countOf_5 _ _ _ _ _ ?_
      simp (maxSteps := 1000000) (disch := omega) only [g_Pl_countOf_5, slk, List.map_cons, List.map_nil, List.sum_cons, List.sum_nil, vc_i, vc_r, vc_n, vc_l, vc_o, Nat.add_zero, kO_e, kA_e, hdO_a, eq_self, blk, stp, lg, ls0, lk, ls1, ls2, kI_i, kL_l, kR_r, kR_n, kR_o, s1I_i, s2I_i, s1L_l, s2L_l, s1R_r, s1R_n, s1R_o, s1A_a, cmpc, popn, swt, rf_s, rf_n, cat_i, cat_r, cat_n, cat_l, true_and, and_true, List.length_cons, List.length_nil, Nat.zero_add, Int.reduceToNat, Nat.reduceAdd, Nat.reduceDiv, Nat.reduceMod, Nat.reduceMul, Nat.reduceSub, Nat.reduceLeDiff, Nat.reduceLT, Nat.reduceEqDiff, ↓reduceIte, r_gr_wi, r_gl_wi, r_gk_wi, r_gn_wi, r_wi_eq, r_wi_ne, r_wi_nj, r_gi_wr, r_gl_wr, r_gk_wr, r_gn_wr, r_gr_wa, r_gl_wa, r_gk_wa, r_gn_wa, aa_e, as_e, al_e, u_lt, u_le, u_gt, u_ge, u_lt0, u_le0, u_gt0, u_ge0, Classical.not_not, not_true_eq_false, not_false_eq_true, oi_n, oi_m, n_dec, nI_add, pk_mul, n_sub, n_eq, n_le, n_lt, n_eq0, n_lt0, n_le0, n_0lt, n_0le, n_eqm, m_eqn, n_ltm, n_and, n_or, n_xor, n_shl, n_shr, tb1, tb0, bP_1, bP_0, bP_n0, ix_n, inb_n, u_eq, u_eqm, k54 L, PL.1]
      refine ⟨fun hc => ?_, fun hc => ?_⟩
      · have e1 : k = s 107 67 := by omega
        subst e1
        refine hP.1 _ _ s_Pl_countOf_60 _ _ _ _ _ ?_
        simp (maxSteps := 1000000) (disch := omega) only [g_Pl_countOf_60, slk, List.map_cons, List.map_nil, List.sum_cons, List.sum_nil, vc_i, vc_r, vc_n, vc_l, vc_o, Nat.add_zero, kO_e, kA_e, hdO_a, eq_self, blk, stp, lg, ls0, lk, ls1, ls2, kI_i, kL_l, kR_r, kR_n, kR_o, s1I_i, s2I_i, s1L_l, s2L_l, s1R_r, s1R_n, s1R_o, s1A_a, cmpc, popn, swt, rf_s, rf_n, cat_i, cat_r, cat_n, cat_l, true_and, and_true, List.length_cons, List.length_nil, Nat.zero_add, Int.reduceToNat, Nat.reduceAdd, Nat.reduceDiv, Nat.reduceMod, Nat.reduceMul, Nat.reduceSub, Nat.reduceLeDiff, Nat.reduceLT, Nat.reduceEqDiff, ↓reduceIte, r_gr_wi, r_gl_wi, r_gk_wi, r_gn_wi, r_wi_eq, r_wi_ne, r_wi_nj, r_gi_wr, r_gl_wr, r_gk_wr, r_gn_wr, r_gr_wa, r_gl_wa, r_gk_wa, r_gn_wa, aa_e, as_e, al_e, u_lt, u_le, u_gt, u_ge, u_lt0, u_le0, u_gt0, u_ge0, Classical.not_not, not_true_eq_false, not_false_eq_true, oi_n, oi_m, n_dec, nI_add, pk_mul, n_sub, n_eq, n_le, n_lt, n_eq0, n_lt0, n_le0, n_0lt, n_0le, n_eqm, m_eqn, n_ltm, n_and, n_or, n_xor, n_shl, n_shr, tb1, tb0, bP_1, bP_0, bP_n0, ix_n, inb_n, u_eq, u_eqm, PL.1]
        exact lfI r_Pl_countOf rfl rfl
      · have hk2 : k < s 107 67 := by omega
        have pk := PL.2 k hk2
        have rk := rs_prm W hk2
        have nx : ∀ y, y = prN s e c (k + 1) → P 54 [some (.ref 54), some (.int (nI e)), some (.int (nI c)), some (.int (nI y)), some (.int (nI k))] [] h2 0 0 := by
          intro y ey
          refine hP.1 _ _ s_Pl_countOf_54 _ _ _ _ _ ?_
          simp (maxSteps := 1000000) (disch := omega) only [g_Pl_countOf_54, slk, List.map_cons, List.map_nil, List.sum_cons, List.sum_nil, vc_i, vc_r, vc_n, vc_l, vc_o, Nat.add_zero, kO_e, kA_e, hdO_a, eq_self, blk, stp, lg, ls0, lk, ls1, ls2, kI_i, kL_l, kR_r, kR_n, kR_o, s1I_i, s2I_i, s1L_l, s2L_l, s1R_r, s1R_n, s1R_o, s1A_a, cmpc, popn, swt, rf_s, rf_n, cat_i, cat_r, cat_n, cat_l, true_and, and_true, List.length_cons, List.length_nil, Nat.zero_add, Int.reduceToNat, Nat.reduceAdd, Nat.reduceDiv, Nat.reduceMod, Nat.reduceMul, Nat.reduceSub, Nat.reduceLeDiff, Nat.reduceLT, Nat.reduceEqDiff, ↓reduceIte, r_gr_wi, r_gl_wi, r_gk_wi, r_gn_wi, r_wi_eq, r_wi_ne, r_wi_nj, r_gi_wr, r_gl_wr, r_gk_wr, r_gn_wr, r_gr_wa, r_gl_wa, r_gk_wa, r_gn_wa, aa_e, as_e, al_e, u_lt, u_le, u_gt, u_ge, u_lt0, u_le0, u_gt0, u_ge0, Classical.not_not, not_true_eq_false, not_false_eq_true, oi_n, oi_m, n_dec, nI_add, pk_mul, n_sub, n_eq, n_le, n_lt, n_eq0, n_lt0, n_le0, n_0lt, n_0le, n_eqm, m_eqn, n_ltm, n_and, n_or, n_xor, n_shl, n_shr, tb1, tb0, bP_1, bP_0, bP_n0, ix_n, inb_n, u_eq, u_eqm, PL.1]
          rw [ey]
          exact ih (n - 1) (by omega) (k + 1) (by omega)
        have jm := rk.2.2.1
        have MJ := M _ jm
        have SJ := S _ jm
        have e45 := tOf_r L (j := s 146 k) (by omega)
        have TT := tOf_T (j := s 146 k) (by omega)
        have kp : kpP s (edL s) (rsL s) k = ((tkE s (s 146 k)).2 = 0 ∧ wyN (s 112 (s 146 k)) (tkD s (s 146 k)).2.1 (s 147 k) = s 148 k) := by
          unfold kpP edL rsL
          by_cases q : s 146 k = s 107 19 - 1
          · rw [if_pos q, if_pos q, ← q]
          · rw [if_neg q, if_neg q, (eb_lt h61 _ _ (by omega)).1, (eb_lt h61 _ _ (by omega)).2]
        refine hP.1 _ _ s_Pl_countOf_14 _ _ _ _ _ ?_
        simp (maxSteps := 1000000) (disch := omega) only [g_Pl_countOf_14, slk, List.map_cons, List.map_nil, List.sum_cons, List.sum_nil, vc_i, vc_r, vc_n, vc_l, vc_o, Nat.add_zero, kO_e, kA_e, hdO_a, eq_self, blk, stp, lg, ls0, lk, ls1, ls2, kI_i, kL_l, kR_r, kR_n, kR_o, s1I_i, s2I_i, s1L_l, s2L_l, s1R_r, s1R_n, s1R_o, s1A_a, cmpc, popn, swt, rf_s, rf_n, cat_i, cat_r, cat_n, cat_l, true_and, and_true, List.length_cons, List.length_nil, Nat.zero_add, Int.reduceToNat, Nat.reduceAdd, Nat.reduceDiv, Nat.reduceMod, Nat.reduceMul, Nat.reduceSub, Nat.reduceLeDiff, Nat.reduceLT, Nat.reduceEqDiff, ↓reduceIte, r_gr_wi, r_gl_wi, r_gk_wi, r_gn_wi, r_wi_eq, r_wi_ne, r_wi_nj, r_gi_wr, r_gl_wr, r_gk_wr, r_gn_wr, r_gr_wa, r_gl_wa, r_gk_wa, r_gn_wa, aa_e, as_e, al_e, u_lt, u_le, u_gt, u_ge, u_lt0, u_le0, u_gt0, u_ge0, Classical.not_not, not_true_eq_false, not_false_eq_true, oi_n, oi_m, n_dec, nI_add, pk_mul, n_sub, n_eq, n_le, n_lt, n_eq0, n_lt0, n_le0, n_0lt, n_0le, n_eqm, m_eqn, n_ltm, n_and, n_or, n_xor, n_shl, n_shr, tb1, tb0, bP_1, bP_0, bP_n0, ix_n, inb_n, u_eq, u_eqm, k54 L, f54_1 L, k55 L, PL.1, pk.1, pk.2.2.1, pk.2.2.2, e45, (ta_k L TT).1]
        refine ⟨fun q => nx _ (prN_f (fun z => q z.1)).symm, fun q => ?_⟩
        refine hP.1 _ _ s_Pl_countOf_25 _ _ _ _ _ ?_
        simp (maxSteps := 1000000) (disch := omega) only [g_Pl_countOf_25, slk, List.map_cons, List.map_nil, List.sum_cons, List.sum_nil, vc_i, vc_r, vc_n, vc_l, vc_o, Nat.add_zero, kO_e, kA_e, hdO_a, eq_self, blk, stp, lg, ls0, lk, ls1, ls2, kI_i, kL_l, kR_r, kR_n, kR_o, s1I_i, s2I_i, s1L_l, s2L_l, s1R_r, s1R_n, s1R_o, s1A_a, cmpc, popn, swt, rf_s, rf_n, cat_i, cat_r, cat_n, cat_l, true_and, and_true, List.length_cons, List.length_nil, Nat.zero_add, Int.reduceToNat, Nat.reduceAdd, Nat.reduceDiv, Nat.reduceMod, Nat.reduceMul, Nat.reduceSub, Nat.reduceLeDiff, Nat.reduceLT, Nat.reduceEqDiff, ↓reduceIte, r_gr_wi, r_gl_wi, r_gk_wi, r_gn_wi, r_wi_eq, r_wi_ne, r_wi_nj, r_gi_wr, r_gl_wr, r_gk_wr, r_gn_wr, r_gr_wa, r_gl_wa, r_gk_wa, r_gn_wa, aa_e, as_e, al_e, u_lt, u_le, u_gt, u_ge, u_lt0, u_le0, u_gt0, u_ge0, Classical.not_not, not_true_eq_false, not_false_eq_true, oi_n, oi_m, n_dec, nI_add, pk_mul, n_sub, n_eq, n_le, n_lt, n_eq0, n_lt0, n_le0, n_0lt, n_0le, n_eqm, m_eqn, n_ltm, n_and, n_or, n_xor, n_shl, n_shr, tb1, tb0, bP_1, bP_0, bP_n0, ix_n, inb_n, u_eq, u_eqm, k54 L, f54_0 L, k45 L, f54_3 L, k57 L, f54_4 L, k58 L, PL.1, pk.1, pk.2.2.1, pk.2.2.2, e45, (ta_k L TT).1]
        refine wc (c_Ta_restsWith (d := d) W L TT jm MJ.1 MJ.2 SJ rk.2.2.2.1 (w := s 148 k) (by have := rs_p W jm; omega)) ⟨by omega, by omega⟩ ?_
        simp (maxSteps := 1000000) (disch := omega) only [slk, List.map_cons, List.map_nil, List.sum_cons, List.sum_nil, vc_i, vc_r, vc_n, vc_l, vc_o, Nat.add_zero, kO_e, kA_e, hdO_a, eq_self, blk, stp, lg, ls0, lk, ls1, ls2, kI_i, kL_l, kR_r, kR_n, kR_o, s1I_i, s2I_i, s1L_l, s2L_l, s1R_r, s1R_n, s1R_o, s1A_a, cmpc, popn, swt, rf_s, rf_n, cat_i, cat_r, cat_n, cat_l, true_and, and_true, List.length_cons, List.length_nil, Nat.zero_add, Int.reduceToNat, Nat.reduceAdd, Nat.reduceDiv, Nat.reduceMod, Nat.reduceMul, Nat.reduceSub, Nat.reduceLeDiff, Nat.reduceLT, Nat.reduceEqDiff, ↓reduceIte, r_gr_wi, r_gl_wi, r_gk_wi, r_gn_wi, r_wi_eq, r_wi_ne, r_wi_nj, r_gi_wr, r_gl_wr, r_gk_wr, r_gn_wr, r_gr_wa, r_gl_wa, r_gk_wa, r_gn_wa, aa_e, as_e, al_e, u_lt, u_le, u_gt, u_ge, u_lt0, u_le0, u_gt0, u_ge0, Classical.not_not, not_true_eq_false, not_false_eq_true, oi_n, oi_m, n_dec, nI_add, pk_mul, n_sub, n_eq, n_le, n_lt, n_eq0, n_lt0, n_le0, n_0lt, n_0le, n_eqm, m_eqn, n_ltm, n_and, n_or, n_xor, n_shl, n_shr, tb1, tb0, bP_1, bP_0, bP_n0, ix_n, inb_n, u_eq, u_eqm, k54 L, f54_0 L, k45 L, f54_3 L, k57 L, f54_4 L, k58 L, PL.1, pk.1, pk.2.2.1, pk.2.2.2, e45, (ta_k L TT).1]
        have qe : s 144 k = e := by
          first | exact q | exact Classical.byContradiction fun z => q z
        refine ⟨fun q2 => nx _ (prN_f (fun z => q2 (by have := z.2; rw [kp] at this; exact this))).symm, fun q2 => ?_⟩
        refine hP.1 _ _ s_Pl_countOf_51 _ _ _ _ _ ?_
        simp (maxSteps := 1000000) (disch := omega) only [g_Pl_countOf_51, slk, List.map_cons, List.map_nil, List.sum_cons, List.sum_nil, vc_i, vc_r, vc_n, vc_l, vc_o, Nat.add_zero, kO_e, kA_e, hdO_a, eq_self, blk, stp, lg, ls0, lk, ls1, ls2, kI_i, kL_l, kR_r, kR_n, kR_o, s1I_i, s2I_i, s1L_l, s2L_l, s1R_r, s1R_n, s1R_o, s1A_a, cmpc, popn, swt, rf_s, rf_n, cat_i, cat_r, cat_n, cat_l, true_and, and_true, List.length_cons, List.length_nil, Nat.zero_add, Int.reduceToNat, Nat.reduceAdd, Nat.reduceDiv, Nat.reduceMod, Nat.reduceMul, Nat.reduceSub, Nat.reduceLeDiff, Nat.reduceLT, Nat.reduceEqDiff, ↓reduceIte, r_gr_wi, r_gl_wi, r_gk_wi, r_gn_wi, r_wi_eq, r_wi_ne, r_wi_nj, r_gi_wr, r_gl_wr, r_gk_wr, r_gn_wr, r_gr_wa, r_gl_wa, r_gk_wa, r_gn_wa, aa_e, as_e, al_e, u_lt, u_le, u_gt, u_ge, u_lt0, u_le0, u_gt0, u_ge0, Classical.not_not, not_true_eq_false, not_false_eq_true, oi_n, oi_m, n_dec, nI_add, pk_mul, n_sub, n_eq, n_le, n_lt, n_eq0, n_lt0, n_le0, n_0lt, n_0le, n_eqm, m_eqn, n_ltm, n_and, n_or, n_xor, n_shl, n_shr, tb1, tb0, bP_1, bP_0, bP_n0, ix_n, inb_n, u_eq, u_eqm, PL.1, pk.1, pk.2.2.1, pk.2.2.2, e45, (ta_k L TT).1]
        refine nx _ (prN_t ⟨qe, ?_⟩).symm
        rw [kp]
        first | exact q2 | exact Classical.not_not.mp q2
  refine hP.1 _ _ s_Pl_countOf_0 _ _ _ _ _ ?_
  simp (maxSteps := 1000000) (disch := omega) only [g_Pl_countOf_0, slk, List.map_cons, List.map_nil, List.sum_cons, List.sum_nil, vc_i, vc_r, vc_n, vc_l, vc_o, Nat.add_zero, kO_e, kA_e, hdO_a, eq_self, blk, stp, lg, ls0, lk, ls1, ls2, kI_i, kL_l, kR_r, kR_n, kR_o, s1I_i, s2I_i, s1L_l, s2L_l, s1R_r, s1R_n, s1R_o, s1A_a, cmpc, popn, swt, rf_s, rf_n, cat_i, cat_r, cat_n, cat_l, true_and, and_true, List.length_cons, List.length_nil, Nat.zero_add, Int.reduceToNat, Nat.reduceAdd, Nat.reduceDiv, Nat.reduceMod, Nat.reduceMul, Nat.reduceSub, Nat.reduceLeDiff, Nat.reduceLT, Nat.reduceEqDiff, ↓reduceIte, r_gr_wi, r_gl_wi, r_gk_wi, r_gn_wi, r_wi_eq, r_wi_ne, r_wi_nj, r_gi_wr, r_gl_wr, r_gk_wr, r_gn_wr, r_gr_wa, r_gl_wa, r_gk_wa, r_gn_wa, aa_e, as_e, al_e, u_lt, u_le, u_gt, u_ge, u_lt0, u_le0, u_gt0, u_ge0, Classical.not_not, not_true_eq_false, not_false_eq_true, oi_n, oi_m, n_dec, nI_add, pk_mul, n_sub, n_eq, n_le, n_lt, n_eq0, n_lt0, n_le0, n_0lt, n_0le, n_eqm, m_eqn, n_ltm, n_and, n_or, n_xor, n_shl, n_shr, tb1, tb0, bP_1, bP_0, bP_n0, ix_n, inb_n, u_eq, u_eqm, PL.1]
  exact loop _ 0 (Nat.zero_add _)
end
