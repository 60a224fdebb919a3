/-! ===== the law, from its entry ===== -/
theorem gn_h00 (L : Nat) (xs : Nat → Int32) : gn (h00 L xs) = 20 := rfl
theorem law_ok : LawOK := by
  refine ⟨60, by decide, fun N xs hN P hP => ?_⟩
  show P 0 [some (.ref 19), none, none, none, none, none, none] [] (h00 N xs) 0 0
  obtain ⟨h, eh⟩ : ∃ J, J = al (h00 N xs) (.inl 11) := ⟨_, rfl⟩
  have A := r_al_k (h00 N xs) (.inl 11) (gn_h00 N xs)
  rw [← eh] at A
  refine hP.1 _ _ s_L_law_0 _ _ _ _ _ ?_
  simp (maxSteps := 1000000) (disch := omega) only [g_L_law_0, slk, List.map_cons, List.map_nil, List.sum_cons, List.sum_nil, vc_i, vc_r, vc_n, vc_l, vc_o, Nat.add_zero, kO_e, kA_e, hdO_a, eq_self, blk, stp, lg, ls0, lk, ls1, ls2, kI_i, kL_l, kR_r, kR_n, kR_o, s1I_i, s2I_i, s1L_l, s2L_l, s1R_r, s1R_n, s1R_o, s1A_a, cmpc, popn, swt, rf_s, rf_n, cat_i, cat_r, cat_n, cat_l, true_and, and_true, List.length_cons, List.length_nil, Nat.zero_add, Int.reduceToNat, Nat.reduceAdd, Nat.reduceDiv, Nat.reduceMod, Nat.reduceMul, Nat.reduceSub, Nat.reduceLeDiff, Nat.reduceLT, Nat.reduceEqDiff, ↓reduceIte, r_gr_wi, r_gl_wi, r_gk_wi, r_gn_wi, r_wi_eq, r_wi_ne, r_wi_nj, r_gi_wr, r_gl_wr, r_gk_wr, r_gn_wr, r_gr_wa, r_gl_wa, r_gk_wa, r_gn_wa, aa_e, as_e, al_e, u_lt, u_le, u_gt, u_ge, u_lt0, u_le0, u_gt0, u_ge0, Classical.not_not, not_true_eq_false, not_false_eq_true, oi_n, oi_m, n_dec, nI_add, pk_mul, n_sub, n_eq, n_le, n_lt, n_eq0, n_lt0, n_le0, n_0lt, n_0le, n_eqm, m_eqn, n_ltm, n_and, n_or, n_xor, n_shl, n_shr, tb1, tb0, bP_1, bP_0, bP_n0, ix_n, inb_n, u_eq, u_eqm, gn_h00, nfc, ← eh, A.2.1]
  refine ⟨_, _, _, c_T_init (d := 58) A.1 A.2.1 A.2.2.1, ⟨by omega, by omega⟩, ?_⟩
  rintro r HT ⟨rfl, T⟩
  obtain ⟨H0, e0⟩ : ∃ J, J = al HT (.inl 12) := ⟨_, rfl⟩
  have B := r_al_k HT (.inl 12) T.1
  rw [← e0] at B
  simp (maxSteps := 1000000) (disch := omega) only [slk, List.map_cons, List.map_nil, List.sum_cons, List.sum_nil, vc_i, vc_r, vc_n, vc_l, vc_o, Nat.add_zero, kO_e, kA_e, hdO_a, eq_self, blk, stp, lg, ls0, lk, ls1, ls2, kI_i, kL_l, kR_r, kR_n, kR_o, s1I_i, s2I_i, s1L_l, s2L_l, s1R_r, s1R_n, s1R_o, s1A_a, cmpc, popn, swt, rf_s, rf_n, cat_i, cat_r, cat_n, cat_l, true_and, and_true, List.length_cons, List.length_nil, Nat.zero_add, Int.reduceToNat, Nat.reduceAdd, Nat.reduceDiv, Nat.reduceMod, Nat.reduceMul, Nat.reduceSub, Nat.reduceLeDiff, Nat.reduceLT, Nat.reduceEqDiff, ↓reduceIte, r_gr_wi, r_gl_wi, r_gk_wi, r_gn_wi, r_wi_eq, r_wi_ne, r_wi_nj, r_gi_wr, r_gl_wr, r_gk_wr, r_gn_wr, r_gr_wa, r_gl_wa, r_gk_wa, r_gn_wa, aa_e, as_e, al_e, u_lt, u_le, u_gt, u_ge, u_lt0, u_le0, u_gt0, u_ge0, Classical.not_not, not_true_eq_false, not_false_eq_true, oi_n, oi_m, n_dec, nI_add, pk_mul, n_sub, n_eq, n_le, n_lt, n_eq0, n_lt0, n_le0, n_0lt, n_0le, n_eqm, m_eqn, n_ltm, n_and, n_or, n_xor, n_shl, n_shr, tb1, tb0, bP_1, bP_0, bP_n0, ix_n, inb_n, u_eq, u_eqm, T.1, nfc, ← e0, B.2.1]
  refine ⟨_, _, _, c_R_init (d := 59) B.1 B.2.1 B.2.2.1, ⟨by omega, by omega⟩, ?_⟩
  rintro r HR ⟨rfl, R⟩
  obtain ⟨H, eH⟩ : ∃ J, J = al HR (.inr (3, 1)) := ⟨_, rfl⟩
  have D := r_al_k HR (.inr (3, 1)) (n := 164) R.1
  rw [← eH] at D
  simp (maxSteps := 1000000) (disch := omega) only [slk, List.map_cons, List.map_nil, List.sum_cons, List.sum_nil, vc_i, vc_r, vc_n, vc_l, vc_o, Nat.add_zero, kO_e, kA_e, hdO_a, eq_self, blk, stp, lg, ls0, lk, ls1, ls2, kI_i, kL_l, kR_r, kR_n, kR_o, s1I_i, s2I_i, s1L_l, s2L_l, s1R_r, s1R_n, s1R_o, s1A_a, cmpc, popn, swt, rf_s, rf_n, cat_i, cat_r, cat_n, cat_l, true_and, and_true, List.length_cons, List.length_nil, Nat.zero_add, Int.reduceToNat, Nat.reduceAdd, Nat.reduceDiv, Nat.reduceMod, Nat.reduceMul, Nat.reduceSub, Nat.reduceLeDiff, Nat.reduceLT, Nat.reduceEqDiff, ↓reduceIte, r_gr_wi, r_gl_wi, r_gk_wi, r_gn_wi, r_wi_eq, r_wi_ne, r_wi_nj, r_gi_wr, r_gl_wr, r_gk_wr, r_gn_wr, r_gr_wa, r_gl_wa, r_gk_wa, r_gn_wa, aa_e, as_e, al_e, u_lt, u_le, u_gt, u_ge, u_lt0, u_le0, u_gt0, u_ge0, Classical.not_not, not_true_eq_false, not_false_eq_true, oi_n, oi_m, n_dec, nI_add, pk_mul, n_sub, n_eq, n_le, n_lt, n_eq0, n_lt0, n_le0, n_0lt, n_0le, n_eqm, m_eqn, n_ltm, n_and, n_or, n_xor, n_shl, n_shr, tb1, tb0, bP_1, bP_0, bP_n0, ix_n, inb_n, u_eq, u_eqm, R.1, aty, ← eH, D.2.1]
  have W := (rh_st0 T e0 R eH).1
  have S := sk_st0 eh T e0 R eH
  have J := ci_st0 T e0 R eH
  have K : SK H := by
    intro i hi
    obtain ⟨k1, k2, k3, k4, k5⟩ := sk_h00 N xs i hi
    have o : ∀ a, a < 20 → gk H a = gk (h00 N xs) a ∧ gi H a = gi (h00 N xs) a ∧ gr H a = gr (h00 N xs) a := fun a ha => ⟨(S a ha).1, (S a ha).2.1, (S a ha).2.2.1⟩
    exact ⟨by rw [(o _ (by omega)).1]; exact k1, by rw [(o _ (by omega)).1]; exact k2, by rw [(o _ (by omega)).2.2]; exact k3, by rw [(o _ (by omega)).2.1]; exact k4, fun j hj => by rw [(o _ (by omega)).2.1]; exact k5 j hj⟩
  have I : INV N xs H st0 := ⟨⟨W, K, _, _, J⟩, (S 19 (by decide)).1, (S 19 (by decide)).2.1, D.2.1, Nat.le_of_eq D.1.symm⟩
  exact law_loop hP hN 513 0 H st0 _ _ _ _ (by omega) (by omega) (fun _ => rfl) I (by omega) (by omega)
