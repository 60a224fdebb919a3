/-! ===== the class: who gains by holding back ===== -/
theorem n_T_back : mN 37 = 4 := rfl
theorem l_T_back : mL 37 = 9 := rfl
theorem r_T_back : mR 37 = some .int := rfl
theorem n_T_gainByHidingOf : mN 46 = 4 := rfl
theorem l_T_gainByHidingOf : mL 46 = 6 := rfl
theorem r_T_gainByHidingOf : mR 46 = some .int := rfl
noncomputable def gnV (s : St) (e m p w : Nat) : Int32 := ifO ((tkE s m).2 = 0 ∧ ¬ lossN s e m (tkD s m).2.1 = 0) (ifO ((tkE (holdS s e m p w 0) m).2 = 0) (nI (lossN s e m (tkD s m).2.1) - nI (lossN s e m (tkD (holdS s e m p w 0) m).2.1)) (nI 0)) (nI 0)
noncomputable def gnN (s : St) (e m p w : Nat) : Nat := ifO ((tkE s m).2 = 0) (bkG s e m (lossN s e m (tkD s m).2.1) p w) 0
theorem gn_cmp {h : AH} {s : St} (W : RH h s) {e m p w k : Nat} (hm : m < s 107 19) (hk : k < 1000) : ((nI k < gnV s e m p w) ↔ k < gnN s e m p w) ∧ (k < gnN s e m p w → gnV s e m p w = nI (gnN s e m p w)) := by
  have l1 := lossN_le W hm (e := e) (x := (tkD s m).2.1)
  have l2 := lossN_le W hm (e := e) (x := (tkD (holdS s e m p w 0) m).2.1)
  have z0 : (nI k < nI 0) ↔ k < 0 := iff_of_eq (n_lt (by omega) (by omega))
  unfold gnV gnN
  by_cases q : (tkE s m).2 = 0
  · rw [ifO_t q]
    unfold bkG
    by_cases q2 : lossN s e m (tkD s m).2.1 = 0
    · rw [ifO_f (fun z => z.2 q2), q2]
      by_cases q3 : (tkE (holdS s e m p w 0) m).2 = 0
      · rw [if_pos q3]
        exact ⟨z0.trans ⟨fun z => by omega, fun z => by omega⟩, fun z => by omega⟩
      · rw [if_neg q3]
        exact ⟨z0, fun z => by omega⟩
    · rw [ifO_t ⟨q, q2⟩]
      by_cases q3 : (tkE (holdS s e m p w 0) m).2 = 0
      · rw [ifO_t q3, if_pos q3]
        have c := lt_sub (a := lossN s e m (tkD s m).2.1) (b := lossN s e m (tkD (holdS s e m p w 0) m).2.1) (c := k) (by omega) (by omega) (by omega)
        refine ⟨(iff_of_eq c).trans ⟨fun z => by omega, fun z => by omega⟩, fun z => n_sub (by omega)⟩
      · rw [ifO_f q3, if_neg q3]
        exact ⟨z0, fun z => by omega⟩
  · rw [ifO_f (fun z => q z.1), ifO_f q]
    exact ⟨z0, fun z => by omega⟩
def PGn (h : AH) (s : St) (bm : Nat → Nat) (c : Nat) (v : Int32) (r : Option (Option Value)) (h' : AH) : Prop := r = some (some (.int v)) ∧ FrC h h' ∧ CI h' s bm c
section
variable {h : AH} {s : St} {d c : Nat} {bm : Nat → Nat}
theorem c_T_gain (W : RH h s) {H : AH} (J : CI H s bm c) {e m p w : Nat} (he : e < s 107 18) (hm : m < s 107 19) (hmc : m < c) (hp : p < s 112 m) (hw : w < s 113 m) (h1 : s 114 (((4 * e + m) * 5 + p) * 4 + w) = 1) : Mz (d + 6) 46 [.ref 20, .int (nI e), .int (nI m), .int (nI (4 * p + w))] H 0 0 (PGn H s bm c (gnV s e m p w)) := by
  have b0 := rs_m W
  have b1 := rs_e W
  have b4 := rs_p W hm
  have b5 := sh_1024 b4.2.1
  have L := ci_L J
  have g := L.2.2
  have pu := ci_pu J
  have mm := ci_m J m hm
  have M := mm.2.1
  have V := mm.2.2.1
  have bb := ci_b J hm
  have hT := tOf_T (j := m) (by omega)
  have S := ci_st J m hmc
  have e45 := tOf_r L (j := m) (by omega)
  have t := tk_b W hm
  have g1 := t.2.2.2.1.1
  have sl := V.2.1 _ t.2.2.2.1.1
  have slb := sl_lt b4.2.1 (s 113 m) (tkD s m).2.1
  have ll := lossN_le W hm (e := e) (x := (tkD s m).2.1)
  have hC0 : holdC s e m p w 0 := ⟨he, ⟨hm, hp, hw⟩, by omega⟩
  obtain ⟨h', W'⟩ := rh_of L (rs_hold W.2.2 hC0)
  have ab : AgB s (holdS s e m p w 0) m := fun i hi => ⟨ag_hold W (by omega) (by omega) (by omega) (by omega) (by omega), by have := rs_p W (m := i) (by omega); omega, by have := rs_p W (m := i) (by omega); omega⟩
  have eBB := ag_eB ab
  have back := hb_back h1
  have hC1 : holdC (holdS s e m p w 0) e m p w 1 := ⟨he, ⟨hm, hp, hw⟩, by omega⟩
  have back2 : holdS (holdS s e m p w 0) e m p w 1 = s := back
  refine mz_in (l := [some (.ref 20), some (.int (nI e)), some (.int (nI m)), some (.int (nI (4 * p + w))), none, none]) mk_T_gainByHidingOf n_T_gainByHidingOf rfl l_T_gainByHidingOf rfl (Nat.le_of_ble_eq_true rfl) fun P hP => ?_
  refine hP.1 _ _ s_T_gainByHidingOf_0 _ _ _ _ _ ?_
  simp (maxSteps := 1000000) (disch := omega) only [g_T_gainByHidingOf_0, slk, List.map_cons, List.map_nil, List.sum_cons, List.sum_nil, vc_i, vc_r, vc_n, vc_l, vc_o, Nat.add_zero, kO_e, kA_e, hdO_a, eq_self, blk, stp, lg, ls0, lk, ls1, ls2, kI_i, kL_l, kR_r, kR_n, kR_o, s1I_i, s2I_i, s1L_l, s2L_l, s1R_r, s1R_n, s1R_o, s1A_a, cmpc, popn, swt, rf_s, rf_n, cat_i, cat_r, cat_n, cat_l, true_and, and_true, List.length_cons, List.length_nil, Nat.zero_add, Int.reduceToNat, Nat.reduceAdd, Nat.reduceDiv, Nat.reduceMod, Nat.reduceMul, Nat.reduceSub, Nat.reduceLeDiff, Nat.reduceLT, Nat.reduceEqDiff, ↓reduceIte, r_gr_wi, r_gl_wi, r_gk_wi, r_gn_wi, r_wi_eq, r_wi_ne, r_wi_nj, r_gi_wr, r_gl_wr, r_gk_wr, r_gn_wr, r_gr_wa, r_gl_wa, r_gk_wa, r_gn_wa, aa_e, as_e, al_e, u_lt, u_le, u_gt, u_ge, u_lt0, u_le0, u_gt0, u_ge0, Classical.not_not, not_true_eq_false, not_false_eq_true, oi_n, oi_m, n_dec, nI_add, pk_mul, n_sub, n_eq, n_le, n_lt, n_eq0, n_lt0, n_le0, n_0lt, n_0le, n_eqm, m_eqn, n_ltm, n_and, n_or, n_xor, n_shl, n_shr, tb1, tb0, bP_1, bP_0, bP_n0, ix_n, inb_n, u_eq, u_eqm, k20 L, ma_k M, ma_k14 M, ma_r2 M, e45, (ta_k L hT).1, S.2.1, S.2.2.1.1.2.1, sl]
  refine wcf (c_T_matterAt W J hm) ⟨by omega, by omega⟩ ?_
  simp (maxSteps := 1000000) (disch := omega) only [slk, List.map_cons, List.map_nil, List.sum_cons, List.sum_nil, vc_i, vc_r, vc_n, vc_l, vc_o, Nat.add_zero, kO_e, kA_e, hdO_a, eq_self, blk, stp, lg, ls0, lk, ls1, ls2, kI_i, kL_l, kR_r, kR_n, kR_o, s1I_i, s2I_i, s1L_l, s2L_l, s1R_r, s1R_n, s1R_o, s1A_a, cmpc, popn, swt, rf_s, rf_n, cat_i, cat_r, cat_n, cat_l, true_and, and_true, List.length_cons, List.length_nil, Nat.zero_add, Int.reduceToNat, Nat.reduceAdd, Nat.reduceDiv, Nat.reduceMod, Nat.reduceMul, Nat.reduceSub, Nat.reduceLeDiff, Nat.reduceLT, Nat.reduceEqDiff, ↓reduceIte, r_gr_wi, r_gl_wi, r_gk_wi, r_gn_wi, r_wi_eq, r_wi_ne, r_wi_nj, r_gi_wr, r_gl_wr, r_gk_wr, r_gn_wr, r_gr_wa, r_gl_wa, r_gk_wa, r_gn_wa, aa_e, as_e, al_e, u_lt, u_le, u_gt, u_ge, u_lt0, u_le0, u_gt0, u_ge0, Classical.not_not, not_true_eq_false, not_false_eq_true, oi_n, oi_m, n_dec, nI_add, pk_mul, n_sub, n_eq, n_le, n_lt, n_eq0, n_lt0, n_le0, n_0lt, n_0le, n_eqm, m_eqn, n_ltm, n_and, n_or, n_xor, n_shl, n_shr, tb1, tb0, bP_1, bP_0, bP_n0, ix_n, inb_n, u_eq, u_eqm, k20 L, ma_k M, ma_k14 M, ma_r2 M, e45, (ta_k L hT).1, S.2.1, S.2.2.1.1.2.1, sl]
  refine ⟨fun z => (by first | exact z.elim | cases z | exact absurd rfl z | exact absurd trivial z | exact absurd id z | (exfalso; omega)), fun _ => ?_⟩
  refine hP.1 _ _ s_T_gainByHidingOf_12 _ _ _ _ _ ?_
  simp (maxSteps := 1000000) (disch := omega) only [g_T_gainByHidingOf_12, slk, List.map_cons, List.map_nil, List.sum_cons, List.sum_nil, vc_i, vc_r, vc_n, vc_l, vc_o, Nat.add_zero, kO_e, kA_e, hdO_a, eq_self, blk, stp, lg, ls0, lk, ls1, ls2, kI_i, kL_l, kR_r, kR_n, kR_o, s1I_i, s2I_i, s1L_l, s2L_l, s1R_r, s1R_n, s1R_o, s1A_a, cmpc, popn, swt, rf_s, rf_n, cat_i, cat_r, cat_n, cat_l, true_and, and_true, List.length_cons, List.length_nil, Nat.zero_add, Int.reduceToNat, Nat.reduceAdd, Nat.reduceDiv, Nat.reduceMod, Nat.reduceMul, Nat.reduceSub, Nat.reduceLeDiff, Nat.reduceLT, Nat.reduceEqDiff, ↓reduceIte, r_gr_wi, r_gl_wi, r_gk_wi, r_gn_wi, r_wi_eq, r_wi_ne, r_wi_nj, r_gi_wr, r_gl_wr, r_gk_wr, r_gn_wr, r_gr_wa, r_gl_wa, r_gk_wa, r_gn_wa, aa_e, as_e, al_e, u_lt, u_le, u_gt, u_ge, u_lt0, u_le0, u_gt0, u_ge0, Classical.not_not, not_true_eq_false, not_false_eq_true, oi_n, oi_m, n_dec, nI_add, pk_mul, n_sub, n_eq, n_le, n_lt, n_eq0, n_lt0, n_le0, n_0lt, n_0le, n_eqm, m_eqn, n_ltm, n_and, n_or, n_xor, n_shl, n_shr, tb1, tb0, bP_1, bP_0, bP_n0, ix_n, inb_n, u_eq, u_eqm, k20 L, f20_7 L, k45 L, ma_k M, ma_k14 M, ma_r2 M, e45, (ta_k L hT).1, S.2.1, S.2.2.1.1.2.1, sl]
  refine ⟨fun z => ?_, fun z => ?_⟩
  · have q : (tkE s m).2 = 0 := by first | exact z | omega
    refine hP.1 _ _ s_T_gainByHidingOf_26 _ _ _ _ _ ?_
    simp (maxSteps := 1000000) (disch := omega) only [g_T_gainByHidingOf_26, slk, List.map_cons, List.map_nil, List.sum_cons, List.sum_nil, vc_i, vc_r, vc_n, vc_l, vc_o, Nat.add_zero, kO_e, kA_e, hdO_a, eq_self, blk, stp, lg, ls0, lk, ls1, ls2, kI_i, kL_l, kR_r, kR_n, kR_o, s1I_i, s2I_i, s1L_l, s2L_l, s1R_r, s1R_n, s1R_o, s1A_a, cmpc, popn, swt, rf_s, rf_n, cat_i, cat_r, cat_n, cat_l, true_and, and_true, List.length_cons, List.length_nil, Nat.zero_add, Int.reduceToNat, Nat.reduceAdd, Nat.reduceDiv, Nat.reduceMod, Nat.reduceMul, Nat.reduceSub, Nat.reduceLeDiff, Nat.reduceLT, Nat.reduceEqDiff, ↓reduceIte, r_gr_wi, r_gl_wi, r_gk_wi, r_gn_wi, r_wi_eq, r_wi_ne, r_wi_nj, r_gi_wr, r_gl_wr, r_gk_wr, r_gn_wr, r_gr_wa, r_gl_wa, r_gk_wa, r_gn_wa, aa_e, as_e, al_e, u_lt, u_le, u_gt, u_ge, u_lt0, u_le0, u_gt0, u_ge0, Classical.not_not, not_true_eq_false, not_false_eq_true, oi_n, oi_m, n_dec, nI_add, pk_mul, n_sub, n_eq, n_le, n_lt, n_eq0, n_lt0, n_le0, n_0lt, n_0le, n_eqm, m_eqn, n_ltm, n_and, n_or, n_xor, n_shl, n_shr, tb1, tb0, bP_1, bP_0, bP_n0, ix_n, inb_n, u_eq, u_eqm, k20 L, f20_7 L, k45 L, ma_k M, ma_k14 M, ma_r2 M, e45, (ta_k L hT).1, S.2.1, S.2.2.1.1.2.1, sl]
    refine wc (c_Ma_lossOf W M V hm (e := e) (by omega) slb) ⟨by omega, by omega⟩ ?_
    simp (maxSteps := 1000000) (disch := omega) only [slk, List.map_cons, List.map_nil, List.sum_cons, List.sum_nil, vc_i, vc_r, vc_n, vc_l, vc_o, Nat.add_zero, kO_e, kA_e, hdO_a, eq_self, blk, stp, lg, ls0, lk, ls1, ls2, kI_i, kL_l, kR_r, kR_n, kR_o, s1I_i, s2I_i, s1L_l, s2L_l, s1R_r, s1R_n, s1R_o, s1A_a, cmpc, popn, swt, rf_s, rf_n, cat_i, cat_r, cat_n, cat_l, true_and, and_true, List.length_cons, List.length_nil, Nat.zero_add, Int.reduceToNat, Nat.reduceAdd, Nat.reduceDiv, Nat.reduceMod, Nat.reduceMul, Nat.reduceSub, Nat.reduceLeDiff, Nat.reduceLT, Nat.reduceEqDiff, ↓reduceIte, r_gr_wi, r_gl_wi, r_gk_wi, r_gn_wi, r_wi_eq, r_wi_ne, r_wi_nj, r_gi_wr, r_gl_wr, r_gk_wr, r_gn_wr, r_gr_wa, r_gl_wa, r_gk_wa, r_gn_wa, aa_e, as_e, al_e, u_lt, u_le, u_gt, u_ge, u_lt0, u_le0, u_gt0, u_ge0, Classical.not_not, not_true_eq_false, not_false_eq_true, oi_n, oi_m, n_dec, nI_add, pk_mul, n_sub, n_eq, n_le, n_lt, n_eq0, n_lt0, n_le0, n_0lt, n_0le, n_eqm, m_eqn, n_ltm, n_and, n_or, n_xor, n_shl, n_shr, tb1, tb0, bP_1, bP_0, bP_n0, ix_n, inb_n, u_eq, u_eqm, k20 L, f20_7 L, k45 L, ma_k M, ma_k14 M, ma_r2 M, e45, (ta_k L hT).1, S.2.1, S.2.2.1.1.2.1, sl]
    rw [la_loss W pu.1 he hm t.2.2.2.1]
    simp (maxSteps := 1000000) (disch := omega) only [slk, List.map_cons, List.map_nil, List.sum_cons, List.sum_nil, vc_i, vc_r, vc_n, vc_l, vc_o, Nat.add_zero, kO_e, kA_e, hdO_a, eq_self, blk, stp, lg, ls0, lk, ls1, ls2, kI_i, kL_l, kR_r, kR_n, kR_o, s1I_i, s2I_i, s1L_l, s2L_l, s1R_r, s1R_n, s1R_o, s1A_a, cmpc, popn, swt, rf_s, rf_n, cat_i, cat_r, cat_n, cat_l, true_and, and_true, List.length_cons, List.length_nil, Nat.zero_add, Int.reduceToNat, Nat.reduceAdd, Nat.reduceDiv, Nat.reduceMod, Nat.reduceMul, Nat.reduceSub, Nat.reduceLeDiff, Nat.reduceLT, Nat.reduceEqDiff, ↓reduceIte, r_gr_wi, r_gl_wi, r_gk_wi, r_gn_wi, r_wi_eq, r_wi_ne, r_wi_nj, r_gi_wr, r_gl_wr, r_gk_wr, r_gn_wr, r_gr_wa, r_gl_wa, r_gk_wa, r_gn_wa, aa_e, as_e, al_e, u_lt, u_le, u_gt, u_ge, u_lt0, u_le0, u_gt0, u_ge0, Classical.not_not, not_true_eq_false, not_false_eq_true, oi_n, oi_m, n_dec, nI_add, pk_mul, n_sub, n_eq, n_le, n_lt, n_eq0, n_lt0, n_le0, n_0lt, n_0le, n_eqm, m_eqn, n_ltm, n_and, n_or, n_xor, n_shl, n_shr, tb1, tb0, bP_1, bP_0, bP_n0, ix_n, inb_n, u_eq, u_eqm, k20 L, f20_7 L, k45 L, ma_k M, ma_k14 M, ma_r2 M, e45, (ta_k L hT).1, S.2.1, S.2.2.1.1.2.1, sl]
    refine ⟨fun z2 => ?_, fun z2 => ?_⟩
    · have q2 : ¬ lossN s e m (tkD s m).2.1 = 0 := by first | exact z2 | omega
      have gv : gnV s e m p w = ifO ((tkE (holdS s e m p w 0) m).2 = 0) (nI (lossN s e m (tkD s m).2.1) - nI (lossN s e m (tkD (holdS s e m p w 0) m).2.1)) (nI 0) := ifO_t ⟨q, q2⟩
      refine hP.1 _ _ s_T_gainByHidingOf_56 _ _ _ _ _ ?_
      simp (maxSteps := 1000000) (disch := omega) only [g_T_gainByHidingOf_56, slk, List.map_cons, List.map_nil, List.sum_cons, List.sum_nil, vc_i, vc_r, vc_n, vc_l, vc_o, Nat.add_zero, kO_e, kA_e, hdO_a, eq_self, blk, stp, lg, ls0, lk, ls1, ls2, kI_i, kL_l, kR_r, kR_n, kR_o, s1I_i, s2I_i, s1L_l, s2L_l, s1R_r, s1R_n, s1R_o, s1A_a, cmpc, popn, swt, rf_s, rf_n, cat_i, cat_r, cat_n, cat_l, true_and, and_true, List.length_cons, List.length_nil, Nat.zero_add, Int.reduceToNat, Nat.reduceAdd, Nat.reduceDiv, Nat.reduceMod, Nat.reduceMul, Nat.reduceSub, Nat.reduceLeDiff, Nat.reduceLT, Nat.reduceEqDiff, ↓reduceIte, r_gr_wi, r_gl_wi, r_gk_wi, r_gn_wi, r_wi_eq, r_wi_ne, r_wi_nj, r_gi_wr, r_gl_wr, r_gk_wr, r_gn_wr, r_gr_wa, r_gl_wa, r_gk_wa, r_gn_wa, aa_e, as_e, al_e, u_lt, u_le, u_gt, u_ge, u_lt0, u_le0, u_gt0, u_ge0, Classical.not_not, not_true_eq_false, not_false_eq_true, oi_n, oi_m, n_dec, nI_add, pk_mul, n_sub, n_eq, n_le, n_lt, n_eq0, n_lt0, n_le0, n_0lt, n_0le, n_eqm, m_eqn, n_ltm, n_and, n_or, n_xor, n_shl, n_shr, tb1, tb0, bP_1, bP_0, bP_n0, ix_n, inb_n, u_eq, u_eqm, k20 L, f20_9 L, k54 L, f20_8 L, k46 L, k46 L, f46_4 L, f20_8 L, f20_9 L]
      refine ⟨_, _, _, c_Pl_weighBefore W L pu.2.2.1 (A := 47) (m := m) (by omega) (ci_pl J) (ci_mts J (by omega)) (fun j hj => ci_st J j (by omega)) (k47 L) (Or.inl rfl), ⟨by omega, by omega⟩, ?_⟩
      rintro r H1 ⟨rfl, F1, G1⟩
      have L1 := F1.lay L
      have M1 := F1.ma M
      have V1 := F1.mv V (fun a q => by have q2 : a = 47 := q; omega)
      have vc := V1.2.2.1 e (by omega)
      simp (maxSteps := 1000000) (disch := omega) only [slk, List.map_cons, List.map_nil, List.sum_cons, List.sum_nil, vc_i, vc_r, vc_n, vc_l, vc_o, Nat.add_zero, kO_e, kA_e, hdO_a, eq_self, blk, stp, lg, ls0, lk, ls1, ls2, kI_i, kL_l, kR_r, kR_n, kR_o, s1I_i, s2I_i, s1L_l, s2L_l, s1R_r, s1R_n, s1R_o, s1A_a, cmpc, popn, swt, rf_s, rf_n, cat_i, cat_r, cat_n, cat_l, true_and, and_true, List.length_cons, List.length_nil, Nat.zero_add, Int.reduceToNat, Nat.reduceAdd, Nat.reduceDiv, Nat.reduceMod, Nat.reduceMul, Nat.reduceSub, Nat.reduceLeDiff, Nat.reduceLT, Nat.reduceEqDiff, ↓reduceIte, r_gr_wi, r_gl_wi, r_gk_wi, r_gn_wi, r_wi_eq, r_wi_ne, r_wi_nj, r_gi_wr, r_gl_wr, r_gk_wr, r_gn_wr, r_gr_wa, r_gl_wa, r_gk_wa, r_gn_wa, aa_e, as_e, al_e, u_lt, u_le, u_gt, u_ge, u_lt0, u_le0, u_gt0, u_ge0, Classical.not_not, not_true_eq_false, not_false_eq_true, oi_n, oi_m, n_dec, nI_add, pk_mul, n_sub, n_eq, n_le, n_lt, n_eq0, n_lt0, n_le0, n_0lt, n_0le, n_eqm, m_eqn, n_ltm, n_and, n_or, n_xor, n_shl, n_shr, tb1, tb0, bP_1, bP_0, bP_n0, ix_n, inb_n, u_eq, u_eqm, k20 L, f20_9 L, k54 L, f20_8 L, k46 L, k46 L1, f20_8 L1, k20 L1, ma_k M1]
      refine wcv (c_Ma_setHold M1 vc.1 vc.2 (cn_lt s m 0 e) (cn_lt s m 2 e) (by omega) (i := 4 * p + w) (by omega) (v := 0) (by omega)) ⟨by omega, by omega⟩ ?_
      simp (maxSteps := 1000000) (disch := omega) only [slk, List.map_cons, List.map_nil, List.sum_cons, List.sum_nil, vc_i, vc_r, vc_n, vc_l, vc_o, Nat.add_zero, kO_e, kA_e, hdO_a, eq_self, blk, stp, lg, ls0, lk, ls1, ls2, kI_i, kL_l, kR_r, kR_n, kR_o, s1I_i, s2I_i, s1L_l, s2L_l, s1R_r, s1R_n, s1R_o, s1A_a, cmpc, popn, swt, rf_s, rf_n, cat_i, cat_r, cat_n, cat_l, true_and, and_true, List.length_cons, List.length_nil, Nat.zero_add, Int.reduceToNat, Nat.reduceAdd, Nat.reduceDiv, Nat.reduceMod, Nat.reduceMul, Nat.reduceSub, Nat.reduceLeDiff, Nat.reduceLT, Nat.reduceEqDiff, ↓reduceIte, r_gr_wi, r_gl_wi, r_gk_wi, r_gn_wi, r_wi_eq, r_wi_ne, r_wi_nj, r_gi_wr, r_gl_wr, r_gk_wr, r_gn_wr, r_gr_wa, r_gl_wa, r_gk_wa, r_gn_wa, aa_e, as_e, al_e, u_lt, u_le, u_gt, u_ge, u_lt0, u_le0, u_gt0, u_ge0, Classical.not_not, not_true_eq_false, not_false_eq_true, oi_n, oi_m, n_dec, nI_add, pk_mul, n_sub, n_eq, n_le, n_lt, n_eq0, n_lt0, n_le0, n_0lt, n_0le, n_eqm, m_eqn, n_ltm, n_and, n_or, n_xor, n_shl, n_shr, tb1, tb0, bP_1, bP_0, bP_n0, ix_n, inb_n, u_eq, u_eqm, k20 L, f20_9 L, k54 L, f20_8 L, k46 L, k46 L1, f20_8 L1, k20 L1, ma_k M1]
      have t0 : ((0 : Nat) = 0) = True := eq_true rfl
      have f0 : ((0 : Nat) = 2) = False := eq_false (by decide)
      have f1 : ((1 : Nat) = 0) = False := eq_false (by decide)
      have f2 : ((1 : Nat) = 2) = False := eq_false (by decide)
      obtain ⟨H2, e2h⟩ : ∃ H2, H2 = wi (wi H1 (bm m + 1) e (nI (shN True (cnN s m 0 e) (4 * p + w)))) (bm m + 2) e (nI (shN False (cnN s m 2 e) (4 * p + w))) := ⟨_, rfl⟩
      rw [← e2h]
      have e2 : H2 = hoH H1 (bm m) e (shN (0 = 0) (cnN s m 0 e) (4 * p + w)) (shN (0 = 2) (cnN s m 2 e) (4 * p + w)) := by
        rw [e2h, t0, f0]
        rfl
      have V2 : MV H2 (holdS s e m p w 0) m (bm m) := by rw [e2]; exact mv_hold W V1 hC0
      have F2 : Fp (fun a => a = bm m + 1 ∨ a = bm m + 2) H1 H2 := by
        rw [e2]
        exact ((Fp.refl (fun a => a = bm m + 1 ∨ a = bm m + 2) H1).wi (Or.inl rfl) _ _).wi (Or.inr rfl) _ _
      have L2 := F2.lay L1
      have M2 := F2.ma M1
      have TX2 : TxA H2 s := by
        have T1 := F1.fg.txa g (ci_tx J) (fun t ht a q => by have := isTx_b (ci_tx J) ht; have q2 : a = 47 := q; omega) (fun t ht j y => y.elim) (fun j _ y => y.elim) (fun j _ y => y.elim)
        refine F2.fg.txa (by rw [F1.gn]; exact g) T1 (fun t ht a q => ?_) (fun t ht j y => y.elim) (fun j _ y => y.elim) (fun j _ y => y.elim)
        have ht2 := F1.fg.istx g (fun j _ y => y.elim) (fun j _ y => y.elim) ht
        have := isTx_b (ci_tx J) ht2
        have := ci_dj J t ht2 m hm
        have q2 : a = bm m + 1 ∨ a = bm m + 2 := q
        omega
      have C2 : CC H2 s := F2.cc (F1.cc (ci_C J) (fun a q => by have q2 : a = 47 := q; omega)) (fun a q => by have q2 : a = bm m + 1 ∨ a = bm m + 2 := q; omega)
      have E2 : EV H2 (holdS s e m p w 0) m (bm m) := ⟨L2, C2, M2, V2, TX2, by
        show gr H2 (bm m) 10 = lwR H2 s m
        unfold lwR
        rw [F2.gr, F1.gr]
        exact mm.2.2.2⟩
      have I' : PI (holdS s e m p w 0) := ⟨fun e2 m2 p2 w2 z1 z2 z3 z4 z5 => by
        have z5' : ¬ (m2 < s 107 19 ∧ p2 < s 112 m2 ∧ w2 < s 113 m2) := z5
        rw [ho_o (by omega) (by omega) (by omega) z2 (by omega) (fun y => z5' (by
          obtain ⟨y1, y2, y3⟩ := y
          subst y2
          have y4 : p2 = p := by omega
          have y5 : w2 = w := by omega
          rw [y4, y5]
          exact ⟨hm, hp, hw⟩))]
        exact pu.1.1 e2 m2 p2 w2 z1 z2 z3 z4 z5', pu.1.2.1, pu.1.2.2⟩
      have tw := ci_tw J 46 (Or.inl rfl)
      obtain ⟨su, u1, u2⟩ := tw.2
      have n46 : ∀ j, gi H2 46 j = gi H 46 j := fun j => (F2.at (fun q => by have q2 : 46 = bm m + 1 ∨ 46 = bm m + 2 := q; omega) j).trans (F1.at (by show ¬ 46 = 47; omega) j)
      have h46 : isT 46 := Or.inl rfl
      refine ⟨_, _, _, c_Ta_run (s := holdS s e m p w 0) (m := m) (b := bm m) W' I' pu.2.1 E2 hm (T := 46) h46 (ed := eB s m) (rs := rB s m) (su := su) (fun x hx => ?_) ((n46 17).trans (tw.1.trans (by rw [show holdS s e m p w 0 107 61 = s 107 61 from rfl, pu.2.2.1]))) (by rw [show holdS s e m p w 0 107 61 = s 107 61 from rfl, pu.2.2.1]; decide) ((n46 18).trans u1) u2, ⟨by omega, by omega⟩, ?_⟩
      · rw [F2.at (fun q => by have q2 : 46 + 1 = bm m + 1 ∨ 46 + 1 = bm m + 2 := q; omega), G1 x hx]
        exact (trI_c (s := s) (s' := holdS s e m p w 0) (s 107 67) (fun k hk => ⟨rfl, rfl, fun _ => Iff.rfl⟩)).symm
      rintro r H3 ⟨rfl, F3, x3, S3, su2, v1, v2⟩
      have et : tlS (holdS s e m p w 0) (eB s m) (rB s m) m [] = tkE (holdS s e m p w 0) m := by
        unfold tkE
        rw [eBB.1, eBB.2]
      have ed : dE (holdS s e m p w 0) (eB s m) (rB s m) m [] (tkE (holdS s e m p w 0) m).1 = tkD (holdS s e m p w 0) m := by
        unfold tkD
        rw [eBB.1, eBB.2]
      rw [et] at x3 S3
      rw [ed] at S3
      have t2 := tk_b W' (j := m) hm
      have FW := Fg.wr H2 46 3 (some (bm m))
      have F23 : Fg (fun a => (42 ≤ a ∧ a ≤ 44) ∨ (46 ≤ a ∧ a ≤ 53)) YT2 H2 H3 := (FW.mono (fun a _ q => q.elim) (fun a j _ y => y)).trans (F3.fg.mono (fun a _ q => by unfold XR at q; omega) (fun a j _ y => y.elim))
      have g2 : 164 < gn H2 := by rw [F2.gn, F1.gn]; exact g
      have bn2 : bm m + 14 < gn H2 := by rw [F2.gn, F1.gn]; exact bb.2
      have L3 := F23.lay L2 (fun a j y => Or.inl ⟨by rw [y.1]; exact h46, y.2⟩)
      have M3 : MA H3 (bm m) (s 112 m) := F23.ma M2 (fun a j y => by unfold YT2 at y; omega)
      have V3 : MV H3 (holdS s e m p w 0) m (bm m) := F23.mv bn2 V2 (fun a q => by omega)
      have vc3 := V3.2.2.1 e (by omega)
      have gl3 : gl H3 = gl H := by
        rw [F3.gl]
        show gl H2 = _
        rw [F2.gl, F1.gl]
      simp (maxSteps := 1000000) (disch := omega) only [slk, List.map_cons, List.map_nil, List.sum_cons, List.sum_nil, vc_i, vc_r, vc_n, vc_l, vc_o, Nat.add_zero, kO_e, kA_e, hdO_a, eq_self, blk, stp, lg, ls0, lk, ls1, ls2, kI_i, kL_l, kR_r, kR_n, kR_o, s1I_i, s2I_i, s1L_l, s2L_l, s1R_r, s1R_n, s1R_o, s1A_a, cmpc, popn, swt, rf_s, rf_n, cat_i, cat_r, cat_n, cat_l, true_and, and_true, List.length_cons, List.length_nil, Nat.zero_add, Int.reduceToNat, Nat.reduceAdd, Nat.reduceDiv, Nat.reduceMod, Nat.reduceMul, Nat.reduceSub, Nat.reduceLeDiff, Nat.reduceLT, Nat.reduceEqDiff, ↓reduceIte, r_gr_wi, r_gl_wi, r_gk_wi, r_gn_wi, r_wi_eq, r_wi_ne, r_wi_nj, r_gi_wr, r_gl_wr, r_gk_wr, r_gn_wr, r_gr_wa, r_gl_wa, r_gk_wa, r_gn_wa, aa_e, as_e, al_e, u_lt, u_le, u_gt, u_ge, u_lt0, u_le0, u_gt0, u_ge0, Classical.not_not, not_true_eq_false, not_false_eq_true, oi_n, oi_m, n_dec, nI_add, pk_mul, n_sub, n_eq, n_le, n_lt, n_eq0, n_lt0, n_le0, n_0lt, n_0le, n_eqm, m_eqn, n_ltm, n_and, n_or, n_xor, n_shl, n_shr, tb1, tb0, bP_1, bP_0, bP_n0, ix_n, inb_n, u_eq, u_eqm, k20 L, f20_9 L, k54 L, f20_8 L, k46 L, k46 L3, f20_8 L3, k20 L3, ma_k M3]
      refine wcv (c_Ma_setHold M3 vc3.1 vc3.2 (cn_lt _ m 0 e) (cn_lt _ m 2 e) (by omega) (i := 4 * p + w) (by omega) (v := 1) (by omega)) ⟨by omega, by omega⟩ ?_
      simp (maxSteps := 1000000) (disch := omega) only [slk, List.map_cons, List.map_nil, List.sum_cons, List.sum_nil, vc_i, vc_r, vc_n, vc_l, vc_o, Nat.add_zero, kO_e, kA_e, hdO_a, eq_self, blk, stp, lg, ls0, lk, ls1, ls2, kI_i, kL_l, kR_r, kR_n, kR_o, s1I_i, s2I_i, s1L_l, s2L_l, s1R_r, s1R_n, s1R_o, s1A_a, cmpc, popn, swt, rf_s, rf_n, cat_i, cat_r, cat_n, cat_l, true_and, and_true, List.length_cons, List.length_nil, Nat.zero_add, Int.reduceToNat, Nat.reduceAdd, Nat.reduceDiv, Nat.reduceMod, Nat.reduceMul, Nat.reduceSub, Nat.reduceLeDiff, Nat.reduceLT, Nat.reduceEqDiff, ↓reduceIte, r_gr_wi, r_gl_wi, r_gk_wi, r_gn_wi, r_wi_eq, r_wi_ne, r_wi_nj, r_gi_wr, r_gl_wr, r_gk_wr, r_gn_wr, r_gr_wa, r_gl_wa, r_gk_wa, r_gn_wa, aa_e, as_e, al_e, u_lt, u_le, u_gt, u_ge, u_lt0, u_le0, u_gt0, u_ge0, Classical.not_not, not_true_eq_false, not_false_eq_true, oi_n, oi_m, n_dec, nI_add, pk_mul, n_sub, n_eq, n_le, n_lt, n_eq0, n_lt0, n_le0, n_0lt, n_0le, n_eqm, m_eqn, n_ltm, n_and, n_or, n_xor, n_shl, n_shr, tb1, tb0, bP_1, bP_0, bP_n0, ix_n, inb_n, u_eq, u_eqm, k20 L, f20_9 L, k54 L, f20_8 L, k46 L, k46 L3, f20_8 L3, k20 L3, ma_k M3]
      obtain ⟨H4, e4h⟩ : ∃ H4, H4 = wi (wi H3 (bm m + 1) e (nI (shN False (cnN (holdS s e m p w 0) m 0 e) (4 * p + w)))) (bm m + 2) e (nI (shN False (cnN (holdS s e m p w 0) m 2 e) (4 * p + w))) := ⟨_, rfl⟩
      rw [← e4h]
      have e4 : H4 = hoH H3 (bm m) e (shN (1 = 0) (cnN (holdS s e m p w 0) m 0 e) (4 * p + w)) (shN (1 = 2) (cnN (holdS s e m p w 0) m 2 e) (4 * p + w)) := by
        rw [e4h, f1, f2]
        rfl
      have V4 : MV H4 s m (bm m) := by
        have := mv_hold W' V3 hC1
        rw [← e4, back2] at this
        exact this
      have F4 : Fp (fun a => a = bm m + 1 ∨ a = bm m + 2) H3 H4 := by
        rw [e4]
        exact ((Fp.refl (fun a => a = bm m + 1 ∨ a = bm m + 2) H3).wi (Or.inl rfl) _ _).wi (Or.inr rfl) _ _
      have M4 := F4.ma M3
      have L4 := F4.lay L3
      have rest : ∀ k, k = bm m + 1 ∨ k = bm m + 2 → gi H4 k = gi H k := by
        intro k hk
        funext j
        by_cases y : j = e
        · subst y
          have z1 := V4.2.2.1 j (by omega)
          have z2 := V.2.2.1 j (by omega)
          rcases hk with rfl | rfl
          · exact z1.1.trans z2.1.symm
          · exact z1.2.trans z2.2.symm
        · have z4 : gi H4 k j = gi H3 k j := by
            rw [e4]
            unfold hoH
            rcases hk with rfl | rfl
            · rw [r_wi_ne _ _ _ _ (by omega), r_wi_nj _ _ _ y]
            · rw [r_wi_nj _ _ _ y, r_wi_ne _ _ _ _ (by omega)]
          have z2 : gi H2 k j = gi H1 k j := by
            rw [e2]
            unfold hoH
            rcases hk with rfl | rfl
            · rw [r_wi_ne _ _ _ _ (by omega), r_wi_nj _ _ _ y]
            · rw [r_wi_nj _ _ _ y, r_wi_ne _ _ _ _ (by omega)]
          rw [z4, congrFun (F23.2.2.1 k (by omega) (fun q => by omega)) j, z2]
          exact F1.at (fun q => by have q2 : k = 47 := q; omega) j
      have FT : Fg XT2 YT2 H H4 := by
        refine ⟨fun a q => ?_, ?_, fun a q z => ?_, fun a j q z => ?_⟩
        · rw [F4.gk, F23.1 a (by rw [F2.gn, F1.gn]; exact q), F2.gk, F1.gk]
        · rw [F4.gn]
          have := F23.2.1
          rw [F2.gn, F1.gn] at this
          exact this
        · by_cases y : a = bm m + 1 ∨ a = bm m + 2
          · exact rest a y
          · rw [F4.2 a y, F23.2.2.1 a (by rw [F2.gn, F1.gn]; exact q) (fun x => z (by unfold XT2; omega)), F2.2 a y]
            exact F1.2 a (fun x => z (by have x2 : a = 47 := x; unfold XT2; omega))
        · rw [F4.gr, F23.2.2.2 a j (by rw [F2.gn, F1.gn]; exact q) z, F2.gr, F1.gr]
      have n4 : ∀ j, gi H4 46 j = gi H3 46 j := fun j => F4.at (fun q => by have q2 : 46 = bm m + 1 ∨ 46 = bm m + 2 := q; omega) j
      have J4 : CI H4 s bm c := ci_tri W J FT (by rw [n4, x3.2]; exact (n46 17).trans tw.1) ⟨su2, (n4 18).trans v1, v2.1⟩
      have FC : FrC H H4 := frc_fg FT g (fun a _ => by rw [F4.gl, gl3]) (fun a q => by unfold XT2 at q; unfold clR; omega) (fun a j y => by unfold YT2 at y; unfold clR; omega)
      have e11 : gi H4 46 11 = nI (tkE (holdS s e m p w 0) m).2 := (n4 11).trans x3.1
      have e13 : gi H4 46 13 = nI (tkD (holdS s e m p w 0) m).2.1 := (n4 13).trans S3.1.1.2.1
      have c3 : (tkE (holdS s e m p w 0) m).2 ≤ 3 := t2.1
      have pr2 : isPr s m (tkD (holdS s e m p w 0) m).2.1 := t2.2.2.2.1
      have g10 := pr2.1
      have sl4 := V4.2.1 _ pr2.1
      have slb4 := sl_lt b4.2.1 (s 113 m) (tkD (holdS s e m p w 0) m).2.1
      simp (maxSteps := 1000000) (disch := omega) only [slk, List.map_cons, List.map_nil, List.sum_cons, List.sum_nil, vc_i, vc_r, vc_n, vc_l, vc_o, Nat.add_zero, kO_e, kA_e, hdO_a, eq_self, blk, stp, lg, ls0, lk, ls1, ls2, kI_i, kL_l, kR_r, kR_n, kR_o, s1I_i, s2I_i, s1L_l, s2L_l, s1R_r, s1R_n, s1R_o, s1A_a, cmpc, popn, swt, rf_s, rf_n, cat_i, cat_r, cat_n, cat_l, true_and, and_true, List.length_cons, List.length_nil, Nat.zero_add, Int.reduceToNat, Nat.reduceAdd, Nat.reduceDiv, Nat.reduceMod, Nat.reduceMul, Nat.reduceSub, Nat.reduceLeDiff, Nat.reduceLT, Nat.reduceEqDiff, ↓reduceIte, r_gr_wi, r_gl_wi, r_gk_wi, r_gn_wi, r_wi_eq, r_wi_ne, r_wi_nj, r_gi_wr, r_gl_wr, r_gk_wr, r_gn_wr, r_gr_wa, r_gl_wa, r_gk_wa, r_gn_wa, aa_e, as_e, al_e, u_lt, u_le, u_gt, u_ge, u_lt0, u_le0, u_gt0, u_ge0, Classical.not_not, not_true_eq_false, not_false_eq_true, oi_n, oi_m, n_dec, nI_add, pk_mul, n_sub, n_eq, n_le, n_lt, n_eq0, n_lt0, n_le0, n_0lt, n_0le, n_eqm, m_eqn, n_ltm, n_and, n_or, n_xor, n_shl, n_shr, tb1, tb0, bP_1, bP_0, bP_n0, ix_n, inb_n, u_eq, u_eqm, k20 L, f20_9 L, k54 L, f20_8 L, k46 L, k46 L4, f20_8 L4, k20 L4, e11, x3.1]
      refine ⟨fun z3 => ?_, fun z3 => ?_⟩
      · refine hP.1 _ _ s_T_gainByHidingOf_131 _ _ _ _ _ ?_
        simp (maxSteps := 1000000) (disch := omega) only [g_T_gainByHidingOf_131, slk, List.map_cons, List.map_nil, List.sum_cons, List.sum_nil, vc_i, vc_r, vc_n, vc_l, vc_o, Nat.add_zero, kO_e, kA_e, hdO_a, eq_self, blk, stp, lg, ls0, lk, ls1, ls2, kI_i, kL_l, kR_r, kR_n, kR_o, s1I_i, s2I_i, s1L_l, s2L_l, s1R_r, s1R_n, s1R_o, s1A_a, cmpc, popn, swt, rf_s, rf_n, cat_i, cat_r, cat_n, cat_l, true_and, and_true, List.length_cons, List.length_nil, Nat.zero_add, Int.reduceToNat, Nat.reduceAdd, Nat.reduceDiv, Nat.reduceMod, Nat.reduceMul, Nat.reduceSub, Nat.reduceLeDiff, Nat.reduceLT, Nat.reduceEqDiff, ↓reduceIte, r_gr_wi, r_gl_wi, r_gk_wi, r_gn_wi, r_wi_eq, r_wi_ne, r_wi_nj, r_gi_wr, r_gl_wr, r_gk_wr, r_gn_wr, r_gr_wa, r_gl_wa, r_gk_wa, r_gn_wa, aa_e, as_e, al_e, u_lt, u_le, u_gt, u_ge, u_lt0, u_le0, u_gt0, u_ge0, Classical.not_not, not_true_eq_false, not_false_eq_true, oi_n, oi_m, n_dec, nI_add, pk_mul, n_sub, n_eq, n_le, n_lt, n_eq0, n_lt0, n_le0, n_0lt, n_0le, n_eqm, m_eqn, n_ltm, n_and, n_or, n_xor, n_shl, n_shr, tb1, tb0, bP_1, bP_0, bP_n0, ix_n, inb_n, u_eq, u_eqm, k46 L4, f20_8 L4, k20 L4, e11, x3.1]
        refine hP.1 _ _ s_T_gainByHidingOf_132 _ _ _ _ _ ?_
        simp (maxSteps := 1000000) (disch := omega) only [g_T_gainByHidingOf_132, slk, List.map_cons, List.map_nil, List.sum_cons, List.sum_nil, vc_i, vc_r, vc_n, vc_l, vc_o, Nat.add_zero, kO_e, kA_e, hdO_a, eq_self, blk, stp, lg, ls0, lk, ls1, ls2, kI_i, kL_l, kR_r, kR_n, kR_o, s1I_i, s2I_i, s1L_l, s2L_l, s1R_r, s1R_n, s1R_o, s1A_a, cmpc, popn, swt, rf_s, rf_n, cat_i, cat_r, cat_n, cat_l, true_and, and_true, List.length_cons, List.length_nil, Nat.zero_add, Int.reduceToNat, Nat.reduceAdd, Nat.reduceDiv, Nat.reduceMod, Nat.reduceMul, Nat.reduceSub, Nat.reduceLeDiff, Nat.reduceLT, Nat.reduceEqDiff, ↓reduceIte, r_gr_wi, r_gl_wi, r_gk_wi, r_gn_wi, r_wi_eq, r_wi_ne, r_wi_nj, r_gi_wr, r_gl_wr, r_gk_wr, r_gn_wr, r_gr_wa, r_gl_wa, r_gk_wa, r_gn_wa, aa_e, as_e, al_e, u_lt, u_le, u_gt, u_ge, u_lt0, u_le0, u_gt0, u_ge0, Classical.not_not, not_true_eq_false, not_false_eq_true, oi_n, oi_m, n_dec, nI_add, pk_mul, n_sub, n_eq, n_le, n_lt, n_eq0, n_lt0, n_le0, n_0lt, n_0le, n_eqm, m_eqn, n_ltm, n_and, n_or, n_xor, n_shl, n_shr, tb1, tb0, bP_1, bP_0, bP_n0, ix_n, inb_n, u_eq, u_eqm, k46 L4, f20_8 L4, k20 L4, e11, x3.1]
        rw [r_T_gainByHidingOf, gv, ifO_f z3]
        exact ⟨trivial, rfl, FC, J4⟩
      · have q3 : (tkE (holdS s e m p w 0) m).2 = 0 := by first | exact z3 | omega
        refine hP.1 _ _ s_T_gainByHidingOf_106 _ _ _ _ _ ?_
        simp (maxSteps := 1000000) (disch := omega) only [g_T_gainByHidingOf_106, slk, List.map_cons, List.map_nil, List.sum_cons, List.sum_nil, vc_i, vc_r, vc_n, vc_l, vc_o, Nat.add_zero, kO_e, kA_e, hdO_a, eq_self, blk, stp, lg, ls0, lk, ls1, ls2, kI_i, kL_l, kR_r, kR_n, kR_o, s1I_i, s2I_i, s1L_l, s2L_l, s1R_r, s1R_n, s1R_o, s1A_a, cmpc, popn, swt, rf_s, rf_n, cat_i, cat_r, cat_n, cat_l, true_and, and_true, List.length_cons, List.length_nil, Nat.zero_add, Int.reduceToNat, Nat.reduceAdd, Nat.reduceDiv, Nat.reduceMod, Nat.reduceMul, Nat.reduceSub, Nat.reduceLeDiff, Nat.reduceLT, Nat.reduceEqDiff, ↓reduceIte, r_gr_wi, r_gl_wi, r_gk_wi, r_gn_wi, r_wi_eq, r_wi_ne, r_wi_nj, r_gi_wr, r_gl_wr, r_gk_wr, r_gn_wr, r_gr_wa, r_gl_wa, r_gk_wa, r_gn_wa, aa_e, as_e, al_e, u_lt, u_le, u_gt, u_ge, u_lt0, u_le0, u_gt0, u_ge0, Classical.not_not, not_true_eq_false, not_false_eq_true, oi_n, oi_m, n_dec, nI_add, pk_mul, n_sub, n_eq, n_le, n_lt, n_eq0, n_lt0, n_le0, n_0lt, n_0le, n_eqm, m_eqn, n_ltm, n_and, n_or, n_xor, n_shl, n_shr, tb1, tb0, bP_1, bP_0, bP_n0, ix_n, inb_n, u_eq, u_eqm, k20 L4, f20_8 L4, k46 L4, k46 L4, f20_8 L4, k20 L4, e13, ma_k M4, ma_k14 M4, ma_r2 M4, sl4]
        refine wc (c_Ma_lossOf W M4 V4 hm (e := e) (by omega) slb4) ⟨by omega, by omega⟩ ?_
        simp (maxSteps := 1000000) (disch := omega) only [slk, List.map_cons, List.map_nil, List.sum_cons, List.sum_nil, vc_i, vc_r, vc_n, vc_l, vc_o, Nat.add_zero, kO_e, kA_e, hdO_a, eq_self, blk, stp, lg, ls0, lk, ls1, ls2, kI_i, kL_l, kR_r, kR_n, kR_o, s1I_i, s2I_i, s1L_l, s2L_l, s1R_r, s1R_n, s1R_o, s1A_a, cmpc, popn, swt, rf_s, rf_n, cat_i, cat_r, cat_n, cat_l, true_and, and_true, List.length_cons, List.length_nil, Nat.zero_add, Int.reduceToNat, Nat.reduceAdd, Nat.reduceDiv, Nat.reduceMod, Nat.reduceMul, Nat.reduceSub, Nat.reduceLeDiff, Nat.reduceLT, Nat.reduceEqDiff, ↓reduceIte, r_gr_wi, r_gl_wi, r_gk_wi, r_gn_wi, r_wi_eq, r_wi_ne, r_wi_nj, r_gi_wr, r_gl_wr, r_gk_wr, r_gn_wr, r_gr_wa, r_gl_wa, r_gk_wa, r_gn_wa, aa_e, as_e, al_e, u_lt, u_le, u_gt, u_ge, u_lt0, u_le0, u_gt0, u_ge0, Classical.not_not, not_true_eq_false, not_false_eq_true, oi_n, oi_m, n_dec, nI_add, pk_mul, n_sub, n_eq, n_le, n_lt, n_eq0, n_lt0, n_le0, n_0lt, n_0le, n_eqm, m_eqn, n_ltm, n_and, n_or, n_xor, n_shl, n_shr, tb1, tb0, bP_1, bP_0, bP_n0, ix_n, inb_n, u_eq, u_eqm, k20 L4, f20_8 L4, k46 L4, k46 L4, f20_8 L4, k20 L4, e13, ma_k M4, ma_k14 M4, ma_r2 M4, sl4]
        rw [la_loss W pu.1 he hm pr2]
        refine hP.1 _ _ s_T_gainByHidingOf_132 _ _ _ _ _ ?_
        simp (maxSteps := 1000000) (disch := omega) only [g_T_gainByHidingOf_132, slk, List.map_cons, List.map_nil, List.sum_cons, List.sum_nil, vc_i, vc_r, vc_n, vc_l, vc_o, Nat.add_zero, kO_e, kA_e, hdO_a, eq_self, blk, stp, lg, ls0, lk, ls1, ls2, kI_i, kL_l, kR_r, kR_n, kR_o, s1I_i, s2I_i, s1L_l, s2L_l, s1R_r, s1R_n, s1R_o, s1A_a, cmpc, popn, swt, rf_s, rf_n, cat_i, cat_r, cat_n, cat_l, true_and, and_true, List.length_cons, List.length_nil, Nat.zero_add, Int.reduceToNat, Nat.reduceAdd, Nat.reduceDiv, Nat.reduceMod, Nat.reduceMul, Nat.reduceSub, Nat.reduceLeDiff, Nat.reduceLT, Nat.reduceEqDiff, ↓reduceIte, r_gr_wi, r_gl_wi, r_gk_wi, r_gn_wi, r_wi_eq, r_wi_ne, r_wi_nj, r_gi_wr, r_gl_wr, r_gk_wr, r_gn_wr, r_gr_wa, r_gl_wa, r_gk_wa, r_gn_wa, aa_e, as_e, al_e, u_lt, u_le, u_gt, u_ge, u_lt0, u_le0, u_gt0, u_ge0, Classical.not_not, not_true_eq_false, not_false_eq_true, oi_n, oi_m, n_dec, nI_add, pk_mul, n_sub, n_eq, n_le, n_lt, n_eq0, n_lt0, n_le0, n_0lt, n_0le, n_eqm, m_eqn, n_ltm, n_and, n_or, n_xor, n_shl, n_shr, tb1, tb0, bP_1, bP_0, bP_n0, ix_n, inb_n, u_eq, u_eqm, k46 L4, f20_8 L4, k20 L4, e13, ma_k M4, ma_k14 M4, ma_r2 M4, sl4]
        rw [r_T_gainByHidingOf, gv, ifO_t q3]
        exact ⟨trivial, rfl, FC, J4⟩
    · have q2 : lossN s e m (tkD s m).2.1 = 0 := by first | exact z2 | omega
      refine hP.1 _ _ s_T_gainByHidingOf_54 _ _ _ _ _ ?_
      simp (maxSteps := 1000000) (disch := omega) only [g_T_gainByHidingOf_54, slk, List.map_cons, List.map_nil, List.sum_cons, List.sum_nil, vc_i, vc_r, vc_n, vc_l, vc_o, Nat.add_zero, kO_e, kA_e, hdO_a, eq_self, blk, stp, lg, ls0, lk, ls1, ls2, kI_i, kL_l, kR_r, kR_n, kR_o, s1I_i, s2I_i, s1L_l, s2L_l, s1R_r, s1R_n, s1R_o, s1A_a, cmpc, popn, swt, rf_s, rf_n, cat_i, cat_r, cat_n, cat_l, true_and, and_true, List.length_cons, List.length_nil, Nat.zero_add, Int.reduceToNat, Nat.reduceAdd, Nat.reduceDiv, Nat.reduceMod, Nat.reduceMul, Nat.reduceSub, Nat.reduceLeDiff, Nat.reduceLT, Nat.reduceEqDiff, ↓reduceIte, r_gr_wi, r_gl_wi, r_gk_wi, r_gn_wi, r_wi_eq, r_wi_ne, r_wi_nj, r_gi_wr, r_gl_wr, r_gk_wr, r_gn_wr, r_gr_wa, r_gl_wa, r_gk_wa, r_gn_wa, aa_e, as_e, al_e, u_lt, u_le, u_gt, u_ge, u_lt0, u_le0, u_gt0, u_ge0, Classical.not_not, not_true_eq_false, not_false_eq_true, oi_n, oi_m, n_dec, nI_add, pk_mul, n_sub, n_eq, n_le, n_lt, n_eq0, n_lt0, n_le0, n_0lt, n_0le, n_eqm, m_eqn, n_ltm, n_and, n_or, n_xor, n_shl, n_shr, tb1, tb0, bP_1, bP_0, bP_n0, ix_n, inb_n, u_eq, u_eqm, ma_k M, ma_k14 M, ma_r2 M, e45, (ta_k L hT).1, S.2.1, S.2.2.1.1.2.1, sl]
      rw [r_T_gainByHidingOf, show gnV s e m p w = nI 0 from ifO_f (fun y => y.2 q2)]
      exact ⟨trivial, rfl, FrC.refl _, J⟩
  · refine hP.1 _ _ s_T_gainByHidingOf_24 _ _ _ _ _ ?_
    simp (maxSteps := 1000000) (disch := omega) only [g_T_gainByHidingOf_24, slk, List.map_cons, List.map_nil, List.sum_cons, List.sum_nil, vc_i, vc_r, vc_n, vc_l, vc_o, Nat.add_zero, kO_e, kA_e, hdO_a, eq_self, blk, stp, lg, ls0, lk, ls1, ls2, kI_i, kL_l, kR_r, kR_n, kR_o, s1I_i, s2I_i, s1L_l, s2L_l, s1R_r, s1R_n, s1R_o, s1A_a, cmpc, popn, swt, rf_s, rf_n, cat_i, cat_r, cat_n, cat_l, true_and, and_true, List.length_cons, List.length_nil, Nat.zero_add, Int.reduceToNat, Nat.reduceAdd, Nat.reduceDiv, Nat.reduceMod, Nat.reduceMul, Nat.reduceSub, Nat.reduceLeDiff, Nat.reduceLT, Nat.reduceEqDiff, ↓reduceIte, r_gr_wi, r_gl_wi, r_gk_wi, r_gn_wi, r_wi_eq, r_wi_ne, r_wi_nj, r_gi_wr, r_gl_wr, r_gk_wr, r_gn_wr, r_gr_wa, r_gl_wa, r_gk_wa, r_gn_wa, aa_e, as_e, al_e, u_lt, u_le, u_gt, u_ge, u_lt0, u_le0, u_gt0, u_ge0, Classical.not_not, not_true_eq_false, not_false_eq_true, oi_n, oi_m, n_dec, nI_add, pk_mul, n_sub, n_eq, n_le, n_lt, n_eq0, n_lt0, n_le0, n_0lt, n_0le, n_eqm, m_eqn, n_ltm, n_and, n_or, n_xor, n_shl, n_shr, tb1, tb0, bP_1, bP_0, bP_n0, ix_n, inb_n, u_eq, u_eqm, ma_k M, ma_k14 M, ma_r2 M, e45, (ta_k L hT).1, S.2.1, S.2.2.1.1.2.1, sl]
    rw [r_T_gainByHidingOf, show gnV s e m p w = nI 0 from ifO_f (fun y => z y.1)]
    exact ⟨trivial, rfl, FrC.refl _, J⟩
end
