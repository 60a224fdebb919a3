/-! ===== the class: the tape is fed ===== -/
theorem n_T_feed : mN 12 = 6 := rfl
theorem l_T_feed : mL 12 = 6 := rfl
theorem r_T_feed : mR 12 = some .int := rfl
theorem n_Tp_add : mN 235 = 6 := rfl
theorem l_Tp_add : mL 235 = 7 := rfl
theorem r_Tp_add : mR 235 = some .int := rfl
theorem n_Tp_put : mN 236 = 2 := rfl
theorem l_Tp_put : mL 236 = 4 := rfl
theorem r_Tp_put : mR 236 = none := rfl
def tpU (s : St) (B : Nat → Nat) (n : Nat) : St := fun a j => if a = 125 then B j else if a = 107 then (if j = 28 then n else s 107 j) else s a j
def SO (s s' : St) : Prop := ∀ a j, ¬ (a = 125 ∨ (a = 107 ∧ j = 28)) → s' a j = s a j
theorem so_pu (s : St) (b : Nat) : SO s (puS s b) := by
  intro a j h
  unfold puS
  split
  · rfl
  · rw [uS_o (fun z => h (Or.inr z)), uS_o (fun z => h (Or.inl z.1))]
theorem so_puL : ∀ (l : List Nat) (s : St), SO s (puL s l) := by
  intro l
  induction l with
  | nil => exact fun s a j _ => rfl
  | cons b l ih => exact fun s a j h => (ih (puS s b) a j h).trans (so_pu s b a j h)
theorem so_feed (s : St) (v1 v2 v3 v4 v5 : Nat) : SO s (feedS s v1 v2 v3 v4 v5) := fun a j h => by
  unfold feedS
  exact (so_puL _ _ a j h).trans ((so_puL _ _ a j h).trans ((so_puL _ _ a j h).trans ((so_puL _ _ a j h).trans (so_puL _ _ a j h))))
theorem so_eq {s s' : St} (h : SO s s') : s' = tpU s (s' 125) (s' 107 28) := by
  funext a j
  unfold tpU
  by_cases q : a = 125
  · rw [if_pos q, q]
  · rw [if_neg q]
    by_cases q2 : a = 107
    · rw [if_pos q2]
      by_cases q3 : j = 28
      · rw [if_pos q3, q2, q3]
      · rw [if_neg q3, h a j (fun z => z.elim q (fun z => q3 z.2)), q2]
    · rw [if_neg q2, h a j (fun z => z.elim q (fun z => q2 z.1))]
theorem pu_low (s : St) (b : Nat) {j : Nat} (hj : j < s 107 28) : puS s b 125 j = s 125 j ∧ s 107 28 ≤ puS s b 107 28 := by
  refine ⟨?_, by rw [puS_28]; omega⟩
  unfold puS
  split
  · rfl
  · rw [uS_o (fun z => by omega), uS_o (fun z => by omega)]
theorem puL_low : ∀ (l : List Nat) (s : St) {j : Nat}, j < s 107 28 → puL s l 125 j = s 125 j := by
  intro l
  induction l with
  | nil => exact fun s j _ => rfl
  | cons b l ih =>
    intro s j hj
    have h := pu_low s b hj
    exact (ih (puS s b) (by omega)).trans h.1
def TPX (h : AH) (t : St) : Prop := gi h 35 1 = nI (t 107 28) ∧ ∀ j, j < t 107 28 → gi h 36 j = nI (t 125 j)
def XTp : Nat → Prop := fun a => a = 35 ∨ a = 36
def PTp (h : AH) (t : St) (r : Option (Option Value)) (h' : AH) : Prop := r = some none ∧ Fp XTp h h' ∧ TPX h' t
section
variable {h : AH} {s : St} {d c : Nat} {bm : Nat → Nat}
theorem c_Tp_put (L : Lay h) {t : St} (T : TPX h t) {v : Nat} (hv : v < 4294967296) (hc : t 107 28 ≤ 176) : Mz (d + 1) 236 [.ref 35, .int (nI v)] h 0 0 (PTp h (putS t v)) := by
  have m8 : ((-8 : Int32) < 0) = True := eq_true (by decide)
  have L0 := L
  refine mz_in (l := [some (.ref 35), some (.int (nI v)), none, none]) mk_Tp_put n_Tp_put rfl l_Tp_put rfl (Nat.le_of_ble_eq_true rfl) fun P hP => ?_
  have fin : ∀ H x3, Fp XTp h H → TPX H (putS t v) → P 3 [some (.ref 35), some (.int (nI v)), some (.int ((-8 : Int32))), x3] [] H 0 0 := by
    intro H x3 F TH
    refine hP.1 _ _ s_Tp_put_3 _ _ _ _ _ ?_
    simp (maxSteps := 1000000) (disch := omega) only [g_Tp_put_3, slk, List.map_cons, List.map_nil, List.sum_cons, List.sum_nil, vc_i, vc_r, vc_n, vc_l, vc_o, Nat.add_zero, kO_e, kA_e, hdO_a, eq_self, blk, stp, lg, ls0, lk, ls1, ls2, kI_i, kL_l, kR_r, kR_n, kR_o, s1I_i, s2I_i, s1L_l, s2L_l, s1R_r, s1R_n, s1R_o, s1A_a, cmpc, popn, swt, rf_s, rf_n, cat_i, cat_r, cat_n, cat_l, true_and, and_true, List.length_cons, List.length_nil, Nat.zero_add, Int.reduceToNat, Nat.reduceAdd, Nat.reduceDiv, Nat.reduceMod, Nat.reduceMul, Nat.reduceSub, Nat.reduceLeDiff, Nat.reduceLT, Nat.reduceEqDiff, ↓reduceIte, r_gr_wi, r_gl_wi, r_gk_wi, r_gn_wi, r_wi_eq, r_wi_ne, r_wi_nj, r_gi_wr, r_gl_wr, r_gk_wr, r_gn_wr, r_gr_wa, r_gl_wa, r_gk_wa, r_gn_wa, aa_e, as_e, al_e, u_lt, u_le, u_gt, u_ge, u_lt0, u_le0, u_gt0, u_ge0, Classical.not_not, not_true_eq_false, not_false_eq_true, oi_n, oi_m, n_dec, nI_add, pk_mul, n_sub, n_eq, n_le, n_lt, n_eq0, n_lt0, n_le0, n_0lt, n_0le, n_eqm, m_eqn, n_ltm, n_and, n_or, n_xor, n_shl, n_shr, tb1, tb0, bP_1, bP_0, bP_n0, ix_n, inb_n, u_eq, u_eqm, m8]
    refine ⟨fun _ => ?_, fun z => (by first | exact z.elim | cases z | exact absurd rfl z | exact absurd trivial z | exact absurd id z | (exfalso; omega))⟩
    refine hP.1 _ _ s_Tp_put_57 _ _ _ _ _ ?_
    simp (maxSteps := 1000000) (disch := omega) only [g_Tp_put_57, slk, List.map_cons, List.map_nil, List.sum_cons, List.sum_nil, vc_i, vc_r, vc_n, vc_l, vc_o, Nat.add_zero, kO_e, kA_e, hdO_a, eq_self, blk, stp, lg, ls0, lk, ls1, ls2, kI_i, kL_l, kR_r, kR_n, kR_o, s1I_i, s2I_i, s1L_l, s2L_l, s1R_r, s1R_n, s1R_o, s1A_a, cmpc, popn, swt, rf_s, rf_n, cat_i, cat_r, cat_n, cat_l, true_and, and_true, List.length_cons, List.length_nil, Nat.zero_add, Int.reduceToNat, Nat.reduceAdd, Nat.reduceDiv, Nat.reduceMod, Nat.reduceMul, Nat.reduceSub, Nat.reduceLeDiff, Nat.reduceLT, Nat.reduceEqDiff, ↓reduceIte, r_gr_wi, r_gl_wi, r_gk_wi, r_gn_wi, r_wi_eq, r_wi_ne, r_wi_nj, r_gi_wr, r_gl_wr, r_gk_wr, r_gn_wr, r_gr_wa, r_gl_wa, r_gk_wa, r_gn_wa, aa_e, as_e, al_e, u_lt, u_le, u_gt, u_ge, u_lt0, u_le0, u_gt0, u_ge0, Classical.not_not, not_true_eq_false, not_false_eq_true, oi_n, oi_m, n_dec, nI_add, pk_mul, n_sub, n_eq, n_le, n_lt, n_eq0, n_lt0, n_le0, n_0lt, n_0le, n_eqm, m_eqn, n_ltm, n_and, n_or, n_xor, n_shl, n_shr, tb1, tb0, bP_1, bP_0, bP_n0, ix_n, inb_n, u_eq, u_eqm, m8]
    rw [r_Tp_put]
    exact ⟨trivial, rfl, F, TH⟩
  have step : ∀ k H (u : St) x3, k ≤ 24 → Fp XTp h H → TPX H u → u 107 28 < 180 → (∀ H' x3, Fp XTp h H' → TPX H' (puS u (v >>> k &&& 255)) → P 3 [some (.ref 35), some (.int (nI v)), some (.int (nI k + -8)), x3] [] H' 0 0) → P 3 [some (.ref 35), some (.int (nI v)), some (.int (nI k)), x3] [] H 0 0 := by
    intro k H u x3 hk F TH hl J
    have e := n_sb (a := v) hk
    have b := nb_lt (a := v) (k := k)
    generalize v >>> k &&& 255 = w at e b J
    have j51 : ∀ H', Fp XTp h H' → TPX H' (puS u w) → P 51 [some (.ref 35), some (.int (nI v)), some (.int (nI k)), some (.int (nI w))] [] H' 0 0 := by
      intro H' F' T'
      refine hP.1 _ _ s_Tp_put_51 _ _ _ _ _ ?_
      simp (maxSteps := 1000000) (disch := omega) only [g_Tp_put_51, slk, List.map_cons, List.map_nil, List.sum_cons, List.sum_nil, vc_i, vc_r, vc_n, vc_l, vc_o, Nat.add_zero, kO_e, kA_e, hdO_a, eq_self, blk, stp, lg, ls0, lk, ls1, ls2, kI_i, kL_l, kR_r, kR_n, kR_o, s1I_i, s2I_i, s1L_l, s2L_l, s1R_r, s1R_n, s1R_o, s1A_a, cmpc, popn, swt, rf_s, rf_n, cat_i, cat_r, cat_n, cat_l, true_and, and_true, List.length_cons, List.length_nil, Nat.zero_add, Int.reduceToNat, Nat.reduceAdd, Nat.reduceDiv, Nat.reduceMod, Nat.reduceMul, Nat.reduceSub, Nat.reduceLeDiff, Nat.reduceLT, Nat.reduceEqDiff, ↓reduceIte, r_gr_wi, r_gl_wi, r_gk_wi, r_gn_wi, r_wi_eq, r_wi_ne, r_wi_nj, r_gi_wr, r_gl_wr, r_gk_wr, r_gn_wr, r_gr_wa, r_gl_wa, r_gk_wa, r_gn_wa, aa_e, as_e, al_e, u_lt, u_le, u_gt, u_ge, u_lt0, u_le0, u_gt0, u_ge0, Classical.not_not, not_true_eq_false, not_false_eq_true, oi_n, oi_m, n_dec, nI_add, pk_mul, n_sub, n_eq, n_le, n_lt, n_eq0, n_lt0, n_le0, n_0lt, n_0le, n_eqm, m_eqn, n_ltm, n_and, n_or, n_xor, n_shl, n_shr, tb1, tb0, bP_1, bP_0, bP_n0, ix_n, inb_n, u_eq, u_eqm]
      exact J H' _ F' T'
    refine hP.1 _ _ s_Tp_put_3 _ _ _ _ _ ?_
    simp (maxSteps := 1000000) (disch := omega) only [g_Tp_put_3, slk, List.map_cons, List.map_nil, List.sum_cons, List.sum_nil, vc_i, vc_r, vc_n, vc_l, vc_o, Nat.add_zero, kO_e, kA_e, hdO_a, eq_self, blk, stp, lg, ls0, lk, ls1, ls2, kI_i, kL_l, kR_r, kR_n, kR_o, s1I_i, s2I_i, s1L_l, s2L_l, s1R_r, s1R_n, s1R_o, s1A_a, cmpc, popn, swt, rf_s, rf_n, cat_i, cat_r, cat_n, cat_l, true_and, and_true, List.length_cons, List.length_nil, Nat.zero_add, Int.reduceToNat, Nat.reduceAdd, Nat.reduceDiv, Nat.reduceMod, Nat.reduceMul, Nat.reduceSub, Nat.reduceLeDiff, Nat.reduceLT, Nat.reduceEqDiff, ↓reduceIte, r_gr_wi, r_gl_wi, r_gk_wi, r_gn_wi, r_wi_eq, r_wi_ne, r_wi_nj, r_gi_wr, r_gl_wr, r_gk_wr, r_gn_wr, r_gr_wa, r_gl_wa, r_gk_wa, r_gn_wa, aa_e, as_e, al_e, u_lt, u_le, u_gt, u_ge, u_lt0, u_le0, u_gt0, u_ge0, Classical.not_not, not_true_eq_false, not_false_eq_true, oi_n, oi_m, n_dec, nI_add, pk_mul, n_sub, n_eq, n_le, n_lt, n_eq0, n_lt0, n_le0, n_0lt, n_0le, n_eqm, m_eqn, n_ltm, n_and, n_or, n_xor, n_shl, n_shr, tb1, tb0, bP_1, bP_0, bP_n0, ix_n, inb_n, u_eq, u_eqm, e, TH.1]
    refine ⟨fun z => (by first | exact z.elim | cases z | exact absurd rfl z | exact absurd trivial z | exact absurd id z | (exfalso; omega)), fun _ => ?_⟩
    refine hP.1 _ _ s_Tp_put_7 _ _ _ _ _ ?_
    simp (maxSteps := 1000000) (disch := omega) only [g_Tp_put_7, slk, List.map_cons, List.map_nil, List.sum_cons, List.sum_nil, vc_i, vc_r, vc_n, vc_l, vc_o, Nat.add_zero, kO_e, kA_e, hdO_a, eq_self, blk, stp, lg, ls0, lk, ls1, ls2, kI_i, kL_l, kR_r, kR_n, kR_o, s1I_i, s2I_i, s1L_l, s2L_l, s1R_r, s1R_n, s1R_o, s1A_a, cmpc, popn, swt, rf_s, rf_n, cat_i, cat_r, cat_n, cat_l, true_and, and_true, List.length_cons, List.length_nil, Nat.zero_add, Int.reduceToNat, Nat.reduceAdd, Nat.reduceDiv, Nat.reduceMod, Nat.reduceMul, Nat.reduceSub, Nat.reduceLeDiff, Nat.reduceLT, Nat.reduceEqDiff, ↓reduceIte, r_gr_wi, r_gl_wi, r_gk_wi, r_gn_wi, r_wi_eq, r_wi_ne, r_wi_nj, r_gi_wr, r_gl_wr, r_gk_wr, r_gn_wr, r_gr_wa, r_gl_wa, r_gk_wa, r_gn_wa, aa_e, as_e, al_e, u_lt, u_le, u_gt, u_ge, u_lt0, u_le0, u_gt0, u_ge0, Classical.not_not, not_true_eq_false, not_false_eq_true, oi_n, oi_m, n_dec, nI_add, pk_mul, n_sub, n_eq, n_le, n_lt, n_eq0, n_lt0, n_le0, n_0lt, n_0le, n_eqm, m_eqn, n_ltm, n_and, n_or, n_xor, n_shl, n_shr, tb1, tb0, bP_1, bP_0, bP_n0, ix_n, inb_n, u_eq, u_eqm, e, TH.1]
    refine ⟨fun q => ?_, fun q => ?_⟩
    · have q' : w = 0 := by omega
      refine j51 H F ?_
      rw [show puS u w = u from if_pos q']
      exact TH
    · have q' : ¬ w = 0 := by omega
      refine hP.1 _ _ s_Tp_put_19 _ _ _ _ _ ?_
      simp (maxSteps := 1000000) (disch := omega) only [g_Tp_put_19, slk, List.map_cons, List.map_nil, List.sum_cons, List.sum_nil, vc_i, vc_r, vc_n, vc_l, vc_o, Nat.add_zero, kO_e, kA_e, hdO_a, eq_self, blk, stp, lg, ls0, lk, ls1, ls2, kI_i, kL_l, kR_r, kR_n, kR_o, s1I_i, s2I_i, s1L_l, s2L_l, s1R_r, s1R_n, s1R_o, s1A_a, cmpc, popn, swt, rf_s, rf_n, cat_i, cat_r, cat_n, cat_l, true_and, and_true, List.length_cons, List.length_nil, Nat.zero_add, Int.reduceToNat, Nat.reduceAdd, Nat.reduceDiv, Nat.reduceMod, Nat.reduceMul, Nat.reduceSub, Nat.reduceLeDiff, Nat.reduceLT, Nat.reduceEqDiff, ↓reduceIte, r_gr_wi, r_gl_wi, r_gk_wi, r_gn_wi, r_wi_eq, r_wi_ne, r_wi_nj, r_gi_wr, r_gl_wr, r_gk_wr, r_gn_wr, r_gr_wa, r_gl_wa, r_gk_wa, r_gn_wa, aa_e, as_e, al_e, u_lt, u_le, u_gt, u_ge, u_lt0, u_le0, u_gt0, u_ge0, Classical.not_not, not_true_eq_false, not_false_eq_true, oi_n, oi_m, n_dec, nI_add, pk_mul, n_sub, n_eq, n_le, n_lt, n_eq0, n_lt0, n_le0, n_0lt, n_0le, n_eqm, m_eqn, n_ltm, n_and, n_or, n_xor, n_shl, n_shr, tb1, tb0, bP_1, bP_0, bP_n0, ix_n, inb_n, u_eq, u_eqm, k35 (F.lay L0), f35_0 (F.lay L0), k36 (F.lay L0), e, TH.1]
      refine ⟨fun z => (by first | exact z.elim | cases z | exact absurd rfl z | exact absurd trivial z | exact absurd id z | (exfalso; omega)), fun _ => ?_⟩
      refine hP.1 _ _ s_Tp_put_31 _ _ _ _ _ ?_
      simp (maxSteps := 1000000) (disch := omega) only [g_Tp_put_31, slk, List.map_cons, List.map_nil, List.sum_cons, List.sum_nil, vc_i, vc_r, vc_n, vc_l, vc_o, Nat.add_zero, kO_e, kA_e, hdO_a, eq_self, blk, stp, lg, ls0, lk, ls1, ls2, kI_i, kL_l, kR_r, kR_n, kR_o, s1I_i, s2I_i, s1L_l, s2L_l, s1R_r, s1R_n, s1R_o, s1A_a, cmpc, popn, swt, rf_s, rf_n, cat_i, cat_r, cat_n, cat_l, true_and, and_true, List.length_cons, List.length_nil, Nat.zero_add, Int.reduceToNat, Nat.reduceAdd, Nat.reduceDiv, Nat.reduceMod, Nat.reduceMul, Nat.reduceSub, Nat.reduceLeDiff, Nat.reduceLT, Nat.reduceEqDiff, ↓reduceIte, r_gr_wi, r_gl_wi, r_gk_wi, r_gn_wi, r_wi_eq, r_wi_ne, r_wi_nj, r_gi_wr, r_gl_wr, r_gk_wr, r_gn_wr, r_gr_wa, r_gl_wa, r_gk_wa, r_gn_wa, aa_e, as_e, al_e, u_lt, u_le, u_gt, u_ge, u_lt0, u_le0, u_gt0, u_ge0, Classical.not_not, not_true_eq_false, not_false_eq_true, oi_n, oi_m, n_dec, nI_add, pk_mul, n_sub, n_eq, n_le, n_lt, n_eq0, n_lt0, n_le0, n_0lt, n_0le, n_eqm, m_eqn, n_ltm, n_and, n_or, n_xor, n_shl, n_shr, tb1, tb0, bP_1, bP_0, bP_n0, ix_n, inb_n, u_eq, u_eqm, k35 (F.lay L0), f35_0 (F.lay L0), k36 (F.lay L0), e, TH.1]
      refine j51 _ ((F.wi (Or.inr rfl) _ _).wi (Or.inl rfl) _ _) ⟨?_, fun j hj => ?_⟩
      · rw [r_wi_eq, puS_28, show oB w = 1 from if_neg q']
      · rw [puS_28, show oB w = 1 from if_neg q'] at hj
        rw [show puS u w = uS (uS u 125 (u 107 28) w) 107 28 (u 107 28 + 1) from if_neg q', uS_o (fun z => by omega), r_wi_ne _ _ _ _ (by omega)]
        by_cases y : j = u 107 28
        · subst y
          rw [r_wi_eq, uS_k]
        · rw [r_wi_nj _ _ _ y, uS_o (fun z => y z.2)]
          exact TH.2 j (by omega)
  have ob : ∀ x y, oB (x &&& y) ≤ 1 := fun x y => oB_b _
  refine hP.1 _ _ s_Tp_put_0 _ _ _ _ _ ?_
  simp (maxSteps := 1000000) (disch := omega) only [g_Tp_put_0, slk, List.map_cons, List.map_nil, List.sum_cons, List.sum_nil, vc_i, vc_r, vc_n, vc_l, vc_o, Nat.add_zero, kO_e, kA_e, hdO_a, eq_self, blk, stp, lg, ls0, lk, ls1, ls2, kI_i, kL_l, kR_r, kR_n, kR_o, s1I_i, s2I_i, s1L_l, s2L_l, s1R_r, s1R_n, s1R_o, s1A_a, cmpc, popn, swt, rf_s, rf_n, cat_i, cat_r, cat_n, cat_l, true_and, and_true, List.length_cons, List.length_nil, Nat.zero_add, Int.reduceToNat, Nat.reduceAdd, Nat.reduceDiv, Nat.reduceMod, Nat.reduceMul, Nat.reduceSub, Nat.reduceLeDiff, Nat.reduceLT, Nat.reduceEqDiff, ↓reduceIte, r_gr_wi, r_gl_wi, r_gk_wi, r_gn_wi, r_wi_eq, r_wi_ne, r_wi_nj, r_gi_wr, r_gl_wr, r_gk_wr, r_gn_wr, r_gr_wa, r_gl_wa, r_gk_wa, r_gn_wa, aa_e, as_e, al_e, u_lt, u_le, u_gt, u_ge, u_lt0, u_le0, u_gt0, u_ge0, Classical.not_not, not_true_eq_false, not_false_eq_true, oi_n, oi_m, n_dec, nI_add, pk_mul, n_sub, n_eq, n_le, n_lt, n_eq0, n_lt0, n_le0, n_0lt, n_0le, n_eqm, m_eqn, n_ltm, n_and, n_or, n_xor, n_shl, n_shr, tb1, tb0, bP_1, bP_0, bP_n0, ix_n, inb_n, u_eq, u_eqm]
  refine step 24 h t none (by omega) (Fp.refl _ _) T (by omega) (fun H1 x1 F1 T1 => ?_)
  have a1 : puS t (v >>> 24 &&& 255) 107 28 ≤ 177 := by
    rw [puS_28]
    have := ob (v >>> 24) 255
    omega
  rw [show nI 24 + -8 = nI 16 by decide]
  refine step 16 H1 _ x1 (by omega) F1 T1 (by omega) (fun H2 x2 F2 T2 => ?_)
  have a2 : puS (puS t (v >>> 24 &&& 255)) (v >>> 16 &&& 255) 107 28 ≤ 178 := by
    rw [puS_28]
    have := ob (v >>> 16) 255
    omega
  rw [show nI 16 + -8 = nI 8 by decide]
  refine step 8 H2 _ x2 (by omega) F2 T2 (by omega) (fun H3 x3 F3 T3 => ?_)
  have a3 : puS (puS (puS t (v >>> 24 &&& 255)) (v >>> 16 &&& 255)) (v >>> 8 &&& 255) 107 28 ≤ 179 := by
    rw [puS_28]
    have := ob (v >>> 8) 255
    omega
  rw [show nI 8 + -8 = nI 0 by decide]
  refine step 0 H3 _ x3 (by omega) F3 T3 (by omega) (fun H4 x4 F4 T4 => ?_)
  rw [show nI 0 + -8 = (-8 : Int32) by decide]
  exact fin H4 x4 F4 T4
theorem ci_tape (W : RH h s) {h2 H : AH} (I : CI h2 s bm c) {B : Nat → Nat} {n : Nat} (FP : Fp XTp h2 H) (T : TPX H (tpU s B n)) : CI H (tpU s B n) bm c := by
  have b0 := rs_m W
  have g := (ci_L I).2.2
  have c4 := (ci_ct I).2.2.2.2.2
  have FP : Fp (fun a => a = 35 ∨ a = 36) h2 H := FP
  have FB := FP.fg
  exact ⟨FB.lay (ci_L I) (fun a j y => by first | exact y.elim | (unfold isT; omega)), Fg.cc (s := s) FB g (ci_C I) (fun a q => by omega) (fun j y => (by first | exact y.elim | omega)) (fun j _ y => (by first | exact y.elim | omega)) (fun e he => rs_md W he), Fg.ct (s := s) FB g (ci_ct I) (fun q => by omega), Fg.mt (s := s) FB g (ci_m I) (fun m hm => rs_law W hm) (fun m hm a q => by have := ci_b I hm; omega) (fun m hm a j y => by first | exact y.elim | (have := ci_b I hm; omega)) (fun j _ y => (by first | exact y.elim | omega)) (fun j _ y => (by first | exact y.elim | omega)), (show BO s bm from ci_bo I), Fg.txa (s := s) FB g (ci_tx I) (fun t ht a q => by have := isTx_b (ci_tx I) ht; omega) (fun t ht j y => by first | exact y.elim | (have := isTx_b (ci_tx I) ht; omega)) (fun j _ y => (by first | exact y.elim | omega)) (fun j _ y => (by first | exact y.elim | omega)), Fg.dj (s := s) FB g (ci_dj I) (fun j _ y => (by first | exact y.elim | omega)) (fun j _ y => (by first | exact y.elim | omega)), T, Fg.plc (s := s) FB g (ci_pl I) (fun a q => by omega), Fg.gfc (s := s) FB g (ci_gf I) (by rw [FB.2.2.1 61 (by omega) (fun q => by omega)]) (fun a q => by omega), Fg.asc (s := s) FB g (ci_as I) (fun a q => by omega), Fg.twc (s := s) FB g (ci_tw I) (fun a ha q => by have := ta_b ha; unfold isT at ha; omega), std_ag W FB g c4 (ci_st I) rfl (fun i hi => ⟨⟨rfl, fun _ => rfl⟩, ⟨rfl, rfl, rfl⟩, fun _ _ => rfl, fun _ _ _ _ => rfl, fun _ _ => rfl, fun _ _ _ _ _ _ => rfl, fun _ _ _ _ _ => Iff.rfl, fun _ => Iff.rfl, fun ed rs e => trI_c _ (fun k hk => ⟨rfl, rfl, fun _ => Iff.rfl⟩)⟩) (fun j hj => rfl) (fun j hj a q => by have e : tOf j = 75 + 8 * j := rfl; omega) (fun j hj y => y.elim), (show PU1 s from ci_pu I)⟩
theorem c_T_feed (W : RH h s) {h2 : AH} (I : CI h2 s bm c) {v1 v2 v3 v4 v5 : Nat} (g1 : v1 < 4294967296) (g2 : v2 < 4294967296) (g3 : v3 < 4294967296) (g4 : v4 < 4294967296) (g5 : v5 < 4294967296) : Mz (d + 3) 12 [.ref 20, .int (nI v1), .int (nI v2), .int (nI v3), .int (nI v4), .int (nI v5)] h2 0 0 (PC2 (iff1 (feedN s v1 v2 v3 v4 v5 ≤ 160) (nI (feedN s v1 v2 v3 v4 v5))) (ifS (feedN s v1 v2 v3 v4 v5 ≤ 160) (feedS s v1 v2 v3 v4 v5) s) h2) := by
  have bl := rs_l W
  have L0 := ci_L I
  have g := L0.2.2
  have cb := cB_b
  have e28 := feed_28 s v1 v2 v3 v4 v5
  have cR : ∀ a, XTp a → clR a := fun a q => by unfold XTp at q; unfold clR; omega
  have add : Mz (d + 2) 235 [.ref 35, .int (nI v1), .int (nI v2), .int (nI v3), .int (nI v4), .int (nI v5)] h2 0 0 (PC2 (iff1 (feedN s v1 v2 v3 v4 v5 ≤ 160) (nI (feedN s v1 v2 v3 v4 v5))) (ifS (feedN s v1 v2 v3 v4 v5 ≤ 160) (feedS s v1 v2 v3 v4 v5) s) h2) := by
    refine mz_in (l := [some (.ref 35), some (.int (nI v1)), some (.int (nI v2)), some (.int (nI v3)), some (.int (nI v4)), some (.int (nI v5)), none]) mk_Tp_add n_Tp_add rfl l_Tp_add rfl (Nat.le_of_ble_eq_true rfl) fun P hP => ?_
    have n1 : putS s v1 107 28 = s 107 28 + cB (bsL v1) := puL_28 _ _
    have n2 : putS (putS s v1) v2 107 28 = s 107 28 + cB (bsL v1) + cB (bsL v2) := by rw [show putS (putS s v1) v2 107 28 = putS s v1 107 28 + cB (bsL v2) from puL_28 _ _, n1]
    have n3 : putS (putS (putS s v1) v2) v3 107 28 = s 107 28 + cB (bsL v1) + cB (bsL v2) + cB (bsL v3) := by rw [show putS (putS (putS s v1) v2) v3 107 28 = putS (putS s v1) v2 107 28 + cB (bsL v3) from puL_28 _ _, n2]
    have n4 : putS (putS (putS (putS s v1) v2) v3) v4 107 28 = s 107 28 + cB (bsL v1) + cB (bsL v2) + cB (bsL v3) + cB (bsL v4) := by rw [show putS (putS (putS (putS s v1) v2) v3) v4 107 28 = putS (putS (putS s v1) v2) v3 107 28 + cB (bsL v4) from puL_28 _ _, n3]
    have q1 := cb v1
    have q2 := cb v2
    have q3 := cb v3
    have q4 := cb v4
    have q5 := cb v5
    refine hP.1 _ _ sx_Tp_add_0 _ _ _ _ _ ?_
    simp (maxSteps := 1000000) (disch := omega) only [gx_Tp_add_0, slk, List.map_cons, List.map_nil, List.sum_cons, List.sum_nil, vc_i, vc_r, vc_n, vc_l, vc_o, Nat.add_zero, kO_e, kA_e, hdO_a, eq_self, blk, stp, lg, ls0, lk, ls1, ls2, kI_i, kL_l, kR_r, kR_n, kR_o, s1I_i, s2I_i, s1L_l, s2L_l, s1R_r, s1R_n, s1R_o, s1A_a, cmpc, popn, swt, rf_s, rf_n, cat_i, cat_r, cat_n, cat_l, true_and, and_true, List.length_cons, List.length_nil, Nat.zero_add, Int.reduceToNat, Nat.reduceAdd, Nat.reduceDiv, Nat.reduceMod, Nat.reduceMul, Nat.reduceSub, Nat.reduceLeDiff, Nat.reduceLT, Nat.reduceEqDiff, ↓reduceIte, r_gr_wi, r_gl_wi, r_gk_wi, r_gn_wi, r_wi_eq, r_wi_ne, r_wi_nj, r_gi_wr, r_gl_wr, r_gk_wr, r_gn_wr, r_gr_wa, r_gl_wa, r_gk_wa, r_gn_wa, aa_e, as_e, al_e, u_lt, u_le, u_gt, u_ge, u_lt0, u_le0, u_gt0, u_ge0, Classical.not_not, not_true_eq_false, not_false_eq_true, oi_n, oi_m, n_dec, nI_add, pk_mul, n_sub, n_eq, n_le, n_lt, n_eq0, n_lt0, n_le0, n_0lt, n_0le, n_eqm, m_eqn, n_ltm, n_and, n_or, n_xor, n_shl, n_shr, tb1, tb0, bP_1, bP_0, bP_n0, ix_n, inb_n, u_eq, u_eqm, k35 L0, (ci_tp I).1]
    refine ⟨_, _, _, c_Tp_put L0 (ci_tp I) g1 (by omega), ⟨by omega, by omega⟩, ?_⟩
    rintro r H1 ⟨rfl, F1, T1⟩
    simp (maxSteps := 1000000) (disch := omega) only [slk, List.map_cons, List.map_nil, List.sum_cons, List.sum_nil, vc_i, vc_r, vc_n, vc_l, vc_o, Nat.add_zero, kO_e, kA_e, hdO_a, eq_self, blk, stp, lg, ls0, lk, ls1, ls2, kI_i, kL_l, kR_r, kR_n, kR_o, s1I_i, s2I_i, s1L_l, s2L_l, s1R_r, s1R_n, s1R_o, s1A_a, cmpc, popn, swt, rf_s, rf_n, cat_i, cat_r, cat_n, cat_l, true_and, and_true, List.length_cons, List.length_nil, Nat.zero_add, Int.reduceToNat, Nat.reduceAdd, Nat.reduceDiv, Nat.reduceMod, Nat.reduceMul, Nat.reduceSub, Nat.reduceLeDiff, Nat.reduceLT, Nat.reduceEqDiff, ↓reduceIte, r_gr_wi, r_gl_wi, r_gk_wi, r_gn_wi, r_wi_eq, r_wi_ne, r_wi_nj, r_gi_wr, r_gl_wr, r_gk_wr, r_gn_wr, r_gr_wa, r_gl_wa, r_gk_wa, r_gn_wa, aa_e, as_e, al_e, u_lt, u_le, u_gt, u_ge, u_lt0, u_le0, u_gt0, u_ge0, Classical.not_not, not_true_eq_false, not_false_eq_true, oi_n, oi_m, n_dec, nI_add, pk_mul, n_sub, n_eq, n_le, n_lt, n_eq0, n_lt0, n_le0, n_0lt, n_0le, n_eqm, m_eqn, n_ltm, n_and, n_or, n_xor, n_shl, n_shr, tb1, tb0, bP_1, bP_0, bP_n0, ix_n, inb_n, u_eq, u_eqm, k35 L0, k35 (F1.lay L0)]
    refine hP.1 _ _ sx_Tp_add_11 _ _ _ _ _ ?_
    simp (maxSteps := 1000000) (disch := omega) only [gx_Tp_add_11, slk, List.map_cons, List.map_nil, List.sum_cons, List.sum_nil, vc_i, vc_r, vc_n, vc_l, vc_o, Nat.add_zero, kO_e, kA_e, hdO_a, eq_self, blk, stp, lg, ls0, lk, ls1, ls2, kI_i, kL_l, kR_r, kR_n, kR_o, s1I_i, s2I_i, s1L_l, s2L_l, s1R_r, s1R_n, s1R_o, s1A_a, cmpc, popn, swt, rf_s, rf_n, cat_i, cat_r, cat_n, cat_l, true_and, and_true, List.length_cons, List.length_nil, Nat.zero_add, Int.reduceToNat, Nat.reduceAdd, Nat.reduceDiv, Nat.reduceMod, Nat.reduceMul, Nat.reduceSub, Nat.reduceLeDiff, Nat.reduceLT, Nat.reduceEqDiff, ↓reduceIte, r_gr_wi, r_gl_wi, r_gk_wi, r_gn_wi, r_wi_eq, r_wi_ne, r_wi_nj, r_gi_wr, r_gl_wr, r_gk_wr, r_gn_wr, r_gr_wa, r_gl_wa, r_gk_wa, r_gn_wa, aa_e, as_e, al_e, u_lt, u_le, u_gt, u_ge, u_lt0, u_le0, u_gt0, u_ge0, Classical.not_not, not_true_eq_false, not_false_eq_true, oi_n, oi_m, n_dec, nI_add, pk_mul, n_sub, n_eq, n_le, n_lt, n_eq0, n_lt0, n_le0, n_0lt, n_0le, n_eqm, m_eqn, n_ltm, n_and, n_or, n_xor, n_shl, n_shr, tb1, tb0, bP_1, bP_0, bP_n0, ix_n, inb_n, u_eq, u_eqm, k35 (F1.lay L0), k35 (F1.lay L0)]
    refine ⟨_, _, _, c_Tp_put (F1.lay L0) T1 g2 (by omega), ⟨by omega, by omega⟩, ?_⟩
    rintro r H2 ⟨rfl, F2, T2⟩
    have F2 := F1.trans F2
    simp (maxSteps := 1000000) (disch := omega) only [slk, List.map_cons, List.map_nil, List.sum_cons, List.sum_nil, vc_i, vc_r, vc_n, vc_l, vc_o, Nat.add_zero, kO_e, kA_e, hdO_a, eq_self, blk, stp, lg, ls0, lk, ls1, ls2, kI_i, kL_l, kR_r, kR_n, kR_o, s1I_i, s2I_i, s1L_l, s2L_l, s1R_r, s1R_n, s1R_o, s1A_a, cmpc, popn, swt, rf_s, rf_n, cat_i, cat_r, cat_n, cat_l, true_and, and_true, List.length_cons, List.length_nil, Nat.zero_add, Int.reduceToNat, Nat.reduceAdd, Nat.reduceDiv, Nat.reduceMod, Nat.reduceMul, Nat.reduceSub, Nat.reduceLeDiff, Nat.reduceLT, Nat.reduceEqDiff, ↓reduceIte, r_gr_wi, r_gl_wi, r_gk_wi, r_gn_wi, r_wi_eq, r_wi_ne, r_wi_nj, r_gi_wr, r_gl_wr, r_gk_wr, r_gn_wr, r_gr_wa, r_gl_wa, r_gk_wa, r_gn_wa, aa_e, as_e, al_e, u_lt, u_le, u_gt, u_ge, u_lt0, u_le0, u_gt0, u_ge0, Classical.not_not, not_true_eq_false, not_false_eq_true, oi_n, oi_m, n_dec, nI_add, pk_mul, n_sub, n_eq, n_le, n_lt, n_eq0, n_lt0, n_le0, n_0lt, n_0le, n_eqm, m_eqn, n_ltm, n_and, n_or, n_xor, n_shl, n_shr, tb1, tb0, bP_1, bP_0, bP_n0, ix_n, inb_n, u_eq, u_eqm, k35 (F1.lay L0), k35 (F2.lay L0)]
    refine hP.1 _ _ sx_Tp_add_16 _ _ _ _ _ ?_
    simp (maxSteps := 1000000) (disch := omega) only [gx_Tp_add_16, slk, List.map_cons, List.map_nil, List.sum_cons, List.sum_nil, vc_i, vc_r, vc_n, vc_l, vc_o, Nat.add_zero, kO_e, kA_e, hdO_a, eq_self, blk, stp, lg, ls0, lk, ls1, ls2, kI_i, kL_l, kR_r, kR_n, kR_o, s1I_i, s2I_i, s1L_l, s2L_l, s1R_r, s1R_n, s1R_o, s1A_a, cmpc, popn, swt, rf_s, rf_n, cat_i, cat_r, cat_n, cat_l, true_and, and_true, List.length_cons, List.length_nil, Nat.zero_add, Int.reduceToNat, Nat.reduceAdd, Nat.reduceDiv, Nat.reduceMod, Nat.reduceMul, Nat.reduceSub, Nat.reduceLeDiff, Nat.reduceLT, Nat.reduceEqDiff, ↓reduceIte, r_gr_wi, r_gl_wi, r_gk_wi, r_gn_wi, r_wi_eq, r_wi_ne, r_wi_nj, r_gi_wr, r_gl_wr, r_gk_wr, r_gn_wr, r_gr_wa, r_gl_wa, r_gk_wa, r_gn_wa, aa_e, as_e, al_e, u_lt, u_le, u_gt, u_ge, u_lt0, u_le0, u_gt0, u_ge0, Classical.not_not, not_true_eq_false, not_false_eq_true, oi_n, oi_m, n_dec, nI_add, pk_mul, n_sub, n_eq, n_le, n_lt, n_eq0, n_lt0, n_le0, n_0lt, n_0le, n_eqm, m_eqn, n_ltm, n_and, n_or, n_xor, n_shl, n_shr, tb1, tb0, bP_1, bP_0, bP_n0, ix_n, inb_n, u_eq, u_eqm, k35 (F2.lay L0), k35 (F2.lay L0)]
    refine ⟨_, _, _, c_Tp_put (F2.lay L0) T2 g3 (by omega), ⟨by omega, by omega⟩, ?_⟩
    rintro r H3 ⟨rfl, F3, T3⟩
    have F3 := F2.trans F3
    simp (maxSteps := 1000000) (disch := omega) only [slk, List.map_cons, List.map_nil, List.sum_cons, List.sum_nil, vc_i, vc_r, vc_n, vc_l, vc_o, Nat.add_zero, kO_e, kA_e, hdO_a, eq_self, blk, stp, lg, ls0, lk, ls1, ls2, kI_i, kL_l, kR_r, kR_n, kR_o, s1I_i, s2I_i, s1L_l, s2L_l, s1R_r, s1R_n, s1R_o, s1A_a, cmpc, popn, swt, rf_s, rf_n, cat_i, cat_r, cat_n, cat_l, true_and, and_true, List.length_cons, List.length_nil, Nat.zero_add, Int.reduceToNat, Nat.reduceAdd, Nat.reduceDiv, Nat.reduceMod, Nat.reduceMul, Nat.reduceSub, Nat.reduceLeDiff, Nat.reduceLT, Nat.reduceEqDiff, ↓reduceIte, r_gr_wi, r_gl_wi, r_gk_wi, r_gn_wi, r_wi_eq, r_wi_ne, r_wi_nj, r_gi_wr, r_gl_wr, r_gk_wr, r_gn_wr, r_gr_wa, r_gl_wa, r_gk_wa, r_gn_wa, aa_e, as_e, al_e, u_lt, u_le, u_gt, u_ge, u_lt0, u_le0, u_gt0, u_ge0, Classical.not_not, not_true_eq_false, not_false_eq_true, oi_n, oi_m, n_dec, nI_add, pk_mul, n_sub, n_eq, n_le, n_lt, n_eq0, n_lt0, n_le0, n_0lt, n_0le, n_eqm, m_eqn, n_ltm, n_and, n_or, n_xor, n_shl, n_shr, tb1, tb0, bP_1, bP_0, bP_n0, ix_n, inb_n, u_eq, u_eqm, k35 (F2.lay L0), k35 (F3.lay L0)]
    refine hP.1 _ _ sx_Tp_add_21 _ _ _ _ _ ?_
    simp (maxSteps := 1000000) (disch := omega) only [gx_Tp_add_21, slk, List.map_cons, List.map_nil, List.sum_cons, List.sum_nil, vc_i, vc_r, vc_n, vc_l, vc_o, Nat.add_zero, kO_e, kA_e, hdO_a, eq_self, blk, stp, lg, ls0, lk, ls1, ls2, kI_i, kL_l, kR_r, kR_n, kR_o, s1I_i, s2I_i, s1L_l, s2L_l, s1R_r, s1R_n, s1R_o, s1A_a, cmpc, popn, swt, rf_s, rf_n, cat_i, cat_r, cat_n, cat_l, true_and, and_true, List.length_cons, List.length_nil, Nat.zero_add, Int.reduceToNat, Nat.reduceAdd, Nat.reduceDiv, Nat.reduceMod, Nat.reduceMul, Nat.reduceSub, Nat.reduceLeDiff, Nat.reduceLT, Nat.reduceEqDiff, ↓reduceIte, r_gr_wi, r_gl_wi, r_gk_wi, r_gn_wi, r_wi_eq, r_wi_ne, r_wi_nj, r_gi_wr, r_gl_wr, r_gk_wr, r_gn_wr, r_gr_wa, r_gl_wa, r_gk_wa, r_gn_wa, aa_e, as_e, al_e, u_lt, u_le, u_gt, u_ge, u_lt0, u_le0, u_gt0, u_ge0, Classical.not_not, not_true_eq_false, not_false_eq_true, oi_n, oi_m, n_dec, nI_add, pk_mul, n_sub, n_eq, n_le, n_lt, n_eq0, n_lt0, n_le0, n_0lt, n_0le, n_eqm, m_eqn, n_ltm, n_and, n_or, n_xor, n_shl, n_shr, tb1, tb0, bP_1, bP_0, bP_n0, ix_n, inb_n, u_eq, u_eqm, k35 (F3.lay L0), k35 (F3.lay L0)]
    refine ⟨_, _, _, c_Tp_put (F3.lay L0) T3 g4 (by omega), ⟨by omega, by omega⟩, ?_⟩
    rintro r H4 ⟨rfl, F4, T4⟩
    have F4 := F3.trans F4
    simp (maxSteps := 1000000) (disch := omega) only [slk, List.map_cons, List.map_nil, List.sum_cons, List.sum_nil, vc_i, vc_r, vc_n, vc_l, vc_o, Nat.add_zero, kO_e, kA_e, hdO_a, eq_self, blk, stp, lg, ls0, lk, ls1, ls2, kI_i, kL_l, kR_r, kR_n, kR_o, s1I_i, s2I_i, s1L_l, s2L_l, s1R_r, s1R_n, s1R_o, s1A_a, cmpc, popn, swt, rf_s, rf_n, cat_i, cat_r, cat_n, cat_l, true_and, and_true, List.length_cons, List.length_nil, Nat.zero_add, Int.reduceToNat, Nat.reduceAdd, Nat.reduceDiv, Nat.reduceMod, Nat.reduceMul, Nat.reduceSub, Nat.reduceLeDiff, Nat.reduceLT, Nat.reduceEqDiff, ↓reduceIte, r_gr_wi, r_gl_wi, r_gk_wi, r_gn_wi, r_wi_eq, r_wi_ne, r_wi_nj, r_gi_wr, r_gl_wr, r_gk_wr, r_gn_wr, r_gr_wa, r_gl_wa, r_gk_wa, r_gn_wa, aa_e, as_e, al_e, u_lt, u_le, u_gt, u_ge, u_lt0, u_le0, u_gt0, u_ge0, Classical.not_not, not_true_eq_false, not_false_eq_true, oi_n, oi_m, n_dec, nI_add, pk_mul, n_sub, n_eq, n_le, n_lt, n_eq0, n_lt0, n_le0, n_0lt, n_0le, n_eqm, m_eqn, n_ltm, n_and, n_or, n_xor, n_shl, n_shr, tb1, tb0, bP_1, bP_0, bP_n0, ix_n, inb_n, u_eq, u_eqm, k35 (F3.lay L0), k35 (F4.lay L0)]
    refine hP.1 _ _ sx_Tp_add_27 _ _ _ _ _ ?_
    simp (maxSteps := 1000000) (disch := omega) only [gx_Tp_add_27, slk, List.map_cons, List.map_nil, List.sum_cons, List.sum_nil, vc_i, vc_r, vc_n, vc_l, vc_o, Nat.add_zero, kO_e, kA_e, hdO_a, eq_self, blk, stp, lg, ls0, lk, ls1, ls2, kI_i, kL_l, kR_r, kR_n, kR_o, s1I_i, s2I_i, s1L_l, s2L_l, s1R_r, s1R_n, s1R_o, s1A_a, cmpc, popn, swt, rf_s, rf_n, cat_i, cat_r, cat_n, cat_l, true_and, and_true, List.length_cons, List.length_nil, Nat.zero_add, Int.reduceToNat, Nat.reduceAdd, Nat.reduceDiv, Nat.reduceMod, Nat.reduceMul, Nat.reduceSub, Nat.reduceLeDiff, Nat.reduceLT, Nat.reduceEqDiff, ↓reduceIte, r_gr_wi, r_gl_wi, r_gk_wi, r_gn_wi, r_wi_eq, r_wi_ne, r_wi_nj, r_gi_wr, r_gl_wr, r_gk_wr, r_gn_wr, r_gr_wa, r_gl_wa, r_gk_wa, r_gn_wa, aa_e, as_e, al_e, u_lt, u_le, u_gt, u_ge, u_lt0, u_le0, u_gt0, u_ge0, Classical.not_not, not_true_eq_false, not_false_eq_true, oi_n, oi_m, n_dec, nI_add, pk_mul, n_sub, n_eq, n_le, n_lt, n_eq0, n_lt0, n_le0, n_0lt, n_0le, n_eqm, m_eqn, n_ltm, n_and, n_or, n_xor, n_shl, n_shr, tb1, tb0, bP_1, bP_0, bP_n0, ix_n, inb_n, u_eq, u_eqm, k35 (F4.lay L0), k35 (F4.lay L0)]
    refine ⟨_, _, _, c_Tp_put (F4.lay L0) T4 g5 (by omega), ⟨by omega, by omega⟩, ?_⟩
    rintro r H5 ⟨rfl, F5, T5⟩
    have F5 := F4.trans F5
    have T5 : TPX H5 (feedS s v1 v2 v3 v4 v5) := T5
    have h5 := T5.1
    rw [e28] at h5
    have fb : feedN s v1 v2 v3 v4 v5 ≤ 180 := by
      unfold feedN
      omega
    simp (maxSteps := 1000000) (disch := omega) only [slk, List.map_cons, List.map_nil, List.sum_cons, List.sum_nil, vc_i, vc_r, vc_n, vc_l, vc_o, Nat.add_zero, kO_e, kA_e, hdO_a, eq_self, blk, stp, lg, ls0, lk, ls1, ls2, kI_i, kL_l, kR_r, kR_n, kR_o, s1I_i, s2I_i, s1L_l, s2L_l, s1R_r, s1R_n, s1R_o, s1A_a, cmpc, popn, swt, rf_s, rf_n, cat_i, cat_r, cat_n, cat_l, true_and, and_true, List.length_cons, List.length_nil, Nat.zero_add, Int.reduceToNat, Nat.reduceAdd, Nat.reduceDiv, Nat.reduceMod, Nat.reduceMul, Nat.reduceSub, Nat.reduceLeDiff, Nat.reduceLT, Nat.reduceEqDiff, ↓reduceIte, r_gr_wi, r_gl_wi, r_gk_wi, r_gn_wi, r_wi_eq, r_wi_ne, r_wi_nj, r_gi_wr, r_gl_wr, r_gk_wr, r_gn_wr, r_gr_wa, r_gl_wa, r_gk_wa, r_gn_wa, aa_e, as_e, al_e, u_lt, u_le, u_gt, u_ge, u_lt0, u_le0, u_gt0, u_ge0, Classical.not_not, not_true_eq_false, not_false_eq_true, oi_n, oi_m, n_dec, nI_add, pk_mul, n_sub, n_eq, n_le, n_lt, n_eq0, n_lt0, n_le0, n_0lt, n_0le, n_eqm, m_eqn, n_ltm, n_and, n_or, n_xor, n_shl, n_shr, tb1, tb0, bP_1, bP_0, bP_n0, ix_n, inb_n, u_eq, u_eqm, k35 (F4.lay L0), k35 (F5.lay L0), h5]
    refine hP.1 _ _ sx_Tp_add_33 _ _ _ _ _ ?_
    simp (maxSteps := 1000000) (disch := omega) only [gx_Tp_add_33, slk, List.map_cons, List.map_nil, List.sum_cons, List.sum_nil, vc_i, vc_r, vc_n, vc_l, vc_o, Nat.add_zero, kO_e, kA_e, hdO_a, eq_self, blk, stp, lg, ls0, lk, ls1, ls2, kI_i, kL_l, kR_r, kR_n, kR_o, s1I_i, s2I_i, s1L_l, s2L_l, s1R_r, s1R_n, s1R_o, s1A_a, cmpc, popn, swt, rf_s, rf_n, cat_i, cat_r, cat_n, cat_l, true_and, and_true, List.length_cons, List.length_nil, Nat.zero_add, Int.reduceToNat, Nat.reduceAdd, Nat.reduceDiv, Nat.reduceMod, Nat.reduceMul, Nat.reduceSub, Nat.reduceLeDiff, Nat.reduceLT, Nat.reduceEqDiff, ↓reduceIte, r_gr_wi, r_gl_wi, r_gk_wi, r_gn_wi, r_wi_eq, r_wi_ne, r_wi_nj, r_gi_wr, r_gl_wr, r_gk_wr, r_gn_wr, r_gr_wa, r_gl_wa, r_gk_wa, r_gn_wa, aa_e, as_e, al_e, u_lt, u_le, u_gt, u_ge, u_lt0, u_le0, u_gt0, u_ge0, Classical.not_not, not_true_eq_false, not_false_eq_true, oi_n, oi_m, n_dec, nI_add, pk_mul, n_sub, n_eq, n_le, n_lt, n_eq0, n_lt0, n_le0, n_0lt, n_0le, n_eqm, m_eqn, n_ltm, n_and, n_or, n_xor, n_shl, n_shr, tb1, tb0, bP_1, bP_0, bP_n0, ix_n, inb_n, u_eq, u_eqm, k35 (F5.lay L0), k35 (F5.lay L0), h5]
    have TU : feedS s v1 v2 v3 v4 v5 = tpU s (feedS s v1 v2 v3 v4 v5 125) (feedS s v1 v2 v3 v4 v5 107 28) := so_eq (so_feed s v1 v2 v3 v4 v5)
    refine ⟨fun z => ?_, fun z => ?_⟩
    · refine hP.1 _ _ sx_Tp_add_51 _ _ _ _ _ ?_
      simp (maxSteps := 1000000) (disch := omega) only [gx_Tp_add_51, slk, List.map_cons, List.map_nil, List.sum_cons, List.sum_nil, vc_i, vc_r, vc_n, vc_l, vc_o, Nat.add_zero, kO_e, kA_e, hdO_a, eq_self, blk, stp, lg, ls0, lk, ls1, ls2, kI_i, kL_l, kR_r, kR_n, kR_o, s1I_i, s2I_i, s1L_l, s2L_l, s1R_r, s1R_n, s1R_o, s1A_a, cmpc, popn, swt, rf_s, rf_n, cat_i, cat_r, cat_n, cat_l, true_and, and_true, List.length_cons, List.length_nil, Nat.zero_add, Int.reduceToNat, Nat.reduceAdd, Nat.reduceDiv, Nat.reduceMod, Nat.reduceMul, Nat.reduceSub, Nat.reduceLeDiff, Nat.reduceLT, Nat.reduceEqDiff, ↓reduceIte, r_gr_wi, r_gl_wi, r_gk_wi, r_gn_wi, r_wi_eq, r_wi_ne, r_wi_nj, r_gi_wr, r_gl_wr, r_gk_wr, r_gn_wr, r_gr_wa, r_gl_wa, r_gk_wa, r_gn_wa, aa_e, as_e, al_e, u_lt, u_le, u_gt, u_ge, u_lt0, u_le0, u_gt0, u_ge0, Classical.not_not, not_true_eq_false, not_false_eq_true, oi_n, oi_m, n_dec, nI_add, pk_mul, n_sub, n_eq, n_le, n_lt, n_eq0, n_lt0, n_le0, n_0lt, n_0le, n_eqm, m_eqn, n_ltm, n_and, n_or, n_xor, n_shl, n_shr, tb1, tb0, bP_1, bP_0, bP_n0, ix_n, inb_n, u_eq, u_eqm, k35 (F5.lay L0), k35 (F5.lay L0), h5]
      have J : CI H5 (feedS s v1 v2 v3 v4 v5) bm c := by
        rw [TU] at T5 ⊢
        exact ci_tape W I F5 T5
      exact lzJ r_Tp_add z rfl (frc_fp F5 g cR) J
    · refine hP.1 _ _ sx_Tp_add_43 _ _ _ _ _ ?_
      simp (maxSteps := 1000000) (disch := omega) only [gx_Tp_add_43, slk, List.map_cons, List.map_nil, List.sum_cons, List.sum_nil, vc_i, vc_r, vc_n, vc_l, vc_o, Nat.add_zero, kO_e, kA_e, hdO_a, eq_self, blk, stp, lg, ls0, lk, ls1, ls2, kI_i, kL_l, kR_r, kR_n, kR_o, s1I_i, s2I_i, s1L_l, s2L_l, s1R_r, s1R_n, s1R_o, s1A_a, cmpc, popn, swt, rf_s, rf_n, cat_i, cat_r, cat_n, cat_l, true_and, and_true, List.length_cons, List.length_nil, Nat.zero_add, Int.reduceToNat, Nat.reduceAdd, Nat.reduceDiv, Nat.reduceMod, Nat.reduceMul, Nat.reduceSub, Nat.reduceLeDiff, Nat.reduceLT, Nat.reduceEqDiff, ↓reduceIte, r_gr_wi, r_gl_wi, r_gk_wi, r_gn_wi, r_wi_eq, r_wi_ne, r_wi_nj, r_gi_wr, r_gl_wr, r_gk_wr, r_gn_wr, r_gr_wa, r_gl_wa, r_gk_wa, r_gn_wa, aa_e, as_e, al_e, u_lt, u_le, u_gt, u_ge, u_lt0, u_le0, u_gt0, u_ge0, Classical.not_not, not_true_eq_false, not_false_eq_true, oi_n, oi_m, n_dec, nI_add, pk_mul, n_sub, n_eq, n_le, n_lt, n_eq0, n_lt0, n_le0, n_0lt, n_0le, n_eqm, m_eqn, n_ltm, n_and, n_or, n_xor, n_shl, n_shr, tb1, tb0, bP_1, bP_0, bP_n0, ix_n, inb_n, u_eq, u_eqm, k35 (F5.lay L0), k35 (F5.lay L0), h5]
      refine hP.1 _ _ sx_Tp_add_49 _ _ _ _ _ ?_
      simp (maxSteps := 1000000) (disch := omega) only [gx_Tp_add_49, slk, List.map_cons, List.map_nil, List.sum_cons, List.sum_nil, vc_i, vc_r, vc_n, vc_l, vc_o, Nat.add_zero, kO_e, kA_e, hdO_a, eq_self, blk, stp, lg, ls0, lk, ls1, ls2, kI_i, kL_l, kR_r, kR_n, kR_o, s1I_i, s2I_i, s1L_l, s2L_l, s1R_r, s1R_n, s1R_o, s1A_a, cmpc, popn, swt, rf_s, rf_n, cat_i, cat_r, cat_n, cat_l, true_and, and_true, List.length_cons, List.length_nil, Nat.zero_add, Int.reduceToNat, Nat.reduceAdd, Nat.reduceDiv, Nat.reduceMod, Nat.reduceMul, Nat.reduceSub, Nat.reduceLeDiff, Nat.reduceLT, Nat.reduceEqDiff, ↓reduceIte, r_gr_wi, r_gl_wi, r_gk_wi, r_gn_wi, r_wi_eq, r_wi_ne, r_wi_nj, r_gi_wr, r_gl_wr, r_gk_wr, r_gn_wr, r_gr_wa, r_gl_wa, r_gk_wa, r_gn_wa, aa_e, as_e, al_e, u_lt, u_le, u_gt, u_ge, u_lt0, u_le0, u_gt0, u_ge0, Classical.not_not, not_true_eq_false, not_false_eq_true, oi_n, oi_m, n_dec, nI_add, pk_mul, n_sub, n_eq, n_le, n_lt, n_eq0, n_lt0, n_le0, n_0lt, n_0le, n_eqm, m_eqn, n_ltm, n_and, n_or, n_xor, n_shl, n_shr, tb1, tb0, bP_1, bP_0, bP_n0, ix_n, inb_n, u_eq, u_eqm, k35 (F5.lay L0), h5]
      refine lzK r_Tp_add z (frc_fp (F5.wi (Or.inl rfl) _ _) g cR) (?_ : CI _ s bm c)
      have F6 : Fp XTp h2 (wi H5 35 1 (nI (s 107 28))) := F5.wi (Or.inl rfl) _ _
      have e0 : s = tpU s (s 125) (s 107 28) := so_eq (fun _ _ _ => rfl)
      have T6 : TPX (wi H5 35 1 (nI (s 107 28))) s := by
        refine ⟨r_wi_eq _ _ _ _, fun j hj => ?_⟩
        rw [r_wi_ne _ _ _ _ (by omega), T5.2 j (by rw [e28]; unfold feedN; omega)]
        unfold feedS putS
        rw [puL_low _ _ (by rw [puL_28, puL_28, puL_28, puL_28]; omega), puL_low _ _ (by rw [puL_28, puL_28, puL_28]; omega), puL_low _ _ (by rw [puL_28, puL_28]; omega), puL_low _ _ (by rw [puL_28]; omega), puL_low _ _ hj]
      have := ci_tape (B := s 125) (n := s 107 28) W I F6 (by rw [← e0]; exact T6)
      rw [← e0] at this
      exact this
  refine mz_in (l := [some (.ref 20), some (.int (nI v1)), some (.int (nI v2)), some (.int (nI v3)), some (.int (nI v4)), some (.int (nI v5))]) mk_T_feed n_T_feed rfl l_T_feed rfl (Nat.le_of_ble_eq_true rfl) fun P hP => ?_
  refine hP.1 _ _ s_T_feed_0 _ _ _ _ _ ?_
  simp (maxSteps := 1000000) (disch := omega) only [g_T_feed_0, slk, List.map_cons, List.map_nil, List.sum_cons, List.sum_nil, vc_i, vc_r, vc_n, vc_l, vc_o, Nat.add_zero, kO_e, kA_e, hdO_a, eq_self, blk, stp, lg, ls0, lk, ls1, ls2, kI_i, kL_l, kR_r, kR_n, kR_o, s1I_i, s2I_i, s1L_l, s2L_l, s1R_r, s1R_n, s1R_o, s1A_a, cmpc, popn, swt, rf_s, rf_n, cat_i, cat_r, cat_n, cat_l, true_and, and_true, List.length_cons, List.length_nil, Nat.zero_add, Int.reduceToNat, Nat.reduceAdd, Nat.reduceDiv, Nat.reduceMod, Nat.reduceMul, Nat.reduceSub, Nat.reduceLeDiff, Nat.reduceLT, Nat.reduceEqDiff, ↓reduceIte, r_gr_wi, r_gl_wi, r_gk_wi, r_gn_wi, r_wi_eq, r_wi_ne, r_wi_nj, r_gi_wr, r_gl_wr, r_gk_wr, r_gn_wr, r_gr_wa, r_gl_wa, r_gk_wa, r_gn_wa, aa_e, as_e, al_e, u_lt, u_le, u_gt, u_ge, u_lt0, u_le0, u_gt0, u_ge0, Classical.not_not, not_true_eq_false, not_false_eq_true, oi_n, oi_m, n_dec, nI_add, pk_mul, n_sub, n_eq, n_le, n_lt, n_eq0, n_lt0, n_le0, n_0lt, n_0le, n_eqm, m_eqn, n_ltm, n_and, n_or, n_xor, n_shl, n_shr, tb1, tb0, bP_1, bP_0, bP_n0, ix_n, inb_n, u_eq, u_eqm, k20 L0, f20_2 L0, k35 L0]
  refine ⟨_, _, _, add, ⟨by omega, by omega⟩, ?_⟩
  rintro r H ⟨rfl, F, bm2, c2, J⟩
  simp (maxSteps := 1000000) (disch := omega) only [slk, List.map_cons, List.map_nil, List.sum_cons, List.sum_nil, vc_i, vc_r, vc_n, vc_l, vc_o, Nat.add_zero, kO_e, kA_e, hdO_a, eq_self, blk, stp, lg, ls0, lk, ls1, ls2, kI_i, kL_l, kR_r, kR_n, kR_o, s1I_i, s2I_i, s1L_l, s2L_l, s1R_r, s1R_n, s1R_o, s1A_a, cmpc, popn, swt, rf_s, rf_n, cat_i, cat_r, cat_n, cat_l, true_and, and_true, List.length_cons, List.length_nil, Nat.zero_add, Int.reduceToNat, Nat.reduceAdd, Nat.reduceDiv, Nat.reduceMod, Nat.reduceMul, Nat.reduceSub, Nat.reduceLeDiff, Nat.reduceLT, Nat.reduceEqDiff, ↓reduceIte, r_gr_wi, r_gl_wi, r_gk_wi, r_gn_wi, r_wi_eq, r_wi_ne, r_wi_nj, r_gi_wr, r_gl_wr, r_gk_wr, r_gn_wr, r_gr_wa, r_gl_wa, r_gk_wa, r_gn_wa, aa_e, as_e, al_e, u_lt, u_le, u_gt, u_ge, u_lt0, u_le0, u_gt0, u_ge0, Classical.not_not, not_true_eq_false, not_false_eq_true, oi_n, oi_m, n_dec, nI_add, pk_mul, n_sub, n_eq, n_le, n_lt, n_eq0, n_lt0, n_le0, n_0lt, n_0le, n_eqm, m_eqn, n_ltm, n_and, n_or, n_xor, n_shl, n_shr, tb1, tb0, bP_1, bP_0, bP_n0, ix_n, inb_n, u_eq, u_eqm, k20 L0, f20_2 L0, k35 L0]
  rw [r_T_feed]
  exact ⟨trivial, rfl, F, bm2, c2, J⟩
end
