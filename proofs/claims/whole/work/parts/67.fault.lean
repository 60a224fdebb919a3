/-! ===== the reference: the fault of the tape; keeping a text ===== -/
theorem n_R_fault : mN 96 = 2 := rfl
theorem l_R_fault : mL 96 = 2 := rfl
theorem r_R_fault : mR 96 = some .int := rfl
theorem n_R_keeps : mN 97 = 3 := rfl
theorem l_R_keeps : mL 97 = 4 := rfl
theorem r_R_keeps : mR 97 = some .boolean := rfl
theorem n_R_law : mN 98 = 1 := rfl
theorem l_R_law : mL 98 = 1 := rfl
theorem r_R_law : mR 98 = some .int := rfl
theorem n_R_mind : mN 99 = 1 := rfl
theorem l_R_mind : mL 99 = 1 := rfl
theorem r_R_mind : mR 99 = some .int := rfl
def tpS (s : St) (mind : Bool) : Nat × Option (List Cl) := txS (s 125) (s 107 28) (lbs mind) (als mind)
def faN (s : St) (mind : Bool) : Int32 :=
  match tpS s mind with
  | (p, none) => nI p
  | (_, some _) => -1
def faV (s : St) (m : Nat) : Int32 := if m = 0 then faN s false else if m = 1 then faN s true else -2
theorem rs_tape {h : AH} {s : St} (W : RH h s) {p : Nat} (hp : p < s 107 28) : 1 ≤ s 125 p ∧ s 125 p ≤ 255 := W.2.2.2.2.2.2.2.2.2.2.2.1 p hp
theorem pg_fault {l : Nat → Int32} {lb : Nat} {h h' : AH} {s : St} {mind : Bool} {r : Option (Option Value)} (p : PG l lb h (tpS s mind) r h') : gi h' 107 34 = faN s mind := by
  unfold faN
  cases e : tpS s mind with
  | mk q o =>
    cases o with
    | none => exact (p.2.2.1 q e).1
    | some cs => exact (p.2.2.2 q cs e).1
section
variable {h : AH} {s : St} {d : Nat}
theorem c_goTape (W : RH h s) (K : SK h) (mind : Bool) : Mz (d + 32) 95 [.ref 107, .ref 125, .int (nI 0), .int (nI (s 107 28)), .int (bP (mind = true)), .int (nI 0)] h 0 0 (PG (gi h 128) 0 h (tpS s mind)) :=
  c_R_goThrough W.1 K (fun _ _ => rfl) (by omega) ⟨k125 W.1, by have := rs_l W; omega, by omega⟩ (rs_l W) (by decide) (fun p hp => ⟨by rw [Nat.zero_add]; exact q125 W p, rs_tape W hp⟩)
theorem c_R_fault (W : RH h s) (K : SK h) {m : Nat} (hm : m < 4294967296) : Mz (d + 33) 96 [.ref 107, .int (nI m)] h 0 0 (Pb (faV s m) s h) := by
  have W1 := (pre1 W).1
  have K1 : SK (wi h 107 0 (nI 0)) := ((Fx.refl [0] [] h).wi _ rfl).sk K rfl
  have b1 := rs_l W
  refine mz_in (l := [some (.ref 107), some (.int (nI m))]) mk_R_fault n_R_fault rfl l_R_fault rfl (Nat.le_of_ble_eq_true rfl) fun P hP => ?_
  have bad : ¬ m ≤ 1 → P 14 [some (.ref 107), some (.int (nI m))] [] (wi h 107 0 (nI 0)) 0 0 := by
    intro a
    have e : faV s m = -2 := by
      unfold faV
      rw [if_neg (by omega), if_neg (by omega)]
    refine hP.1 _ _ s_R_fault_14 _ _ _ _ _ ?_
    simp (maxSteps := 1000000) (disch := omega) only [g_R_fault_14, slk, List.map_cons, List.map_nil, List.sum_cons, List.sum_nil, vc_i, vc_r, vc_n, vc_l, vc_o, Nat.add_zero, kO_e, kA_e, hdO_a, eq_self, blk, stp, lg, ls0, lk, ls1, ls2, kI_i, kL_l, kR_r, kR_n, kR_o, s1I_i, s2I_i, s1L_l, s2L_l, s1R_r, s1R_n, s1R_o, s1A_a, cmpc, popn, swt, rf_s, rf_n, cat_i, cat_r, cat_n, cat_l, true_and, and_true, List.length_cons, List.length_nil, Nat.zero_add, Int.reduceToNat, Nat.reduceAdd, Nat.reduceDiv, Nat.reduceMod, Nat.reduceMul, Nat.reduceSub, Nat.reduceLeDiff, Nat.reduceLT, Nat.reduceEqDiff, ↓reduceIte, r_gr_wi, r_gl_wi, r_gk_wi, r_gn_wi, r_wi_eq, r_wi_ne, r_wi_nj, r_gi_wr, r_gl_wr, r_gk_wr, r_gn_wr, r_gr_wa, r_gl_wa, r_gk_wa, r_gn_wa, u_lt, u_le, u_gt, u_ge, u_lt0, u_le0, u_gt0, u_ge0, Classical.not_not, not_true_eq_false, not_false_eq_true, oi_n, oi_m, n_dec, nI_add, pk_mul, n_sub, n_eq, n_le, n_lt, n_eq0, n_lt0, n_le0, n_0lt, n_0le, n_eqm, m_eqn, n_ltm, n_and, n_or, n_xor, n_shl, n_shr, tb1, tb0, bP_1, bP_0, bP_n0, ix_n, inb_n, u_eq, u_eqm, n1_1, true_or, or_true, u_eqm]
    exact lfPI r_R_fault e.symm W1 (pre1 W).2
  have good : m ≤ 1 → P 17 [some (.ref 107), some (.int (nI m))] [] (wi h 107 0 (nI 0)) 0 0 := by
    intro c
    rcases (by omega : m = 0 ∨ m = 1) with rfl | rfl
    · have g := c_goTape (d := d) W1 K1 false
      rw [bP_f (by decide)] at g
      refine hP.1 _ _ s_R_fault_17 _ _ _ _ _ ?_
      simp (maxSteps := 1000000) (disch := omega) only [g_R_fault_17, slk, List.map_cons, List.map_nil, List.sum_cons, List.sum_nil, vc_i, vc_r, vc_n, vc_l, vc_o, Nat.add_zero, kO_e, kA_e, hdO_a, eq_self, blk, stp, lg, ls0, lk, ls1, ls2, kI_i, kL_l, kR_r, kR_n, kR_o, s1I_i, s2I_i, s1L_l, s2L_l, s1R_r, s1R_n, s1R_o, s1A_a, cmpc, popn, swt, rf_s, rf_n, cat_i, cat_r, cat_n, cat_l, true_and, and_true, List.length_cons, List.length_nil, Nat.zero_add, Int.reduceToNat, Nat.reduceAdd, Nat.reduceDiv, Nat.reduceMod, Nat.reduceMul, Nat.reduceSub, Nat.reduceLeDiff, Nat.reduceLT, Nat.reduceEqDiff, ↓reduceIte, r_gr_wi, r_gl_wi, r_gk_wi, r_gn_wi, r_wi_eq, r_wi_ne, r_wi_nj, r_gi_wr, r_gl_wr, r_gk_wr, r_gn_wr, r_gr_wa, r_gl_wa, r_gk_wa, r_gn_wa, u_lt, u_le, u_gt, u_ge, u_lt0, u_le0, u_gt0, u_ge0, Classical.not_not, not_true_eq_false, not_false_eq_true, oi_n, oi_m, n_dec, nI_add, pk_mul, n_sub, n_eq, n_le, n_lt, n_eq0, n_lt0, n_le0, n_0lt, n_0le, n_eqm, m_eqn, n_ltm, n_and, n_or, n_xor, n_shl, n_shr, tb1, tb0, bP_1, bP_0, bP_n0, ix_n, inb_n, u_eq, u_eqm, k107 W.1, f107_23 W.1, k125 W.1, q125 W, q107_28 W, n1_1, true_or, or_true, u_eqm]
      refine ⟨fun _ => ?_, fun q => q.elim⟩
      refine hP.1 _ _ s_R_fault_36 _ _ _ _ _ ?_
      simp (maxSteps := 1000000) (disch := omega) only [g_R_fault_36, slk, List.map_cons, List.map_nil, List.sum_cons, List.sum_nil, vc_i, vc_r, vc_n, vc_l, vc_o, Nat.add_zero, kO_e, kA_e, hdO_a, eq_self, blk, stp, lg, ls0, lk, ls1, ls2, kI_i, kL_l, kR_r, kR_n, kR_o, s1I_i, s2I_i, s1L_l, s2L_l, s1R_r, s1R_n, s1R_o, s1A_a, cmpc, popn, swt, rf_s, rf_n, cat_i, cat_r, cat_n, cat_l, true_and, and_true, List.length_cons, List.length_nil, Nat.zero_add, Int.reduceToNat, Nat.reduceAdd, Nat.reduceDiv, Nat.reduceMod, Nat.reduceMul, Nat.reduceSub, Nat.reduceLeDiff, Nat.reduceLT, Nat.reduceEqDiff, ↓reduceIte, r_gr_wi, r_gl_wi, r_gk_wi, r_gn_wi, r_wi_eq, r_wi_ne, r_wi_nj, r_gi_wr, r_gl_wr, r_gk_wr, r_gn_wr, r_gr_wa, r_gl_wa, r_gk_wa, r_gn_wa, u_lt, u_le, u_gt, u_ge, u_lt0, u_le0, u_gt0, u_ge0, Classical.not_not, not_true_eq_false, not_false_eq_true, oi_n, oi_m, n_dec, nI_add, pk_mul, n_sub, n_eq, n_le, n_lt, n_eq0, n_lt0, n_le0, n_0lt, n_0le, n_eqm, m_eqn, n_ltm, n_and, n_or, n_xor, n_shl, n_shr, tb1, tb0, bP_1, bP_0, bP_n0, ix_n, inb_n, u_eq, u_eqm, n1_1, true_or, or_true, u_eqm]
      refine hP.1 _ _ s_R_fault_37 _ _ _ _ _ ?_
      simp (maxSteps := 1000000) (disch := omega) only [g_R_fault_37, slk, List.map_cons, List.map_nil, List.sum_cons, List.sum_nil, vc_i, vc_r, vc_n, vc_l, vc_o, Nat.add_zero, kO_e, kA_e, hdO_a, eq_self, blk, stp, lg, ls0, lk, ls1, ls2, kI_i, kL_l, kR_r, kR_n, kR_o, s1I_i, s2I_i, s1L_l, s2L_l, s1R_r, s1R_n, s1R_o, s1A_a, cmpc, popn, swt, rf_s, rf_n, cat_i, cat_r, cat_n, cat_l, true_and, and_true, List.length_cons, List.length_nil, Nat.zero_add, Int.reduceToNat, Nat.reduceAdd, Nat.reduceDiv, Nat.reduceMod, Nat.reduceMul, Nat.reduceSub, Nat.reduceLeDiff, Nat.reduceLT, Nat.reduceEqDiff, ↓reduceIte, r_gr_wi, r_gl_wi, r_gk_wi, r_gn_wi, r_wi_eq, r_wi_ne, r_wi_nj, r_gi_wr, r_gl_wr, r_gk_wr, r_gn_wr, r_gr_wa, r_gl_wa, r_gk_wa, r_gn_wa, u_lt, u_le, u_gt, u_ge, u_lt0, u_le0, u_gt0, u_ge0, Classical.not_not, not_true_eq_false, not_false_eq_true, oi_n, oi_m, n_dec, nI_add, pk_mul, n_sub, n_eq, n_le, n_lt, n_eq0, n_lt0, n_le0, n_0lt, n_0le, n_eqm, m_eqn, n_ltm, n_and, n_or, n_xor, n_shl, n_shr, tb1, tb0, bP_1, bP_0, bP_n0, ix_n, inb_n, u_eq, u_eqm, k107 W.1, n1_1, true_or, or_true, u_eqm]
      refine ⟨_, _, _, g, ⟨by omega, by omega⟩, ?_⟩
      rintro r H2 p
      have e34 := pg_fault p
      obtain ⟨rfl, F2, -, -⟩ := p
      have W2 := F2.rw W1 rfl
      refine ⟨by rw [k107 W2.1, kO_e]; trivial, ?_⟩
      exact lfPI r_R_fault e34 W2 ((pre1 W).2.trans (F2.fr rfl))
    · have g := c_goTape (d := d) W1 K1 true
      rw [bP_t (by decide)] at g
      refine hP.1 _ _ s_R_fault_17 _ _ _ _ _ ?_
      simp (maxSteps := 1000000) (disch := omega) only [g_R_fault_17, slk, List.map_cons, List.map_nil, List.sum_cons, List.sum_nil, vc_i, vc_r, vc_n, vc_l, vc_o, Nat.add_zero, kO_e, kA_e, hdO_a, eq_self, blk, stp, lg, ls0, lk, ls1, ls2, kI_i, kL_l, kR_r, kR_n, kR_o, s1I_i, s2I_i, s1L_l, s2L_l, s1R_r, s1R_n, s1R_o, s1A_a, cmpc, popn, swt, rf_s, rf_n, cat_i, cat_r, cat_n, cat_l, true_and, and_true, List.length_cons, List.length_nil, Nat.zero_add, Int.reduceToNat, Nat.reduceAdd, Nat.reduceDiv, Nat.reduceMod, Nat.reduceMul, Nat.reduceSub, Nat.reduceLeDiff, Nat.reduceLT, Nat.reduceEqDiff, ↓reduceIte, r_gr_wi, r_gl_wi, r_gk_wi, r_gn_wi, r_wi_eq, r_wi_ne, r_wi_nj, r_gi_wr, r_gl_wr, r_gk_wr, r_gn_wr, r_gr_wa, r_gl_wa, r_gk_wa, r_gn_wa, u_lt, u_le, u_gt, u_ge, u_lt0, u_le0, u_gt0, u_ge0, Classical.not_not, not_true_eq_false, not_false_eq_true, oi_n, oi_m, n_dec, nI_add, pk_mul, n_sub, n_eq, n_le, n_lt, n_eq0, n_lt0, n_le0, n_0lt, n_0le, n_eqm, m_eqn, n_ltm, n_and, n_or, n_xor, n_shl, n_shr, tb1, tb0, bP_1, bP_0, bP_n0, ix_n, inb_n, u_eq, u_eqm, k107 W.1, f107_23 W.1, k125 W.1, q125 W, q107_28 W, n1_1, true_or, or_true, u_eqm]
      refine ⟨fun q => q.elim, fun _ => ?_⟩
      refine hP.1 _ _ s_R_fault_32 _ _ _ _ _ ?_
      simp (maxSteps := 1000000) (disch := omega) only [g_R_fault_32, slk, List.map_cons, List.map_nil, List.sum_cons, List.sum_nil, vc_i, vc_r, vc_n, vc_l, vc_o, Nat.add_zero, kO_e, kA_e, hdO_a, eq_self, blk, stp, lg, ls0, lk, ls1, ls2, kI_i, kL_l, kR_r, kR_n, kR_o, s1I_i, s2I_i, s1L_l, s2L_l, s1R_r, s1R_n, s1R_o, s1A_a, cmpc, popn, swt, rf_s, rf_n, cat_i, cat_r, cat_n, cat_l, true_and, and_true, List.length_cons, List.length_nil, Nat.zero_add, Int.reduceToNat, Nat.reduceAdd, Nat.reduceDiv, Nat.reduceMod, Nat.reduceMul, Nat.reduceSub, Nat.reduceLeDiff, Nat.reduceLT, Nat.reduceEqDiff, ↓reduceIte, r_gr_wi, r_gl_wi, r_gk_wi, r_gn_wi, r_wi_eq, r_wi_ne, r_wi_nj, r_gi_wr, r_gl_wr, r_gk_wr, r_gn_wr, r_gr_wa, r_gl_wa, r_gk_wa, r_gn_wa, u_lt, u_le, u_gt, u_ge, u_lt0, u_le0, u_gt0, u_ge0, Classical.not_not, not_true_eq_false, not_false_eq_true, oi_n, oi_m, n_dec, nI_add, pk_mul, n_sub, n_eq, n_le, n_lt, n_eq0, n_lt0, n_le0, n_0lt, n_0le, n_eqm, m_eqn, n_ltm, n_and, n_or, n_xor, n_shl, n_shr, tb1, tb0, bP_1, bP_0, bP_n0, ix_n, inb_n, u_eq, u_eqm, n1_1, true_or, or_true, u_eqm]
      refine hP.1 _ _ s_R_fault_37 _ _ _ _ _ ?_
      simp (maxSteps := 1000000) (disch := omega) only [g_R_fault_37, slk, List.map_cons, List.map_nil, List.sum_cons, List.sum_nil, vc_i, vc_r, vc_n, vc_l, vc_o, Nat.add_zero, kO_e, kA_e, hdO_a, eq_self, blk, stp, lg, ls0, lk, ls1, ls2, kI_i, kL_l, kR_r, kR_n, kR_o, s1I_i, s2I_i, s1L_l, s2L_l, s1R_r, s1R_n, s1R_o, s1A_a, cmpc, popn, swt, rf_s, rf_n, cat_i, cat_r, cat_n, cat_l, true_and, and_true, List.length_cons, List.length_nil, Nat.zero_add, Int.reduceToNat, Nat.reduceAdd, Nat.reduceDiv, Nat.reduceMod, Nat.reduceMul, Nat.reduceSub, Nat.reduceLeDiff, Nat.reduceLT, Nat.reduceEqDiff, ↓reduceIte, r_gr_wi, r_gl_wi, r_gk_wi, r_gn_wi, r_wi_eq, r_wi_ne, r_wi_nj, r_gi_wr, r_gl_wr, r_gk_wr, r_gn_wr, r_gr_wa, r_gl_wa, r_gk_wa, r_gn_wa, u_lt, u_le, u_gt, u_ge, u_lt0, u_le0, u_gt0, u_ge0, Classical.not_not, not_true_eq_false, not_false_eq_true, oi_n, oi_m, n_dec, nI_add, pk_mul, n_sub, n_eq, n_le, n_lt, n_eq0, n_lt0, n_le0, n_0lt, n_0le, n_eqm, m_eqn, n_ltm, n_and, n_or, n_xor, n_shl, n_shr, tb1, tb0, bP_1, bP_0, bP_n0, ix_n, inb_n, u_eq, u_eqm, k107 W.1, n1_1, true_or, or_true, u_eqm]
      refine ⟨_, _, _, g, ⟨by omega, by omega⟩, ?_⟩
      rintro r H2 p
      have e34 := pg_fault p
      obtain ⟨rfl, F2, -, -⟩ := p
      have W2 := F2.rw W1 rfl
      refine ⟨by rw [k107 W2.1, kO_e]; trivial, ?_⟩
      exact lfPI r_R_fault e34 W2 ((pre1 W).2.trans (F2.fr rfl))
  refine hP.1 _ _ s_R_fault_0 _ _ _ _ _ ?_
  simp (maxSteps := 1000000) (disch := omega) only [g_R_fault_0, slk, List.map_cons, List.map_nil, List.sum_cons, List.sum_nil, vc_i, vc_r, vc_n, vc_l, vc_o, Nat.add_zero, kO_e, kA_e, hdO_a, eq_self, blk, stp, lg, ls0, lk, ls1, ls2, kI_i, kL_l, kR_r, kR_n, kR_o, s1I_i, s2I_i, s1L_l, s2L_l, s1R_r, s1R_n, s1R_o, s1A_a, cmpc, popn, swt, rf_s, rf_n, cat_i, cat_r, cat_n, cat_l, true_and, and_true, List.length_cons, List.length_nil, Nat.zero_add, Int.reduceToNat, Nat.reduceAdd, Nat.reduceDiv, Nat.reduceMod, Nat.reduceMul, Nat.reduceSub, Nat.reduceLeDiff, Nat.reduceLT, Nat.reduceEqDiff, ↓reduceIte, r_gr_wi, r_gl_wi, r_gk_wi, r_gn_wi, r_wi_eq, r_wi_ne, r_wi_nj, r_gi_wr, r_gl_wr, r_gk_wr, r_gn_wr, r_gr_wa, r_gl_wa, r_gk_wa, r_gn_wa, u_lt, u_le, u_gt, u_ge, u_lt0, u_le0, u_gt0, u_ge0, Classical.not_not, not_true_eq_false, not_false_eq_true, oi_n, oi_m, n_dec, nI_add, pk_mul, n_sub, n_eq, n_le, n_lt, n_eq0, n_lt0, n_le0, n_0lt, n_0le, n_eqm, m_eqn, n_ltm, n_and, n_or, n_xor, n_shl, n_shr, tb1, tb0, bP_1, bP_0, bP_n0, ix_n, inb_n, u_eq, u_eqm, k107 W.1, n1_1, true_or, or_true, u_eqm]
  refine wc (c_R_isIn hm (by omega) (by omega)) ⟨by omega, by omega⟩ ?_
  simp (maxSteps := 1000000) (disch := omega) only [slk, List.map_cons, List.map_nil, List.sum_cons, List.sum_nil, vc_i, vc_r, vc_n, vc_l, vc_o, Nat.add_zero, kO_e, kA_e, hdO_a, eq_self, blk, stp, lg, ls0, lk, ls1, ls2, kI_i, kL_l, kR_r, kR_n, kR_o, s1I_i, s2I_i, s1L_l, s2L_l, s1R_r, s1R_n, s1R_o, s1A_a, cmpc, popn, swt, rf_s, rf_n, cat_i, cat_r, cat_n, cat_l, true_and, and_true, List.length_cons, List.length_nil, Nat.zero_add, Int.reduceToNat, Nat.reduceAdd, Nat.reduceDiv, Nat.reduceMod, Nat.reduceMul, Nat.reduceSub, Nat.reduceLeDiff, Nat.reduceLT, Nat.reduceEqDiff, ↓reduceIte, r_gr_wi, r_gl_wi, r_gk_wi, r_gn_wi, r_wi_eq, r_wi_ne, r_wi_nj, r_gi_wr, r_gl_wr, r_gk_wr, r_gn_wr, r_gr_wa, r_gl_wa, r_gk_wa, r_gn_wa, u_lt, u_le, u_gt, u_ge, u_lt0, u_le0, u_gt0, u_ge0, Classical.not_not, not_true_eq_false, not_false_eq_true, oi_n, oi_m, n_dec, nI_add, pk_mul, n_sub, n_eq, n_le, n_lt, n_eq0, n_lt0, n_le0, n_0lt, n_0le, n_eqm, m_eqn, n_ltm, n_and, n_or, n_xor, n_shl, n_shr, tb1, tb0, bP_1, bP_0, bP_n0, ix_n, inb_n, u_eq, u_eqm, k107 W.1, n1_1, true_or, or_true, u_eqm]
  refine ⟨fun hc => ?_, fun hc => ?_⟩
  · exact good (by omega)
  · exact bad (by omega)
end
