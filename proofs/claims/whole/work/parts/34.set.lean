/-! ===== the reference: what its calls set ===== -/
theorem n_R_elder : mN 55 = 2 := rfl
theorem l_R_elder : mL 55 = 3 := rfl
theorem r_R_elder : mR 55 = some .int := rfl
theorem n_R_left : mN 56 = 3 := rfl
theorem l_R_left : mL 56 = 3 := rfl
theorem r_R_left : mR 56 = some .boolean := rfl
theorem n_R_heed : mN 59 = 4 := rfl
theorem l_R_heed : mL 59 = 4 := rfl
theorem r_R_heed : mR 59 = some .boolean := rfl
theorem n_R_matter : mN 60 = 3 := rfl
theorem l_R_matter : mL 60 = 3 := rfl
theorem r_R_matter : mR 60 = some .int := rfl
theorem n_R_hold : mN 62 = 6 := rfl
theorem l_R_hold : mL 62 = 6 := rfl
theorem r_R_hold : mR 62 = some .boolean := rfl
theorem n_R_held : mN 63 = 5 := rfl
theorem l_R_held : mL 63 = 5 := rfl
theorem r_R_held : mR 63 = some .int := rfl
theorem n_R_care : mN 64 = 5 := rfl
theorem l_R_care : mL 64 = 5 := rfl
theorem r_R_care : mR 64 = some .boolean := rfl
theorem n_R_clash : mN 65 = 7 := rfl
theorem l_R_clash : mL 65 = 7 := rfl
theorem r_R_clash : mR 65 = some .boolean := rfl
theorem n_R_end : mN 79 = 2 := rfl
theorem l_R_end : mL 79 = 2 := rfl
theorem r_R_end : mR 79 = some .boolean := rfl
theorem n_R_by : mN 101 = 3 := rfl
theorem l_R_by : mL 101 = 3 := rfl
theorem r_R_by : mR 101 = some .boolean := rfl
theorem n_R_minded : mN 102 = 3 := rfl
theorem l_R_minded : mL 102 = 3 := rfl
theorem r_R_minded : mR 102 = some .boolean := rfl
theorem n_R_ground : mN 106 = 3 := rfl
theorem l_R_ground : mL 106 = 3 := rfl
theorem r_R_ground : mR 106 = some .boolean := rfl
theorem n_R_promise : mN 123 = 6 := rfl
theorem l_R_promise : mL 123 = 6 := rfl
theorem r_R_promise : mR 123 = some .boolean := rfl
theorem n_R_gift : mN 132 = 8 := rfl
theorem l_R_gift : mL 132 = 8 := rfl
theorem r_R_gift : mR 132 = some .int := rfl
theorem n_R_aside : mN 136 = 7 := rfl
theorem l_R_aside : mL 136 = 7 := rfl
theorem r_R_aside : mR 136 = some .boolean := rfl
theorem n_R_count : mN 145 = 2 := rfl
theorem l_R_count : mL 145 = 2 := rfl
theorem r_R_count : mR 145 = some .int := rfl
def uS (s : St) (a k v : Nat) : St := fun b j => if b = a then (if j = k then v else s b j) else s b j
def RC (h : AH) (s : St) : Prop := ∀ a j, pers a j = true → gi h a j = enc a (s a j)
theorem rc_set {h : AH} {s : St} (C : RC h s) {a k v : Nat} (ha : ¬ (a = 125 ∨ a = 126)) : RC (wi h a k (nI v)) (uS s a k v) := by
  intro b j hp
  rw [r_gi_wi]
  unfold uS
  by_cases h1 : b = a
  · subst h1
    rw [if_pos rfl, if_pos rfl]
    by_cases h2 : j = k
    · subst h2
      rw [if_pos rfl, if_pos rfl]
      exact (if_neg ha).symm
    · rw [if_neg h2, if_neg h2]
      exact C _ _ hp
  · rw [if_neg h1, if_neg h1]
    exact C _ _ hp
theorem rc_setm {h : AH} {s : St} (C : RC h s) {a k : Nat} (ha : ¬ (a = 125 ∨ a = 126)) : RC (wi h a k (-1)) (uS s a k 4294967295) := by
  rw [n_m1]
  exact rc_set C ha
/-- the lasting cells, if a call is taken -/
noncomputable def ifS (p : Prop) (a b : St) : St := @ite _ p (Classical.propDecidable p) a b
theorem ifS_t {p : Prop} {a b : St} (h : p) : ifS p a b = a := if_pos h
theorem ifS_f {p : Prop} {a b : St} (h : ¬ p) : ifS p a b = b := if_neg h
theorem lfQT {k : Nat} {p : Prop} {s s' s0 : St} {h h' : AH} (hr : mR k = some .boolean) (e : p) (L : Lay h') (C : RC h' s') (R : RS s') (F : FrR h h') : rtok (mR k) (some (some (.int (nI 1)))) ∧ Pb (bP p) (ifS p s' s0) h (some (some (.int (nI 1)))) h' := by
  rw [ifS_t e]
  exact lfPT hr e ⟨L, C, R⟩ F
theorem lfQF {k : Nat} {p : Prop} {s s' : St} {h h' : AH} (hr : mR k = some .boolean) (e : ¬ p) (W : RH h' s) (F : FrR h h') : rtok (mR k) (some (some (.int (nI 0)))) ∧ Pb (bP p) (ifS p s' s) h (some (some (.int (nI 0)))) h' := by
  rw [ifS_f e]
  exact lfPF hr e W F
theorem lfQI {k : Nat} {p : Prop} {x v : Int32} {s s' s0 : St} {h h' : AH} (hr : mR k = some .int) (e : p) (ev : x = v) (L : Lay h') (C : RC h' s') (R : RS s') (F : FrR h h') : rtok (mR k) (some (some (.int x))) ∧ Pb (iff1 p v) (ifS p s' s0) h (some (some (.int x))) h' := by
  rw [ifS_t e, iff1_t e]
  exact lfPI hr ev ⟨L, C, R⟩ F
theorem lfQN {k : Nat} {p : Prop} {v : Int32} {s s' : St} {h h' : AH} (hr : mR k = some .int) (e : ¬ p) (W : RH h' s) (F : FrR h h') : rtok (mR k) (some (some (.int (-1)))) ∧ Pb (iff1 p v) (ifS p s' s) h (some (some (.int (-1)))) h' := by
  rw [ifS_f e, iff1_f e]
  exact lfPI hr rfl W F

section
variable {d : Nat} {h : AH} {s : St}
def heedS (s : St) (e o v : Nat) : St := uS s 109 (8 * e + o) (v)
def heedC (s : St) (e o v : Nat) : Prop := e < s 107 18 ∧ o < s 107 18 ∧ ¬ e = o ∧ v ≤ 9
theorem rs_heed {s : St} (R : RS s) {e o v : Nat} (c : heedC s e o v) : RS (heedS s e o v) := by
  obtain ⟨⟨a1, a2, a3, a4, a5, a6, a7, a8, a9, a10⟩, r2, r3, r4, r5, r6, r7, r8, r9, r10, r11, r12, r13, r14, r15⟩ := R
  unfold heedC at c
  exact ⟨⟨a1, a2, a3, a4, a5, a6, a7, a8, a9, a10⟩, r2, (fun j => by
    show (if j = 8 * e + o then v else s 109 j) ≤ 9
    split
    · exact c.2.2.2
    · exact r3 j), r4, r5, r6, r7, r8, r9, r10, r11, r12, r13, r14, r15⟩
theorem c_R_heed (W : RH h s) {e o v : Nat} (he : e < 4294967296) (ho : o < 4294967296) (hv : v < 4294967296) : Mz (d + 2) 59 [.ref 107, .int (nI e), .int (nI o), .int (nI v)] h 0 0 (Pb (bP (heedC s e o v)) (ifS (heedC s e o v) (heedS s e o v) s) h) := by
  have W1 := (pre1 W).1
  have b1 := rs_e W
  have b2 := rs_m W
  refine mz_in (l := [some (.ref 107), some (.int (nI e)), some (.int (nI o)), some (.int (nI v))]) mk_R_heed n_R_heed rfl l_R_heed rfl (Nat.le_of_ble_eq_true rfl) fun P hP => ?_
  have bad : ¬ heedC s e o v → P 36 [some (.ref 107), some (.int (nI e)), some (.int (nI o)), some (.int (nI v))] [] (wi h 107 0 (nI 0)) 0 0 := by
    intro a
    refine hP.1 _ _ s_R_heed_36 _ _ _ _ _ ?_
    simp (disch := omega) only [g_R_heed_36, slk, List.map_cons, List.map_nil, List.sum_cons, List.sum_nil, vc_i, vc_r, vc_n, vc_l, vc_o, Nat.add_zero, kO_e, kA_e, hdO_a, eq_self, blk, stp, lg, ls0, lk, ls1, ls2, kI_i, kL_l, kR_r, kR_n, kR_o, s1I_i, s2I_i, s1L_l, s2L_l, s1R_r, s1R_n, s1R_o, s1A_a, cmpc, popn, swt, rf_s, rf_n, cat_i, cat_r, cat_n, cat_l, true_and, and_true, List.length_cons, List.length_nil, Nat.zero_add, Int.reduceToNat, Nat.reduceAdd, Nat.reduceDiv, Nat.reduceMod, Nat.reduceMul, Nat.reduceSub, Nat.reduceLeDiff, Nat.reduceLT, Nat.reduceEqDiff, reduceIte, r_gr_wi, r_gl_wi, r_gk_wi, r_gn_wi, r_gi_wi, r_gi_wr, r_gl_wr, r_gk_wr, r_gn_wr, r_gr_wa, r_gl_wa, r_gk_wa, r_gn_wa, u_lt, u_le, u_gt, u_ge, u_lt0, u_le0, u_gt0, u_ge0, Classical.not_not, not_true_eq_false, not_false_eq_true, oi_n, oi_m, n_dec, nI_add, pk_mul, n_sub, n_eq, n_le, n_lt, n_eq0, n_lt0, n_le0, n_0lt, n_0le, n_eqm, m_eqn, n_ltm, n_and, n_or, n_xor, n_shl, n_shr, tb1, tb0, bP_1, bP_0, bP_n0, ix_n, inb_n, u_eq, u_eqm, n1_1, true_or, or_true, u_eqm]
    exact lfQF r_R_heed a W1 (pre1 W).2
  have good : heedC s e o v → P 38 [some (.ref 107), some (.int (nI e)), some (.int (nI o)), some (.int (nI v))] [] (wi h 107 0 (nI 0)) 0 0 := by
    intro c
    have c2 := c
    unfold heedC at c2
    skip
    refine hP.1 _ _ s_R_heed_38 _ _ _ _ _ ?_
    simp (disch := omega) only [g_R_heed_38, slk, List.map_cons, List.map_nil, List.sum_cons, List.sum_nil, vc_i, vc_r, vc_n, vc_l, vc_o, Nat.add_zero, kO_e, kA_e, hdO_a, eq_self, blk, stp, lg, ls0, lk, ls1, ls2, kI_i, kL_l, kR_r, kR_n, kR_o, s1I_i, s2I_i, s1L_l, s2L_l, s1R_r, s1R_n, s1R_o, s1A_a, cmpc, popn, swt, rf_s, rf_n, cat_i, cat_r, cat_n, cat_l, true_and, and_true, List.length_cons, List.length_nil, Nat.zero_add, Int.reduceToNat, Nat.reduceAdd, Nat.reduceDiv, Nat.reduceMod, Nat.reduceMul, Nat.reduceSub, Nat.reduceLeDiff, Nat.reduceLT, Nat.reduceEqDiff, reduceIte, r_gr_wi, r_gl_wi, r_gk_wi, r_gn_wi, r_gi_wi, r_gi_wr, r_gl_wr, r_gk_wr, r_gn_wr, r_gr_wa, r_gl_wa, r_gk_wa, r_gn_wa, u_lt, u_le, u_gt, u_ge, u_lt0, u_le0, u_gt0, u_ge0, Classical.not_not, not_true_eq_false, not_false_eq_true, oi_n, oi_m, n_dec, nI_add, pk_mul, n_sub, n_eq, n_le, n_lt, n_eq0, n_lt0, n_le0, n_0lt, n_0le, n_eqm, m_eqn, n_ltm, n_and, n_or, n_xor, n_shl, n_shr, tb1, tb0, bP_1, bP_0, bP_n0, ix_n, inb_n, u_eq, u_eqm, k107 W.1, f107_2 W.1, k109 W.1, q109 W, n1_1, true_or, or_true, u_eqm]
    exact lfQT r_R_heed c W1.1 (by repeat (first | exact W1.2.1 | refine rc_set ?_ (by decide) | refine rc_setm ?_ (by decide))) (rs_heed W.2.2 c) (by repeat (first | exact (pre1 W).2 | refine fr_wi ?_ (by omega)))
  refine hP.1 _ _ s_R_heed_0 _ _ _ _ _ ?_
  simp (disch := omega) only [g_R_heed_0, slk, List.map_cons, List.map_nil, List.sum_cons, List.sum_nil, vc_i, vc_r, vc_n, vc_l, vc_o, Nat.add_zero, kO_e, kA_e, hdO_a, eq_self, blk, stp, lg, ls0, lk, ls1, ls2, kI_i, kL_l, kR_r, kR_n, kR_o, s1I_i, s2I_i, s1L_l, s2L_l, s1R_r, s1R_n, s1R_o, s1A_a, cmpc, popn, swt, rf_s, rf_n, cat_i, cat_r, cat_n, cat_l, true_and, and_true, List.length_cons, List.length_nil, Nat.zero_add, Int.reduceToNat, Nat.reduceAdd, Nat.reduceDiv, Nat.reduceMod, Nat.reduceMul, Nat.reduceSub, Nat.reduceLeDiff, Nat.reduceLT, Nat.reduceEqDiff, reduceIte, r_gr_wi, r_gl_wi, r_gk_wi, r_gn_wi, r_gi_wi, r_gi_wr, r_gl_wr, r_gk_wr, r_gn_wr, r_gr_wa, r_gl_wa, r_gk_wa, r_gn_wa, u_lt, u_le, u_gt, u_ge, u_lt0, u_le0, u_gt0, u_ge0, Classical.not_not, not_true_eq_false, not_false_eq_true, oi_n, oi_m, n_dec, nI_add, pk_mul, n_sub, n_eq, n_le, n_lt, n_eq0, n_lt0, n_le0, n_0lt, n_0le, n_eqm, m_eqn, n_ltm, n_and, n_or, n_xor, n_shl, n_shr, tb1, tb0, bP_1, bP_0, bP_n0, ix_n, inb_n, u_eq, u_eqm, k107 W.1, n1_1, true_or, or_true, u_eqm]
  refine wc (c_R_isElder W1 he) ⟨by omega, by omega⟩ ?_
  simp (disch := omega) only [slk, List.map_cons, List.map_nil, List.sum_cons, List.sum_nil, vc_i, vc_r, vc_n, vc_l, vc_o, Nat.add_zero, kO_e, kA_e, hdO_a, eq_self, blk, stp, lg, ls0, lk, ls1, ls2, kI_i, kL_l, kR_r, kR_n, kR_o, s1I_i, s2I_i, s1L_l, s2L_l, s1R_r, s1R_n, s1R_o, s1A_a, cmpc, popn, swt, rf_s, rf_n, cat_i, cat_r, cat_n, cat_l, true_and, and_true, List.length_cons, List.length_nil, Nat.zero_add, Int.reduceToNat, Nat.reduceAdd, Nat.reduceDiv, Nat.reduceMod, Nat.reduceMul, Nat.reduceSub, Nat.reduceLeDiff, Nat.reduceLT, Nat.reduceEqDiff, reduceIte, r_gr_wi, r_gl_wi, r_gk_wi, r_gn_wi, r_gi_wi, r_gi_wr, r_gl_wr, r_gk_wr, r_gn_wr, r_gr_wa, r_gl_wa, r_gk_wa, r_gn_wa, u_lt, u_le, u_gt, u_ge, u_lt0, u_le0, u_gt0, u_ge0, Classical.not_not, not_true_eq_false, not_false_eq_true, oi_n, oi_m, n_dec, nI_add, pk_mul, n_sub, n_eq, n_le, n_lt, n_eq0, n_lt0, n_le0, n_0lt, n_0le, n_eqm, m_eqn, n_ltm, n_and, n_or, n_xor, n_shl, n_shr, tb1, tb0, bP_1, bP_0, bP_n0, ix_n, inb_n, u_eq, u_eqm, k107 W.1, n1_1, true_or, or_true, u_eqm]
  refine ⟨fun hc => bad (fun q => by unfold heedC at q; omega), fun hc1 => ?_⟩
  refine hP.1 _ _ s_R_heed_13 _ _ _ _ _ ?_
  simp (disch := omega) only [g_R_heed_13, slk, List.map_cons, List.map_nil, List.sum_cons, List.sum_nil, vc_i, vc_r, vc_n, vc_l, vc_o, Nat.add_zero, kO_e, kA_e, hdO_a, eq_self, blk, stp, lg, ls0, lk, ls1, ls2, kI_i, kL_l, kR_r, kR_n, kR_o, s1I_i, s2I_i, s1L_l, s2L_l, s1R_r, s1R_n, s1R_o, s1A_a, cmpc, popn, swt, rf_s, rf_n, cat_i, cat_r, cat_n, cat_l, true_and, and_true, List.length_cons, List.length_nil, Nat.zero_add, Int.reduceToNat, Nat.reduceAdd, Nat.reduceDiv, Nat.reduceMod, Nat.reduceMul, Nat.reduceSub, Nat.reduceLeDiff, Nat.reduceLT, Nat.reduceEqDiff, reduceIte, r_gr_wi, r_gl_wi, r_gk_wi, r_gn_wi, r_gi_wi, r_gi_wr, r_gl_wr, r_gk_wr, r_gn_wr, r_gr_wa, r_gl_wa, r_gk_wa, r_gn_wa, u_lt, u_le, u_gt, u_ge, u_lt0, u_le0, u_gt0, u_ge0, Classical.not_not, not_true_eq_false, not_false_eq_true, oi_n, oi_m, n_dec, nI_add, pk_mul, n_sub, n_eq, n_le, n_lt, n_eq0, n_lt0, n_le0, n_0lt, n_0le, n_eqm, m_eqn, n_ltm, n_and, n_or, n_xor, n_shl, n_shr, tb1, tb0, bP_1, bP_0, bP_n0, ix_n, inb_n, u_eq, u_eqm, k107 W.1, n1_1, true_or, or_true, u_eqm]
  refine wc (c_R_isElder W1 ho) ⟨by omega, by omega⟩ ?_
  simp (disch := omega) only [slk, List.map_cons, List.map_nil, List.sum_cons, List.sum_nil, vc_i, vc_r, vc_n, vc_l, vc_o, Nat.add_zero, kO_e, kA_e, hdO_a, eq_self, blk, stp, lg, ls0, lk, ls1, ls2, kI_i, kL_l, kR_r, kR_n, kR_o, s1I_i, s2I_i, s1L_l, s2L_l, s1R_r, s1R_n, s1R_o, s1A_a, cmpc, popn, swt, rf_s, rf_n, cat_i, cat_r, cat_n, cat_l, true_and, and_true, List.length_cons, List.length_nil, Nat.zero_add, Int.reduceToNat, Nat.reduceAdd, Nat.reduceDiv, Nat.reduceMod, Nat.reduceMul, Nat.reduceSub, Nat.reduceLeDiff, Nat.reduceLT, Nat.reduceEqDiff, reduceIte, r_gr_wi, r_gl_wi, r_gk_wi, r_gn_wi, r_gi_wi, r_gi_wr, r_gl_wr, r_gk_wr, r_gn_wr, r_gr_wa, r_gl_wa, r_gk_wa, r_gn_wa, u_lt, u_le, u_gt, u_ge, u_lt0, u_le0, u_gt0, u_ge0, Classical.not_not, not_true_eq_false, not_false_eq_true, oi_n, oi_m, n_dec, nI_add, pk_mul, n_sub, n_eq, n_le, n_lt, n_eq0, n_lt0, n_le0, n_0lt, n_0le, n_eqm, m_eqn, n_ltm, n_and, n_or, n_xor, n_shl, n_shr, tb1, tb0, bP_1, bP_0, bP_n0, ix_n, inb_n, u_eq, u_eqm, k107 W.1, n1_1, true_or, or_true, u_eqm]
  refine ⟨fun hc => bad (fun q => by unfold heedC at q; omega), fun hc2 => ?_⟩
  refine hP.1 _ _ s_R_heed_21 _ _ _ _ _ ?_
  simp (disch := omega) only [g_R_heed_21, slk, List.map_cons, List.map_nil, List.sum_cons, List.sum_nil, vc_i, vc_r, vc_n, vc_l, vc_o, Nat.add_zero, kO_e, kA_e, hdO_a, eq_self, blk, stp, lg, ls0, lk, ls1, ls2, kI_i, kL_l, kR_r, kR_n, kR_o, s1I_i, s2I_i, s1L_l, s2L_l, s1R_r, s1R_n, s1R_o, s1A_a, cmpc, popn, swt, rf_s, rf_n, cat_i, cat_r, cat_n, cat_l, true_and, and_true, List.length_cons, List.length_nil, Nat.zero_add, Int.reduceToNat, Nat.reduceAdd, Nat.reduceDiv, Nat.reduceMod, Nat.reduceMul, Nat.reduceSub, Nat.reduceLeDiff, Nat.reduceLT, Nat.reduceEqDiff, reduceIte, r_gr_wi, r_gl_wi, r_gk_wi, r_gn_wi, r_gi_wi, r_gi_wr, r_gl_wr, r_gk_wr, r_gn_wr, r_gr_wa, r_gl_wa, r_gk_wa, r_gn_wa, u_lt, u_le, u_gt, u_ge, u_lt0, u_le0, u_gt0, u_ge0, Classical.not_not, not_true_eq_false, not_false_eq_true, oi_n, oi_m, n_dec, nI_add, pk_mul, n_sub, n_eq, n_le, n_lt, n_eq0, n_lt0, n_le0, n_0lt, n_0le, n_eqm, m_eqn, n_ltm, n_and, n_or, n_xor, n_shl, n_shr, tb1, tb0, bP_1, bP_0, bP_n0, ix_n, inb_n, u_eq, u_eqm, n1_1, true_or, or_true, u_eqm]
  refine ⟨fun hc => bad (fun q => by unfold heedC at q; omega), fun hc3 => ?_⟩
  refine hP.1 _ _ s_R_heed_26 _ _ _ _ _ ?_
  simp (disch := omega) only [g_R_heed_26, slk, List.map_cons, List.map_nil, List.sum_cons, List.sum_nil, vc_i, vc_r, vc_n, vc_l, vc_o, Nat.add_zero, kO_e, kA_e, hdO_a, eq_self, blk, stp, lg, ls0, lk, ls1, ls2, kI_i, kL_l, kR_r, kR_n, kR_o, s1I_i, s2I_i, s1L_l, s2L_l, s1R_r, s1R_n, s1R_o, s1A_a, cmpc, popn, swt, rf_s, rf_n, cat_i, cat_r, cat_n, cat_l, true_and, and_true, List.length_cons, List.length_nil, Nat.zero_add, Int.reduceToNat, Nat.reduceAdd, Nat.reduceDiv, Nat.reduceMod, Nat.reduceMul, Nat.reduceSub, Nat.reduceLeDiff, Nat.reduceLT, Nat.reduceEqDiff, reduceIte, r_gr_wi, r_gl_wi, r_gk_wi, r_gn_wi, r_gi_wi, r_gi_wr, r_gl_wr, r_gk_wr, r_gn_wr, r_gr_wa, r_gl_wa, r_gk_wa, r_gn_wa, u_lt, u_le, u_gt, u_ge, u_lt0, u_le0, u_gt0, u_ge0, Classical.not_not, not_true_eq_false, not_false_eq_true, oi_n, oi_m, n_dec, nI_add, pk_mul, n_sub, n_eq, n_le, n_lt, n_eq0, n_lt0, n_le0, n_0lt, n_0le, n_eqm, m_eqn, n_ltm, n_and, n_or, n_xor, n_shl, n_shr, tb1, tb0, bP_1, bP_0, bP_n0, ix_n, inb_n, u_eq, u_eqm, n1_1, true_or, or_true, u_eqm]
  refine wc (c_R_isIn hv (by omega) (by omega)) ⟨by omega, by omega⟩ ?_
  simp (disch := omega) only [slk, List.map_cons, List.map_nil, List.sum_cons, List.sum_nil, vc_i, vc_r, vc_n, vc_l, vc_o, Nat.add_zero, kO_e, kA_e, hdO_a, eq_self, blk, stp, lg, ls0, lk, ls1, ls2, kI_i, kL_l, kR_r, kR_n, kR_o, s1I_i, s2I_i, s1L_l, s2L_l, s1R_r, s1R_n, s1R_o, s1A_a, cmpc, popn, swt, rf_s, rf_n, cat_i, cat_r, cat_n, cat_l, true_and, and_true, List.length_cons, List.length_nil, Nat.zero_add, Int.reduceToNat, Nat.reduceAdd, Nat.reduceDiv, Nat.reduceMod, Nat.reduceMul, Nat.reduceSub, Nat.reduceLeDiff, Nat.reduceLT, Nat.reduceEqDiff, reduceIte, r_gr_wi, r_gl_wi, r_gk_wi, r_gn_wi, r_gi_wi, r_gi_wr, r_gl_wr, r_gk_wr, r_gn_wr, r_gr_wa, r_gl_wa, r_gk_wa, r_gn_wa, u_lt, u_le, u_gt, u_ge, u_lt0, u_le0, u_gt0, u_ge0, Classical.not_not, not_true_eq_false, not_false_eq_true, oi_n, oi_m, n_dec, nI_add, pk_mul, n_sub, n_eq, n_le, n_lt, n_eq0, n_lt0, n_le0, n_0lt, n_0le, n_eqm, m_eqn, n_ltm, n_and, n_or, n_xor, n_shl, n_shr, tb1, tb0, bP_1, bP_0, bP_n0, ix_n, inb_n, u_eq, u_eqm, n1_1, true_or, or_true, u_eqm]
  refine ⟨fun hc4 => ?_, fun hc => bad (fun q => by unfold heedC at q; omega)⟩
  exact good (by unfold heedC; omega)
def holdS (s : St) (e m p w v : Nat) : St := uS s 114 (((4 * e + m) * 5 + p) * 4 + w) (v)
def holdC (s : St) (e m p w v : Nat) : Prop := e < s 107 18 ∧ (m < s 107 19 ∧ p < s 112 m ∧ w < s 113 m) ∧ v ≤ 2
theorem rs_hold {s : St} (R : RS s) {e m p w v : Nat} (c : holdC s e m p w v) : RS (holdS s e m p w v) := by
  obtain ⟨⟨a1, a2, a3, a4, a5, a6, a7, a8, a9, a10⟩, r2, r3, r4, r5, r6, r7, r8, r9, r10, r11, r12, r13, r14, r15⟩ := R
  unfold holdC at c
  exact ⟨⟨a1, a2, a3, a4, a5, a6, a7, a8, a9, a10⟩, r2, r3, r4, r5, (fun j => by
    show (if j = ((4 * e + m) * 5 + p) * 4 + w then v else s 114 j) ≤ 2
    split
    · exact c.2.2
    · exact r6 j), r7, r8, r9, r10, r11, r12, r13, r14, r15⟩
theorem c_R_hold (W : RH h s) {e m p w v : Nat} (he : e < 4294967296) (hm : m < 4294967296) (hp : p < 4294967296) (hw : w < 4294967296) (hv : v < 4294967296) : Mz (d + 4) 62 [.ref 107, .int (nI e), .int (nI m), .int (nI p), .int (nI w), .int (nI v)] h 0 0 (Pb (bP (holdC s e m p w v)) (ifS (holdC s e m p w v) (holdS s e m p w v) s) h) := by
  have W1 := (pre1 W).1
  have b1 := rs_e W
  have b2 := rs_m W
  refine mz_in (l := [some (.ref 107), some (.int (nI e)), some (.int (nI m)), some (.int (nI p)), some (.int (nI w)), some (.int (nI v))]) mk_R_hold n_R_hold rfl l_R_hold rfl (Nat.le_of_ble_eq_true rfl) fun P hP => ?_
  have bad : ¬ holdC s e m p w v → P 34 [some (.ref 107), some (.int (nI e)), some (.int (nI m)), some (.int (nI p)), some (.int (nI w)), some (.int (nI v))] [] (wi h 107 0 (nI 0)) 0 0 := by
    intro a
    refine hP.1 _ _ s_R_hold_34 _ _ _ _ _ ?_
    simp (disch := omega) only [g_R_hold_34, slk, List.map_cons, List.map_nil, List.sum_cons, List.sum_nil, vc_i, vc_r, vc_n, vc_l, vc_o, Nat.add_zero, kO_e, kA_e, hdO_a, eq_self, blk, stp, lg, ls0, lk, ls1, ls2, kI_i, kL_l, kR_r, kR_n, kR_o, s1I_i, s2I_i, s1L_l, s2L_l, s1R_r, s1R_n, s1R_o, s1A_a, cmpc, popn, swt, rf_s, rf_n, cat_i, cat_r, cat_n, cat_l, true_and, and_true, List.length_cons, List.length_nil, Nat.zero_add, Int.reduceToNat, Nat.reduceAdd, Nat.reduceDiv, Nat.reduceMod, Nat.reduceMul, Nat.reduceSub, Nat.reduceLeDiff, Nat.reduceLT, Nat.reduceEqDiff, reduceIte, r_gr_wi, r_gl_wi, r_gk_wi, r_gn_wi, r_gi_wi, r_gi_wr, r_gl_wr, r_gk_wr, r_gn_wr, r_gr_wa, r_gl_wa, r_gk_wa, r_gn_wa, u_lt, u_le, u_gt, u_ge, u_lt0, u_le0, u_gt0, u_ge0, Classical.not_not, not_true_eq_false, not_false_eq_true, oi_n, oi_m, n_dec, nI_add, pk_mul, n_sub, n_eq, n_le, n_lt, n_eq0, n_lt0, n_le0, n_0lt, n_0le, n_eqm, m_eqn, n_ltm, n_and, n_or, n_xor, n_shl, n_shr, tb1, tb0, bP_1, bP_0, bP_n0, ix_n, inb_n, u_eq, u_eqm, n1_1, true_or, or_true, u_eqm]
    exact lfQF r_R_hold a W1 (pre1 W).2
  have good : holdC s e m p w v → P 36 [some (.ref 107), some (.int (nI e)), some (.int (nI m)), some (.int (nI p)), some (.int (nI w)), some (.int (nI v))] [] (wi h 107 0 (nI 0)) 0 0 := by
    intro c
    have c2 := c
    unfold holdC at c2
    skip
    have p3 := rs_p W c2.2.1.1
    refine hP.1 _ _ s_R_hold_36 _ _ _ _ _ ?_
    simp (disch := omega) only [g_R_hold_36, slk, List.map_cons, List.map_nil, List.sum_cons, List.sum_nil, vc_i, vc_r, vc_n, vc_l, vc_o, Nat.add_zero, kO_e, kA_e, hdO_a, eq_self, blk, stp, lg, ls0, lk, ls1, ls2, kI_i, kL_l, kR_r, kR_n, kR_o, s1I_i, s2I_i, s1L_l, s2L_l, s1R_r, s1R_n, s1R_o, s1A_a, cmpc, popn, swt, rf_s, rf_n, cat_i, cat_r, cat_n, cat_l, true_and, and_true, List.length_cons, List.length_nil, Nat.zero_add, Int.reduceToNat, Nat.reduceAdd, Nat.reduceDiv, Nat.reduceMod, Nat.reduceMul, Nat.reduceSub, Nat.reduceLeDiff, Nat.reduceLT, Nat.reduceEqDiff, reduceIte, r_gr_wi, r_gl_wi, r_gk_wi, r_gn_wi, r_gi_wi, r_gi_wr, r_gl_wr, r_gk_wr, r_gn_wr, r_gr_wa, r_gl_wa, r_gk_wa, r_gn_wa, u_lt, u_le, u_gt, u_ge, u_lt0, u_le0, u_gt0, u_ge0, Classical.not_not, not_true_eq_false, not_false_eq_true, oi_n, oi_m, n_dec, nI_add, pk_mul, n_sub, n_eq, n_le, n_lt, n_eq0, n_lt0, n_le0, n_0lt, n_0le, n_eqm, m_eqn, n_ltm, n_and, n_or, n_xor, n_shl, n_shr, tb1, tb0, bP_1, bP_0, bP_n0, ix_n, inb_n, u_eq, u_eqm, k107 W.1, f107_7 W.1, k114 W.1, q114 W, n1_1, true_or, or_true, u_eqm]
    refine wc (c_R_holdAt) ⟨by omega, by omega⟩ ?_
    simp (disch := omega) only [slk, List.map_cons, List.map_nil, List.sum_cons, List.sum_nil, vc_i, vc_r, vc_n, vc_l, vc_o, Nat.add_zero, kO_e, kA_e, hdO_a, eq_self, blk, stp, lg, ls0, lk, ls1, ls2, kI_i, kL_l, kR_r, kR_n, kR_o, s1I_i, s2I_i, s1L_l, s2L_l, s1R_r, s1R_n, s1R_o, s1A_a, cmpc, popn, swt, rf_s, rf_n, cat_i, cat_r, cat_n, cat_l, true_and, and_true, List.length_cons, List.length_nil, Nat.zero_add, Int.reduceToNat, Nat.reduceAdd, Nat.reduceDiv, Nat.reduceMod, Nat.reduceMul, Nat.reduceSub, Nat.reduceLeDiff, Nat.reduceLT, Nat.reduceEqDiff, reduceIte, r_gr_wi, r_gl_wi, r_gk_wi, r_gn_wi, r_gi_wi, r_gi_wr, r_gl_wr, r_gk_wr, r_gn_wr, r_gr_wa, r_gl_wa, r_gk_wa, r_gn_wa, u_lt, u_le, u_gt, u_ge, u_lt0, u_le0, u_gt0, u_ge0, Classical.not_not, not_true_eq_false, not_false_eq_true, oi_n, oi_m, n_dec, nI_add, pk_mul, n_sub, n_eq, n_le, n_lt, n_eq0, n_lt0, n_le0, n_0lt, n_0le, n_eqm, m_eqn, n_ltm, n_and, n_or, n_xor, n_shl, n_shr, tb1, tb0, bP_1, bP_0, bP_n0, ix_n, inb_n, u_eq, u_eqm, k107 W.1, f107_7 W.1, k114 W.1, q114 W, n1_1, true_or, or_true, u_eqm]
    exact lfQT r_R_hold c W1.1 (by repeat (first | exact W1.2.1 | refine rc_set ?_ (by decide) | refine rc_setm ?_ (by decide))) (rs_hold W.2.2 c) (by repeat (first | exact (pre1 W).2 | refine fr_wi ?_ (by omega)))
  refine hP.1 _ _ s_R_hold_0 _ _ _ _ _ ?_
  simp (disch := omega) only [g_R_hold_0, slk, List.map_cons, List.map_nil, List.sum_cons, List.sum_nil, vc_i, vc_r, vc_n, vc_l, vc_o, Nat.add_zero, kO_e, kA_e, hdO_a, eq_self, blk, stp, lg, ls0, lk, ls1, ls2, kI_i, kL_l, kR_r, kR_n, kR_o, s1I_i, s2I_i, s1L_l, s2L_l, s1R_r, s1R_n, s1R_o, s1A_a, cmpc, popn, swt, rf_s, rf_n, cat_i, cat_r, cat_n, cat_l, true_and, and_true, List.length_cons, List.length_nil, Nat.zero_add, Int.reduceToNat, Nat.reduceAdd, Nat.reduceDiv, Nat.reduceMod, Nat.reduceMul, Nat.reduceSub, Nat.reduceLeDiff, Nat.reduceLT, Nat.reduceEqDiff, reduceIte, r_gr_wi, r_gl_wi, r_gk_wi, r_gn_wi, r_gi_wi, r_gi_wr, r_gl_wr, r_gk_wr, r_gn_wr, r_gr_wa, r_gl_wa, r_gk_wa, r_gn_wa, u_lt, u_le, u_gt, u_ge, u_lt0, u_le0, u_gt0, u_ge0, Classical.not_not, not_true_eq_false, not_false_eq_true, oi_n, oi_m, n_dec, nI_add, pk_mul, n_sub, n_eq, n_le, n_lt, n_eq0, n_lt0, n_le0, n_0lt, n_0le, n_eqm, m_eqn, n_ltm, n_and, n_or, n_xor, n_shl, n_shr, tb1, tb0, bP_1, bP_0, bP_n0, ix_n, inb_n, u_eq, u_eqm, k107 W.1, n1_1, true_or, or_true, u_eqm]
  refine wc (c_R_isElder W1 he) ⟨by omega, by omega⟩ ?_
  simp (disch := omega) only [slk, List.map_cons, List.map_nil, List.sum_cons, List.sum_nil, vc_i, vc_r, vc_n, vc_l, vc_o, Nat.add_zero, kO_e, kA_e, hdO_a, eq_self, blk, stp, lg, ls0, lk, ls1, ls2, kI_i, kL_l, kR_r, kR_n, kR_o, s1I_i, s2I_i, s1L_l, s2L_l, s1R_r, s1R_n, s1R_o, s1A_a, cmpc, popn, swt, rf_s, rf_n, cat_i, cat_r, cat_n, cat_l, true_and, and_true, List.length_cons, List.length_nil, Nat.zero_add, Int.reduceToNat, Nat.reduceAdd, Nat.reduceDiv, Nat.reduceMod, Nat.reduceMul, Nat.reduceSub, Nat.reduceLeDiff, Nat.reduceLT, Nat.reduceEqDiff, reduceIte, r_gr_wi, r_gl_wi, r_gk_wi, r_gn_wi, r_gi_wi, r_gi_wr, r_gl_wr, r_gk_wr, r_gn_wr, r_gr_wa, r_gl_wa, r_gk_wa, r_gn_wa, u_lt, u_le, u_gt, u_ge, u_lt0, u_le0, u_gt0, u_ge0, Classical.not_not, not_true_eq_false, not_false_eq_true, oi_n, oi_m, n_dec, nI_add, pk_mul, n_sub, n_eq, n_le, n_lt, n_eq0, n_lt0, n_le0, n_0lt, n_0le, n_eqm, m_eqn, n_ltm, n_and, n_or, n_xor, n_shl, n_shr, tb1, tb0, bP_1, bP_0, bP_n0, ix_n, inb_n, u_eq, u_eqm, k107 W.1, n1_1, true_or, or_true, u_eqm]
  refine ⟨fun hc => bad (fun q => by unfold holdC at q; omega), fun hc1 => ?_⟩
  refine hP.1 _ _ s_R_hold_13 _ _ _ _ _ ?_
  simp (disch := omega) only [g_R_hold_13, slk, List.map_cons, List.map_nil, List.sum_cons, List.sum_nil, vc_i, vc_r, vc_n, vc_l, vc_o, Nat.add_zero, kO_e, kA_e, hdO_a, eq_self, blk, stp, lg, ls0, lk, ls1, ls2, kI_i, kL_l, kR_r, kR_n, kR_o, s1I_i, s2I_i, s1L_l, s2L_l, s1R_r, s1R_n, s1R_o, s1A_a, cmpc, popn, swt, rf_s, rf_n, cat_i, cat_r, cat_n, cat_l, true_and, and_true, List.length_cons, List.length_nil, Nat.zero_add, Int.reduceToNat, Nat.reduceAdd, Nat.reduceDiv, Nat.reduceMod, Nat.reduceMul, Nat.reduceSub, Nat.reduceLeDiff, Nat.reduceLT, Nat.reduceEqDiff, reduceIte, r_gr_wi, r_gl_wi, r_gk_wi, r_gn_wi, r_gi_wi, r_gi_wr, r_gl_wr, r_gk_wr, r_gn_wr, r_gr_wa, r_gl_wa, r_gk_wa, r_gn_wa, u_lt, u_le, u_gt, u_ge, u_lt0, u_le0, u_gt0, u_ge0, Classical.not_not, not_true_eq_false, not_false_eq_true, oi_n, oi_m, n_dec, nI_add, pk_mul, n_sub, n_eq, n_le, n_lt, n_eq0, n_lt0, n_le0, n_0lt, n_0le, n_eqm, m_eqn, n_ltm, n_and, n_or, n_xor, n_shl, n_shr, tb1, tb0, bP_1, bP_0, bP_n0, ix_n, inb_n, u_eq, u_eqm, k107 W.1, n1_1, true_or, or_true, u_eqm]
  refine wc (c_R_isWay W1 hm hp hw) ⟨by omega, by omega⟩ ?_
  simp (disch := omega) only [slk, List.map_cons, List.map_nil, List.sum_cons, List.sum_nil, vc_i, vc_r, vc_n, vc_l, vc_o, Nat.add_zero, kO_e, kA_e, hdO_a, eq_self, blk, stp, lg, ls0, lk, ls1, ls2, kI_i, kL_l, kR_r, kR_n, kR_o, s1I_i, s2I_i, s1L_l, s2L_l, s1R_r, s1R_n, s1R_o, s1A_a, cmpc, popn, swt, rf_s, rf_n, cat_i, cat_r, cat_n, cat_l, true_and, and_true, List.length_cons, List.length_nil, Nat.zero_add, Int.reduceToNat, Nat.reduceAdd, Nat.reduceDiv, Nat.reduceMod, Nat.reduceMul, Nat.reduceSub, Nat.reduceLeDiff, Nat.reduceLT, Nat.reduceEqDiff, reduceIte, r_gr_wi, r_gl_wi, r_gk_wi, r_gn_wi, r_gi_wi, r_gi_wr, r_gl_wr, r_gk_wr, r_gn_wr, r_gr_wa, r_gl_wa, r_gk_wa, r_gn_wa, u_lt, u_le, u_gt, u_ge, u_lt0, u_le0, u_gt0, u_ge0, Classical.not_not, not_true_eq_false, not_false_eq_true, oi_n, oi_m, n_dec, nI_add, pk_mul, n_sub, n_eq, n_le, n_lt, n_eq0, n_lt0, n_le0, n_0lt, n_0le, n_eqm, m_eqn, n_ltm, n_and, n_or, n_xor, n_shl, n_shr, tb1, tb0, bP_1, bP_0, bP_n0, ix_n, inb_n, u_eq, u_eqm, k107 W.1, n1_1, true_or, or_true, u_eqm]
  refine ⟨fun hc => bad (fun q => by unfold holdC at q; omega), fun hc2 => ?_⟩
  refine hP.1 _ _ s_R_hold_24 _ _ _ _ _ ?_
  simp (disch := omega) only [g_R_hold_24, slk, List.map_cons, List.map_nil, List.sum_cons, List.sum_nil, vc_i, vc_r, vc_n, vc_l, vc_o, Nat.add_zero, kO_e, kA_e, hdO_a, eq_self, blk, stp, lg, ls0, lk, ls1, ls2, kI_i, kL_l, kR_r, kR_n, kR_o, s1I_i, s2I_i, s1L_l, s2L_l, s1R_r, s1R_n, s1R_o, s1A_a, cmpc, popn, swt, rf_s, rf_n, cat_i, cat_r, cat_n, cat_l, true_and, and_true, List.length_cons, List.length_nil, Nat.zero_add, Int.reduceToNat, Nat.reduceAdd, Nat.reduceDiv, Nat.reduceMod, Nat.reduceMul, Nat.reduceSub, Nat.reduceLeDiff, Nat.reduceLT, Nat.reduceEqDiff, reduceIte, r_gr_wi, r_gl_wi, r_gk_wi, r_gn_wi, r_gi_wi, r_gi_wr, r_gl_wr, r_gk_wr, r_gn_wr, r_gr_wa, r_gl_wa, r_gk_wa, r_gn_wa, u_lt, u_le, u_gt, u_ge, u_lt0, u_le0, u_gt0, u_ge0, Classical.not_not, not_true_eq_false, not_false_eq_true, oi_n, oi_m, n_dec, nI_add, pk_mul, n_sub, n_eq, n_le, n_lt, n_eq0, n_lt0, n_le0, n_0lt, n_0le, n_eqm, m_eqn, n_ltm, n_and, n_or, n_xor, n_shl, n_shr, tb1, tb0, bP_1, bP_0, bP_n0, ix_n, inb_n, u_eq, u_eqm, n1_1, true_or, or_true, u_eqm]
  refine wc (c_R_isIn hv (by omega) (by omega)) ⟨by omega, by omega⟩ ?_
  simp (disch := omega) only [slk, List.map_cons, List.map_nil, List.sum_cons, List.sum_nil, vc_i, vc_r, vc_n, vc_l, vc_o, Nat.add_zero, kO_e, kA_e, hdO_a, eq_self, blk, stp, lg, ls0, lk, ls1, ls2, kI_i, kL_l, kR_r, kR_n, kR_o, s1I_i, s2I_i, s1L_l, s2L_l, s1R_r, s1R_n, s1R_o, s1A_a, cmpc, popn, swt, rf_s, rf_n, cat_i, cat_r, cat_n, cat_l, true_and, and_true, List.length_cons, List.length_nil, Nat.zero_add, Int.reduceToNat, Nat.reduceAdd, Nat.reduceDiv, Nat.reduceMod, Nat.reduceMul, Nat.reduceSub, Nat.reduceLeDiff, Nat.reduceLT, Nat.reduceEqDiff, reduceIte, r_gr_wi, r_gl_wi, r_gk_wi, r_gn_wi, r_gi_wi, r_gi_wr, r_gl_wr, r_gk_wr, r_gn_wr, r_gr_wa, r_gl_wa, r_gk_wa, r_gn_wa, u_lt, u_le, u_gt, u_ge, u_lt0, u_le0, u_gt0, u_ge0, Classical.not_not, not_true_eq_false, not_false_eq_true, oi_n, oi_m, n_dec, nI_add, pk_mul, n_sub, n_eq, n_le, n_lt, n_eq0, n_lt0, n_le0, n_0lt, n_0le, n_eqm, m_eqn, n_ltm, n_and, n_or, n_xor, n_shl, n_shr, tb1, tb0, bP_1, bP_0, bP_n0, ix_n, inb_n, u_eq, u_eqm, n1_1, true_or, or_true, u_eqm]
  refine ⟨fun hc3 => ?_, fun hc => bad (fun q => by unfold holdC at q; omega)⟩
  exact good (by unfold holdC; omega)
def careS (s : St) (e m p v : Nat) : St := uS s 115 ((4 * e + m) * 5 + p) (v)
def careC (s : St) (e m p v : Nat) : Prop := e < s 107 18 ∧ (m < s 107 19 ∧ p < s 112 m) ∧ v ≤ 9
theorem rs_care {s : St} (R : RS s) {e m p v : Nat} (c : careC s e m p v) : RS (careS s e m p v) := by
  obtain ⟨⟨a1, a2, a3, a4, a5, a6, a7, a8, a9, a10⟩, r2, r3, r4, r5, r6, r7, r8, r9, r10, r11, r12, r13, r14, r15⟩ := R
  unfold careC at c
  exact ⟨⟨a1, a2, a3, a4, a5, a6, a7, a8, a9, a10⟩, r2, r3, r4, r5, r6, (fun j => by
    show (if j = (4 * e + m) * 5 + p then v else s 115 j) ≤ 9
    split
    · exact c.2.2
    · exact r7 j), r8, r9, r10, r11, r12, r13, r14, r15⟩
theorem c_R_care (W : RH h s) {e m p v : Nat} (he : e < 4294967296) (hm : m < 4294967296) (hp : p < 4294967296) (hv : v < 4294967296) : Mz (d + 3) 64 [.ref 107, .int (nI e), .int (nI m), .int (nI p), .int (nI v)] h 0 0 (Pb (bP (careC s e m p v)) (ifS (careC s e m p v) (careS s e m p v) s) h) := by
  have W1 := (pre1 W).1
  have b1 := rs_e W
  have b2 := rs_m W
  refine mz_in (l := [some (.ref 107), some (.int (nI e)), some (.int (nI m)), some (.int (nI p)), some (.int (nI v))]) mk_R_care n_R_care rfl l_R_care rfl (Nat.le_of_ble_eq_true rfl) fun P hP => ?_
  have bad : ¬ careC s e m p v → P 33 [some (.ref 107), some (.int (nI e)), some (.int (nI m)), some (.int (nI p)), some (.int (nI v))] [] (wi h 107 0 (nI 0)) 0 0 := by
    intro a
    refine hP.1 _ _ s_R_care_33 _ _ _ _ _ ?_
    simp (disch := omega) only [g_R_care_33, slk, List.map_cons, List.map_nil, List.sum_cons, List.sum_nil, vc_i, vc_r, vc_n, vc_l, vc_o, Nat.add_zero, kO_e, kA_e, hdO_a, eq_self, blk, stp, lg, ls0, lk, ls1, ls2, kI_i, kL_l, kR_r, kR_n, kR_o, s1I_i, s2I_i, s1L_l, s2L_l, s1R_r, s1R_n, s1R_o, s1A_a, cmpc, popn, swt, rf_s, rf_n, cat_i, cat_r, cat_n, cat_l, true_and, and_true, List.length_cons, List.length_nil, Nat.zero_add, Int.reduceToNat, Nat.reduceAdd, Nat.reduceDiv, Nat.reduceMod, Nat.reduceMul, Nat.reduceSub, Nat.reduceLeDiff, Nat.reduceLT, Nat.reduceEqDiff, reduceIte, r_gr_wi, r_gl_wi, r_gk_wi, r_gn_wi, r_gi_wi, r_gi_wr, r_gl_wr, r_gk_wr, r_gn_wr, r_gr_wa, r_gl_wa, r_gk_wa, r_gn_wa, u_lt, u_le, u_gt, u_ge, u_lt0, u_le0, u_gt0, u_ge0, Classical.not_not, not_true_eq_false, not_false_eq_true, oi_n, oi_m, n_dec, nI_add, pk_mul, n_sub, n_eq, n_le, n_lt, n_eq0, n_lt0, n_le0, n_0lt, n_0le, n_eqm, m_eqn, n_ltm, n_and, n_or, n_xor, n_shl, n_shr, tb1, tb0, bP_1, bP_0, bP_n0, ix_n, inb_n, u_eq, u_eqm, n1_1, true_or, or_true, u_eqm]
    exact lfQF r_R_care a W1 (pre1 W).2
  have good : careC s e m p v → P 35 [some (.ref 107), some (.int (nI e)), some (.int (nI m)), some (.int (nI p)), some (.int (nI v))] [] (wi h 107 0 (nI 0)) 0 0 := by
    intro c
    have c2 := c
    unfold careC at c2
    skip
    have p3 := rs_p W c2.2.1.1
    refine hP.1 _ _ s_R_care_35 _ _ _ _ _ ?_
    simp (disch := omega) only [g_R_care_35, slk, List.map_cons, List.map_nil, List.sum_cons, List.sum_nil, vc_i, vc_r, vc_n, vc_l, vc_o, Nat.add_zero, kO_e, kA_e, hdO_a, eq_self, blk, stp, lg, ls0, lk, ls1, ls2, kI_i, kL_l, kR_r, kR_n, kR_o, s1I_i, s2I_i, s1L_l, s2L_l, s1R_r, s1R_n, s1R_o, s1A_a, cmpc, popn, swt, rf_s, rf_n, cat_i, cat_r, cat_n, cat_l, true_and, and_true, List.length_cons, List.length_nil, Nat.zero_add, Int.reduceToNat, Nat.reduceAdd, Nat.reduceDiv, Nat.reduceMod, Nat.reduceMul, Nat.reduceSub, Nat.reduceLeDiff, Nat.reduceLT, Nat.reduceEqDiff, reduceIte, r_gr_wi, r_gl_wi, r_gk_wi, r_gn_wi, r_gi_wi, r_gi_wr, r_gl_wr, r_gk_wr, r_gn_wr, r_gr_wa, r_gl_wa, r_gk_wa, r_gn_wa, u_lt, u_le, u_gt, u_ge, u_lt0, u_le0, u_gt0, u_ge0, Classical.not_not, not_true_eq_false, not_false_eq_true, oi_n, oi_m, n_dec, nI_add, pk_mul, n_sub, n_eq, n_le, n_lt, n_eq0, n_lt0, n_le0, n_0lt, n_0le, n_eqm, m_eqn, n_ltm, n_and, n_or, n_xor, n_shl, n_shr, tb1, tb0, bP_1, bP_0, bP_n0, ix_n, inb_n, u_eq, u_eqm, k107 W.1, f107_8 W.1, k115 W.1, q115 W, n1_1, true_or, or_true, u_eqm]
    exact lfQT r_R_care c W1.1 (by repeat (first | exact W1.2.1 | refine rc_set ?_ (by decide) | refine rc_setm ?_ (by decide))) (rs_care W.2.2 c) (by repeat (first | exact (pre1 W).2 | refine fr_wi ?_ (by omega)))
  refine hP.1 _ _ s_R_care_0 _ _ _ _ _ ?_
  simp (disch := omega) only [g_R_care_0, slk, List.map_cons, List.map_nil, List.sum_cons, List.sum_nil, vc_i, vc_r, vc_n, vc_l, vc_o, Nat.add_zero, kO_e, kA_e, hdO_a, eq_self, blk, stp, lg, ls0, lk, ls1, ls2, kI_i, kL_l, kR_r, kR_n, kR_o, s1I_i, s2I_i, s1L_l, s2L_l, s1R_r, s1R_n, s1R_o, s1A_a, cmpc, popn, swt, rf_s, rf_n, cat_i, cat_r, cat_n, cat_l, true_and, and_true, List.length_cons, List.length_nil, Nat.zero_add, Int.reduceToNat, Nat.reduceAdd, Nat.reduceDiv, Nat.reduceMod, Nat.reduceMul, Nat.reduceSub, Nat.reduceLeDiff, Nat.reduceLT, Nat.reduceEqDiff, reduceIte, r_gr_wi, r_gl_wi, r_gk_wi, r_gn_wi, r_gi_wi, r_gi_wr, r_gl_wr, r_gk_wr, r_gn_wr, r_gr_wa, r_gl_wa, r_gk_wa, r_gn_wa, u_lt, u_le, u_gt, u_ge, u_lt0, u_le0, u_gt0, u_ge0, Classical.not_not, not_true_eq_false, not_false_eq_true, oi_n, oi_m, n_dec, nI_add, pk_mul, n_sub, n_eq, n_le, n_lt, n_eq0, n_lt0, n_le0, n_0lt, n_0le, n_eqm, m_eqn, n_ltm, n_and, n_or, n_xor, n_shl, n_shr, tb1, tb0, bP_1, bP_0, bP_n0, ix_n, inb_n, u_eq, u_eqm, k107 W.1, n1_1, true_or, or_true, u_eqm]
  refine wc (c_R_isElder W1 he) ⟨by omega, by omega⟩ ?_
  simp (disch := omega) only [slk, List.map_cons, List.map_nil, List.sum_cons, List.sum_nil, vc_i, vc_r, vc_n, vc_l, vc_o, Nat.add_zero, kO_e, kA_e, hdO_a, eq_self, blk, stp, lg, ls0, lk, ls1, ls2, kI_i, kL_l, kR_r, kR_n, kR_o, s1I_i, s2I_i, s1L_l, s2L_l, s1R_r, s1R_n, s1R_o, s1A_a, cmpc, popn, swt, rf_s, rf_n, cat_i, cat_r, cat_n, cat_l, true_and, and_true, List.length_cons, List.length_nil, Nat.zero_add, Int.reduceToNat, Nat.reduceAdd, Nat.reduceDiv, Nat.reduceMod, Nat.reduceMul, Nat.reduceSub, Nat.reduceLeDiff, Nat.reduceLT, Nat.reduceEqDiff, reduceIte, r_gr_wi, r_gl_wi, r_gk_wi, r_gn_wi, r_gi_wi, r_gi_wr, r_gl_wr, r_gk_wr, r_gn_wr, r_gr_wa, r_gl_wa, r_gk_wa, r_gn_wa, u_lt, u_le, u_gt, u_ge, u_lt0, u_le0, u_gt0, u_ge0, Classical.not_not, not_true_eq_false, not_false_eq_true, oi_n, oi_m, n_dec, nI_add, pk_mul, n_sub, n_eq, n_le, n_lt, n_eq0, n_lt0, n_le0, n_0lt, n_0le, n_eqm, m_eqn, n_ltm, n_and, n_or, n_xor, n_shl, n_shr, tb1, tb0, bP_1, bP_0, bP_n0, ix_n, inb_n, u_eq, u_eqm, k107 W.1, n1_1, true_or, or_true, u_eqm]
  refine ⟨fun hc => bad (fun q => by unfold careC at q; omega), fun hc1 => ?_⟩
  refine hP.1 _ _ s_R_care_13 _ _ _ _ _ ?_
  simp (disch := omega) only [g_R_care_13, slk, List.map_cons, List.map_nil, List.sum_cons, List.sum_nil, vc_i, vc_r, vc_n, vc_l, vc_o, Nat.add_zero, kO_e, kA_e, hdO_a, eq_self, blk, stp, lg, ls0, lk, ls1, ls2, kI_i, kL_l, kR_r, kR_n, kR_o, s1I_i, s2I_i, s1L_l, s2L_l, s1R_r, s1R_n, s1R_o, s1A_a, cmpc, popn, swt, rf_s, rf_n, cat_i, cat_r, cat_n, cat_l, true_and, and_true, List.length_cons, List.length_nil, Nat.zero_add, Int.reduceToNat, Nat.reduceAdd, Nat.reduceDiv, Nat.reduceMod, Nat.reduceMul, Nat.reduceSub, Nat.reduceLeDiff, Nat.reduceLT, Nat.reduceEqDiff, reduceIte, r_gr_wi, r_gl_wi, r_gk_wi, r_gn_wi, r_gi_wi, r_gi_wr, r_gl_wr, r_gk_wr, r_gn_wr, r_gr_wa, r_gl_wa, r_gk_wa, r_gn_wa, u_lt, u_le, u_gt, u_ge, u_lt0, u_le0, u_gt0, u_ge0, Classical.not_not, not_true_eq_false, not_false_eq_true, oi_n, oi_m, n_dec, nI_add, pk_mul, n_sub, n_eq, n_le, n_lt, n_eq0, n_lt0, n_le0, n_0lt, n_0le, n_eqm, m_eqn, n_ltm, n_and, n_or, n_xor, n_shl, n_shr, tb1, tb0, bP_1, bP_0, bP_n0, ix_n, inb_n, u_eq, u_eqm, k107 W.1, n1_1, true_or, or_true, u_eqm]
  refine wc (c_R_isPart W1 hm hp) ⟨by omega, by omega⟩ ?_
  simp (disch := omega) only [slk, List.map_cons, List.map_nil, List.sum_cons, List.sum_nil, vc_i, vc_r, vc_n, vc_l, vc_o, Nat.add_zero, kO_e, kA_e, hdO_a, eq_self, blk, stp, lg, ls0, lk, ls1, ls2, kI_i, kL_l, kR_r, kR_n, kR_o, s1I_i, s2I_i, s1L_l, s2L_l, s1R_r, s1R_n, s1R_o, s1A_a, cmpc, popn, swt, rf_s, rf_n, cat_i, cat_r, cat_n, cat_l, true_and, and_true, List.length_cons, List.length_nil, Nat.zero_add, Int.reduceToNat, Nat.reduceAdd, Nat.reduceDiv, Nat.reduceMod, Nat.reduceMul, Nat.reduceSub, Nat.reduceLeDiff, Nat.reduceLT, Nat.reduceEqDiff, reduceIte, r_gr_wi, r_gl_wi, r_gk_wi, r_gn_wi, r_gi_wi, r_gi_wr, r_gl_wr, r_gk_wr, r_gn_wr, r_gr_wa, r_gl_wa, r_gk_wa, r_gn_wa, u_lt, u_le, u_gt, u_ge, u_lt0, u_le0, u_gt0, u_ge0, Classical.not_not, not_true_eq_false, not_false_eq_true, oi_n, oi_m, n_dec, nI_add, pk_mul, n_sub, n_eq, n_le, n_lt, n_eq0, n_lt0, n_le0, n_0lt, n_0le, n_eqm, m_eqn, n_ltm, n_and, n_or, n_xor, n_shl, n_shr, tb1, tb0, bP_1, bP_0, bP_n0, ix_n, inb_n, u_eq, u_eqm, k107 W.1, n1_1, true_or, or_true, u_eqm]
  refine ⟨fun hc => bad (fun q => by unfold careC at q; omega), fun hc2 => ?_⟩
  refine hP.1 _ _ s_R_care_22 _ _ _ _ _ ?_
  simp (disch := omega) only [g_R_care_22, slk, List.map_cons, List.map_nil, List.sum_cons, List.sum_nil, vc_i, vc_r, vc_n, vc_l, vc_o, Nat.add_zero, kO_e, kA_e, hdO_a, eq_self, blk, stp, lg, ls0, lk, ls1, ls2, kI_i, kL_l, kR_r, kR_n, kR_o, s1I_i, s2I_i, s1L_l, s2L_l, s1R_r, s1R_n, s1R_o, s1A_a, cmpc, popn, swt, rf_s, rf_n, cat_i, cat_r, cat_n, cat_l, true_and, and_true, List.length_cons, List.length_nil, Nat.zero_add, Int.reduceToNat, Nat.reduceAdd, Nat.reduceDiv, Nat.reduceMod, Nat.reduceMul, Nat.reduceSub, Nat.reduceLeDiff, Nat.reduceLT, Nat.reduceEqDiff, reduceIte, r_gr_wi, r_gl_wi, r_gk_wi, r_gn_wi, r_gi_wi, r_gi_wr, r_gl_wr, r_gk_wr, r_gn_wr, r_gr_wa, r_gl_wa, r_gk_wa, r_gn_wa, u_lt, u_le, u_gt, u_ge, u_lt0, u_le0, u_gt0, u_ge0, Classical.not_not, not_true_eq_false, not_false_eq_true, oi_n, oi_m, n_dec, nI_add, pk_mul, n_sub, n_eq, n_le, n_lt, n_eq0, n_lt0, n_le0, n_0lt, n_0le, n_eqm, m_eqn, n_ltm, n_and, n_or, n_xor, n_shl, n_shr, tb1, tb0, bP_1, bP_0, bP_n0, ix_n, inb_n, u_eq, u_eqm, n1_1, true_or, or_true, u_eqm]
  refine wc (c_R_isIn hv (by omega) (by omega)) ⟨by omega, by omega⟩ ?_
  simp (disch := omega) only [slk, List.map_cons, List.map_nil, List.sum_cons, List.sum_nil, vc_i, vc_r, vc_n, vc_l, vc_o, Nat.add_zero, kO_e, kA_e, hdO_a, eq_self, blk, stp, lg, ls0, lk, ls1, ls2, kI_i, kL_l, kR_r, kR_n, kR_o, s1I_i, s2I_i, s1L_l, s2L_l, s1R_r, s1R_n, s1R_o, s1A_a, cmpc, popn, swt, rf_s, rf_n, cat_i, cat_r, cat_n, cat_l, true_and, and_true, List.length_cons, List.length_nil, Nat.zero_add, Int.reduceToNat, Nat.reduceAdd, Nat.reduceDiv, Nat.reduceMod, Nat.reduceMul, Nat.reduceSub, Nat.reduceLeDiff, Nat.reduceLT, Nat.reduceEqDiff, reduceIte, r_gr_wi, r_gl_wi, r_gk_wi, r_gn_wi, r_gi_wi, r_gi_wr, r_gl_wr, r_gk_wr, r_gn_wr, r_gr_wa, r_gl_wa, r_gk_wa, r_gn_wa, u_lt, u_le, u_gt, u_ge, u_lt0, u_le0, u_gt0, u_ge0, Classical.not_not, not_true_eq_false, not_false_eq_true, oi_n, oi_m, n_dec, nI_add, pk_mul, n_sub, n_eq, n_le, n_lt, n_eq0, n_lt0, n_le0, n_0lt, n_0le, n_eqm, m_eqn, n_ltm, n_and, n_or, n_xor, n_shl, n_shr, tb1, tb0, bP_1, bP_0, bP_n0, ix_n, inb_n, u_eq, u_eqm, n1_1, true_or, or_true, u_eqm]
  refine ⟨fun hc3 => ?_, fun hc => bad (fun q => by unfold careC at q; omega)⟩
  exact good (by unfold careC; omega)
def leftS (s : St) (e b : Nat) : St := uS s 111 (e) (b)
def leftC (s : St) (e b : Nat) : Prop := e < s 107 18 ∧ ¬ s 111 e = b
theorem rs_left {s : St} (R : RS s) {e b : Nat} (c : leftC s e b) (bb : b ≤ 1) : RS (leftS s e b) := by
  obtain ⟨⟨a1, a2, a3, a4, a5, a6, a7, a8, a9, a10⟩, r2, r3, r4, r5, r6, r7, r8, r9, r10, r11, r12, r13, r14, r15⟩ := R
  unfold leftC at c
  exact ⟨⟨a1, a2, a3, a4, a5, a6, a7, a8, a9, a10⟩, r2, r3, (fun j => by
    show (if j = e then b else s 111 j) ≤ 1
    split
    · exact bb
    · exact r4 j), r5, r6, r7, r8, r9, r10, r11, r12, r13, r14, r15⟩
theorem c_R_left (W : RH h s) {e b : Nat} (he : e < 4294967296) (hb : b ≤ 1) : Mz (d + 2) 56 [.ref 107, .int (nI e), .int (nI b)] h 0 0 (Pb (bP (leftC s e b)) (ifS (leftC s e b) (leftS s e b) s) h) := by
  have W1 := (pre1 W).1
  have b1 := rs_e W
  have b2 := rs_m W
  refine mz_in (l := [some (.ref 107), some (.int (nI e)), some (.int (nI b))]) mk_R_left n_R_left rfl l_R_left rfl (Nat.le_of_ble_eq_true rfl) fun P hP => ?_
  have bad : ¬ leftC s e b → P 23 [some (.ref 107), some (.int (nI e)), some (.int (nI b))] [] (wi h 107 0 (nI 0)) 0 0 := by
    intro a
    refine hP.1 _ _ s_R_left_23 _ _ _ _ _ ?_
    simp (disch := omega) only [g_R_left_23, slk, List.map_cons, List.map_nil, List.sum_cons, List.sum_nil, vc_i, vc_r, vc_n, vc_l, vc_o, Nat.add_zero, kO_e, kA_e, hdO_a, eq_self, blk, stp, lg, ls0, lk, ls1, ls2, kI_i, kL_l, kR_r, kR_n, kR_o, s1I_i, s2I_i, s1L_l, s2L_l, s1R_r, s1R_n, s1R_o, s1A_a, cmpc, popn, swt, rf_s, rf_n, cat_i, cat_r, cat_n, cat_l, true_and, and_true, List.length_cons, List.length_nil, Nat.zero_add, Int.reduceToNat, Nat.reduceAdd, Nat.reduceDiv, Nat.reduceMod, Nat.reduceMul, Nat.reduceSub, Nat.reduceLeDiff, Nat.reduceLT, Nat.reduceEqDiff, reduceIte, r_gr_wi, r_gl_wi, r_gk_wi, r_gn_wi, r_gi_wi, r_gi_wr, r_gl_wr, r_gk_wr, r_gn_wr, r_gr_wa, r_gl_wa, r_gk_wa, r_gn_wa, u_lt, u_le, u_gt, u_ge, u_lt0, u_le0, u_gt0, u_ge0, Classical.not_not, not_true_eq_false, not_false_eq_true, oi_n, oi_m, n_dec, nI_add, pk_mul, n_sub, n_eq, n_le, n_lt, n_eq0, n_lt0, n_le0, n_0lt, n_0le, n_eqm, m_eqn, n_ltm, n_and, n_or, n_xor, n_shl, n_shr, tb1, tb0, bP_1, bP_0, bP_n0, ix_n, inb_n, u_eq, u_eqm, n1_1, true_or, or_true, u_eqm]
    exact lfQF r_R_left a W1 (pre1 W).2
  have good : leftC s e b → P 25 [some (.ref 107), some (.int (nI e)), some (.int (nI b))] [] (wi h 107 0 (nI 0)) 0 0 := by
    intro c
    have c2 := c
    unfold leftC at c2
    rcases (by omega : b = 0 ∨ b = 1) with rfl | rfl
    · skip
      refine hP.1 _ _ s_R_left_25 _ _ _ _ _ ?_
      simp (disch := omega) only [g_R_left_25, slk, List.map_cons, List.map_nil, List.sum_cons, List.sum_nil, vc_i, vc_r, vc_n, vc_l, vc_o, Nat.add_zero, kO_e, kA_e, hdO_a, eq_self, blk, stp, lg, ls0, lk, ls1, ls2, kI_i, kL_l, kR_r, kR_n, kR_o, s1I_i, s2I_i, s1L_l, s2L_l, s1R_r, s1R_n, s1R_o, s1A_a, cmpc, popn, swt, rf_s, rf_n, cat_i, cat_r, cat_n, cat_l, true_and, and_true, List.length_cons, List.length_nil, Nat.zero_add, Int.reduceToNat, Nat.reduceAdd, Nat.reduceDiv, Nat.reduceMod, Nat.reduceMul, Nat.reduceSub, Nat.reduceLeDiff, Nat.reduceLT, Nat.reduceEqDiff, reduceIte, r_gr_wi, r_gl_wi, r_gk_wi, r_gn_wi, r_gi_wi, r_gi_wr, r_gl_wr, r_gk_wr, r_gn_wr, r_gr_wa, r_gl_wa, r_gk_wa, r_gn_wa, u_lt, u_le, u_gt, u_ge, u_lt0, u_le0, u_gt0, u_ge0, Classical.not_not, not_true_eq_false, not_false_eq_true, oi_n, oi_m, n_dec, nI_add, pk_mul, n_sub, n_eq, n_le, n_lt, n_eq0, n_lt0, n_le0, n_0lt, n_0le, n_eqm, m_eqn, n_ltm, n_and, n_or, n_xor, n_shl, n_shr, tb1, tb0, bP_1, bP_0, bP_n0, ix_n, inb_n, u_eq, u_eqm, k107 W.1, f107_4 W.1, k111 W.1, q111 W, n1_1, true_or, or_true, u_eqm]
      exact lfQT r_R_left c W1.1 (by repeat (first | exact W1.2.1 | refine rc_set ?_ (by decide) | refine rc_setm ?_ (by decide))) (rs_left W.2.2 c (by omega)) (by repeat (first | exact (pre1 W).2 | refine fr_wi ?_ (by omega)))
    · skip
      refine hP.1 _ _ s_R_left_25 _ _ _ _ _ ?_
      simp (disch := omega) only [g_R_left_25, slk, List.map_cons, List.map_nil, List.sum_cons, List.sum_nil, vc_i, vc_r, vc_n, vc_l, vc_o, Nat.add_zero, kO_e, kA_e, hdO_a, eq_self, blk, stp, lg, ls0, lk, ls1, ls2, kI_i, kL_l, kR_r, kR_n, kR_o, s1I_i, s2I_i, s1L_l, s2L_l, s1R_r, s1R_n, s1R_o, s1A_a, cmpc, popn, swt, rf_s, rf_n, cat_i, cat_r, cat_n, cat_l, true_and, and_true, List.length_cons, List.length_nil, Nat.zero_add, Int.reduceToNat, Nat.reduceAdd, Nat.reduceDiv, Nat.reduceMod, Nat.reduceMul, Nat.reduceSub, Nat.reduceLeDiff, Nat.reduceLT, Nat.reduceEqDiff, reduceIte, r_gr_wi, r_gl_wi, r_gk_wi, r_gn_wi, r_gi_wi, r_gi_wr, r_gl_wr, r_gk_wr, r_gn_wr, r_gr_wa, r_gl_wa, r_gk_wa, r_gn_wa, u_lt, u_le, u_gt, u_ge, u_lt0, u_le0, u_gt0, u_ge0, Classical.not_not, not_true_eq_false, not_false_eq_true, oi_n, oi_m, n_dec, nI_add, pk_mul, n_sub, n_eq, n_le, n_lt, n_eq0, n_lt0, n_le0, n_0lt, n_0le, n_eqm, m_eqn, n_ltm, n_and, n_or, n_xor, n_shl, n_shr, tb1, tb0, bP_1, bP_0, bP_n0, ix_n, inb_n, u_eq, u_eqm, k107 W.1, f107_4 W.1, k111 W.1, q111 W, n1_1, true_or, or_true, u_eqm]
      exact lfQT r_R_left c W1.1 (by repeat (first | exact W1.2.1 | refine rc_set ?_ (by decide) | refine rc_setm ?_ (by decide))) (rs_left W.2.2 c (by omega)) (by repeat (first | exact (pre1 W).2 | refine fr_wi ?_ (by omega)))
  refine hP.1 _ _ s_R_left_0 _ _ _ _ _ ?_
  simp (disch := omega) only [g_R_left_0, slk, List.map_cons, List.map_nil, List.sum_cons, List.sum_nil, vc_i, vc_r, vc_n, vc_l, vc_o, Nat.add_zero, kO_e, kA_e, hdO_a, eq_self, blk, stp, lg, ls0, lk, ls1, ls2, kI_i, kL_l, kR_r, kR_n, kR_o, s1I_i, s2I_i, s1L_l, s2L_l, s1R_r, s1R_n, s1R_o, s1A_a, cmpc, popn, swt, rf_s, rf_n, cat_i, cat_r, cat_n, cat_l, true_and, and_true, List.length_cons, List.length_nil, Nat.zero_add, Int.reduceToNat, Nat.reduceAdd, Nat.reduceDiv, Nat.reduceMod, Nat.reduceMul, Nat.reduceSub, Nat.reduceLeDiff, Nat.reduceLT, Nat.reduceEqDiff, reduceIte, r_gr_wi, r_gl_wi, r_gk_wi, r_gn_wi, r_gi_wi, r_gi_wr, r_gl_wr, r_gk_wr, r_gn_wr, r_gr_wa, r_gl_wa, r_gk_wa, r_gn_wa, u_lt, u_le, u_gt, u_ge, u_lt0, u_le0, u_gt0, u_ge0, Classical.not_not, not_true_eq_false, not_false_eq_true, oi_n, oi_m, n_dec, nI_add, pk_mul, n_sub, n_eq, n_le, n_lt, n_eq0, n_lt0, n_le0, n_0lt, n_0le, n_eqm, m_eqn, n_ltm, n_and, n_or, n_xor, n_shl, n_shr, tb1, tb0, bP_1, bP_0, bP_n0, ix_n, inb_n, u_eq, u_eqm, k107 W.1, n1_1, true_or, or_true, u_eqm]
  refine wc (c_R_isElder W1 he) ⟨by omega, by omega⟩ ?_
  simp (disch := omega) only [slk, List.map_cons, List.map_nil, List.sum_cons, List.sum_nil, vc_i, vc_r, vc_n, vc_l, vc_o, Nat.add_zero, kO_e, kA_e, hdO_a, eq_self, blk, stp, lg, ls0, lk, ls1, ls2, kI_i, kL_l, kR_r, kR_n, kR_o, s1I_i, s2I_i, s1L_l, s2L_l, s1R_r, s1R_n, s1R_o, s1A_a, cmpc, popn, swt, rf_s, rf_n, cat_i, cat_r, cat_n, cat_l, true_and, and_true, List.length_cons, List.length_nil, Nat.zero_add, Int.reduceToNat, Nat.reduceAdd, Nat.reduceDiv, Nat.reduceMod, Nat.reduceMul, Nat.reduceSub, Nat.reduceLeDiff, Nat.reduceLT, Nat.reduceEqDiff, reduceIte, r_gr_wi, r_gl_wi, r_gk_wi, r_gn_wi, r_gi_wi, r_gi_wr, r_gl_wr, r_gk_wr, r_gn_wr, r_gr_wa, r_gl_wa, r_gk_wa, r_gn_wa, u_lt, u_le, u_gt, u_ge, u_lt0, u_le0, u_gt0, u_ge0, Classical.not_not, not_true_eq_false, not_false_eq_true, oi_n, oi_m, n_dec, nI_add, pk_mul, n_sub, n_eq, n_le, n_lt, n_eq0, n_lt0, n_le0, n_0lt, n_0le, n_eqm, m_eqn, n_ltm, n_and, n_or, n_xor, n_shl, n_shr, tb1, tb0, bP_1, bP_0, bP_n0, ix_n, inb_n, u_eq, u_eqm, k107 W.1, n1_1, true_or, or_true, u_eqm]
  refine ⟨fun hc => bad (fun q => by unfold leftC at q; omega), fun hc1 => ?_⟩
  have hl := rs_lf W e
  refine hP.1 _ _ s_R_left_13 _ _ _ _ _ ?_
  simp (disch := omega) only [g_R_left_13, slk, List.map_cons, List.map_nil, List.sum_cons, List.sum_nil, vc_i, vc_r, vc_n, vc_l, vc_o, Nat.add_zero, kO_e, kA_e, hdO_a, eq_self, blk, stp, lg, ls0, lk, ls1, ls2, kI_i, kL_l, kR_r, kR_n, kR_o, s1I_i, s2I_i, s1L_l, s2L_l, s1R_r, s1R_n, s1R_o, s1A_a, cmpc, popn, swt, rf_s, rf_n, cat_i, cat_r, cat_n, cat_l, true_and, and_true, List.length_cons, List.length_nil, Nat.zero_add, Int.reduceToNat, Nat.reduceAdd, Nat.reduceDiv, Nat.reduceMod, Nat.reduceMul, Nat.reduceSub, Nat.reduceLeDiff, Nat.reduceLT, Nat.reduceEqDiff, reduceIte, r_gr_wi, r_gl_wi, r_gk_wi, r_gn_wi, r_gi_wi, r_gi_wr, r_gl_wr, r_gk_wr, r_gn_wr, r_gr_wa, r_gl_wa, r_gk_wa, r_gn_wa, u_lt, u_le, u_gt, u_ge, u_lt0, u_le0, u_gt0, u_ge0, Classical.not_not, not_true_eq_false, not_false_eq_true, oi_n, oi_m, n_dec, nI_add, pk_mul, n_sub, n_eq, n_le, n_lt, n_eq0, n_lt0, n_le0, n_0lt, n_0le, n_eqm, m_eqn, n_ltm, n_and, n_or, n_xor, n_shl, n_shr, tb1, tb0, bP_1, bP_0, bP_n0, ix_n, inb_n, u_eq, u_eqm, k107 W.1, f107_4 W.1, k111 W.1, q111 W, n1_1, true_or, or_true, u_eqm]
  refine ⟨fun hc2 => ?_, fun hc => bad (fun q => by unfold leftC at q; omega)⟩
  exact good (by unfold leftC; omega)
def clashS (s : St) (e m p w o i : Nat) : St := uS (uS (uS (uS (uS (uS (uS s 119 (s 107 20) (e)) 120 (s 107 20) (m)) 121 (s 107 20) (p)) 122 (s 107 20) (w)) 123 (s 107 20) (o)) 124 (s 107 20) (i)) 107 (20) (s 107 20 + 1)
def clashC (s : St) (e m p w o i : Nat) : Prop := ¬ s 107 20 = 40 ∧ e < s 107 18 ∧ (m < s 107 19 ∧ p < s 112 m ∧ w < s 113 m) ∧ (m < s 107 19 ∧ o < s 112 m ∧ i < s 113 m) ∧ ¬ p = o
theorem rs_clash {s : St} (R : RS s) {e m p w o i : Nat} (c : clashC s e m p w o i) : RS (clashS s e m p w o i) := by
  obtain ⟨⟨a1, a2, a3, a4, a5, a6, a7, a8, a9, a10⟩, r2, r3, r4, r5, r6, r7, r8, r9, r10, r11, r12, r13, r14, r15⟩ := R
  unfold clashC at c
  have n1 : s 107 20 + 1 ≤ 40 := by omega
  have n2 : tu (clashS s e m p w o i) := by
    intro k hk
    have hk2 : k < s 107 20 + 1 := hk
    by_cases q : k = s 107 20
    · subst q
      simp only [clashS, uS, reduceIte, Nat.reduceEqDiff]
      omega
    · have := r9 k (by omega)
      simp only [clashS, uS, reduceIte, Nat.reduceEqDiff, if_neg q]
      exact this
  exact ⟨⟨a1, a2, (n1), a4, a5, a6, a7, a8, a9, a10⟩, r2, r3, r4, r5, r6, r7, r8, (n2), r10, r11, r12, r13, r14, r15⟩
theorem c_R_clash (W : RH h s) {e m p w o i : Nat} (he : e < 4294967296) (hm : m < 4294967296) (hp : p < 4294967296) (hw : w < 4294967296) (ho : o < 4294967296) (hi : i < 4294967296) : Mz (d + 4) 65 [.ref 107, .int (nI e), .int (nI m), .int (nI p), .int (nI w), .int (nI o), .int (nI i)] h 0 0 (Pb (bP (clashC s e m p w o i)) (ifS (clashC s e m p w o i) (clashS s e m p w o i) s) h) := by
  have W1 := (pre1 W).1
  have b1 := rs_e W
  have b2 := rs_m W
  have b3 := rs_c W
  refine mz_in (l := [some (.ref 107), some (.int (nI e)), some (.int (nI m)), some (.int (nI p)), some (.int (nI w)), some (.int (nI o)), some (.int (nI i))]) mk_R_clash n_R_clash rfl l_R_clash rfl (Nat.le_of_ble_eq_true rfl) fun P hP => ?_
  have bad : ¬ clashC s e m p w o i → P 51 [some (.ref 107), some (.int (nI e)), some (.int (nI m)), some (.int (nI p)), some (.int (nI w)), some (.int (nI o)), some (.int (nI i))] [] (wi h 107 0 (nI 0)) 0 0 := by
    intro a
    refine hP.1 _ _ s_R_clash_51 _ _ _ _ _ ?_
    simp (disch := omega) only [g_R_clash_51, slk, List.map_cons, List.map_nil, List.sum_cons, List.sum_nil, vc_i, vc_r, vc_n, vc_l, vc_o, Nat.add_zero, kO_e, kA_e, hdO_a, eq_self, blk, stp, lg, ls0, lk, ls1, ls2, kI_i, kL_l, kR_r, kR_n, kR_o, s1I_i, s2I_i, s1L_l, s2L_l, s1R_r, s1R_n, s1R_o, s1A_a, cmpc, popn, swt, rf_s, rf_n, cat_i, cat_r, cat_n, cat_l, true_and, and_true, List.length_cons, List.length_nil, Nat.zero_add, Int.reduceToNat, Nat.reduceAdd, Nat.reduceDiv, Nat.reduceMod, Nat.reduceMul, Nat.reduceSub, Nat.reduceLeDiff, Nat.reduceLT, Nat.reduceEqDiff, reduceIte, r_gr_wi, r_gl_wi, r_gk_wi, r_gn_wi, r_gi_wi, r_gi_wr, r_gl_wr, r_gk_wr, r_gn_wr, r_gr_wa, r_gl_wa, r_gk_wa, r_gn_wa, u_lt, u_le, u_gt, u_ge, u_lt0, u_le0, u_gt0, u_ge0, Classical.not_not, not_true_eq_false, not_false_eq_true, oi_n, oi_m, n_dec, nI_add, pk_mul, n_sub, n_eq, n_le, n_lt, n_eq0, n_lt0, n_le0, n_0lt, n_0le, n_eqm, m_eqn, n_ltm, n_and, n_or, n_xor, n_shl, n_shr, tb1, tb0, bP_1, bP_0, bP_n0, ix_n, inb_n, u_eq, u_eqm, n1_1, true_or, or_true, u_eqm]
    exact lfQF r_R_clash a W1 (pre1 W).2
  have good : clashC s e m p w o i → P 53 [some (.ref 107), some (.int (nI e)), some (.int (nI m)), some (.int (nI p)), some (.int (nI w)), some (.int (nI o)), some (.int (nI i))] [] (wi h 107 0 (nI 0)) 0 0 := by
    intro c
    have c2 := c
    unfold clashC at c2
    skip
    refine hP.1 _ _ s_R_clash_53 _ _ _ _ _ ?_
    simp (disch := omega) only [g_R_clash_53, slk, List.map_cons, List.map_nil, List.sum_cons, List.sum_nil, vc_i, vc_r, vc_n, vc_l, vc_o, Nat.add_zero, kO_e, kA_e, hdO_a, eq_self, blk, stp, lg, ls0, lk, ls1, ls2, kI_i, kL_l, kR_r, kR_n, kR_o, s1I_i, s2I_i, s1L_l, s2L_l, s1R_r, s1R_n, s1R_o, s1A_a, cmpc, popn, swt, rf_s, rf_n, cat_i, cat_r, cat_n, cat_l, true_and, and_true, List.length_cons, List.length_nil, Nat.zero_add, Int.reduceToNat, Nat.reduceAdd, Nat.reduceDiv, Nat.reduceMod, Nat.reduceMul, Nat.reduceSub, Nat.reduceLeDiff, Nat.reduceLT, Nat.reduceEqDiff, reduceIte, r_gr_wi, r_gl_wi, r_gk_wi, r_gn_wi, r_gi_wi, r_gi_wr, r_gl_wr, r_gk_wr, r_gn_wr, r_gr_wa, r_gl_wa, r_gk_wa, r_gn_wa, u_lt, u_le, u_gt, u_ge, u_lt0, u_le0, u_gt0, u_ge0, Classical.not_not, not_true_eq_false, not_false_eq_true, oi_n, oi_m, n_dec, nI_add, pk_mul, n_sub, n_eq, n_le, n_lt, n_eq0, n_lt0, n_le0, n_0lt, n_0le, n_eqm, m_eqn, n_ltm, n_and, n_or, n_xor, n_shl, n_shr, tb1, tb0, bP_1, bP_0, bP_n0, ix_n, inb_n, u_eq, u_eqm, k107 W.1, f107_12 W.1, k119 W.1, q119 W, q107_20 W, f107_13 W.1, k120 W.1, q120 W, f107_14 W.1, k121 W.1, q121 W, f107_15 W.1, k122 W.1, q122 W, f107_16 W.1, k123 W.1, q123 W, f107_17 W.1, k124 W.1, q124 W, n1_1, true_or, or_true, u_eqm]
    exact lfQT r_R_clash c W1.1 (by repeat (first | exact W1.2.1 | refine rc_set ?_ (by decide) | refine rc_setm ?_ (by decide))) (rs_clash W.2.2 c) (by repeat (first | exact (pre1 W).2 | refine fr_wi ?_ (by omega)))
  refine hP.1 _ _ s_R_clash_0 _ _ _ _ _ ?_
  simp (disch := omega) only [g_R_clash_0, slk, List.map_cons, List.map_nil, List.sum_cons, List.sum_nil, vc_i, vc_r, vc_n, vc_l, vc_o, Nat.add_zero, kO_e, kA_e, hdO_a, eq_self, blk, stp, lg, ls0, lk, ls1, ls2, kI_i, kL_l, kR_r, kR_n, kR_o, s1I_i, s2I_i, s1L_l, s2L_l, s1R_r, s1R_n, s1R_o, s1A_a, cmpc, popn, swt, rf_s, rf_n, cat_i, cat_r, cat_n, cat_l, true_and, and_true, List.length_cons, List.length_nil, Nat.zero_add, Int.reduceToNat, Nat.reduceAdd, Nat.reduceDiv, Nat.reduceMod, Nat.reduceMul, Nat.reduceSub, Nat.reduceLeDiff, Nat.reduceLT, Nat.reduceEqDiff, reduceIte, r_gr_wi, r_gl_wi, r_gk_wi, r_gn_wi, r_gi_wi, r_gi_wr, r_gl_wr, r_gk_wr, r_gn_wr, r_gr_wa, r_gl_wa, r_gk_wa, r_gn_wa, u_lt, u_le, u_gt, u_ge, u_lt0, u_le0, u_gt0, u_ge0, Classical.not_not, not_true_eq_false, not_false_eq_true, oi_n, oi_m, n_dec, nI_add, pk_mul, n_sub, n_eq, n_le, n_lt, n_eq0, n_lt0, n_le0, n_0lt, n_0le, n_eqm, m_eqn, n_ltm, n_and, n_or, n_xor, n_shl, n_shr, tb1, tb0, bP_1, bP_0, bP_n0, ix_n, inb_n, u_eq, u_eqm, k107 W.1, q107_20 W, n1_1, true_or, or_true, u_eqm]
  refine ⟨fun hc => bad (fun q => by unfold clashC at q; omega), fun hc1 => ?_⟩
  refine hP.1 _ _ s_R_clash_14 _ _ _ _ _ ?_
  simp (disch := omega) only [g_R_clash_14, slk, List.map_cons, List.map_nil, List.sum_cons, List.sum_nil, vc_i, vc_r, vc_n, vc_l, vc_o, Nat.add_zero, kO_e, kA_e, hdO_a, eq_self, blk, stp, lg, ls0, lk, ls1, ls2, kI_i, kL_l, kR_r, kR_n, kR_o, s1I_i, s2I_i, s1L_l, s2L_l, s1R_r, s1R_n, s1R_o, s1A_a, cmpc, popn, swt, rf_s, rf_n, cat_i, cat_r, cat_n, cat_l, true_and, and_true, List.length_cons, List.length_nil, Nat.zero_add, Int.reduceToNat, Nat.reduceAdd, Nat.reduceDiv, Nat.reduceMod, Nat.reduceMul, Nat.reduceSub, Nat.reduceLeDiff, Nat.reduceLT, Nat.reduceEqDiff, reduceIte, r_gr_wi, r_gl_wi, r_gk_wi, r_gn_wi, r_gi_wi, r_gi_wr, r_gl_wr, r_gk_wr, r_gn_wr, r_gr_wa, r_gl_wa, r_gk_wa, r_gn_wa, u_lt, u_le, u_gt, u_ge, u_lt0, u_le0, u_gt0, u_ge0, Classical.not_not, not_true_eq_false, not_false_eq_true, oi_n, oi_m, n_dec, nI_add, pk_mul, n_sub, n_eq, n_le, n_lt, n_eq0, n_lt0, n_le0, n_0lt, n_0le, n_eqm, m_eqn, n_ltm, n_and, n_or, n_xor, n_shl, n_shr, tb1, tb0, bP_1, bP_0, bP_n0, ix_n, inb_n, u_eq, u_eqm, k107 W.1, n1_1, true_or, or_true, u_eqm]
  refine wc (c_R_isElder W1 he) ⟨by omega, by omega⟩ ?_
  simp (disch := omega) only [slk, List.map_cons, List.map_nil, List.sum_cons, List.sum_nil, vc_i, vc_r, vc_n, vc_l, vc_o, Nat.add_zero, kO_e, kA_e, hdO_a, eq_self, blk, stp, lg, ls0, lk, ls1, ls2, kI_i, kL_l, kR_r, kR_n, kR_o, s1I_i, s2I_i, s1L_l, s2L_l, s1R_r, s1R_n, s1R_o, s1A_a, cmpc, popn, swt, rf_s, rf_n, cat_i, cat_r, cat_n, cat_l, true_and, and_true, List.length_cons, List.length_nil, Nat.zero_add, Int.reduceToNat, Nat.reduceAdd, Nat.reduceDiv, Nat.reduceMod, Nat.reduceMul, Nat.reduceSub, Nat.reduceLeDiff, Nat.reduceLT, Nat.reduceEqDiff, reduceIte, r_gr_wi, r_gl_wi, r_gk_wi, r_gn_wi, r_gi_wi, r_gi_wr, r_gl_wr, r_gk_wr, r_gn_wr, r_gr_wa, r_gl_wa, r_gk_wa, r_gn_wa, u_lt, u_le, u_gt, u_ge, u_lt0, u_le0, u_gt0, u_ge0, Classical.not_not, not_true_eq_false, not_false_eq_true, oi_n, oi_m, n_dec, nI_add, pk_mul, n_sub, n_eq, n_le, n_lt, n_eq0, n_lt0, n_le0, n_0lt, n_0le, n_eqm, m_eqn, n_ltm, n_and, n_or, n_xor, n_shl, n_shr, tb1, tb0, bP_1, bP_0, bP_n0, ix_n, inb_n, u_eq, u_eqm, k107 W.1, n1_1, true_or, or_true, u_eqm]
  refine ⟨fun hc => bad (fun q => by unfold clashC at q; omega), fun hc2 => ?_⟩
  refine hP.1 _ _ s_R_clash_22 _ _ _ _ _ ?_
  simp (disch := omega) only [g_R_clash_22, slk, List.map_cons, List.map_nil, List.sum_cons, List.sum_nil, vc_i, vc_r, vc_n, vc_l, vc_o, Nat.add_zero, kO_e, kA_e, hdO_a, eq_self, blk, stp, lg, ls0, lk, ls1, ls2, kI_i, kL_l, kR_r, kR_n, kR_o, s1I_i, s2I_i, s1L_l, s2L_l, s1R_r, s1R_n, s1R_o, s1A_a, cmpc, popn, swt, rf_s, rf_n, cat_i, cat_r, cat_n, cat_l, true_and, and_true, List.length_cons, List.length_nil, Nat.zero_add, Int.reduceToNat, Nat.reduceAdd, Nat.reduceDiv, Nat.reduceMod, Nat.reduceMul, Nat.reduceSub, Nat.reduceLeDiff, Nat.reduceLT, Nat.reduceEqDiff, reduceIte, r_gr_wi, r_gl_wi, r_gk_wi, r_gn_wi, r_gi_wi, r_gi_wr, r_gl_wr, r_gk_wr, r_gn_wr, r_gr_wa, r_gl_wa, r_gk_wa, r_gn_wa, u_lt, u_le, u_gt, u_ge, u_lt0, u_le0, u_gt0, u_ge0, Classical.not_not, not_true_eq_false, not_false_eq_true, oi_n, oi_m, n_dec, nI_add, pk_mul, n_sub, n_eq, n_le, n_lt, n_eq0, n_lt0, n_le0, n_0lt, n_0le, n_eqm, m_eqn, n_ltm, n_and, n_or, n_xor, n_shl, n_shr, tb1, tb0, bP_1, bP_0, bP_n0, ix_n, inb_n, u_eq, u_eqm, k107 W.1, n1_1, true_or, or_true, u_eqm]
  refine wc (c_R_isWay W1 hm hp hw) ⟨by omega, by omega⟩ ?_
  simp (disch := omega) only [slk, List.map_cons, List.map_nil, List.sum_cons, List.sum_nil, vc_i, vc_r, vc_n, vc_l, vc_o, Nat.add_zero, kO_e, kA_e, hdO_a, eq_self, blk, stp, lg, ls0, lk, ls1, ls2, kI_i, kL_l, kR_r, kR_n, kR_o, s1I_i, s2I_i, s1L_l, s2L_l, s1R_r, s1R_n, s1R_o, s1A_a, cmpc, popn, swt, rf_s, rf_n, cat_i, cat_r, cat_n, cat_l, true_and, and_true, List.length_cons, List.length_nil, Nat.zero_add, Int.reduceToNat, Nat.reduceAdd, Nat.reduceDiv, Nat.reduceMod, Nat.reduceMul, Nat.reduceSub, Nat.reduceLeDiff, Nat.reduceLT, Nat.reduceEqDiff, reduceIte, r_gr_wi, r_gl_wi, r_gk_wi, r_gn_wi, r_gi_wi, r_gi_wr, r_gl_wr, r_gk_wr, r_gn_wr, r_gr_wa, r_gl_wa, r_gk_wa, r_gn_wa, u_lt, u_le, u_gt, u_ge, u_lt0, u_le0, u_gt0, u_ge0, Classical.not_not, not_true_eq_false, not_false_eq_true, oi_n, oi_m, n_dec, nI_add, pk_mul, n_sub, n_eq, n_le, n_lt, n_eq0, n_lt0, n_le0, n_0lt, n_0le, n_eqm, m_eqn, n_ltm, n_and, n_or, n_xor, n_shl, n_shr, tb1, tb0, bP_1, bP_0, bP_n0, ix_n, inb_n, u_eq, u_eqm, k107 W.1, n1_1, true_or, or_true, u_eqm]
  refine ⟨fun hc => bad (fun q => by unfold clashC at q; omega), fun hc3 => ?_⟩
  refine hP.1 _ _ s_R_clash_33 _ _ _ _ _ ?_
  simp (disch := omega) only [g_R_clash_33, slk, List.map_cons, List.map_nil, List.sum_cons, List.sum_nil, vc_i, vc_r, vc_n, vc_l, vc_o, Nat.add_zero, kO_e, kA_e, hdO_a, eq_self, blk, stp, lg, ls0, lk, ls1, ls2, kI_i, kL_l, kR_r, kR_n, kR_o, s1I_i, s2I_i, s1L_l, s2L_l, s1R_r, s1R_n, s1R_o, s1A_a, cmpc, popn, swt, rf_s, rf_n, cat_i, cat_r, cat_n, cat_l, true_and, and_true, List.length_cons, List.length_nil, Nat.zero_add, Int.reduceToNat, Nat.reduceAdd, Nat.reduceDiv, Nat.reduceMod, Nat.reduceMul, Nat.reduceSub, Nat.reduceLeDiff, Nat.reduceLT, Nat.reduceEqDiff, reduceIte, r_gr_wi, r_gl_wi, r_gk_wi, r_gn_wi, r_gi_wi, r_gi_wr, r_gl_wr, r_gk_wr, r_gn_wr, r_gr_wa, r_gl_wa, r_gk_wa, r_gn_wa, u_lt, u_le, u_gt, u_ge, u_lt0, u_le0, u_gt0, u_ge0, Classical.not_not, not_true_eq_false, not_false_eq_true, oi_n, oi_m, n_dec, nI_add, pk_mul, n_sub, n_eq, n_le, n_lt, n_eq0, n_lt0, n_le0, n_0lt, n_0le, n_eqm, m_eqn, n_ltm, n_and, n_or, n_xor, n_shl, n_shr, tb1, tb0, bP_1, bP_0, bP_n0, ix_n, inb_n, u_eq, u_eqm, k107 W.1, n1_1, true_or, or_true, u_eqm]
  refine wc (c_R_isWay W1 hm ho hi) ⟨by omega, by omega⟩ ?_
  simp (disch := omega) only [slk, List.map_cons, List.map_nil, List.sum_cons, List.sum_nil, vc_i, vc_r, vc_n, vc_l, vc_o, Nat.add_zero, kO_e, kA_e, hdO_a, eq_self, blk, stp, lg, ls0, lk, ls1, ls2, kI_i, kL_l, kR_r, kR_n, kR_o, s1I_i, s2I_i, s1L_l, s2L_l, s1R_r, s1R_n, s1R_o, s1A_a, cmpc, popn, swt, rf_s, rf_n, cat_i, cat_r, cat_n, cat_l, true_and, and_true, List.length_cons, List.length_nil, Nat.zero_add, Int.reduceToNat, Nat.reduceAdd, Nat.reduceDiv, Nat.reduceMod, Nat.reduceMul, Nat.reduceSub, Nat.reduceLeDiff, Nat.reduceLT, Nat.reduceEqDiff, reduceIte, r_gr_wi, r_gl_wi, r_gk_wi, r_gn_wi, r_gi_wi, r_gi_wr, r_gl_wr, r_gk_wr, r_gn_wr, r_gr_wa, r_gl_wa, r_gk_wa, r_gn_wa, u_lt, u_le, u_gt, u_ge, u_lt0, u_le0, u_gt0, u_ge0, Classical.not_not, not_true_eq_false, not_false_eq_true, oi_n, oi_m, n_dec, nI_add, pk_mul, n_sub, n_eq, n_le, n_lt, n_eq0, n_lt0, n_le0, n_0lt, n_0le, n_eqm, m_eqn, n_ltm, n_and, n_or, n_xor, n_shl, n_shr, tb1, tb0, bP_1, bP_0, bP_n0, ix_n, inb_n, u_eq, u_eqm, k107 W.1, n1_1, true_or, or_true, u_eqm]
  refine ⟨fun hc => bad (fun q => by unfold clashC at q; omega), fun hc4 => ?_⟩
  refine hP.1 _ _ s_R_clash_45 _ _ _ _ _ ?_
  simp (disch := omega) only [g_R_clash_45, slk, List.map_cons, List.map_nil, List.sum_cons, List.sum_nil, vc_i, vc_r, vc_n, vc_l, vc_o, Nat.add_zero, kO_e, kA_e, hdO_a, eq_self, blk, stp, lg, ls0, lk, ls1, ls2, kI_i, kL_l, kR_r, kR_n, kR_o, s1I_i, s2I_i, s1L_l, s2L_l, s1R_r, s1R_n, s1R_o, s1A_a, cmpc, popn, swt, rf_s, rf_n, cat_i, cat_r, cat_n, cat_l, true_and, and_true, List.length_cons, List.length_nil, Nat.zero_add, Int.reduceToNat, Nat.reduceAdd, Nat.reduceDiv, Nat.reduceMod, Nat.reduceMul, Nat.reduceSub, Nat.reduceLeDiff, Nat.reduceLT, Nat.reduceEqDiff, reduceIte, r_gr_wi, r_gl_wi, r_gk_wi, r_gn_wi, r_gi_wi, r_gi_wr, r_gl_wr, r_gk_wr, r_gn_wr, r_gr_wa, r_gl_wa, r_gk_wa, r_gn_wa, u_lt, u_le, u_gt, u_ge, u_lt0, u_le0, u_gt0, u_ge0, Classical.not_not, not_true_eq_false, not_false_eq_true, oi_n, oi_m, n_dec, nI_add, pk_mul, n_sub, n_eq, n_le, n_lt, n_eq0, n_lt0, n_le0, n_0lt, n_0le, n_eqm, m_eqn, n_ltm, n_and, n_or, n_xor, n_shl, n_shr, tb1, tb0, bP_1, bP_0, bP_n0, ix_n, inb_n, u_eq, u_eqm, n1_1, true_or, or_true, u_eqm]
  refine ⟨fun hc5 => ?_, fun hc => bad (fun q => by unfold clashC at q; omega)⟩
  exact good (by unfold clashC; omega)
def promiseS (s : St) (e t m p w : Nat) : St := uS (uS (uS (uS (uS (uS s 144 (s 107 67) (e)) 145 (s 107 67) (t)) 146 (s 107 67) (m)) 147 (s 107 67) (p)) 148 (s 107 67) (w)) 107 (67) (s 107 67 + 1)
def promiseC (s : St) (e t m p w : Nat) : Prop := ¬ s 107 67 = 20 ∧ e < s 107 18 ∧ t < s 107 18 ∧ ¬ e = t ∧ (m < s 107 19 ∧ p < s 112 m ∧ w < s 113 m)
theorem rs_promise {s : St} (R : RS s) {e t m p w : Nat} (c : promiseC s e t m p w) : RS (promiseS s e t m p w) := by
  obtain ⟨⟨a1, a2, a3, a4, a5, a6, a7, a8, a9, a10⟩, r2, r3, r4, r5, r6, r7, r8, r9, r10, r11, r12, r13, r14, r15⟩ := R
  unfold promiseC at c
  have n1 : s 107 67 + 1 ≤ 20 := by omega
  have n2 : ∀ k, k < s 107 67 + 1 → promiseS s e t m p w 144 k < s 107 18 ∧ promiseS s e t m p w 145 k < s 107 18 ∧ promiseS s e t m p w 146 k < s 107 19 ∧ promiseS s e t m p w 147 k < s 112 (promiseS s e t m p w 146 k) ∧ promiseS s e t m p w 148 k < s 113 (promiseS s e t m p w 146 k) := by
    intro k hk2
    by_cases q : k = s 107 67
    · subst q
      simp only [promiseS, uS, reduceIte, Nat.reduceEqDiff]
      omega
    · have := r13 k (by omega)
      simp only [promiseS, uS, reduceIte, Nat.reduceEqDiff, if_neg q]
      exact this
  exact ⟨⟨a1, a2, a3, a4, a5, a6, (n1), a8, a9, a10⟩, r2, r3, r4, r5, r6, r7, r8, r9, r10, r11, r12, (n2), r14, r15⟩
theorem c_R_promise (W : RH h s) {e t m p w : Nat} (he : e < 4294967296) (ht : t < 4294967296) (hm : m < 4294967296) (hp : p < 4294967296) (hw : w < 4294967296) : Mz (d + 4) 123 [.ref 107, .int (nI e), .int (nI t), .int (nI m), .int (nI p), .int (nI w)] h 0 0 (Pb (bP (promiseC s e t m p w)) (ifS (promiseC s e t m p w) (promiseS s e t m p w) s) h) := by
  have W1 := (pre1 W).1
  have b1 := rs_e W
  have b2 := rs_m W
  have b3 := rs_pr W
  refine mz_in (l := [some (.ref 107), some (.int (nI e)), some (.int (nI t)), some (.int (nI m)), some (.int (nI p)), some (.int (nI w))]) mk_R_promise n_R_promise rfl l_R_promise rfl (Nat.le_of_ble_eq_true rfl) fun P hP => ?_
  have bad : ¬ promiseC s e t m p w → P 47 [some (.ref 107), some (.int (nI e)), some (.int (nI t)), some (.int (nI m)), some (.int (nI p)), some (.int (nI w))] [] (wi h 107 0 (nI 0)) 0 0 := by
    intro a
    refine hP.1 _ _ s_R_promise_47 _ _ _ _ _ ?_
    simp (disch := omega) only [g_R_promise_47, slk, List.map_cons, List.map_nil, List.sum_cons, List.sum_nil, vc_i, vc_r, vc_n, vc_l, vc_o, Nat.add_zero, kO_e, kA_e, hdO_a, eq_self, blk, stp, lg, ls0, lk, ls1, ls2, kI_i, kL_l, kR_r, kR_n, kR_o, s1I_i, s2I_i, s1L_l, s2L_l, s1R_r, s1R_n, s1R_o, s1A_a, cmpc, popn, swt, rf_s, rf_n, cat_i, cat_r, cat_n, cat_l, true_and, and_true, List.length_cons, List.length_nil, Nat.zero_add, Int.reduceToNat, Nat.reduceAdd, Nat.reduceDiv, Nat.reduceMod, Nat.reduceMul, Nat.reduceSub, Nat.reduceLeDiff, Nat.reduceLT, Nat.reduceEqDiff, reduceIte, r_gr_wi, r_gl_wi, r_gk_wi, r_gn_wi, r_gi_wi, r_gi_wr, r_gl_wr, r_gk_wr, r_gn_wr, r_gr_wa, r_gl_wa, r_gk_wa, r_gn_wa, u_lt, u_le, u_gt, u_ge, u_lt0, u_le0, u_gt0, u_ge0, Classical.not_not, not_true_eq_false, not_false_eq_true, oi_n, oi_m, n_dec, nI_add, pk_mul, n_sub, n_eq, n_le, n_lt, n_eq0, n_lt0, n_le0, n_0lt, n_0le, n_eqm, m_eqn, n_ltm, n_and, n_or, n_xor, n_shl, n_shr, tb1, tb0, bP_1, bP_0, bP_n0, ix_n, inb_n, u_eq, u_eqm, n1_1, true_or, or_true, u_eqm]
    exact lfQF r_R_promise a W1 (pre1 W).2
  have good : promiseC s e t m p w → P 49 [some (.ref 107), some (.int (nI e)), some (.int (nI t)), some (.int (nI m)), some (.int (nI p)), some (.int (nI w))] [] (wi h 107 0 (nI 0)) 0 0 := by
    intro c
    have c2 := c
    unfold promiseC at c2
    skip
    refine hP.1 _ _ s_R_promise_49 _ _ _ _ _ ?_
    simp (disch := omega) only [g_R_promise_49, slk, List.map_cons, List.map_nil, List.sum_cons, List.sum_nil, vc_i, vc_r, vc_n, vc_l, vc_o, Nat.add_zero, kO_e, kA_e, hdO_a, eq_self, blk, stp, lg, ls0, lk, ls1, ls2, kI_i, kL_l, kR_r, kR_n, kR_o, s1I_i, s2I_i, s1L_l, s2L_l, s1R_r, s1R_n, s1R_o, s1A_a, cmpc, popn, swt, rf_s, rf_n, cat_i, cat_r, cat_n, cat_l, true_and, and_true, List.length_cons, List.length_nil, Nat.zero_add, Int.reduceToNat, Nat.reduceAdd, Nat.reduceDiv, Nat.reduceMod, Nat.reduceMul, Nat.reduceSub, Nat.reduceLeDiff, Nat.reduceLT, Nat.reduceEqDiff, reduceIte, r_gr_wi, r_gl_wi, r_gk_wi, r_gn_wi, r_gi_wi, r_gi_wr, r_gl_wr, r_gk_wr, r_gn_wr, r_gr_wa, r_gl_wa, r_gk_wa, r_gn_wa, u_lt, u_le, u_gt, u_ge, u_lt0, u_le0, u_gt0, u_ge0, Classical.not_not, not_true_eq_false, not_false_eq_true, oi_n, oi_m, n_dec, nI_add, pk_mul, n_sub, n_eq, n_le, n_lt, n_eq0, n_lt0, n_le0, n_0lt, n_0le, n_eqm, m_eqn, n_ltm, n_and, n_or, n_xor, n_shl, n_shr, tb1, tb0, bP_1, bP_0, bP_n0, ix_n, inb_n, u_eq, u_eqm, k107 W.1, f107_62 W.1, k144 W.1, q144 W, q107_67 W, f107_63 W.1, k145 W.1, q145 W, f107_64 W.1, k146 W.1, q146 W, f107_65 W.1, k147 W.1, q147 W, f107_66 W.1, k148 W.1, q148 W, n1_1, true_or, or_true, u_eqm]
    exact lfQT r_R_promise c W1.1 (by repeat (first | exact W1.2.1 | refine rc_set ?_ (by decide) | refine rc_setm ?_ (by decide))) (rs_promise W.2.2 c) (by repeat (first | exact (pre1 W).2 | refine fr_wi ?_ (by omega)))
  refine hP.1 _ _ s_R_promise_0 _ _ _ _ _ ?_
  simp (disch := omega) only [g_R_promise_0, slk, List.map_cons, List.map_nil, List.sum_cons, List.sum_nil, vc_i, vc_r, vc_n, vc_l, vc_o, Nat.add_zero, kO_e, kA_e, hdO_a, eq_self, blk, stp, lg, ls0, lk, ls1, ls2, kI_i, kL_l, kR_r, kR_n, kR_o, s1I_i, s2I_i, s1L_l, s2L_l, s1R_r, s1R_n, s1R_o, s1A_a, cmpc, popn, swt, rf_s, rf_n, cat_i, cat_r, cat_n, cat_l, true_and, and_true, List.length_cons, List.length_nil, Nat.zero_add, Int.reduceToNat, Nat.reduceAdd, Nat.reduceDiv, Nat.reduceMod, Nat.reduceMul, Nat.reduceSub, Nat.reduceLeDiff, Nat.reduceLT, Nat.reduceEqDiff, reduceIte, r_gr_wi, r_gl_wi, r_gk_wi, r_gn_wi, r_gi_wi, r_gi_wr, r_gl_wr, r_gk_wr, r_gn_wr, r_gr_wa, r_gl_wa, r_gk_wa, r_gn_wa, u_lt, u_le, u_gt, u_ge, u_lt0, u_le0, u_gt0, u_ge0, Classical.not_not, not_true_eq_false, not_false_eq_true, oi_n, oi_m, n_dec, nI_add, pk_mul, n_sub, n_eq, n_le, n_lt, n_eq0, n_lt0, n_le0, n_0lt, n_0le, n_eqm, m_eqn, n_ltm, n_and, n_or, n_xor, n_shl, n_shr, tb1, tb0, bP_1, bP_0, bP_n0, ix_n, inb_n, u_eq, u_eqm, k107 W.1, q107_67 W, n1_1, true_or, or_true, u_eqm]
  refine ⟨fun hc => bad (fun q => by unfold promiseC at q; omega), fun hc1 => ?_⟩
  refine hP.1 _ _ s_R_promise_14 _ _ _ _ _ ?_
  simp (disch := omega) only [g_R_promise_14, slk, List.map_cons, List.map_nil, List.sum_cons, List.sum_nil, vc_i, vc_r, vc_n, vc_l, vc_o, Nat.add_zero, kO_e, kA_e, hdO_a, eq_self, blk, stp, lg, ls0, lk, ls1, ls2, kI_i, kL_l, kR_r, kR_n, kR_o, s1I_i, s2I_i, s1L_l, s2L_l, s1R_r, s1R_n, s1R_o, s1A_a, cmpc, popn, swt, rf_s, rf_n, cat_i, cat_r, cat_n, cat_l, true_and, and_true, List.length_cons, List.length_nil, Nat.zero_add, Int.reduceToNat, Nat.reduceAdd, Nat.reduceDiv, Nat.reduceMod, Nat.reduceMul, Nat.reduceSub, Nat.reduceLeDiff, Nat.reduceLT, Nat.reduceEqDiff, reduceIte, r_gr_wi, r_gl_wi, r_gk_wi, r_gn_wi, r_gi_wi, r_gi_wr, r_gl_wr, r_gk_wr, r_gn_wr, r_gr_wa, r_gl_wa, r_gk_wa, r_gn_wa, u_lt, u_le, u_gt, u_ge, u_lt0, u_le0, u_gt0, u_ge0, Classical.not_not, not_true_eq_false, not_false_eq_true, oi_n, oi_m, n_dec, nI_add, pk_mul, n_sub, n_eq, n_le, n_lt, n_eq0, n_lt0, n_le0, n_0lt, n_0le, n_eqm, m_eqn, n_ltm, n_and, n_or, n_xor, n_shl, n_shr, tb1, tb0, bP_1, bP_0, bP_n0, ix_n, inb_n, u_eq, u_eqm, k107 W.1, n1_1, true_or, or_true, u_eqm]
  refine wc (c_R_isElder W1 he) ⟨by omega, by omega⟩ ?_
  simp (disch := omega) only [slk, List.map_cons, List.map_nil, List.sum_cons, List.sum_nil, vc_i, vc_r, vc_n, vc_l, vc_o, Nat.add_zero, kO_e, kA_e, hdO_a, eq_self, blk, stp, lg, ls0, lk, ls1, ls2, kI_i, kL_l, kR_r, kR_n, kR_o, s1I_i, s2I_i, s1L_l, s2L_l, s1R_r, s1R_n, s1R_o, s1A_a, cmpc, popn, swt, rf_s, rf_n, cat_i, cat_r, cat_n, cat_l, true_and, and_true, List.length_cons, List.length_nil, Nat.zero_add, Int.reduceToNat, Nat.reduceAdd, Nat.reduceDiv, Nat.reduceMod, Nat.reduceMul, Nat.reduceSub, Nat.reduceLeDiff, Nat.reduceLT, Nat.reduceEqDiff, reduceIte, r_gr_wi, r_gl_wi, r_gk_wi, r_gn_wi, r_gi_wi, r_gi_wr, r_gl_wr, r_gk_wr, r_gn_wr, r_gr_wa, r_gl_wa, r_gk_wa, r_gn_wa, u_lt, u_le, u_gt, u_ge, u_lt0, u_le0, u_gt0, u_ge0, Classical.not_not, not_true_eq_false, not_false_eq_true, oi_n, oi_m, n_dec, nI_add, pk_mul, n_sub, n_eq, n_le, n_lt, n_eq0, n_lt0, n_le0, n_0lt, n_0le, n_eqm, m_eqn, n_ltm, n_and, n_or, n_xor, n_shl, n_shr, tb1, tb0, bP_1, bP_0, bP_n0, ix_n, inb_n, u_eq, u_eqm, k107 W.1, n1_1, true_or, or_true, u_eqm]
  refine ⟨fun hc => bad (fun q => by unfold promiseC at q; omega), fun hc2 => ?_⟩
  refine hP.1 _ _ s_R_promise_22 _ _ _ _ _ ?_
  simp (disch := omega) only [g_R_promise_22, slk, List.map_cons, List.map_nil, List.sum_cons, List.sum_nil, vc_i, vc_r, vc_n, vc_l, vc_o, Nat.add_zero, kO_e, kA_e, hdO_a, eq_self, blk, stp, lg, ls0, lk, ls1, ls2, kI_i, kL_l, kR_r, kR_n, kR_o, s1I_i, s2I_i, s1L_l, s2L_l, s1R_r, s1R_n, s1R_o, s1A_a, cmpc, popn, swt, rf_s, rf_n, cat_i, cat_r, cat_n, cat_l, true_and, and_true, List.length_cons, List.length_nil, Nat.zero_add, Int.reduceToNat, Nat.reduceAdd, Nat.reduceDiv, Nat.reduceMod, Nat.reduceMul, Nat.reduceSub, Nat.reduceLeDiff, Nat.reduceLT, Nat.reduceEqDiff, reduceIte, r_gr_wi, r_gl_wi, r_gk_wi, r_gn_wi, r_gi_wi, r_gi_wr, r_gl_wr, r_gk_wr, r_gn_wr, r_gr_wa, r_gl_wa, r_gk_wa, r_gn_wa, u_lt, u_le, u_gt, u_ge, u_lt0, u_le0, u_gt0, u_ge0, Classical.not_not, not_true_eq_false, not_false_eq_true, oi_n, oi_m, n_dec, nI_add, pk_mul, n_sub, n_eq, n_le, n_lt, n_eq0, n_lt0, n_le0, n_0lt, n_0le, n_eqm, m_eqn, n_ltm, n_and, n_or, n_xor, n_shl, n_shr, tb1, tb0, bP_1, bP_0, bP_n0, ix_n, inb_n, u_eq, u_eqm, k107 W.1, n1_1, true_or, or_true, u_eqm]
  refine wc (c_R_isElder W1 ht) ⟨by omega, by omega⟩ ?_
  simp (disch := omega) only [slk, List.map_cons, List.map_nil, List.sum_cons, List.sum_nil, vc_i, vc_r, vc_n, vc_l, vc_o, Nat.add_zero, kO_e, kA_e, hdO_a, eq_self, blk, stp, lg, ls0, lk, ls1, ls2, kI_i, kL_l, kR_r, kR_n, kR_o, s1I_i, s2I_i, s1L_l, s2L_l, s1R_r, s1R_n, s1R_o, s1A_a, cmpc, popn, swt, rf_s, rf_n, cat_i, cat_r, cat_n, cat_l, true_and, and_true, List.length_cons, List.length_nil, Nat.zero_add, Int.reduceToNat, Nat.reduceAdd, Nat.reduceDiv, Nat.reduceMod, Nat.reduceMul, Nat.reduceSub, Nat.reduceLeDiff, Nat.reduceLT, Nat.reduceEqDiff, reduceIte, r_gr_wi, r_gl_wi, r_gk_wi, r_gn_wi, r_gi_wi, r_gi_wr, r_gl_wr, r_gk_wr, r_gn_wr, r_gr_wa, r_gl_wa, r_gk_wa, r_gn_wa, u_lt, u_le, u_gt, u_ge, u_lt0, u_le0, u_gt0, u_ge0, Classical.not_not, not_true_eq_false, not_false_eq_true, oi_n, oi_m, n_dec, nI_add, pk_mul, n_sub, n_eq, n_le, n_lt, n_eq0, n_lt0, n_le0, n_0lt, n_0le, n_eqm, m_eqn, n_ltm, n_and, n_or, n_xor, n_shl, n_shr, tb1, tb0, bP_1, bP_0, bP_n0, ix_n, inb_n, u_eq, u_eqm, k107 W.1, n1_1, true_or, or_true, u_eqm]
  refine ⟨fun hc => bad (fun q => by unfold promiseC at q; omega), fun hc3 => ?_⟩
  refine hP.1 _ _ s_R_promise_30 _ _ _ _ _ ?_
  simp (disch := omega) only [g_R_promise_30, slk, List.map_cons, List.map_nil, List.sum_cons, List.sum_nil, vc_i, vc_r, vc_n, vc_l, vc_o, Nat.add_zero, kO_e, kA_e, hdO_a, eq_self, blk, stp, lg, ls0, lk, ls1, ls2, kI_i, kL_l, kR_r, kR_n, kR_o, s1I_i, s2I_i, s1L_l, s2L_l, s1R_r, s1R_n, s1R_o, s1A_a, cmpc, popn, swt, rf_s, rf_n, cat_i, cat_r, cat_n, cat_l, true_and, and_true, List.length_cons, List.length_nil, Nat.zero_add, Int.reduceToNat, Nat.reduceAdd, Nat.reduceDiv, Nat.reduceMod, Nat.reduceMul, Nat.reduceSub, Nat.reduceLeDiff, Nat.reduceLT, Nat.reduceEqDiff, reduceIte, r_gr_wi, r_gl_wi, r_gk_wi, r_gn_wi, r_gi_wi, r_gi_wr, r_gl_wr, r_gk_wr, r_gn_wr, r_gr_wa, r_gl_wa, r_gk_wa, r_gn_wa, u_lt, u_le, u_gt, u_ge, u_lt0, u_le0, u_gt0, u_ge0, Classical.not_not, not_true_eq_false, not_false_eq_true, oi_n, oi_m, n_dec, nI_add, pk_mul, n_sub, n_eq, n_le, n_lt, n_eq0, n_lt0, n_le0, n_0lt, n_0le, n_eqm, m_eqn, n_ltm, n_and, n_or, n_xor, n_shl, n_shr, tb1, tb0, bP_1, bP_0, bP_n0, ix_n, inb_n, u_eq, u_eqm, n1_1, true_or, or_true, u_eqm]
  refine ⟨fun hc => bad (fun q => by unfold promiseC at q; omega), fun hc4 => ?_⟩
  refine hP.1 _ _ s_R_promise_35 _ _ _ _ _ ?_
  simp (disch := omega) only [g_R_promise_35, slk, List.map_cons, List.map_nil, List.sum_cons, List.sum_nil, vc_i, vc_r, vc_n, vc_l, vc_o, Nat.add_zero, kO_e, kA_e, hdO_a, eq_self, blk, stp, lg, ls0, lk, ls1, ls2, kI_i, kL_l, kR_r, kR_n, kR_o, s1I_i, s2I_i, s1L_l, s2L_l, s1R_r, s1R_n, s1R_o, s1A_a, cmpc, popn, swt, rf_s, rf_n, cat_i, cat_r, cat_n, cat_l, true_and, and_true, List.length_cons, List.length_nil, Nat.zero_add, Int.reduceToNat, Nat.reduceAdd, Nat.reduceDiv, Nat.reduceMod, Nat.reduceMul, Nat.reduceSub, Nat.reduceLeDiff, Nat.reduceLT, Nat.reduceEqDiff, reduceIte, r_gr_wi, r_gl_wi, r_gk_wi, r_gn_wi, r_gi_wi, r_gi_wr, r_gl_wr, r_gk_wr, r_gn_wr, r_gr_wa, r_gl_wa, r_gk_wa, r_gn_wa, u_lt, u_le, u_gt, u_ge, u_lt0, u_le0, u_gt0, u_ge0, Classical.not_not, not_true_eq_false, not_false_eq_true, oi_n, oi_m, n_dec, nI_add, pk_mul, n_sub, n_eq, n_le, n_lt, n_eq0, n_lt0, n_le0, n_0lt, n_0le, n_eqm, m_eqn, n_ltm, n_and, n_or, n_xor, n_shl, n_shr, tb1, tb0, bP_1, bP_0, bP_n0, ix_n, inb_n, u_eq, u_eqm, k107 W.1, n1_1, true_or, or_true, u_eqm]
  refine wc (c_R_isWay W1 hm hp hw) ⟨by omega, by omega⟩ ?_
  simp (disch := omega) only [slk, List.map_cons, List.map_nil, List.sum_cons, List.sum_nil, vc_i, vc_r, vc_n, vc_l, vc_o, Nat.add_zero, kO_e, kA_e, hdO_a, eq_self, blk, stp, lg, ls0, lk, ls1, ls2, kI_i, kL_l, kR_r, kR_n, kR_o, s1I_i, s2I_i, s1L_l, s2L_l, s1R_r, s1R_n, s1R_o, s1A_a, cmpc, popn, swt, rf_s, rf_n, cat_i, cat_r, cat_n, cat_l, true_and, and_true, List.length_cons, List.length_nil, Nat.zero_add, Int.reduceToNat, Nat.reduceAdd, Nat.reduceDiv, Nat.reduceMod, Nat.reduceMul, Nat.reduceSub, Nat.reduceLeDiff, Nat.reduceLT, Nat.reduceEqDiff, reduceIte, r_gr_wi, r_gl_wi, r_gk_wi, r_gn_wi, r_gi_wi, r_gi_wr, r_gl_wr, r_gk_wr, r_gn_wr, r_gr_wa, r_gl_wa, r_gk_wa, r_gn_wa, u_lt, u_le, u_gt, u_ge, u_lt0, u_le0, u_gt0, u_ge0, Classical.not_not, not_true_eq_false, not_false_eq_true, oi_n, oi_m, n_dec, nI_add, pk_mul, n_sub, n_eq, n_le, n_lt, n_eq0, n_lt0, n_le0, n_0lt, n_0le, n_eqm, m_eqn, n_ltm, n_and, n_or, n_xor, n_shl, n_shr, tb1, tb0, bP_1, bP_0, bP_n0, ix_n, inb_n, u_eq, u_eqm, k107 W.1, n1_1, true_or, or_true, u_eqm]
  refine ⟨fun hc5 => ?_, fun hc => bad (fun q => by unfold promiseC at q; omega)⟩
  exact good (by unfold promiseC; omega)
def giftS (s : St) (e m p w o i g : Nat) : St := uS (uS (uS (uS (uS (uS (uS (uS s 151 (s 107 77) (e)) 152 (s 107 77) (m)) 153 (s 107 77) (p)) 154 (s 107 77) (w)) 155 (s 107 77) (o)) 156 (s 107 77) (i)) 157 (s 107 77) (g)) 107 (77) (s 107 77 + 1)
def giftC (s : St) (e m p w o i g : Nat) : Prop := ¬ s 107 77 = 8 ∧ e < s 107 18 ∧ (m < s 107 19 ∧ p < s 112 m ∧ w < s 113 m) ∧ (o < s 107 19 ∧ i < s 112 o ∧ g < s 113 o) ∧ ¬ m = o
theorem rs_gift {s : St} (R : RS s) {e m p w o i g : Nat} (c : giftC s e m p w o i g) : RS (giftS s e m p w o i g) := by
  obtain ⟨⟨a1, a2, a3, a4, a5, a6, a7, a8, a9, a10⟩, r2, r3, r4, r5, r6, r7, r8, r9, r10, r11, r12, r13, r14, r15⟩ := R
  unfold giftC at c
  have n1 : s 107 77 + 1 ≤ 8 := by omega
  have n2 : ∀ k, k < s 107 77 + 1 → giftS s e m p w o i g 151 k < s 107 18 ∧ giftS s e m p w o i g 152 k < s 107 19 ∧ giftS s e m p w o i g 153 k < s 112 (giftS s e m p w o i g 152 k) ∧ giftS s e m p w o i g 154 k < s 113 (giftS s e m p w o i g 152 k) ∧ giftS s e m p w o i g 155 k < s 107 19 ∧ giftS s e m p w o i g 156 k < s 112 (giftS s e m p w o i g 155 k) ∧ giftS s e m p w o i g 157 k < s 113 (giftS s e m p w o i g 155 k) ∧ giftS s e m p w o i g 152 k ≠ giftS s e m p w o i g 155 k := by
    intro k hk2
    by_cases q : k = s 107 77
    · subst q
      simp only [giftS, uS, reduceIte, Nat.reduceEqDiff]
      omega
    · have := r14 k (by omega)
      simp only [giftS, uS, reduceIte, Nat.reduceEqDiff, if_neg q]
      exact this
  exact ⟨⟨a1, a2, a3, a4, a5, a6, a7, (n1), a9, a10⟩, r2, r3, r4, r5, r6, r7, r8, r9, r10, r11, r12, r13, (n2), r15⟩
theorem c_R_gift (W : RH h s) {e m p w o i g : Nat} (he : e < 4294967296) (hm : m < 4294967296) (hp : p < 4294967296) (hw : w < 4294967296) (ho : o < 4294967296) (hi : i < 4294967296) (hg : g < 4294967296) : Mz (d + 4) 132 [.ref 107, .int (nI e), .int (nI m), .int (nI p), .int (nI w), .int (nI o), .int (nI i), .int (nI g)] h 0 0 (Pb (iff1 (giftC s e m p w o i g) (nI (s 107 77))) (ifS (giftC s e m p w o i g) (giftS s e m p w o i g) s) h) := by
  have W1 := (pre1 W).1
  have b1 := rs_e W
  have b2 := rs_m W
  have b3 := rs_gf W
  refine mz_in (l := [some (.ref 107), some (.int (nI e)), some (.int (nI m)), some (.int (nI p)), some (.int (nI w)), some (.int (nI o)), some (.int (nI i)), some (.int (nI g))]) mk_R_gift n_R_gift rfl l_R_gift rfl (Nat.le_of_ble_eq_true rfl) fun P hP => ?_
  have bad : ¬ giftC s e m p w o i g → P 52 [some (.ref 107), some (.int (nI e)), some (.int (nI m)), some (.int (nI p)), some (.int (nI w)), some (.int (nI o)), some (.int (nI i)), some (.int (nI g))] [] (wi h 107 0 (nI 0)) 0 0 := by
    intro a
    refine hP.1 _ _ s_R_gift_52 _ _ _ _ _ ?_
    simp (disch := omega) only [g_R_gift_52, slk, List.map_cons, List.map_nil, List.sum_cons, List.sum_nil, vc_i, vc_r, vc_n, vc_l, vc_o, Nat.add_zero, kO_e, kA_e, hdO_a, eq_self, blk, stp, lg, ls0, lk, ls1, ls2, kI_i, kL_l, kR_r, kR_n, kR_o, s1I_i, s2I_i, s1L_l, s2L_l, s1R_r, s1R_n, s1R_o, s1A_a, cmpc, popn, swt, rf_s, rf_n, cat_i, cat_r, cat_n, cat_l, true_and, and_true, List.length_cons, List.length_nil, Nat.zero_add, Int.reduceToNat, Nat.reduceAdd, Nat.reduceDiv, Nat.reduceMod, Nat.reduceMul, Nat.reduceSub, Nat.reduceLeDiff, Nat.reduceLT, Nat.reduceEqDiff, reduceIte, r_gr_wi, r_gl_wi, r_gk_wi, r_gn_wi, r_gi_wi, r_gi_wr, r_gl_wr, r_gk_wr, r_gn_wr, r_gr_wa, r_gl_wa, r_gk_wa, r_gn_wa, u_lt, u_le, u_gt, u_ge, u_lt0, u_le0, u_gt0, u_ge0, Classical.not_not, not_true_eq_false, not_false_eq_true, oi_n, oi_m, n_dec, nI_add, pk_mul, n_sub, n_eq, n_le, n_lt, n_eq0, n_lt0, n_le0, n_0lt, n_0le, n_eqm, m_eqn, n_ltm, n_and, n_or, n_xor, n_shl, n_shr, tb1, tb0, bP_1, bP_0, bP_n0, ix_n, inb_n, u_eq, u_eqm, n1_1, true_or, or_true, u_eqm]
    exact lfQN r_R_gift a W1 (pre1 W).2
  have good : giftC s e m p w o i g → P 54 [some (.ref 107), some (.int (nI e)), some (.int (nI m)), some (.int (nI p)), some (.int (nI w)), some (.int (nI o)), some (.int (nI i)), some (.int (nI g))] [] (wi h 107 0 (nI 0)) 0 0 := by
    intro c
    have c2 := c
    unfold giftC at c2
    skip
    refine hP.1 _ _ s_R_gift_54 _ _ _ _ _ ?_
    simp (disch := omega) only [g_R_gift_54, slk, List.map_cons, List.map_nil, List.sum_cons, List.sum_nil, vc_i, vc_r, vc_n, vc_l, vc_o, Nat.add_zero, kO_e, kA_e, hdO_a, eq_self, blk, stp, lg, ls0, lk, ls1, ls2, kI_i, kL_l, kR_r, kR_n, kR_o, s1I_i, s2I_i, s1L_l, s2L_l, s1R_r, s1R_n, s1R_o, s1A_a, cmpc, popn, swt, rf_s, rf_n, cat_i, cat_r, cat_n, cat_l, true_and, and_true, List.length_cons, List.length_nil, Nat.zero_add, Int.reduceToNat, Nat.reduceAdd, Nat.reduceDiv, Nat.reduceMod, Nat.reduceMul, Nat.reduceSub, Nat.reduceLeDiff, Nat.reduceLT, Nat.reduceEqDiff, reduceIte, r_gr_wi, r_gl_wi, r_gk_wi, r_gn_wi, r_gi_wi, r_gi_wr, r_gl_wr, r_gk_wr, r_gn_wr, r_gr_wa, r_gl_wa, r_gk_wa, r_gn_wa, u_lt, u_le, u_gt, u_ge, u_lt0, u_le0, u_gt0, u_ge0, Classical.not_not, not_true_eq_false, not_false_eq_true, oi_n, oi_m, n_dec, nI_add, pk_mul, n_sub, n_eq, n_le, n_lt, n_eq0, n_lt0, n_le0, n_0lt, n_0le, n_eqm, m_eqn, n_ltm, n_and, n_or, n_xor, n_shl, n_shr, tb1, tb0, bP_1, bP_0, bP_n0, ix_n, inb_n, u_eq, u_eqm, k107 W.1, f107_70 W.1, k151 W.1, q151 W, q107_77 W, f107_71 W.1, k152 W.1, q152 W, f107_72 W.1, k153 W.1, q153 W, f107_73 W.1, k154 W.1, q154 W, f107_74 W.1, k155 W.1, q155 W, f107_75 W.1, k156 W.1, q156 W, f107_76 W.1, k157 W.1, q157 W, n1_1, true_or, or_true, u_eqm]
    exact lfQI r_R_gift c (by rw [Nat.add_sub_cancel]) W1.1 (by repeat (first | exact W1.2.1 | refine rc_set ?_ (by decide) | refine rc_setm ?_ (by decide))) (rs_gift W.2.2 c) (by repeat (first | exact (pre1 W).2 | refine fr_wi ?_ (by omega)))
  refine hP.1 _ _ s_R_gift_0 _ _ _ _ _ ?_
  simp (disch := omega) only [g_R_gift_0, slk, List.map_cons, List.map_nil, List.sum_cons, List.sum_nil, vc_i, vc_r, vc_n, vc_l, vc_o, Nat.add_zero, kO_e, kA_e, hdO_a, eq_self, blk, stp, lg, ls0, lk, ls1, ls2, kI_i, kL_l, kR_r, kR_n, kR_o, s1I_i, s2I_i, s1L_l, s2L_l, s1R_r, s1R_n, s1R_o, s1A_a, cmpc, popn, swt, rf_s, rf_n, cat_i, cat_r, cat_n, cat_l, true_and, and_true, List.length_cons, List.length_nil, Nat.zero_add, Int.reduceToNat, Nat.reduceAdd, Nat.reduceDiv, Nat.reduceMod, Nat.reduceMul, Nat.reduceSub, Nat.reduceLeDiff, Nat.reduceLT, Nat.reduceEqDiff, reduceIte, r_gr_wi, r_gl_wi, r_gk_wi, r_gn_wi, r_gi_wi, r_gi_wr, r_gl_wr, r_gk_wr, r_gn_wr, r_gr_wa, r_gl_wa, r_gk_wa, r_gn_wa, u_lt, u_le, u_gt, u_ge, u_lt0, u_le0, u_gt0, u_ge0, Classical.not_not, not_true_eq_false, not_false_eq_true, oi_n, oi_m, n_dec, nI_add, pk_mul, n_sub, n_eq, n_le, n_lt, n_eq0, n_lt0, n_le0, n_0lt, n_0le, n_eqm, m_eqn, n_ltm, n_and, n_or, n_xor, n_shl, n_shr, tb1, tb0, bP_1, bP_0, bP_n0, ix_n, inb_n, u_eq, u_eqm, k107 W.1, q107_77 W, n1_1, true_or, or_true, u_eqm]
  refine ⟨fun hc => bad (fun q => by unfold giftC at q; omega), fun hc1 => ?_⟩
  refine hP.1 _ _ s_R_gift_14 _ _ _ _ _ ?_
  simp (disch := omega) only [g_R_gift_14, slk, List.map_cons, List.map_nil, List.sum_cons, List.sum_nil, vc_i, vc_r, vc_n, vc_l, vc_o, Nat.add_zero, kO_e, kA_e, hdO_a, eq_self, blk, stp, lg, ls0, lk, ls1, ls2, kI_i, kL_l, kR_r, kR_n, kR_o, s1I_i, s2I_i, s1L_l, s2L_l, s1R_r, s1R_n, s1R_o, s1A_a, cmpc, popn, swt, rf_s, rf_n, cat_i, cat_r, cat_n, cat_l, true_and, and_true, List.length_cons, List.length_nil, Nat.zero_add, Int.reduceToNat, Nat.reduceAdd, Nat.reduceDiv, Nat.reduceMod, Nat.reduceMul, Nat.reduceSub, Nat.reduceLeDiff, Nat.reduceLT, Nat.reduceEqDiff, reduceIte, r_gr_wi, r_gl_wi, r_gk_wi, r_gn_wi, r_gi_wi, r_gi_wr, r_gl_wr, r_gk_wr, r_gn_wr, r_gr_wa, r_gl_wa, r_gk_wa, r_gn_wa, u_lt, u_le, u_gt, u_ge, u_lt0, u_le0, u_gt0, u_ge0, Classical.not_not, not_true_eq_false, not_false_eq_true, oi_n, oi_m, n_dec, nI_add, pk_mul, n_sub, n_eq, n_le, n_lt, n_eq0, n_lt0, n_le0, n_0lt, n_0le, n_eqm, m_eqn, n_ltm, n_and, n_or, n_xor, n_shl, n_shr, tb1, tb0, bP_1, bP_0, bP_n0, ix_n, inb_n, u_eq, u_eqm, k107 W.1, n1_1, true_or, or_true, u_eqm]
  refine wc (c_R_isElder W1 he) ⟨by omega, by omega⟩ ?_
  simp (disch := omega) only [slk, List.map_cons, List.map_nil, List.sum_cons, List.sum_nil, vc_i, vc_r, vc_n, vc_l, vc_o, Nat.add_zero, kO_e, kA_e, hdO_a, eq_self, blk, stp, lg, ls0, lk, ls1, ls2, kI_i, kL_l, kR_r, kR_n, kR_o, s1I_i, s2I_i, s1L_l, s2L_l, s1R_r, s1R_n, s1R_o, s1A_a, cmpc, popn, swt, rf_s, rf_n, cat_i, cat_r, cat_n, cat_l, true_and, and_true, List.length_cons, List.length_nil, Nat.zero_add, Int.reduceToNat, Nat.reduceAdd, Nat.reduceDiv, Nat.reduceMod, Nat.reduceMul, Nat.reduceSub, Nat.reduceLeDiff, Nat.reduceLT, Nat.reduceEqDiff, reduceIte, r_gr_wi, r_gl_wi, r_gk_wi, r_gn_wi, r_gi_wi, r_gi_wr, r_gl_wr, r_gk_wr, r_gn_wr, r_gr_wa, r_gl_wa, r_gk_wa, r_gn_wa, u_lt, u_le, u_gt, u_ge, u_lt0, u_le0, u_gt0, u_ge0, Classical.not_not, not_true_eq_false, not_false_eq_true, oi_n, oi_m, n_dec, nI_add, pk_mul, n_sub, n_eq, n_le, n_lt, n_eq0, n_lt0, n_le0, n_0lt, n_0le, n_eqm, m_eqn, n_ltm, n_and, n_or, n_xor, n_shl, n_shr, tb1, tb0, bP_1, bP_0, bP_n0, ix_n, inb_n, u_eq, u_eqm, k107 W.1, n1_1, true_or, or_true, u_eqm]
  refine ⟨fun hc => bad (fun q => by unfold giftC at q; omega), fun hc2 => ?_⟩
  refine hP.1 _ _ s_R_gift_22 _ _ _ _ _ ?_
  simp (disch := omega) only [g_R_gift_22, slk, List.map_cons, List.map_nil, List.sum_cons, List.sum_nil, vc_i, vc_r, vc_n, vc_l, vc_o, Nat.add_zero, kO_e, kA_e, hdO_a, eq_self, blk, stp, lg, ls0, lk, ls1, ls2, kI_i, kL_l, kR_r, kR_n, kR_o, s1I_i, s2I_i, s1L_l, s2L_l, s1R_r, s1R_n, s1R_o, s1A_a, cmpc, popn, swt, rf_s, rf_n, cat_i, cat_r, cat_n, cat_l, true_and, and_true, List.length_cons, List.length_nil, Nat.zero_add, Int.reduceToNat, Nat.reduceAdd, Nat.reduceDiv, Nat.reduceMod, Nat.reduceMul, Nat.reduceSub, Nat.reduceLeDiff, Nat.reduceLT, Nat.reduceEqDiff, reduceIte, r_gr_wi, r_gl_wi, r_gk_wi, r_gn_wi, r_gi_wi, r_gi_wr, r_gl_wr, r_gk_wr, r_gn_wr, r_gr_wa, r_gl_wa, r_gk_wa, r_gn_wa, u_lt, u_le, u_gt, u_ge, u_lt0, u_le0, u_gt0, u_ge0, Classical.not_not, not_true_eq_false, not_false_eq_true, oi_n, oi_m, n_dec, nI_add, pk_mul, n_sub, n_eq, n_le, n_lt, n_eq0, n_lt0, n_le0, n_0lt, n_0le, n_eqm, m_eqn, n_ltm, n_and, n_or, n_xor, n_shl, n_shr, tb1, tb0, bP_1, bP_0, bP_n0, ix_n, inb_n, u_eq, u_eqm, k107 W.1, n1_1, true_or, or_true, u_eqm]
  refine wc (c_R_isWay W1 hm hp hw) ⟨by omega, by omega⟩ ?_
  simp (disch := omega) only [slk, List.map_cons, List.map_nil, List.sum_cons, List.sum_nil, vc_i, vc_r, vc_n, vc_l, vc_o, Nat.add_zero, kO_e, kA_e, hdO_a, eq_self, blk, stp, lg, ls0, lk, ls1, ls2, kI_i, kL_l, kR_r, kR_n, kR_o, s1I_i, s2I_i, s1L_l, s2L_l, s1R_r, s1R_n, s1R_o, s1A_a, cmpc, popn, swt, rf_s, rf_n, cat_i, cat_r, cat_n, cat_l, true_and, and_true, List.length_cons, List.length_nil, Nat.zero_add, Int.reduceToNat, Nat.reduceAdd, Nat.reduceDiv, Nat.reduceMod, Nat.reduceMul, Nat.reduceSub, Nat.reduceLeDiff, Nat.reduceLT, Nat.reduceEqDiff, reduceIte, r_gr_wi, r_gl_wi, r_gk_wi, r_gn_wi, r_gi_wi, r_gi_wr, r_gl_wr, r_gk_wr, r_gn_wr, r_gr_wa, r_gl_wa, r_gk_wa, r_gn_wa, u_lt, u_le, u_gt, u_ge, u_lt0, u_le0, u_gt0, u_ge0, Classical.not_not, not_true_eq_false, not_false_eq_true, oi_n, oi_m, n_dec, nI_add, pk_mul, n_sub, n_eq, n_le, n_lt, n_eq0, n_lt0, n_le0, n_0lt, n_0le, n_eqm, m_eqn, n_ltm, n_and, n_or, n_xor, n_shl, n_shr, tb1, tb0, bP_1, bP_0, bP_n0, ix_n, inb_n, u_eq, u_eqm, k107 W.1, n1_1, true_or, or_true, u_eqm]
  refine ⟨fun hc => bad (fun q => by unfold giftC at q; omega), fun hc3 => ?_⟩
  refine hP.1 _ _ s_R_gift_33 _ _ _ _ _ ?_
  simp (disch := omega) only [g_R_gift_33, slk, List.map_cons, List.map_nil, List.sum_cons, List.sum_nil, vc_i, vc_r, vc_n, vc_l, vc_o, Nat.add_zero, kO_e, kA_e, hdO_a, eq_self, blk, stp, lg, ls0, lk, ls1, ls2, kI_i, kL_l, kR_r, kR_n, kR_o, s1I_i, s2I_i, s1L_l, s2L_l, s1R_r, s1R_n, s1R_o, s1A_a, cmpc, popn, swt, rf_s, rf_n, cat_i, cat_r, cat_n, cat_l, true_and, and_true, List.length_cons, List.length_nil, Nat.zero_add, Int.reduceToNat, Nat.reduceAdd, Nat.reduceDiv, Nat.reduceMod, Nat.reduceMul, Nat.reduceSub, Nat.reduceLeDiff, Nat.reduceLT, Nat.reduceEqDiff, reduceIte, r_gr_wi, r_gl_wi, r_gk_wi, r_gn_wi, r_gi_wi, r_gi_wr, r_gl_wr, r_gk_wr, r_gn_wr, r_gr_wa, r_gl_wa, r_gk_wa, r_gn_wa, u_lt, u_le, u_gt, u_ge, u_lt0, u_le0, u_gt0, u_ge0, Classical.not_not, not_true_eq_false, not_false_eq_true, oi_n, oi_m, n_dec, nI_add, pk_mul, n_sub, n_eq, n_le, n_lt, n_eq0, n_lt0, n_le0, n_0lt, n_0le, n_eqm, m_eqn, n_ltm, n_and, n_or, n_xor, n_shl, n_shr, tb1, tb0, bP_1, bP_0, bP_n0, ix_n, inb_n, u_eq, u_eqm, k107 W.1, n1_1, true_or, or_true, u_eqm]
  refine wc (c_R_isWay W1 ho hi hg) ⟨by omega, by omega⟩ ?_
  simp (disch := omega) only [slk, List.map_cons, List.map_nil, List.sum_cons, List.sum_nil, vc_i, vc_r, vc_n, vc_l, vc_o, Nat.add_zero, kO_e, kA_e, hdO_a, eq_self, blk, stp, lg, ls0, lk, ls1, ls2, kI_i, kL_l, kR_r, kR_n, kR_o, s1I_i, s2I_i, s1L_l, s2L_l, s1R_r, s1R_n, s1R_o, s1A_a, cmpc, popn, swt, rf_s, rf_n, cat_i, cat_r, cat_n, cat_l, true_and, and_true, List.length_cons, List.length_nil, Nat.zero_add, Int.reduceToNat, Nat.reduceAdd, Nat.reduceDiv, Nat.reduceMod, Nat.reduceMul, Nat.reduceSub, Nat.reduceLeDiff, Nat.reduceLT, Nat.reduceEqDiff, reduceIte, r_gr_wi, r_gl_wi, r_gk_wi, r_gn_wi, r_gi_wi, r_gi_wr, r_gl_wr, r_gk_wr, r_gn_wr, r_gr_wa, r_gl_wa, r_gk_wa, r_gn_wa, u_lt, u_le, u_gt, u_ge, u_lt0, u_le0, u_gt0, u_ge0, Classical.not_not, not_true_eq_false, not_false_eq_true, oi_n, oi_m, n_dec, nI_add, pk_mul, n_sub, n_eq, n_le, n_lt, n_eq0, n_lt0, n_le0, n_0lt, n_0le, n_eqm, m_eqn, n_ltm, n_and, n_or, n_xor, n_shl, n_shr, tb1, tb0, bP_1, bP_0, bP_n0, ix_n, inb_n, u_eq, u_eqm, k107 W.1, n1_1, true_or, or_true, u_eqm]
  refine ⟨fun hc => bad (fun q => by unfold giftC at q; omega), fun hc4 => ?_⟩
  refine hP.1 _ _ s_R_gift_46 _ _ _ _ _ ?_
  simp (disch := omega) only [g_R_gift_46, slk, List.map_cons, List.map_nil, List.sum_cons, List.sum_nil, vc_i, vc_r, vc_n, vc_l, vc_o, Nat.add_zero, kO_e, kA_e, hdO_a, eq_self, blk, stp, lg, ls0, lk, ls1, ls2, kI_i, kL_l, kR_r, kR_n, kR_o, s1I_i, s2I_i, s1L_l, s2L_l, s1R_r, s1R_n, s1R_o, s1A_a, cmpc, popn, swt, rf_s, rf_n, cat_i, cat_r, cat_n, cat_l, true_and, and_true, List.length_cons, List.length_nil, Nat.zero_add, Int.reduceToNat, Nat.reduceAdd, Nat.reduceDiv, Nat.reduceMod, Nat.reduceMul, Nat.reduceSub, Nat.reduceLeDiff, Nat.reduceLT, Nat.reduceEqDiff, reduceIte, r_gr_wi, r_gl_wi, r_gk_wi, r_gn_wi, r_gi_wi, r_gi_wr, r_gl_wr, r_gk_wr, r_gn_wr, r_gr_wa, r_gl_wa, r_gk_wa, r_gn_wa, u_lt, u_le, u_gt, u_ge, u_lt0, u_le0, u_gt0, u_ge0, Classical.not_not, not_true_eq_false, not_false_eq_true, oi_n, oi_m, n_dec, nI_add, pk_mul, n_sub, n_eq, n_le, n_lt, n_eq0, n_lt0, n_le0, n_0lt, n_0le, n_eqm, m_eqn, n_ltm, n_and, n_or, n_xor, n_shl, n_shr, tb1, tb0, bP_1, bP_0, bP_n0, ix_n, inb_n, u_eq, u_eqm, n1_1, true_or, or_true, u_eqm]
  refine ⟨fun hc5 => ?_, fun hc => bad (fun q => by unfold giftC at q; omega)⟩
  exact good (by unfold giftC; omega)
def matterS (s : St) (p w : Nat) : St := uS (uS (uS (uS (uS s 112 (s 107 19) (p)) 113 (s 107 19) (w)) 116 (s 107 19) (4294967295)) 117 (s 107 19) (0)) 107 (19) (s 107 19 + 1)
def matterC (s : St) (p w : Nat) : Prop := ¬ s 107 19 = 4 ∧ (1 ≤ p ∧ p ≤ 5) ∧ (2 ≤ w ∧ w ≤ 4)
theorem rs_matter {s : St} (R : RS s) {p w : Nat} (c : matterC s p w) : RS (matterS s p w) := by
  obtain ⟨⟨a1, a2, a3, a4, a5, a6, a7, a8, a9, a10⟩, r2, r3, r4, r5, r6, r7, r8, r9, r10, r11, r12, r13, r14, r15⟩ := R
  unfold matterC at c
  have n1 : s 107 19 + 1 ≤ 4 := by omega
  have e12 : ∀ m, m < s 107 19 → matterS s p w 112 m = s 112 m ∧ matterS s p w 113 m = s 113 m := by
    intro m hm
    have q : ¬ m = s 107 19 := by omega
    simp only [matterS, uS, reduceIte, Nat.reduceEqDiff, if_neg q, and_self]
  have n5 : ∀ m, m < s 107 19 + 1 → 1 ≤ matterS s p w 112 m ∧ matterS s p w 112 m ≤ 5 ∧ 2 ≤ matterS s p w 113 m ∧ matterS s p w 113 m ≤ 4 ∧ (matterS s p w 116 m = 4294967295 ∨ matterS s p w 116 m < s 107 29) ∧ isPr (matterS s p w) m (matterS s p w 117 m) := by
    intro m hm
    by_cases q : m = s 107 19
    · subst q
      simp only [isPr, matterS, uS, reduceIte, Nat.reduceEqDiff]
      refine ⟨by omega, by omega, by omega, by omega, Or.inl trivial, ?_, ?_⟩
      · rw [Nat.one_shiftLeft]
        exact Nat.two_pow_pos _
      · intro j _
        rw [wy0]
        omega
    · have := r5 m (by omega)
      simp only [isPr, matterS, uS, reduceIte, Nat.reduceEqDiff, if_neg q]
      exact this
  have n9 : tu (matterS s p w) := by
    intro k hk
    have h9 := r9 k hk
    have e := e12 (s 120 k) h9.2.1
    refine ⟨h9.1, ?_, ?_, ?_, ?_, ?_, h9.2.2.2.2.2.2⟩
    · show s 120 k < s 107 19 + 1
      omega
    · show s 121 k < matterS s p w 112 (s 120 k)
      rw [e.1]
      exact h9.2.2.1
    · show s 122 k < matterS s p w 113 (s 120 k)
      rw [e.2]
      exact h9.2.2.2.1
    · show s 123 k < matterS s p w 112 (s 120 k)
      rw [e.1]
      exact h9.2.2.2.2.1
    · show s 124 k < matterS s p w 113 (s 120 k)
      rw [e.2]
      exact h9.2.2.2.2.2.1
  have n13 : ∀ k, k < s 107 67 → s 144 k < s 107 18 ∧ s 145 k < s 107 18 ∧ s 146 k < s 107 19 + 1 ∧ s 147 k < matterS s p w 112 (s 146 k) ∧ s 148 k < matterS s p w 113 (s 146 k) := by
    intro k hk
    have h9 := r13 k hk
    have e := e12 (s 146 k) h9.2.2.1
    rw [e.1, e.2]
    exact ⟨h9.1, h9.2.1, by omega, h9.2.2.2.1, h9.2.2.2.2⟩
  have n14 : ∀ k, k < s 107 77 → s 151 k < s 107 18 ∧ s 152 k < s 107 19 + 1 ∧ s 153 k < matterS s p w 112 (s 152 k) ∧ s 154 k < matterS s p w 113 (s 152 k) ∧ s 155 k < s 107 19 + 1 ∧ s 156 k < matterS s p w 112 (s 155 k) ∧ s 157 k < matterS s p w 113 (s 155 k) ∧ s 152 k ≠ s 155 k := by
    intro k hk
    have h9 := r14 k hk
    have e := e12 (s 152 k) h9.2.1
    have f := e12 (s 155 k) h9.2.2.2.2.1
    rw [e.1, e.2, f.1, f.2]
    omega
  have n15 : ∀ k, k < s 107 84 → s 158 k < s 107 18 ∧ 1 ≤ s 159 k ∧ s 159 k < 1 <<< s 107 18 ∧ s 160 k < s 107 19 + 1 ∧ s 161 k < matterS s p w 112 (s 160 k) ∧ s 162 k < matterS s p w 113 (s 160 k) ∧ s 163 k ≤ 1 := by
    intro k hk
    have h9 := r15 k hk
    have e := e12 (s 160 k) h9.2.2.2.1
    rw [e.1, e.2]
    exact ⟨h9.1, h9.2.1, h9.2.2.1, by omega, h9.2.2.2.2.1, h9.2.2.2.2.2.1, h9.2.2.2.2.2.2⟩
  exact ⟨⟨a1, (n1), a3, a4, a5, a6, a7, a8, a9, a10⟩, r2, r3, r4, (n5), r6, r7, r8, (n9), r10, r11, r12, (n13), (n14), (n15)⟩
theorem c_R_matter (W : RH h s) {p w : Nat} (hp : p < 4294967296) (hw : w < 4294967296) : Mz (d + 2) 60 [.ref 107, .int (nI p), .int (nI w)] h 0 0 (Pb (iff1 (matterC s p w) (nI (s 107 19))) (ifS (matterC s p w) (matterS s p w) s) h) := by
  have W1 := (pre1 W).1
  have b1 := rs_e W
  have b2 := rs_m W
  refine mz_in (l := [some (.ref 107), some (.int (nI p)), some (.int (nI w))]) mk_R_matter n_R_matter rfl l_R_matter rfl (Nat.le_of_ble_eq_true rfl) fun P hP => ?_
  have bad : ¬ matterC s p w → P 31 [some (.ref 107), some (.int (nI p)), some (.int (nI w))] [] (wi h 107 0 (nI 0)) 0 0 := by
    intro a
    refine hP.1 _ _ s_R_matter_31 _ _ _ _ _ ?_
    simp (disch := omega) only [g_R_matter_31, slk, List.map_cons, List.map_nil, List.sum_cons, List.sum_nil, vc_i, vc_r, vc_n, vc_l, vc_o, Nat.add_zero, kO_e, kA_e, hdO_a, eq_self, blk, stp, lg, ls0, lk, ls1, ls2, kI_i, kL_l, kR_r, kR_n, kR_o, s1I_i, s2I_i, s1L_l, s2L_l, s1R_r, s1R_n, s1R_o, s1A_a, cmpc, popn, swt, rf_s, rf_n, cat_i, cat_r, cat_n, cat_l, true_and, and_true, List.length_cons, List.length_nil, Nat.zero_add, Int.reduceToNat, Nat.reduceAdd, Nat.reduceDiv, Nat.reduceMod, Nat.reduceMul, Nat.reduceSub, Nat.reduceLeDiff, Nat.reduceLT, Nat.reduceEqDiff, reduceIte, r_gr_wi, r_gl_wi, r_gk_wi, r_gn_wi, r_gi_wi, r_gi_wr, r_gl_wr, r_gk_wr, r_gn_wr, r_gr_wa, r_gl_wa, r_gk_wa, r_gn_wa, u_lt, u_le, u_gt, u_ge, u_lt0, u_le0, u_gt0, u_ge0, Classical.not_not, not_true_eq_false, not_false_eq_true, oi_n, oi_m, n_dec, nI_add, pk_mul, n_sub, n_eq, n_le, n_lt, n_eq0, n_lt0, n_le0, n_0lt, n_0le, n_eqm, m_eqn, n_ltm, n_and, n_or, n_xor, n_shl, n_shr, tb1, tb0, bP_1, bP_0, bP_n0, ix_n, inb_n, u_eq, u_eqm, n1_1, true_or, or_true, u_eqm]
    exact lfQN r_R_matter a W1 (pre1 W).2
  have good : matterC s p w → P 33 [some (.ref 107), some (.int (nI p)), some (.int (nI w))] [] (wi h 107 0 (nI 0)) 0 0 := by
    intro c
    have c2 := c
    unfold matterC at c2
    skip
    refine hP.1 _ _ s_R_matter_33 _ _ _ _ _ ?_
    simp (disch := omega) only [g_R_matter_33, slk, List.map_cons, List.map_nil, List.sum_cons, List.sum_nil, vc_i, vc_r, vc_n, vc_l, vc_o, Nat.add_zero, kO_e, kA_e, hdO_a, eq_self, blk, stp, lg, ls0, lk, ls1, ls2, kI_i, kL_l, kR_r, kR_n, kR_o, s1I_i, s2I_i, s1L_l, s2L_l, s1R_r, s1R_n, s1R_o, s1A_a, cmpc, popn, swt, rf_s, rf_n, cat_i, cat_r, cat_n, cat_l, true_and, and_true, List.length_cons, List.length_nil, Nat.zero_add, Int.reduceToNat, Nat.reduceAdd, Nat.reduceDiv, Nat.reduceMod, Nat.reduceMul, Nat.reduceSub, Nat.reduceLeDiff, Nat.reduceLT, Nat.reduceEqDiff, reduceIte, r_gr_wi, r_gl_wi, r_gk_wi, r_gn_wi, r_gi_wi, r_gi_wr, r_gl_wr, r_gk_wr, r_gn_wr, r_gr_wa, r_gl_wa, r_gk_wa, r_gn_wa, u_lt, u_le, u_gt, u_ge, u_lt0, u_le0, u_gt0, u_ge0, Classical.not_not, not_true_eq_false, not_false_eq_true, oi_n, oi_m, n_dec, nI_add, pk_mul, n_sub, n_eq, n_le, n_lt, n_eq0, n_lt0, n_le0, n_0lt, n_0le, n_eqm, m_eqn, n_ltm, n_and, n_or, n_xor, n_shl, n_shr, tb1, tb0, bP_1, bP_0, bP_n0, ix_n, inb_n, u_eq, u_eqm, k107 W.1, f107_5 W.1, k112 W.1, q112 W, q107_19 W, f107_6 W.1, k113 W.1, q113 W, f107_9 W.1, k116 W.1, q116 W, f107_10 W.1, k117 W.1, q117 W, n1_1, true_or, or_true, u_eqm]
    exact lfQI r_R_matter c (by rw [Nat.add_sub_cancel]) W1.1 (by repeat (first | exact W1.2.1 | refine rc_set ?_ (by decide) | refine rc_setm ?_ (by decide))) (rs_matter W.2.2 c) (by repeat (first | exact (pre1 W).2 | refine fr_wi ?_ (by omega)))
  refine hP.1 _ _ s_R_matter_0 _ _ _ _ _ ?_
  simp (disch := omega) only [g_R_matter_0, slk, List.map_cons, List.map_nil, List.sum_cons, List.sum_nil, vc_i, vc_r, vc_n, vc_l, vc_o, Nat.add_zero, kO_e, kA_e, hdO_a, eq_self, blk, stp, lg, ls0, lk, ls1, ls2, kI_i, kL_l, kR_r, kR_n, kR_o, s1I_i, s2I_i, s1L_l, s2L_l, s1R_r, s1R_n, s1R_o, s1A_a, cmpc, popn, swt, rf_s, rf_n, cat_i, cat_r, cat_n, cat_l, true_and, and_true, List.length_cons, List.length_nil, Nat.zero_add, Int.reduceToNat, Nat.reduceAdd, Nat.reduceDiv, Nat.reduceMod, Nat.reduceMul, Nat.reduceSub, Nat.reduceLeDiff, Nat.reduceLT, Nat.reduceEqDiff, reduceIte, r_gr_wi, r_gl_wi, r_gk_wi, r_gn_wi, r_gi_wi, r_gi_wr, r_gl_wr, r_gk_wr, r_gn_wr, r_gr_wa, r_gl_wa, r_gk_wa, r_gn_wa, u_lt, u_le, u_gt, u_ge, u_lt0, u_le0, u_gt0, u_ge0, Classical.not_not, not_true_eq_false, not_false_eq_true, oi_n, oi_m, n_dec, nI_add, pk_mul, n_sub, n_eq, n_le, n_lt, n_eq0, n_lt0, n_le0, n_0lt, n_0le, n_eqm, m_eqn, n_ltm, n_and, n_or, n_xor, n_shl, n_shr, tb1, tb0, bP_1, bP_0, bP_n0, ix_n, inb_n, u_eq, u_eqm, k107 W.1, q107_19 W, n1_1, true_or, or_true, u_eqm]
  refine ⟨fun hc => bad (fun q => by unfold matterC at q; omega), fun hc1 => ?_⟩
  refine hP.1 _ _ s_R_matter_13 _ _ _ _ _ ?_
  simp (disch := omega) only [g_R_matter_13, slk, List.map_cons, List.map_nil, List.sum_cons, List.sum_nil, vc_i, vc_r, vc_n, vc_l, vc_o, Nat.add_zero, kO_e, kA_e, hdO_a, eq_self, blk, stp, lg, ls0, lk, ls1, ls2, kI_i, kL_l, kR_r, kR_n, kR_o, s1I_i, s2I_i, s1L_l, s2L_l, s1R_r, s1R_n, s1R_o, s1A_a, cmpc, popn, swt, rf_s, rf_n, cat_i, cat_r, cat_n, cat_l, true_and, and_true, List.length_cons, List.length_nil, Nat.zero_add, Int.reduceToNat, Nat.reduceAdd, Nat.reduceDiv, Nat.reduceMod, Nat.reduceMul, Nat.reduceSub, Nat.reduceLeDiff, Nat.reduceLT, Nat.reduceEqDiff, reduceIte, r_gr_wi, r_gl_wi, r_gk_wi, r_gn_wi, r_gi_wi, r_gi_wr, r_gl_wr, r_gk_wr, r_gn_wr, r_gr_wa, r_gl_wa, r_gk_wa, r_gn_wa, u_lt, u_le, u_gt, u_ge, u_lt0, u_le0, u_gt0, u_ge0, Classical.not_not, not_true_eq_false, not_false_eq_true, oi_n, oi_m, n_dec, nI_add, pk_mul, n_sub, n_eq, n_le, n_lt, n_eq0, n_lt0, n_le0, n_0lt, n_0le, n_eqm, m_eqn, n_ltm, n_and, n_or, n_xor, n_shl, n_shr, tb1, tb0, bP_1, bP_0, bP_n0, ix_n, inb_n, u_eq, u_eqm, n1_1, true_or, or_true, u_eqm]
  refine wc (c_R_isIn hp (by omega) (by omega)) ⟨by omega, by omega⟩ ?_
  simp (disch := omega) only [slk, List.map_cons, List.map_nil, List.sum_cons, List.sum_nil, vc_i, vc_r, vc_n, vc_l, vc_o, Nat.add_zero, kO_e, kA_e, hdO_a, eq_self, blk, stp, lg, ls0, lk, ls1, ls2, kI_i, kL_l, kR_r, kR_n, kR_o, s1I_i, s2I_i, s1L_l, s2L_l, s1R_r, s1R_n, s1R_o, s1A_a, cmpc, popn, swt, rf_s, rf_n, cat_i, cat_r, cat_n, cat_l, true_and, and_true, List.length_cons, List.length_nil, Nat.zero_add, Int.reduceToNat, Nat.reduceAdd, Nat.reduceDiv, Nat.reduceMod, Nat.reduceMul, Nat.reduceSub, Nat.reduceLeDiff, Nat.reduceLT, Nat.reduceEqDiff, reduceIte, r_gr_wi, r_gl_wi, r_gk_wi, r_gn_wi, r_gi_wi, r_gi_wr, r_gl_wr, r_gk_wr, r_gn_wr, r_gr_wa, r_gl_wa, r_gk_wa, r_gn_wa, u_lt, u_le, u_gt, u_ge, u_lt0, u_le0, u_gt0, u_ge0, Classical.not_not, not_true_eq_false, not_false_eq_true, oi_n, oi_m, n_dec, nI_add, pk_mul, n_sub, n_eq, n_le, n_lt, n_eq0, n_lt0, n_le0, n_0lt, n_0le, n_eqm, m_eqn, n_ltm, n_and, n_or, n_xor, n_shl, n_shr, tb1, tb0, bP_1, bP_0, bP_n0, ix_n, inb_n, u_eq, u_eqm, n1_1, true_or, or_true, u_eqm]
  refine ⟨fun hc => bad (fun q => by unfold matterC at q; omega), fun hc2 => ?_⟩
  refine hP.1 _ _ s_R_matter_22 _ _ _ _ _ ?_
  simp (disch := omega) only [g_R_matter_22, slk, List.map_cons, List.map_nil, List.sum_cons, List.sum_nil, vc_i, vc_r, vc_n, vc_l, vc_o, Nat.add_zero, kO_e, kA_e, hdO_a, eq_self, blk, stp, lg, ls0, lk, ls1, ls2, kI_i, kL_l, kR_r, kR_n, kR_o, s1I_i, s2I_i, s1L_l, s2L_l, s1R_r, s1R_n, s1R_o, s1A_a, cmpc, popn, swt, rf_s, rf_n, cat_i, cat_r, cat_n, cat_l, true_and, and_true, List.length_cons, List.length_nil, Nat.zero_add, Int.reduceToNat, Nat.reduceAdd, Nat.reduceDiv, Nat.reduceMod, Nat.reduceMul, Nat.reduceSub, Nat.reduceLeDiff, Nat.reduceLT, Nat.reduceEqDiff, reduceIte, r_gr_wi, r_gl_wi, r_gk_wi, r_gn_wi, r_gi_wi, r_gi_wr, r_gl_wr, r_gk_wr, r_gn_wr, r_gr_wa, r_gl_wa, r_gk_wa, r_gn_wa, u_lt, u_le, u_gt, u_ge, u_lt0, u_le0, u_gt0, u_ge0, Classical.not_not, not_true_eq_false, not_false_eq_true, oi_n, oi_m, n_dec, nI_add, pk_mul, n_sub, n_eq, n_le, n_lt, n_eq0, n_lt0, n_le0, n_0lt, n_0le, n_eqm, m_eqn, n_ltm, n_and, n_or, n_xor, n_shl, n_shr, tb1, tb0, bP_1, bP_0, bP_n0, ix_n, inb_n, u_eq, u_eqm, n1_1, true_or, or_true, u_eqm]
  refine wc (c_R_isIn hw (by omega) (by omega)) ⟨by omega, by omega⟩ ?_
  simp (disch := omega) only [slk, List.map_cons, List.map_nil, List.sum_cons, List.sum_nil, vc_i, vc_r, vc_n, vc_l, vc_o, Nat.add_zero, kO_e, kA_e, hdO_a, eq_self, blk, stp, lg, ls0, lk, ls1, ls2, kI_i, kL_l, kR_r, kR_n, kR_o, s1I_i, s2I_i, s1L_l, s2L_l, s1R_r, s1R_n, s1R_o, s1A_a, cmpc, popn, swt, rf_s, rf_n, cat_i, cat_r, cat_n, cat_l, true_and, and_true, List.length_cons, List.length_nil, Nat.zero_add, Int.reduceToNat, Nat.reduceAdd, Nat.reduceDiv, Nat.reduceMod, Nat.reduceMul, Nat.reduceSub, Nat.reduceLeDiff, Nat.reduceLT, Nat.reduceEqDiff, reduceIte, r_gr_wi, r_gl_wi, r_gk_wi, r_gn_wi, r_gi_wi, r_gi_wr, r_gl_wr, r_gk_wr, r_gn_wr, r_gr_wa, r_gl_wa, r_gk_wa, r_gn_wa, u_lt, u_le, u_gt, u_ge, u_lt0, u_le0, u_gt0, u_ge0, Classical.not_not, not_true_eq_false, not_false_eq_true, oi_n, oi_m, n_dec, nI_add, pk_mul, n_sub, n_eq, n_le, n_lt, n_eq0, n_lt0, n_le0, n_0lt, n_0le, n_eqm, m_eqn, n_ltm, n_and, n_or, n_xor, n_shl, n_shr, tb1, tb0, bP_1, bP_0, bP_n0, ix_n, inb_n, u_eq, u_eqm, n1_1, true_or, or_true, u_eqm]
  refine ⟨fun hc3 => ?_, fun hc => bad (fun q => by unfold matterC at q; omega)⟩
  exact good (by unfold matterC; omega)
end
