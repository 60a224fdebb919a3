/-! ===== the reference: what all who sit can bear ===== -/
def sn (s : St) : Nat := (seatsL s).length
def sd (s : St) (j : Nat) : Nat := (seatsL s).getD j 0
/-- the seats are laid -/
def SE (h : AH) (s : St) : Prop := gi h 107 21 = nI (sn s) ∧ ∀ j, j < sn s → gi h 110 j = nI (sd s j)
theorem se_hL (h : AH) (s : St) : SE (hL h (seatsL s)) s := ⟨hL_21 _ _, fun j hj => by
  rw [hL_110]
  exact if_pos hj⟩
theorem Fx.se {os as : List Nat} {h h' : AH} (F : Fx os as h h') {s : St} (S : SE h s) (h1 : xs os as 107 21 = false) (h2 : ∀ j, xs os as 110 j = false) : SE h' s :=
  ⟨(F.2 _ _ h1).trans S.1, fun j hj => (F.2 _ _ (h2 j)).trans (S.2 j hj)⟩
theorem sd_mem {s : St} {j : Nat} (hj : j < sn s) : sd s j ∈ seatsL s := by
  unfold sd
  unfold sn at hj
  rw [List.getD_eq_getElem?_getD, List.getElem?_eq_getElem hj]
  exact List.getElem_mem hj
theorem sd_lt {h : AH} {s : St} (W : RH h s) {j : Nat} (hj : j < sn s) : sd s j < 8 := by
  have := seats_lt (sd_mem hj)
  have := rs_e W
  omega
theorem sn_le {h : AH} {s : St} (W : RH h s) : sn s ≤ 8 := by
  have := seats_len W
  have := rs_e W
  unfold sn
  omega
theorem ev_le {h : AH} {s : St} (W : RH h s) {m : Nat} (hm : m < s 107 19) : 1 <<< s 112 m ≤ 32 ∧ 2 ≤ 1 <<< s 112 m := by
  have h1 := rs_p W hm
  refine ⟨sh1_le h1.2.1, ?_⟩
  rw [Nat.one_shiftLeft]
  exact Nat.pow_le_pow_right (n := 2) (by omega) h1.1
def abP (s : St) (m x : Nat) : Prop := ∀ j, j < sn s → brP s (sd s j) m x (evN s m)
def opX (s : St) (m wo so x : Nat) : Prop := ∀ j, j < sn s → wo.testBit (sd s j) = true ∨ brP s (sd s j) m x so
def opP (s : St) (m wo so : Nat) : Prop := ∃ x, isPr s m x ∧ opX s m wo so x
/-- the one to which nothing is better among the first n that count -/
noncomputable def mnG (C : Nat → Prop) (lt : Nat → Nat → Prop) : Nat → Option Nat
  | 0 => none
  | n + 1 => @ite _ (C n ∧ ∀ q, mnG C lt n = some q → lt n q) (Classical.propDecidable _) (some n) (mnG C lt n)
theorem mnG_t {C : Nat → Prop} {lt : Nat → Nat → Prop} {n : Nat} (h : C n ∧ ∀ q, mnG C lt n = some q → lt n q) : mnG C lt (n + 1) = some n := if_pos h
theorem mnG_f {C : Nat → Prop} {lt : Nat → Nat → Prop} {n : Nat} (h : ¬ (C n ∧ ∀ q, mnG C lt n = some q → lt n q)) : mnG C lt (n + 1) = mnG C lt n := if_neg h
theorem mnG_lt {C : Nat → Prop} {lt : Nat → Nat → Prop} : ∀ {n q : Nat}, mnG C lt n = some q → q < n ∧ C q := by
  intro n
  induction n with
  | zero => intro q e; cases e
  | succ n ih =>
    intro q e
    by_cases h : C n ∧ ∀ q, mnG C lt n = some q → lt n q
    · rw [mnG_t h] at e
      cases e
      exact ⟨by omega, h.1⟩
    · rw [mnG_f h] at e
      have := ih e
      exact ⟨by omega, this.2⟩
/-- how many among the first, or the i-th -/
noncomputable def nthS (p : Nat → Prop) (i : Nat) : Nat → Nat → Nat → Int32
  | 0, _, c => if i = 4294967295 then nI c else -1
  | n + 1, x, c => @ite _ (p x) (Classical.propDecidable _) (if c = i then nI x else nthS p i n (x + 1) (c + 1)) (nthS p i n (x + 1) c)
section
variable {d : Nat} {h : AH} {s : St}
theorem c_R_allBear (W : RH h s) (S : SE h s) {m x : Nat} (hm : m < s 107 19) (hx : x < 2147483648) : Mz (d + 5) 115 [.ref 107, .int (nI m), .int (nI x)] h 0 0 (Rt (bP (abP s m x)) h) := by
  have h1 := rs_m W
  have h2 := rs_p W hm
  have h3 := ev_le W hm
  have h4 := sn_le W
  refine mz_in (l := [some (.ref 107), some (.int (nI m)), some (.int (nI x)), none]) mk_R_allBear n_R_allBear rfl l_R_allBear rfl (Nat.le_of_ble_eq_true rfl) fun P hP => ?_
  have loop : ∀ n k, k + n = sn s → (∀ j, j < k → brP s (sd s j) m x (evN s m)) → P 2 [some (.ref 107), some (.int (nI m)), some (.int (nI x)), some (.int (nI k))] [] h 0 0 := by
    intro n
    induction n using Nat.strongRecOn with
    | _ n ih =>
      intro k hk hI
      have nx : k < sn s → brP s (sd s k) m x (evN s m) → P 32 [some (.ref 107), some (.int (nI m)), some (.int (nI x)), some (.int (nI k))] [] h 0 0 := by
        intro a b
        refine hP.1 _ _ s_R_allBear_32 _ _ _ _ _ ?_
        simp (disch := omega) only [g_R_allBear_32, slk, List.map_cons, List.map_nil, List.sum_cons, List.sum_nil, vc_i, vc_r, vc_n, vc_l, vc_o, Nat.add_zero, kO_e, kA_e, hdO_a, eq_self, blk, stp, lg, ls0, lk, ls1, ls2, kI_i, kL_l, kR_r, kR_n, kR_o, s1I_i, s2I_i, s1L_l, s2L_l, s1R_r, s1R_n, s1R_o, s1A_a, cmpc, popn, swt, rf_s, rf_n, cat_i, cat_r, cat_n, cat_l, true_and, and_true, List.length_cons, List.length_nil, Nat.zero_add, Int.reduceToNat, Nat.reduceAdd, Nat.reduceDiv, Nat.reduceMod, Nat.reduceMul, Nat.reduceSub, Nat.reduceLeDiff, Nat.reduceLT, Nat.reduceEqDiff, reduceIte, r_gr_wi, r_gl_wi, r_gk_wi, r_gn_wi, r_gi_wi, r_gi_wr, r_gl_wr, r_gk_wr, r_gn_wr, r_gr_wa, r_gl_wa, r_gk_wa, r_gn_wa, u_lt, u_le, u_gt, u_ge, u_lt0, u_le0, u_gt0, u_ge0, Classical.not_not, not_true_eq_false, not_false_eq_true, oi_n, oi_m, n_dec, nI_add, pk_mul, n_sub, n_eq, n_le, n_lt, n_eq0, n_lt0, n_le0, n_0lt, n_0le, n_eqm, m_eqn, n_ltm, n_and, n_or, n_xor, n_shl, n_shr, tb1, tb0, bP_1, bP_0, bP_n0, ix_n, inb_n, u_eq, u_eqm, S.1]
        exact ih (n - 1) (by omega) (k + 1) (by omega) (lt_s hI b)
      refine hP.1 _ _ s_R_allBear_2 _ _ _ _ _ ?_
      simp (disch := omega) only [g_R_allBear_2, slk, List.map_cons, List.map_nil, List.sum_cons, List.sum_nil, vc_i, vc_r, vc_n, vc_l, vc_o, Nat.add_zero, kO_e, kA_e, hdO_a, eq_self, blk, stp, lg, ls0, lk, ls1, ls2, kI_i, kL_l, kR_r, kR_n, kR_o, s1I_i, s2I_i, s1L_l, s2L_l, s1R_r, s1R_n, s1R_o, s1A_a, cmpc, popn, swt, rf_s, rf_n, cat_i, cat_r, cat_n, cat_l, true_and, and_true, List.length_cons, List.length_nil, Nat.zero_add, Int.reduceToNat, Nat.reduceAdd, Nat.reduceDiv, Nat.reduceMod, Nat.reduceMul, Nat.reduceSub, Nat.reduceLeDiff, Nat.reduceLT, Nat.reduceEqDiff, reduceIte, r_gr_wi, r_gl_wi, r_gk_wi, r_gn_wi, r_gi_wi, r_gi_wr, r_gl_wr, r_gk_wr, r_gn_wr, r_gr_wa, r_gl_wa, r_gk_wa, r_gn_wa, u_lt, u_le, u_gt, u_ge, u_lt0, u_le0, u_gt0, u_ge0, Classical.not_not, not_true_eq_false, not_false_eq_true, oi_n, oi_m, n_dec, nI_add, pk_mul, n_sub, n_eq, n_le, n_lt, n_eq0, n_lt0, n_le0, n_0lt, n_0le, n_eqm, m_eqn, n_ltm, n_and, n_or, n_xor, n_shl, n_shr, tb1, tb0, bP_1, bP_0, bP_n0, ix_n, inb_n, u_eq, u_eqm, k107 W.1, S.1]
      refine ⟨fun hc => ?_, fun hc => ?_⟩
      · refine hP.1 _ _ s_R_allBear_38 _ _ _ _ _ ?_
        simp (disch := omega) only [g_R_allBear_38, slk, List.map_cons, List.map_nil, List.sum_cons, List.sum_nil, vc_i, vc_r, vc_n, vc_l, vc_o, Nat.add_zero, kO_e, kA_e, hdO_a, eq_self, blk, stp, lg, ls0, lk, ls1, ls2, kI_i, kL_l, kR_r, kR_n, kR_o, s1I_i, s2I_i, s1L_l, s2L_l, s1R_r, s1R_n, s1R_o, s1A_a, cmpc, popn, swt, rf_s, rf_n, cat_i, cat_r, cat_n, cat_l, true_and, and_true, List.length_cons, List.length_nil, Nat.zero_add, Int.reduceToNat, Nat.reduceAdd, Nat.reduceDiv, Nat.reduceMod, Nat.reduceMul, Nat.reduceSub, Nat.reduceLeDiff, Nat.reduceLT, Nat.reduceEqDiff, reduceIte, r_gr_wi, r_gl_wi, r_gk_wi, r_gn_wi, r_gi_wi, r_gi_wr, r_gl_wr, r_gk_wr, r_gn_wr, r_gr_wa, r_gl_wa, r_gk_wa, r_gn_wa, u_lt, u_le, u_gt, u_ge, u_lt0, u_le0, u_gt0, u_ge0, Classical.not_not, not_true_eq_false, not_false_eq_true, oi_n, oi_m, n_dec, nI_add, pk_mul, n_sub, n_eq, n_le, n_lt, n_eq0, n_lt0, n_le0, n_0lt, n_0le, n_eqm, m_eqn, n_ltm, n_and, n_or, n_xor, n_shl, n_shr, tb1, tb0, bP_1, bP_0, bP_n0, ix_n, inb_n, u_eq, u_eqm, S.1]
        exact lfT r_R_allBear (fun j hj => hI j (by omega)) rfl
      · have hk2 : k < sn s := by omega
        have h5 := sd_lt W hk2
        refine hP.1 _ _ s_R_allBear_10 _ _ _ _ _ ?_
        simp (disch := omega) only [g_R_allBear_10, slk, List.map_cons, List.map_nil, List.sum_cons, List.sum_nil, vc_i, vc_r, vc_n, vc_l, vc_o, Nat.add_zero, kO_e, kA_e, hdO_a, eq_self, blk, stp, lg, ls0, lk, ls1, ls2, kI_i, kL_l, kR_r, kR_n, kR_o, s1I_i, s2I_i, s1L_l, s2L_l, s1R_r, s1R_n, s1R_o, s1A_a, cmpc, popn, swt, rf_s, rf_n, cat_i, cat_r, cat_n, cat_l, true_and, and_true, List.length_cons, List.length_nil, Nat.zero_add, Int.reduceToNat, Nat.reduceAdd, Nat.reduceDiv, Nat.reduceMod, Nat.reduceMul, Nat.reduceSub, Nat.reduceLeDiff, Nat.reduceLT, Nat.reduceEqDiff, reduceIte, r_gr_wi, r_gl_wi, r_gk_wi, r_gn_wi, r_gi_wi, r_gi_wr, r_gl_wr, r_gk_wr, r_gn_wr, r_gr_wa, r_gl_wa, r_gk_wa, r_gn_wa, u_lt, u_le, u_gt, u_ge, u_lt0, u_le0, u_gt0, u_ge0, Classical.not_not, not_true_eq_false, not_false_eq_true, oi_n, oi_m, n_dec, nI_add, pk_mul, n_sub, n_eq, n_le, n_lt, n_eq0, n_lt0, n_le0, n_0lt, n_0le, n_eqm, m_eqn, n_ltm, n_and, n_or, n_xor, n_shl, n_shr, tb1, tb0, bP_1, bP_0, bP_n0, ix_n, inb_n, u_eq, u_eqm, k107 W.1, f107_3 W.1, k110 W.1, S.2 k hk2]
        refine wc (c_R_every W (by omega)) ⟨by omega, by omega⟩ ?_
        simp (disch := omega) only [slk, List.map_cons, List.map_nil, List.sum_cons, List.sum_nil, vc_i, vc_r, vc_n, vc_l, vc_o, Nat.add_zero, kO_e, kA_e, hdO_a, eq_self, blk, stp, lg, ls0, lk, ls1, ls2, kI_i, kL_l, kR_r, kR_n, kR_o, s1I_i, s2I_i, s1L_l, s2L_l, s1R_r, s1R_n, s1R_o, s1A_a, cmpc, popn, swt, rf_s, rf_n, cat_i, cat_r, cat_n, cat_l, true_and, and_true, List.length_cons, List.length_nil, Nat.zero_add, Int.reduceToNat, Nat.reduceAdd, Nat.reduceDiv, Nat.reduceMod, Nat.reduceMul, Nat.reduceSub, Nat.reduceLeDiff, Nat.reduceLT, Nat.reduceEqDiff, reduceIte, r_gr_wi, r_gl_wi, r_gk_wi, r_gn_wi, r_gi_wi, r_gi_wr, r_gl_wr, r_gk_wr, r_gn_wr, r_gr_wa, r_gl_wa, r_gk_wa, r_gn_wa, u_lt, u_le, u_gt, u_ge, u_lt0, u_le0, u_gt0, u_ge0, Classical.not_not, not_true_eq_false, not_false_eq_true, oi_n, oi_m, n_dec, nI_add, pk_mul, n_sub, n_eq, n_le, n_lt, n_eq0, n_lt0, n_le0, n_0lt, n_0le, n_eqm, m_eqn, n_ltm, n_and, n_or, n_xor, n_shl, n_shr, tb1, tb0, bP_1, bP_0, bP_n0, ix_n, inb_n, u_eq, u_eqm, k107 W.1, f107_3 W.1, k110 W.1, S.2 k hk2]
        refine wc (c_R_bears W (by omega) (by omega) (by omega) (by omega)) ⟨by omega, by omega⟩ ?_
        simp (disch := omega) only [slk, List.map_cons, List.map_nil, List.sum_cons, List.sum_nil, vc_i, vc_r, vc_n, vc_l, vc_o, Nat.add_zero, kO_e, kA_e, hdO_a, eq_self, blk, stp, lg, ls0, lk, ls1, ls2, kI_i, kL_l, kR_r, kR_n, kR_o, s1I_i, s2I_i, s1L_l, s2L_l, s1R_r, s1R_n, s1R_o, s1A_a, cmpc, popn, swt, rf_s, rf_n, cat_i, cat_r, cat_n, cat_l, true_and, and_true, List.length_cons, List.length_nil, Nat.zero_add, Int.reduceToNat, Nat.reduceAdd, Nat.reduceDiv, Nat.reduceMod, Nat.reduceMul, Nat.reduceSub, Nat.reduceLeDiff, Nat.reduceLT, Nat.reduceEqDiff, reduceIte, r_gr_wi, r_gl_wi, r_gk_wi, r_gn_wi, r_gi_wi, r_gi_wr, r_gl_wr, r_gk_wr, r_gn_wr, r_gr_wa, r_gl_wa, r_gk_wa, r_gn_wa, u_lt, u_le, u_gt, u_ge, u_lt0, u_le0, u_gt0, u_ge0, Classical.not_not, not_true_eq_false, not_false_eq_true, oi_n, oi_m, n_dec, nI_add, pk_mul, n_sub, n_eq, n_le, n_lt, n_eq0, n_lt0, n_le0, n_0lt, n_0le, n_eqm, m_eqn, n_ltm, n_and, n_or, n_xor, n_shl, n_shr, tb1, tb0, bP_1, bP_0, bP_n0, ix_n, inb_n, u_eq, u_eqm, k107 W.1, f107_3 W.1, k110 W.1, S.2 k hk2]
        refine ⟨fun hc1 => ?_, fun hc1 => ?_⟩
        · exact nx hk2 hc1
        · skip
          refine hP.1 _ _ s_R_allBear_30 _ _ _ _ _ ?_
          simp (disch := omega) only [g_R_allBear_30, slk, List.map_cons, List.map_nil, List.sum_cons, List.sum_nil, vc_i, vc_r, vc_n, vc_l, vc_o, Nat.add_zero, kO_e, kA_e, hdO_a, eq_self, blk, stp, lg, ls0, lk, ls1, ls2, kI_i, kL_l, kR_r, kR_n, kR_o, s1I_i, s2I_i, s1L_l, s2L_l, s1R_r, s1R_n, s1R_o, s1A_a, cmpc, popn, swt, rf_s, rf_n, cat_i, cat_r, cat_n, cat_l, true_and, and_true, List.length_cons, List.length_nil, Nat.zero_add, Int.reduceToNat, Nat.reduceAdd, Nat.reduceDiv, Nat.reduceMod, Nat.reduceMul, Nat.reduceSub, Nat.reduceLeDiff, Nat.reduceLT, Nat.reduceEqDiff, reduceIte, r_gr_wi, r_gl_wi, r_gk_wi, r_gn_wi, r_gi_wi, r_gi_wr, r_gl_wr, r_gk_wr, r_gn_wr, r_gr_wa, r_gl_wa, r_gk_wa, r_gn_wa, u_lt, u_le, u_gt, u_ge, u_lt0, u_le0, u_gt0, u_ge0, Classical.not_not, not_true_eq_false, not_false_eq_true, oi_n, oi_m, n_dec, nI_add, pk_mul, n_sub, n_eq, n_le, n_lt, n_eq0, n_lt0, n_le0, n_0lt, n_0le, n_eqm, m_eqn, n_ltm, n_and, n_or, n_xor, n_shl, n_shr, tb1, tb0, bP_1, bP_0, bP_n0, ix_n, inb_n, u_eq, u_eqm, S.2 k hk2]
          exact lfF r_R_allBear (fun q => hc1 (q k hk2)) rfl
  refine hP.1 _ _ s_R_allBear_0 _ _ _ _ _ ?_
  simp (disch := omega) only [g_R_allBear_0, slk, List.map_cons, List.map_nil, List.sum_cons, List.sum_nil, vc_i, vc_r, vc_n, vc_l, vc_o, Nat.add_zero, kO_e, kA_e, hdO_a, eq_self, blk, stp, lg, ls0, lk, ls1, ls2, kI_i, kL_l, kR_r, kR_n, kR_o, s1I_i, s2I_i, s1L_l, s2L_l, s1R_r, s1R_n, s1R_o, s1A_a, cmpc, popn, swt, rf_s, rf_n, cat_i, cat_r, cat_n, cat_l, true_and, and_true, List.length_cons, List.length_nil, Nat.zero_add, Int.reduceToNat, Nat.reduceAdd, Nat.reduceDiv, Nat.reduceMod, Nat.reduceMul, Nat.reduceSub, Nat.reduceLeDiff, Nat.reduceLT, Nat.reduceEqDiff, reduceIte, r_gr_wi, r_gl_wi, r_gk_wi, r_gn_wi, r_gi_wi, r_gi_wr, r_gl_wr, r_gk_wr, r_gn_wr, r_gr_wa, r_gl_wa, r_gk_wa, r_gn_wa, u_lt, u_le, u_gt, u_ge, u_lt0, u_le0, u_gt0, u_ge0, Classical.not_not, not_true_eq_false, not_false_eq_true, oi_n, oi_m, n_dec, nI_add, pk_mul, n_sub, n_eq, n_le, n_lt, n_eq0, n_lt0, n_le0, n_0lt, n_0le, n_eqm, m_eqn, n_ltm, n_and, n_or, n_xor, n_shl, n_shr, tb1, tb0, bP_1, bP_0, bP_n0, ix_n, inb_n, u_eq, u_eqm, S.1]
  exact loop _ 0 (Nat.zero_add _) (fun j hj => absurd hj (Nat.not_lt_zero _))
theorem c_R_isOpen (W : RH h s) (S : SE h s) {m wo so : Nat} (hm : m < s 107 19) (hwo : wo < 2147483648) (hso : so < 2147483648) : Mz (d + 5) 128 [.ref 107, .int (nI m), .int (nI wo), .int (nI so)] h 0 0 (Rt (bP (opP s m wo so)) h) := by
  have h1 := rs_m W
  have h2 := rs_p W hm
  have h3 := sh2 h2.2.1
  have h4 := sn_le W
  refine mz_in (l := [some (.ref 107), some (.int (nI m)), some (.int (nI wo)), some (.int (nI so)), none, none, none]) mk_R_isOpen n_R_isOpen rfl l_R_isOpen rfl (Nat.le_of_ble_eq_true rfl) fun P hP => ?_
  have loop : ∀ n k, k + n = 1 <<< (2 * s 112 m) → (∀ x, x < k → ¬ (isPr s m x ∧ opX s m wo so x)) → P 3 [some (.ref 107), some (.int (nI m)), some (.int (nI wo)), some (.int (nI so)), some (.int (nI k)), none, none] [] h 0 0 := by
    intro n
    induction n using Nat.strongRecOn with
    | _ n ih =>
      intro k hk hI
      have nx : ∀ v w, k < 1 <<< (2 * s 112 m) → ¬ (isPr s m k ∧ opX s m wo so k) → P 104 [some (.ref 107), some (.int (nI m)), some (.int (nI wo)), some (.int (nI so)), some (.int (nI k)), v, w] [] h 0 0 := by
        intro v w a b
        refine hP.1 _ _ s_R_isOpen_104 _ _ _ _ _ ?_
        simp (disch := omega) only [g_R_isOpen_104, slk, List.map_cons, List.map_nil, List.sum_cons, List.sum_nil, vc_i, vc_r, vc_n, vc_l, vc_o, Nat.add_zero, kO_e, kA_e, hdO_a, eq_self, blk, stp, lg, ls0, lk, ls1, ls2, kI_i, kL_l, kR_r, kR_n, kR_o, s1I_i, s2I_i, s1L_l, s2L_l, s1R_r, s1R_n, s1R_o, s1A_a, cmpc, popn, swt, rf_s, rf_n, cat_i, cat_r, cat_n, cat_l, true_and, and_true, List.length_cons, List.length_nil, Nat.zero_add, Int.reduceToNat, Nat.reduceAdd, Nat.reduceDiv, Nat.reduceMod, Nat.reduceMul, Nat.reduceSub, Nat.reduceLeDiff, Nat.reduceLT, Nat.reduceEqDiff, reduceIte, r_gr_wi, r_gl_wi, r_gk_wi, r_gn_wi, r_gi_wi, r_gi_wr, r_gl_wr, r_gk_wr, r_gn_wr, r_gr_wa, r_gl_wa, r_gk_wa, r_gn_wa, u_lt, u_le, u_gt, u_ge, u_lt0, u_le0, u_gt0, u_ge0, Classical.not_not, not_true_eq_false, not_false_eq_true, oi_n, oi_m, n_dec, nI_add, pk_mul, n_sub, n_eq, n_le, n_lt, n_eq0, n_lt0, n_le0, n_0lt, n_0le, n_eqm, m_eqn, n_ltm, n_and, n_or, n_xor, n_shl, n_shr, tb1, tb0, bP_1, bP_0, bP_n0, ix_n, inb_n, u_eq, u_eqm, S.1]
        refine hP.2.1 _ _ _ _ _ _ _ (lsk _ (lsk _ (lsk _ (lsk _ (lsk _ (lsf _ (lsf _ lsn))))))) ?_
        exact ih (n - 1) (by omega) (k + 1) (by omega) (lt_s hI b)
      have inner : k < 1 <<< (2 * s 112 m) → isPr s m k → ∀ z j, j + z = sn s → P 37 [some (.ref 107), some (.int (nI m)), some (.int (nI wo)), some (.int (nI so)), some (.int (nI k)), some (.int (bP (∀ i, i < j → wo.testBit (sd s i) = true ∨ brP s (sd s i) m k so))), some (.int (nI j))] [] h 0 0 := by
        intro hk2 hpr z
        induction z using Nat.strongRecOn with
        | _ z ih2 =>
          intro j hj
          have fin : ((∀ i, i < sn s → wo.testBit (sd s i) = true ∨ brP s (sd s i) m k so) ↔ (∀ i, i < j → wo.testBit (sd s i) = true ∨ brP s (sd s i) m k so)) → P 97 [some (.ref 107), some (.int (nI m)), some (.int (nI wo)), some (.int (nI so)), some (.int (nI k)), some (.int (bP (∀ i, i < j → wo.testBit (sd s i) = true ∨ brP s (sd s i) m k so))), some (.int (nI j))] [] h 0 0 := by
            intro e
            refine hP.1 _ _ s_R_isOpen_97 _ _ _ _ _ ?_
            simp (disch := omega) only [g_R_isOpen_97, slk, List.map_cons, List.map_nil, List.sum_cons, List.sum_nil, vc_i, vc_r, vc_n, vc_l, vc_o, Nat.add_zero, kO_e, kA_e, hdO_a, eq_self, blk, stp, lg, ls0, lk, ls1, ls2, kI_i, kL_l, kR_r, kR_n, kR_o, s1I_i, s2I_i, s1L_l, s2L_l, s1R_r, s1R_n, s1R_o, s1A_a, cmpc, popn, swt, rf_s, rf_n, cat_i, cat_r, cat_n, cat_l, true_and, and_true, List.length_cons, List.length_nil, Nat.zero_add, Int.reduceToNat, Nat.reduceAdd, Nat.reduceDiv, Nat.reduceMod, Nat.reduceMul, Nat.reduceSub, Nat.reduceLeDiff, Nat.reduceLT, Nat.reduceEqDiff, reduceIte, r_gr_wi, r_gl_wi, r_gk_wi, r_gn_wi, r_gi_wi, r_gi_wr, r_gl_wr, r_gk_wr, r_gn_wr, r_gr_wa, r_gl_wa, r_gk_wa, r_gn_wa, u_lt, u_le, u_gt, u_ge, u_lt0, u_le0, u_gt0, u_ge0, Classical.not_not, not_true_eq_false, not_false_eq_true, oi_n, oi_m, n_dec, nI_add, pk_mul, n_sub, n_eq, n_le, n_lt, n_eq0, n_lt0, n_le0, n_0lt, n_0le, n_eqm, m_eqn, n_ltm, n_and, n_or, n_xor, n_shl, n_shr, tb1, tb0, bP_1, bP_0, bP_n0, ix_n, inb_n, u_eq, u_eqm, S.1]
            refine ⟨fun hc1 => ?_, fun hc1 => ?_⟩
            · exact nx _ _ hk2 (fun q => hc1 (e.mp q.2))
            · skip
              refine hP.1 _ _ s_R_isOpen_102 _ _ _ _ _ ?_
              simp (disch := omega) only [g_R_isOpen_102, slk, List.map_cons, List.map_nil, List.sum_cons, List.sum_nil, vc_i, vc_r, vc_n, vc_l, vc_o, Nat.add_zero, kO_e, kA_e, hdO_a, eq_self, blk, stp, lg, ls0, lk, ls1, ls2, kI_i, kL_l, kR_r, kR_n, kR_o, s1I_i, s2I_i, s1L_l, s2L_l, s1R_r, s1R_n, s1R_o, s1A_a, cmpc, popn, swt, rf_s, rf_n, cat_i, cat_r, cat_n, cat_l, true_and, and_true, List.length_cons, List.length_nil, Nat.zero_add, Int.reduceToNat, Nat.reduceAdd, Nat.reduceDiv, Nat.reduceMod, Nat.reduceMul, Nat.reduceSub, Nat.reduceLeDiff, Nat.reduceLT, Nat.reduceEqDiff, reduceIte, r_gr_wi, r_gl_wi, r_gk_wi, r_gn_wi, r_gi_wi, r_gi_wr, r_gl_wr, r_gk_wr, r_gn_wr, r_gr_wa, r_gl_wa, r_gk_wa, r_gn_wa, u_lt, u_le, u_gt, u_ge, u_lt0, u_le0, u_gt0, u_ge0, Classical.not_not, not_true_eq_false, not_false_eq_true, oi_n, oi_m, n_dec, nI_add, pk_mul, n_sub, n_eq, n_le, n_lt, n_eq0, n_lt0, n_le0, n_0lt, n_0le, n_eqm, m_eqn, n_ltm, n_and, n_or, n_xor, n_shl, n_shr, tb1, tb0, bP_1, bP_0, bP_n0, ix_n, inb_n, u_eq, u_eqm, S.1]
              exact lfT r_R_isOpen ⟨k, hpr, e.mpr hc1⟩ rfl
          have nx2 : ∀ q : Prop, j < sn s → (q ↔ ∀ i, i < j + 1 → wo.testBit (sd s i) = true ∨ brP s (sd s i) m k so) → P 89 [some (.ref 107), some (.int (nI m)), some (.int (nI wo)), some (.int (nI so)), some (.int (nI k)), some (.int (bP (∀ i, i < j → wo.testBit (sd s i) = true ∨ brP s (sd s i) m k so))), some (.int (nI j))] [.int (bP q)] h 0 0 := by
            intro q a b
            refine hP.1 _ _ s_R_isOpen_89 _ _ _ _ _ ?_
            simp (disch := omega) only [g_R_isOpen_89, slk, List.map_cons, List.map_nil, List.sum_cons, List.sum_nil, vc_i, vc_r, vc_n, vc_l, vc_o, Nat.add_zero, kO_e, kA_e, hdO_a, eq_self, blk, stp, lg, ls0, lk, ls1, ls2, kI_i, kL_l, kR_r, kR_n, kR_o, s1I_i, s2I_i, s1L_l, s2L_l, s1R_r, s1R_n, s1R_o, s1A_a, cmpc, popn, swt, rf_s, rf_n, cat_i, cat_r, cat_n, cat_l, true_and, and_true, List.length_cons, List.length_nil, Nat.zero_add, Int.reduceToNat, Nat.reduceAdd, Nat.reduceDiv, Nat.reduceMod, Nat.reduceMul, Nat.reduceSub, Nat.reduceLeDiff, Nat.reduceLT, Nat.reduceEqDiff, reduceIte, r_gr_wi, r_gl_wi, r_gk_wi, r_gn_wi, r_gi_wi, r_gi_wr, r_gl_wr, r_gk_wr, r_gn_wr, r_gr_wa, r_gl_wa, r_gk_wa, r_gn_wa, u_lt, u_le, u_gt, u_ge, u_lt0, u_le0, u_gt0, u_ge0, Classical.not_not, not_true_eq_false, not_false_eq_true, oi_n, oi_m, n_dec, nI_add, pk_mul, n_sub, n_eq, n_le, n_lt, n_eq0, n_lt0, n_le0, n_0lt, n_0le, n_eqm, m_eqn, n_ltm, n_and, n_or, n_xor, n_shl, n_shr, tb1, tb0, bP_1, bP_0, bP_n0, ix_n, inb_n, u_eq, u_eqm, S.1]
            rw [propext b]
            exact ih2 (z - 1) (by omega) (j + 1) (by omega)
          have j84 : j < sn s → (∀ i, i < j + 1 → wo.testBit (sd s i) = true ∨ brP s (sd s i) m k so) → P 84 [some (.ref 107), some (.int (nI m)), some (.int (nI wo)), some (.int (nI so)), some (.int (nI k)), some (.int (bP (∀ i, i < j → wo.testBit (sd s i) = true ∨ brP s (sd s i) m k so))), some (.int (nI j))] [] h 0 0 := by
            intro a b
            refine hP.1 _ _ s_R_isOpen_84 _ _ _ _ _ ?_
            simp (disch := omega) only [g_R_isOpen_84, slk, List.map_cons, List.map_nil, List.sum_cons, List.sum_nil, vc_i, vc_r, vc_n, vc_l, vc_o, Nat.add_zero, kO_e, kA_e, hdO_a, eq_self, blk, stp, lg, ls0, lk, ls1, ls2, kI_i, kL_l, kR_r, kR_n, kR_o, s1I_i, s2I_i, s1L_l, s2L_l, s1R_r, s1R_n, s1R_o, s1A_a, cmpc, popn, swt, rf_s, rf_n, cat_i, cat_r, cat_n, cat_l, true_and, and_true, List.length_cons, List.length_nil, Nat.zero_add, Int.reduceToNat, Nat.reduceAdd, Nat.reduceDiv, Nat.reduceMod, Nat.reduceMul, Nat.reduceSub, Nat.reduceLeDiff, Nat.reduceLT, Nat.reduceEqDiff, reduceIte, r_gr_wi, r_gl_wi, r_gk_wi, r_gn_wi, r_gi_wi, r_gi_wr, r_gl_wr, r_gk_wr, r_gn_wr, r_gr_wa, r_gl_wa, r_gk_wa, r_gn_wa, u_lt, u_le, u_gt, u_ge, u_lt0, u_le0, u_gt0, u_ge0, Classical.not_not, not_true_eq_false, not_false_eq_true, oi_n, oi_m, n_dec, nI_add, pk_mul, n_sub, n_eq, n_le, n_lt, n_eq0, n_lt0, n_le0, n_0lt, n_0le, n_eqm, m_eqn, n_ltm, n_and, n_or, n_xor, n_shl, n_shr, tb1, tb0, bP_1, bP_0, bP_n0, ix_n, inb_n, u_eq, u_eqm, S.1]
            have := nx2 _ a Iff.rfl
            rw [bP_t b] at this
            exact this
          have j88 : j < sn s → ¬ (∀ i, i < j + 1 → wo.testBit (sd s i) = true ∨ brP s (sd s i) m k so) → P 88 [some (.ref 107), some (.int (nI m)), some (.int (nI wo)), some (.int (nI so)), some (.int (nI k)), some (.int (bP (∀ i, i < j → wo.testBit (sd s i) = true ∨ brP s (sd s i) m k so))), some (.int (nI j))] [] h 0 0 := by
            intro a b
            refine hP.1 _ _ s_R_isOpen_88 _ _ _ _ _ ?_
            simp (disch := omega) only [g_R_isOpen_88, slk, List.map_cons, List.map_nil, List.sum_cons, List.sum_nil, vc_i, vc_r, vc_n, vc_l, vc_o, Nat.add_zero, kO_e, kA_e, hdO_a, eq_self, blk, stp, lg, ls0, lk, ls1, ls2, kI_i, kL_l, kR_r, kR_n, kR_o, s1I_i, s2I_i, s1L_l, s2L_l, s1R_r, s1R_n, s1R_o, s1A_a, cmpc, popn, swt, rf_s, rf_n, cat_i, cat_r, cat_n, cat_l, true_and, and_true, List.length_cons, List.length_nil, Nat.zero_add, Int.reduceToNat, Nat.reduceAdd, Nat.reduceDiv, Nat.reduceMod, Nat.reduceMul, Nat.reduceSub, Nat.reduceLeDiff, Nat.reduceLT, Nat.reduceEqDiff, reduceIte, r_gr_wi, r_gl_wi, r_gk_wi, r_gn_wi, r_gi_wi, r_gi_wr, r_gl_wr, r_gk_wr, r_gn_wr, r_gr_wa, r_gl_wa, r_gk_wa, r_gn_wa, u_lt, u_le, u_gt, u_ge, u_lt0, u_le0, u_gt0, u_ge0, Classical.not_not, not_true_eq_false, not_false_eq_true, oi_n, oi_m, n_dec, nI_add, pk_mul, n_sub, n_eq, n_le, n_lt, n_eq0, n_lt0, n_le0, n_0lt, n_0le, n_eqm, m_eqn, n_ltm, n_and, n_or, n_xor, n_shl, n_shr, tb1, tb0, bP_1, bP_0, bP_n0, ix_n, inb_n, u_eq, u_eqm, S.1]
            have := nx2 _ a Iff.rfl
            rw [bP_f b] at this
            exact this
          have hk3 := isPr_lt W hm hpr
          refine hP.1 _ _ s_R_isOpen_37 _ _ _ _ _ ?_
          simp (disch := omega) only [g_R_isOpen_37, slk, List.map_cons, List.map_nil, List.sum_cons, List.sum_nil, vc_i, vc_r, vc_n, vc_l, vc_o, Nat.add_zero, kO_e, kA_e, hdO_a, eq_self, blk, stp, lg, ls0, lk, ls1, ls2, kI_i, kL_l, kR_r, kR_n, kR_o, s1I_i, s2I_i, s1L_l, s2L_l, s1R_r, s1R_n, s1R_o, s1A_a, cmpc, popn, swt, rf_s, rf_n, cat_i, cat_r, cat_n, cat_l, true_and, and_true, List.length_cons, List.length_nil, Nat.zero_add, Int.reduceToNat, Nat.reduceAdd, Nat.reduceDiv, Nat.reduceMod, Nat.reduceMul, Nat.reduceSub, Nat.reduceLeDiff, Nat.reduceLT, Nat.reduceEqDiff, reduceIte, r_gr_wi, r_gl_wi, r_gk_wi, r_gn_wi, r_gi_wi, r_gi_wr, r_gl_wr, r_gk_wr, r_gn_wr, r_gr_wa, r_gl_wa, r_gk_wa, r_gn_wa, u_lt, u_le, u_gt, u_ge, u_lt0, u_le0, u_gt0, u_ge0, Classical.not_not, not_true_eq_false, not_false_eq_true, oi_n, oi_m, n_dec, nI_add, pk_mul, n_sub, n_eq, n_le, n_lt, n_eq0, n_lt0, n_le0, n_0lt, n_0le, n_eqm, m_eqn, n_ltm, n_and, n_or, n_xor, n_shl, n_shr, tb1, tb0, bP_1, bP_0, bP_n0, ix_n, inb_n, u_eq, u_eqm, k107 W.1, S.1]
          refine ⟨fun hc => ?_, fun hc => ?_⟩
          · have ej : j = sn s := by omega
            subst ej
            exact fin Iff.rfl
          · have hj2 : j < sn s := by omega
            have h5 := sd_lt W hj2
            refine hP.1 _ _ s_R_isOpen_46 _ _ _ _ _ ?_
            simp (disch := omega) only [g_R_isOpen_46, slk, List.map_cons, List.map_nil, List.sum_cons, List.sum_nil, vc_i, vc_r, vc_n, vc_l, vc_o, Nat.add_zero, kO_e, kA_e, hdO_a, eq_self, blk, stp, lg, ls0, lk, ls1, ls2, kI_i, kL_l, kR_r, kR_n, kR_o, s1I_i, s2I_i, s1L_l, s2L_l, s1R_r, s1R_n, s1R_o, s1A_a, cmpc, popn, swt, rf_s, rf_n, cat_i, cat_r, cat_n, cat_l, true_and, and_true, List.length_cons, List.length_nil, Nat.zero_add, Int.reduceToNat, Nat.reduceAdd, Nat.reduceDiv, Nat.reduceMod, Nat.reduceMul, Nat.reduceSub, Nat.reduceLeDiff, Nat.reduceLT, Nat.reduceEqDiff, reduceIte, r_gr_wi, r_gl_wi, r_gk_wi, r_gn_wi, r_gi_wi, r_gi_wr, r_gl_wr, r_gk_wr, r_gn_wr, r_gr_wa, r_gl_wa, r_gk_wa, r_gn_wa, u_lt, u_le, u_gt, u_ge, u_lt0, u_le0, u_gt0, u_ge0, Classical.not_not, not_true_eq_false, not_false_eq_true, oi_n, oi_m, n_dec, nI_add, pk_mul, n_sub, n_eq, n_le, n_lt, n_eq0, n_lt0, n_le0, n_0lt, n_0le, n_eqm, m_eqn, n_ltm, n_and, n_or, n_xor, n_shl, n_shr, tb1, tb0, bP_1, bP_0, bP_n0, ix_n, inb_n, u_eq, u_eqm, S.2 j hj2]
            refine ⟨fun hc1 => ?_, fun hc1 => ?_⟩
            · exact fin ⟨fun q i hi => q i (by omega), fun q => absurd q hc1⟩
            · skip
              refine hP.1 _ _ s_R_isOpen_51 _ _ _ _ _ ?_
              simp (disch := omega) only [g_R_isOpen_51, slk, List.map_cons, List.map_nil, List.sum_cons, List.sum_nil, vc_i, vc_r, vc_n, vc_l, vc_o, Nat.add_zero, kO_e, kA_e, hdO_a, eq_self, blk, stp, lg, ls0, lk, ls1, ls2, kI_i, kL_l, kR_r, kR_n, kR_o, s1I_i, s2I_i, s1L_l, s2L_l, s1R_r, s1R_n, s1R_o, s1A_a, cmpc, popn, swt, rf_s, rf_n, cat_i, cat_r, cat_n, cat_l, true_and, and_true, List.length_cons, List.length_nil, Nat.zero_add, Int.reduceToNat, Nat.reduceAdd, Nat.reduceDiv, Nat.reduceMod, Nat.reduceMul, Nat.reduceSub, Nat.reduceLeDiff, Nat.reduceLT, Nat.reduceEqDiff, reduceIte, r_gr_wi, r_gl_wi, r_gk_wi, r_gn_wi, r_gi_wi, r_gi_wr, r_gl_wr, r_gk_wr, r_gn_wr, r_gr_wa, r_gl_wa, r_gk_wa, r_gn_wa, u_lt, u_le, u_gt, u_ge, u_lt0, u_le0, u_gt0, u_ge0, Classical.not_not, not_true_eq_false, not_false_eq_true, oi_n, oi_m, n_dec, nI_add, pk_mul, n_sub, n_eq, n_le, n_lt, n_eq0, n_lt0, n_le0, n_0lt, n_0le, n_eqm, m_eqn, n_ltm, n_and, n_or, n_xor, n_shl, n_shr, tb1, tb0, bP_1, bP_0, bP_n0, ix_n, inb_n, u_eq, u_eqm, k107 W.1, f107_3 W.1, k110 W.1, S.2 j hj2]
              refine ⟨fun hc2 => ?_, fun hc2 => ?_⟩
              · (first | exact j84 hj2 (lt_s hc1 (Or.inl hc2)) | exact j84 hj2 (lt_s hc1 (Or.inr hc3)))
              · skip
                refine hP.1 _ _ s_R_isOpen_66 _ _ _ _ _ ?_
                simp (disch := omega) only [g_R_isOpen_66, slk, List.map_cons, List.map_nil, List.sum_cons, List.sum_nil, vc_i, vc_r, vc_n, vc_l, vc_o, Nat.add_zero, kO_e, kA_e, hdO_a, eq_self, blk, stp, lg, ls0, lk, ls1, ls2, kI_i, kL_l, kR_r, kR_n, kR_o, s1I_i, s2I_i, s1L_l, s2L_l, s1R_r, s1R_n, s1R_o, s1A_a, cmpc, popn, swt, rf_s, rf_n, cat_i, cat_r, cat_n, cat_l, true_and, and_true, List.length_cons, List.length_nil, Nat.zero_add, Int.reduceToNat, Nat.reduceAdd, Nat.reduceDiv, Nat.reduceMod, Nat.reduceMul, Nat.reduceSub, Nat.reduceLeDiff, Nat.reduceLT, Nat.reduceEqDiff, reduceIte, r_gr_wi, r_gl_wi, r_gk_wi, r_gn_wi, r_gi_wi, r_gi_wr, r_gl_wr, r_gk_wr, r_gn_wr, r_gr_wa, r_gl_wa, r_gk_wa, r_gn_wa, u_lt, u_le, u_gt, u_ge, u_lt0, u_le0, u_gt0, u_ge0, Classical.not_not, not_true_eq_false, not_false_eq_true, oi_n, oi_m, n_dec, nI_add, pk_mul, n_sub, n_eq, n_le, n_lt, n_eq0, n_lt0, n_le0, n_0lt, n_0le, n_eqm, m_eqn, n_ltm, n_and, n_or, n_xor, n_shl, n_shr, tb1, tb0, bP_1, bP_0, bP_n0, ix_n, inb_n, u_eq, u_eqm, k107 W.1, f107_3 W.1, k110 W.1, S.2 j hj2]
                refine wc (c_R_bears W (by omega) (by omega) (by omega) (by omega)) ⟨by omega, by omega⟩ ?_
                simp (disch := omega) only [slk, List.map_cons, List.map_nil, List.sum_cons, List.sum_nil, vc_i, vc_r, vc_n, vc_l, vc_o, Nat.add_zero, kO_e, kA_e, hdO_a, eq_self, blk, stp, lg, ls0, lk, ls1, ls2, kI_i, kL_l, kR_r, kR_n, kR_o, s1I_i, s2I_i, s1L_l, s2L_l, s1R_r, s1R_n, s1R_o, s1A_a, cmpc, popn, swt, rf_s, rf_n, cat_i, cat_r, cat_n, cat_l, true_and, and_true, List.length_cons, List.length_nil, Nat.zero_add, Int.reduceToNat, Nat.reduceAdd, Nat.reduceDiv, Nat.reduceMod, Nat.reduceMul, Nat.reduceSub, Nat.reduceLeDiff, Nat.reduceLT, Nat.reduceEqDiff, reduceIte, r_gr_wi, r_gl_wi, r_gk_wi, r_gn_wi, r_gi_wi, r_gi_wr, r_gl_wr, r_gk_wr, r_gn_wr, r_gr_wa, r_gl_wa, r_gk_wa, r_gn_wa, u_lt, u_le, u_gt, u_ge, u_lt0, u_le0, u_gt0, u_ge0, Classical.not_not, not_true_eq_false, not_false_eq_true, oi_n, oi_m, n_dec, nI_add, pk_mul, n_sub, n_eq, n_le, n_lt, n_eq0, n_lt0, n_le0, n_0lt, n_0le, n_eqm, m_eqn, n_ltm, n_and, n_or, n_xor, n_shl, n_shr, tb1, tb0, bP_1, bP_0, bP_n0, ix_n, inb_n, u_eq, u_eqm, k107 W.1, f107_3 W.1, k110 W.1, S.2 j hj2]
                refine ⟨fun hc3 => ?_, fun hc3 => ?_⟩
                · exact j88 hj2 (fun q => (q j (by omega)).elim hc2 hc3)
                · skip
                  (first | exact j84 hj2 (lt_s hc1 (Or.inl hc2)) | exact j84 hj2 (lt_s hc1 (Or.inr hc3)))
      have go : k < 1 <<< (2 * s 112 m) → isPr s m k → P 31 [some (.ref 107), some (.int (nI m)), some (.int (nI wo)), some (.int (nI so)), some (.int (nI k)), none, none] [] h 0 0 := by
        intro a b
        refine hP.1 _ _ s_R_isOpen_31 _ _ _ _ _ ?_
        simp (disch := omega) only [g_R_isOpen_31, slk, List.map_cons, List.map_nil, List.sum_cons, List.sum_nil, vc_i, vc_r, vc_n, vc_l, vc_o, Nat.add_zero, kO_e, kA_e, hdO_a, eq_self, blk, stp, lg, ls0, lk, ls1, ls2, kI_i, kL_l, kR_r, kR_n, kR_o, s1I_i, s2I_i, s1L_l, s2L_l, s1R_r, s1R_n, s1R_o, s1A_a, cmpc, popn, swt, rf_s, rf_n, cat_i, cat_r, cat_n, cat_l, true_and, and_true, List.length_cons, List.length_nil, Nat.zero_add, Int.reduceToNat, Nat.reduceAdd, Nat.reduceDiv, Nat.reduceMod, Nat.reduceMul, Nat.reduceSub, Nat.reduceLeDiff, Nat.reduceLT, Nat.reduceEqDiff, reduceIte, r_gr_wi, r_gl_wi, r_gk_wi, r_gn_wi, r_gi_wi, r_gi_wr, r_gl_wr, r_gk_wr, r_gn_wr, r_gr_wa, r_gl_wa, r_gk_wa, r_gn_wa, u_lt, u_le, u_gt, u_ge, u_lt0, u_le0, u_gt0, u_ge0, Classical.not_not, not_true_eq_false, not_false_eq_true, oi_n, oi_m, n_dec, nI_add, pk_mul, n_sub, n_eq, n_le, n_lt, n_eq0, n_lt0, n_le0, n_0lt, n_0le, n_eqm, m_eqn, n_ltm, n_and, n_or, n_xor, n_shl, n_shr, tb1, tb0, bP_1, bP_0, bP_n0, ix_n, inb_n, u_eq, u_eqm, S.1]
        have := inner a b _ 0 (Nat.zero_add _)
        rw [bP_t (fun i hi => absurd hi (Nat.not_lt_zero _))] at this
        exact this
      refine hP.1 _ _ s_R_isOpen_3 _ _ _ _ _ ?_
      simp (disch := omega) only [g_R_isOpen_3, slk, List.map_cons, List.map_nil, List.sum_cons, List.sum_nil, vc_i, vc_r, vc_n, vc_l, vc_o, Nat.add_zero, kO_e, kA_e, hdO_a, eq_self, blk, stp, lg, ls0, lk, ls1, ls2, kI_i, kL_l, kR_r, kR_n, kR_o, s1I_i, s2I_i, s1L_l, s2L_l, s1R_r, s1R_n, s1R_o, s1A_a, cmpc, popn, swt, rf_s, rf_n, cat_i, cat_r, cat_n, cat_l, true_and, and_true, List.length_cons, List.length_nil, Nat.zero_add, Int.reduceToNat, Nat.reduceAdd, Nat.reduceDiv, Nat.reduceMod, Nat.reduceMul, Nat.reduceSub, Nat.reduceLeDiff, Nat.reduceLT, Nat.reduceEqDiff, reduceIte, r_gr_wi, r_gl_wi, r_gk_wi, r_gn_wi, r_gi_wi, r_gi_wr, r_gl_wr, r_gk_wr, r_gn_wr, r_gr_wa, r_gl_wa, r_gk_wa, r_gn_wa, u_lt, u_le, u_gt, u_ge, u_lt0, u_le0, u_gt0, u_ge0, Classical.not_not, not_true_eq_false, not_false_eq_true, oi_n, oi_m, n_dec, nI_add, pk_mul, n_sub, n_eq, n_le, n_lt, n_eq0, n_lt0, n_le0, n_0lt, n_0le, n_eqm, m_eqn, n_ltm, n_and, n_or, n_xor, n_shl, n_shr, tb1, tb0, bP_1, bP_0, bP_n0, ix_n, inb_n, u_eq, u_eqm, k107 W.1, f107_5 W.1, k112 W.1, q112 W, S.1]
      refine ⟨fun hc => ?_, fun hc => ?_⟩
      · refine hP.1 _ _ s_R_isOpen_110 _ _ _ _ _ ?_
        simp (disch := omega) only [g_R_isOpen_110, slk, List.map_cons, List.map_nil, List.sum_cons, List.sum_nil, vc_i, vc_r, vc_n, vc_l, vc_o, Nat.add_zero, kO_e, kA_e, hdO_a, eq_self, blk, stp, lg, ls0, lk, ls1, ls2, kI_i, kL_l, kR_r, kR_n, kR_o, s1I_i, s2I_i, s1L_l, s2L_l, s1R_r, s1R_n, s1R_o, s1A_a, cmpc, popn, swt, rf_s, rf_n, cat_i, cat_r, cat_n, cat_l, true_and, and_true, List.length_cons, List.length_nil, Nat.zero_add, Int.reduceToNat, Nat.reduceAdd, Nat.reduceDiv, Nat.reduceMod, Nat.reduceMul, Nat.reduceSub, Nat.reduceLeDiff, Nat.reduceLT, Nat.reduceEqDiff, reduceIte, r_gr_wi, r_gl_wi, r_gk_wi, r_gn_wi, r_gi_wi, r_gi_wr, r_gl_wr, r_gk_wr, r_gn_wr, r_gr_wa, r_gl_wa, r_gk_wa, r_gn_wa, u_lt, u_le, u_gt, u_ge, u_lt0, u_le0, u_gt0, u_ge0, Classical.not_not, not_true_eq_false, not_false_eq_true, oi_n, oi_m, n_dec, nI_add, pk_mul, n_sub, n_eq, n_le, n_lt, n_eq0, n_lt0, n_le0, n_0lt, n_0le, n_eqm, m_eqn, n_ltm, n_and, n_or, n_xor, n_shl, n_shr, tb1, tb0, bP_1, bP_0, bP_n0, ix_n, inb_n, u_eq, u_eqm, S.1]
        exact lfF r_R_isOpen (fun ⟨x, q⟩ => hI x (by have := q.1.1; omega) q) rfl
      · refine hP.1 _ _ s_R_isOpen_18 _ _ _ _ _ ?_
        simp (disch := omega) only [g_R_isOpen_18, slk, List.map_cons, List.map_nil, List.sum_cons, List.sum_nil, vc_i, vc_r, vc_n, vc_l, vc_o, Nat.add_zero, kO_e, kA_e, hdO_a, eq_self, blk, stp, lg, ls0, lk, ls1, ls2, kI_i, kL_l, kR_r, kR_n, kR_o, s1I_i, s2I_i, s1L_l, s2L_l, s1R_r, s1R_n, s1R_o, s1A_a, cmpc, popn, swt, rf_s, rf_n, cat_i, cat_r, cat_n, cat_l, true_and, and_true, List.length_cons, List.length_nil, Nat.zero_add, Int.reduceToNat, Nat.reduceAdd, Nat.reduceDiv, Nat.reduceMod, Nat.reduceMul, Nat.reduceSub, Nat.reduceLeDiff, Nat.reduceLT, Nat.reduceEqDiff, reduceIte, r_gr_wi, r_gl_wi, r_gk_wi, r_gn_wi, r_gi_wi, r_gi_wr, r_gl_wr, r_gk_wr, r_gn_wr, r_gr_wa, r_gl_wa, r_gk_wa, r_gn_wa, u_lt, u_le, u_gt, u_ge, u_lt0, u_le0, u_gt0, u_ge0, Classical.not_not, not_true_eq_false, not_false_eq_true, oi_n, oi_m, n_dec, nI_add, pk_mul, n_sub, n_eq, n_le, n_lt, n_eq0, n_lt0, n_le0, n_0lt, n_0le, n_eqm, m_eqn, n_ltm, n_and, n_or, n_xor, n_shl, n_shr, tb1, tb0, bP_1, bP_0, bP_n0, ix_n, inb_n, u_eq, u_eqm, k107 W.1, S.1]
        refine wc (c_R_isProposal W (by omega) (by omega)) ⟨by omega, by omega⟩ ?_
        simp (disch := omega) only [slk, List.map_cons, List.map_nil, List.sum_cons, List.sum_nil, vc_i, vc_r, vc_n, vc_l, vc_o, Nat.add_zero, kO_e, kA_e, hdO_a, eq_self, blk, stp, lg, ls0, lk, ls1, ls2, kI_i, kL_l, kR_r, kR_n, kR_o, s1I_i, s2I_i, s1L_l, s2L_l, s1R_r, s1R_n, s1R_o, s1A_a, cmpc, popn, swt, rf_s, rf_n, cat_i, cat_r, cat_n, cat_l, true_and, and_true, List.length_cons, List.length_nil, Nat.zero_add, Int.reduceToNat, Nat.reduceAdd, Nat.reduceDiv, Nat.reduceMod, Nat.reduceMul, Nat.reduceSub, Nat.reduceLeDiff, Nat.reduceLT, Nat.reduceEqDiff, reduceIte, r_gr_wi, r_gl_wi, r_gk_wi, r_gn_wi, r_gi_wi, r_gi_wr, r_gl_wr, r_gk_wr, r_gn_wr, r_gr_wa, r_gl_wa, r_gk_wa, r_gn_wa, u_lt, u_le, u_gt, u_ge, u_lt0, u_le0, u_gt0, u_ge0, Classical.not_not, not_true_eq_false, not_false_eq_true, oi_n, oi_m, n_dec, nI_add, pk_mul, n_sub, n_eq, n_le, n_lt, n_eq0, n_lt0, n_le0, n_0lt, n_0le, n_eqm, m_eqn, n_ltm, n_and, n_or, n_xor, n_shl, n_shr, tb1, tb0, bP_1, bP_0, bP_n0, ix_n, inb_n, u_eq, u_eqm, k107 W.1, S.1]
        refine ⟨fun hc1 => ?_, fun hc1 => ?_⟩
        · exact go (by omega) hc1.2
        · skip
          refine hP.1 _ _ s_R_isOpen_28 _ _ _ _ _ ?_
          simp (disch := omega) only [g_R_isOpen_28, slk, List.map_cons, List.map_nil, List.sum_cons, List.sum_nil, vc_i, vc_r, vc_n, vc_l, vc_o, Nat.add_zero, kO_e, kA_e, hdO_a, eq_self, blk, stp, lg, ls0, lk, ls1, ls2, kI_i, kL_l, kR_r, kR_n, kR_o, s1I_i, s2I_i, s1L_l, s2L_l, s1R_r, s1R_n, s1R_o, s1A_a, cmpc, popn, swt, rf_s, rf_n, cat_i, cat_r, cat_n, cat_l, true_and, and_true, List.length_cons, List.length_nil, Nat.zero_add, Int.reduceToNat, Nat.reduceAdd, Nat.reduceDiv, Nat.reduceMod, Nat.reduceMul, Nat.reduceSub, Nat.reduceLeDiff, Nat.reduceLT, Nat.reduceEqDiff, reduceIte, r_gr_wi, r_gl_wi, r_gk_wi, r_gn_wi, r_gi_wi, r_gi_wr, r_gl_wr, r_gk_wr, r_gn_wr, r_gr_wa, r_gl_wa, r_gk_wa, r_gn_wa, u_lt, u_le, u_gt, u_ge, u_lt0, u_le0, u_gt0, u_ge0, Classical.not_not, not_true_eq_false, not_false_eq_true, oi_n, oi_m, n_dec, nI_add, pk_mul, n_sub, n_eq, n_le, n_lt, n_eq0, n_lt0, n_le0, n_0lt, n_0le, n_eqm, m_eqn, n_ltm, n_and, n_or, n_xor, n_shl, n_shr, tb1, tb0, bP_1, bP_0, bP_n0, ix_n, inb_n, u_eq, u_eqm, S.1]
          exact nx _ _ (by omega) (fun q => hc1 ⟨hm, q.1⟩)
  refine hP.1 _ _ s_R_isOpen_0 _ _ _ _ _ ?_
  simp (disch := omega) only [g_R_isOpen_0, slk, List.map_cons, List.map_nil, List.sum_cons, List.sum_nil, vc_i, vc_r, vc_n, vc_l, vc_o, Nat.add_zero, kO_e, kA_e, hdO_a, eq_self, blk, stp, lg, ls0, lk, ls1, ls2, kI_i, kL_l, kR_r, kR_n, kR_o, s1I_i, s2I_i, s1L_l, s2L_l, s1R_r, s1R_n, s1R_o, s1A_a, cmpc, popn, swt, rf_s, rf_n, cat_i, cat_r, cat_n, cat_l, true_and, and_true, List.length_cons, List.length_nil, Nat.zero_add, Int.reduceToNat, Nat.reduceAdd, Nat.reduceDiv, Nat.reduceMod, Nat.reduceMul, Nat.reduceSub, Nat.reduceLeDiff, Nat.reduceLT, Nat.reduceEqDiff, reduceIte, r_gr_wi, r_gl_wi, r_gk_wi, r_gn_wi, r_gi_wi, r_gi_wr, r_gl_wr, r_gk_wr, r_gn_wr, r_gr_wa, r_gl_wa, r_gk_wa, r_gn_wa, u_lt, u_le, u_gt, u_ge, u_lt0, u_le0, u_gt0, u_ge0, Classical.not_not, not_true_eq_false, not_false_eq_true, oi_n, oi_m, n_dec, nI_add, pk_mul, n_sub, n_eq, n_le, n_lt, n_eq0, n_lt0, n_le0, n_0lt, n_0le, n_eqm, m_eqn, n_ltm, n_and, n_or, n_xor, n_shl, n_shr, tb1, tb0, bP_1, bP_0, bP_n0, ix_n, inb_n, u_eq, u_eqm, S.1]
  exact loop _ 0 (Nat.zero_add _) (fun j hj => absurd hj (Nat.not_lt_zero _))
end
